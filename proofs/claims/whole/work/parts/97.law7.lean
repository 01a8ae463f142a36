/-! ===== the class reads a law: a digit ===== -/
theorem bx_48 {c : Int32} (hc : oO c 0 255 = false) : (bx c - 48).toInt = c.toInt.bmod 256 - 48 ∧ (0 ≤ c.toInt ∧ c.toInt ≤ 255) := by
  have a := oO_ti hc
  rw [show (0 : Int32).toInt = 0 from by decide, show (255 : Int32).toInt = 255 from by decide] at a
  refine ⟨?_, a⟩
  have e := bx_i c
  have b1 : -128 ≤ c.toInt.bmod 256 ∧ c.toInt.bmod 256 < 128 := by
    unfold Int.bmod
    dsimp only
    split <;> omega
  rw [Int32.toInt_sub, e, show (48 : Int32).toInt = 48 from by decide]
  exact Int.bmod_eq_of_le (by omega) (by omega)
theorem bx_d {c : Int32} (hc : oO c 0 255 = false) (h : isD c = true) : bx c - 48 = nI (dvD c) := by
  rw [← (dvD_i h).1]
  rw [isD_iff] at h
  have a := oO_ti h
  rw [show (48 : Int32).toInt = 48 from by decide, show (57 : Int32).toInt = 57 from by decide] at a
  apply i32_ext
  rw [(bx_48 hc).1, Int32.toInt_sub, show (48 : Int32).toInt = 48 from by decide, Int.bmod_eq_of_le (by omega) (by omega), Int.bmod_eq_of_le (by omega) (by omega)]
theorem bx_nd {c : Int32} (hc : oO c 0 255 = false) (h1 : ¬ (bx c - 48 < 0)) (h2 : ¬ (9 < bx c - 48)) : isD c = true := by
  obtain ⟨e, a⟩ := bx_48 hc
  rw [Int32.lt_iff_toInt_lt, e, show (0 : Int32).toInt = 0 from by decide] at h1
  rw [Int32.lt_iff_toInt_lt, e, show (9 : Int32).toInt = 9 from by decide] at h2
  have e3 : c.toInt.bmod 256 = c.toInt := by
    unfold Int.bmod at h1 h2 ⊢
    dsimp only at h1 h2 ⊢
    split at h1 <;> split <;> omega
  rw [e3] at h1 h2
  rw [isD_iff]
  simp only [oO, Bool.or_eq_false_iff, decide_eq_false_iff_not, Int32.not_lt, Int32.le_iff_toInt_le]
  rw [show (48 : Int32).toInt = 48 from by decide, show (57 : Int32).toInt = 57 from by decide]
  omega
