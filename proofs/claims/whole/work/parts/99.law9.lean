/-! ===== the class's number is pN's ===== -/
theorem isD_o {c : Int32} (h : isD c = true) : oO c 0 255 = false := by
  rw [isD_iff] at h
  have a := oO_ti h
  rw [show (48 : Int32).toInt = 48 from by decide, show (57 : Int32).toInt = 57 from by decide] at a
  simp only [oO, Bool.or_eq_false_iff, decide_eq_false_iff_not, Int32.not_lt, Int32.le_iff_toInt_le]
  rw [show (0 : Int32).toInt = 0 from by decide, show (255 : Int32).toInt = 255 from by decide]
  omega
theorem nuS_i {H : Nat → Int32} : ∀ (k v p : Nat), v < 10 ^ (4 - k) → nuS H k (nI v) p = (nI (nmL H k v p).1, (nmL H k v p).2)
  | 0, v, p, hv => rfl
  | k + 1, v, p, hv => by
    have hv4 : v < 10 ^ 4 := Nat.lt_of_lt_of_le hv (Nat.pow_le_pow_right (by decide) (by omega))
    have hv5 : v < 10000 := hv4
    by_cases h0 : v = 0
    · subst h0
      rw [nuS_z (v := nI 0) (by decide), nmL, if_neg (fun z => absurd z.1 (by omega))]
    · have h1 : ¬ nI v = 0 := fun z => h0 (nI_inj (by omega) (by omega) z)
      cases hd : isD (H p) with
      | false => rw [nuS_n hd, nmL, hd, if_neg (fun z => absurd z.2 (by decide))]
      | true =>
        have h2 : (0 : Int32) < nI v := (nI_ltI (a := 0) (by omega) (by omega)).mpr (by omega)
        have e : nI v * 10 + (bx (H p) - 48) = nI (10 * v + dvD (H p)) := by
          rw [bx_d (isD_o hd) hd]
          apply i32_ext
          have := (dvD_i hd).2
          rw [Int32.toInt_add, Int32.toInt_mul, nI_toInt (by omega), nI_toInt (by omega), nI_toInt (by omega), show (10 : Int32).toInt = 10 from by decide, Int.bmod_eq_of_le (n := (v : Int) * 10) (by omega) (by omega), Int.bmod_eq_of_le (by omega) (by omega)]
          omega
        rw [nuS_s h1 hd, if_pos h2, e, nmL, hd, if_pos ⟨by omega, rfl⟩]
        by_cases hk : k < 3
        · refine nuS_i k _ _ ?_
          have := (dvD_i hd).2
          rw [show 4 - k = (4 - (k + 1)) + 1 by omega, Nat.pow_succ]
          omega
        · have : 4 - (k + 1) = 0 := by omega
          rw [this] at hv
          omega
theorem nuS_p {H : Nat → Int32} {p : Nat} : nuS H 3 (-1) p = (if (pN H p).1 = true then -1 else nI (pN H p).2.2, (pN H p).2.1) := by
  unfold pN
  cases hd : isD (H p) with
  | false => rw [nuS_n hd]; rfl
  | true =>
    have e : (if (0 : Int32) < -1 then -1 else 0) * 10 + (bx (H p) - 48) = nI (dvD (H p)) := by
      rw [bx_d (isD_o hd) hd, if_neg (by decide), show (0 : Int32) * 10 = 0 from by decide, Int32.zero_add]
    rw [nuS_s (by decide) hd, e, nuS_i 2 _ _ (by have := (dvD_i hd).2; show _ < 100; omega)]
    rfl
