/-! ===== a byte, read as a char ===== -/
theorem by_d : ∀ a, a < 16 → ∀ b, b < 16 → (((bx (nI (16 * a + b))) &&& 255).toUInt32 % 65536).toInt32 = nI (16 * a + b) := by decide
theorem by_c {v : Int32} (hv : oO v 0 255 = false) : (((bx v) &&& 255).toUInt32 % 65536).toInt32 = v := by
  have a := oO_ti hv
  rw [show (0 : Int32).toInt = 0 from by decide, show (255 : Int32).toInt = 255 from by decide] at a
  obtain ⟨j, hj, ej⟩ := nI_of (x := v) (by rw [Int32.lt_iff_toInt_lt, show (0 : Int32).toInt = 0 from by decide]; omega)
  subst ej
  rw [nI_toInt hj] at a
  have := by_d (j / 16) (by omega) (j % 16) (by omega)
  rw [show 16 * (j / 16) + j % 16 = j by omega] at this
  exact this
