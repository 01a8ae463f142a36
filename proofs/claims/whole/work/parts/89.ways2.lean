/-! ===== the class: the common divisor, in a hundred steps ===== -/
def EU (k x y : Nat) : Prop := y = 0 ∨ (x * y < 2 ^ k ∧ y ≤ x) ∨ (1 ≤ k ∧ x * y < 2 ^ (k - 1) ∧ x < y)
theorem EU.z {x y : Nat} (h : EU 0 x y) : y = 0 := by
  rcases h with h | ⟨h1, h2⟩ | ⟨h1, _⟩
  · exact h
  · rcases Nat.eq_zero_or_pos y with q | q
    · exact q
    · have : 1 * 1 ≤ x * y := Nat.mul_le_mul (by omega) q
      have e : (2 : Nat) ^ 0 = 1 := rfl
      omega
  · omega
theorem EU.s {k x y : Nat} (h : EU (k + 1) x y) (hy : 0 < y) : EU k y (x % y) := by
  have hm := Nat.mod_lt x hy
  rcases h with h | ⟨h1, h2⟩ | ⟨_, h1, h2⟩
  · omega
  · refine Or.inr (Or.inl ⟨?_, by omega⟩)
    have e := Nat.div_add_mod x y
    have q : 1 ≤ x / y := (Nat.one_le_div_iff hy).mpr h2
    have q2 : y * 1 ≤ y * (x / y) := Nat.mul_le_mul_left y q
    have q3 : 2 * (x % y) ≤ x := by omega
    have q4 : y * (2 * (x % y)) ≤ y * x := Nat.mul_le_mul_left y q3
    rw [Nat.mul_comm x y, Nat.pow_succ] at h1
    have q5 : y * (2 * (x % y)) = 2 * (y * (x % y)) := by rw [← Nat.mul_assoc, Nat.mul_comm y 2, Nat.mul_assoc]
    omega
  · refine Or.inr (Or.inl ?_)
    rw [Nat.mod_eq_of_lt h2, Nat.mul_comm]
    exact ⟨h1, by omega⟩
theorem EU.of {a b : Nat} (ha : a < 2 ^ 31) (hb : b < 2 ^ 31) : EU 100 a b := by
  have h : a * b ≤ 2 ^ 31 * 2 ^ 31 := Nat.mul_le_mul (by omega) (by omega)
  have e : (2 : Nat) ^ 31 * 2 ^ 31 < 2 ^ 99 := by decide
  have e2 : (2 : Nat) ^ 99 < 2 ^ 100 := by decide
  rcases Nat.lt_or_ge a b with q | q
  · exact Or.inr (Or.inr ⟨by decide, by show a * b < 2 ^ 99; omega, q⟩)
  · exact Or.inr (Or.inl ⟨by omega, q⟩)
set_option maxRecDepth 100000 in
theorem x_divisor (g : GG) (h : AH) (a b : Nat) (ha : a < 2 ^ 31) (hb3 : b < 2 ^ 31) : AM g 1 0 0 mX11_commonDivisor [.long (lJ a), .long (lJ b)] h (fun rv h' => rv = some (.long (lJ (Nat.gcd a b))) ∧ h' = h) := by
  refine AM.of [(0, .long (lJ a)), (2, .long (lJ b))] (by decide) (Nat.le_of_ble_eq_true rfl) rfl ?_
  intro V hV
  have hb : V.2.1.2.1 = cX11_commonDivisor := by subst hV; rfl
  have ow : V.2.1.1.cls = RX11 := by subst hV; rfl
  have hr : V.2.2.1 = aw_rm 1 0 0 := by subst hV; rfl
  have hz : V.2.2.2 = aw_Z V.1 (fun rv h' => rv = some (.long (lJ (Nat.gcd a b))) ∧ h' = h) V.2.2.1 := by subst hV; rfl
  have hg : V.1 = g := by subst hV; rfl
  have hret : V.2.1.2.2.2 = (some .long) := by subst hV; rfl
  have hml : V.2.1.2.2.1 = 11 := by subst hV; rfl
  clear hV
  have loop : ∀ (k i x y : Nat), i + k = 100 → EU k x y → x < 2 ^ 31 → y < 2 ^ 31 → Nat.gcd x y = Nat.gcd a b → AW V 0 0 h 9 [(0, .long (lJ a)), (2, .long (lJ b)), (4, .long (lJ x)), (6, .long (lJ y)), (8, .int (nI i))] [] := by
    intro k
    induction k with
    | zero =>
      intro i x y hi hk hx hy hg2
      have y0 : y = 0 := hk.z
      refine a_iload hb dX11_commonDivisor_9 4 rfl ?_
      refine a_bipush (v := 100) hb dX11_commonDivisor_11 (by decide) ?_
      refine a_icmp_ge hb 44 dX11_commonDivisor_13 (by decide) (fun c13 => ?_) (fun c13 => absurd (nI_le (b := i) (a := 100) (by omega) (by omega)) c13)
      refine a_lload hb dX11_commonDivisor_44 2 rfl ?_
      exact a_lreturn hb hz dX11_commonDivisor_46 hret (by rw [hr]; exact Nat.le_of_ble_eq_true rfl) (by rw [hr]; exact Nat.le_of_ble_eq_true rfl) (⟨by rw [← hg2, y0, Nat.gcd_zero_right], rfl⟩)
    | succ k ih =>
      intro i x y hi hk hx hy hg2
      refine a_iload hb dX11_commonDivisor_9 4 rfl ?_
      refine a_bipush (v := 100) hb dX11_commonDivisor_11 (by decide) ?_
      refine a_icmp_ge hb 44 dX11_commonDivisor_13 (by decide) (fun c13 => absurd c13 (nI_ge (b := 100) (a := i) (by omega) (by omega))) (fun c13 => ?_)
      refine a_lload hb dX11_commonDivisor_16 3 rfl ?_
      refine a_lconst (v := 0) hb dX11_commonDivisor_18 (by decide) ?_
      refine a_lcmp hb dX11_commonDivisor_19 ?_
      refine a_if_eq hb 44 dX11_commonDivisor_20 (by decide) (fun c20 => ?_) (fun c20 => ?_)
      · rw [lc_eq] at c20
        refine a_lload hb dX11_commonDivisor_44 2 rfl ?_
        exact a_lreturn hb hz dX11_commonDivisor_46 hret (by rw [hr]; exact Nat.le_of_ble_eq_true rfl) (by rw [hr]; exact Nat.le_of_ble_eq_true rfl) (⟨by rw [← hg2, (lJ_0 (by omega)).mp c20, Nat.gcd_zero_right], rfl⟩)
      · rw [lc_eq] at c20
        have yp : 0 < y := Nat.pos_of_ne_zero (fun q => c20 ((lJ_0 (by omega)).mpr q))
        have ym : x % y < y := Nat.mod_lt x yp
        refine a_lload hb dX11_commonDivisor_23 2 rfl ?_
        refine a_lload hb dX11_commonDivisor_25 3 rfl ?_
        refine a_lrem hb dX11_commonDivisor_27 c20 ?_
        refine a_lstore (L' := [(9, .long ((lJ x) - (lJ x) / (lJ y) * (lJ y))), (0, .long (lJ a)), (2, .long (lJ b)), (4, .long (lJ x)), (6, .long (lJ y)), (8, .int (nI i))]) hb dX11_commonDivisor_28 (by rw [hml]; decide) rfl ?_
        refine a_lload hb dX11_commonDivisor_30 4 rfl ?_
        refine a_lstore (L' := [(4, .long (lJ y)), (9, .long ((lJ x) - (lJ x) / (lJ y) * (lJ y))), (0, .long (lJ a)), (2, .long (lJ b)), (6, .long (lJ y)), (8, .int (nI i))]) hb dX11_commonDivisor_32 (by rw [hml]; decide) rfl ?_
        refine a_lload hb dX11_commonDivisor_34 1 rfl ?_
        refine a_lstore (L' := [(6, .long ((lJ x) - (lJ x) / (lJ y) * (lJ y))), (4, .long (lJ y)), (9, .long ((lJ x) - (lJ x) / (lJ y) * (lJ y))), (0, .long (lJ a)), (2, .long (lJ b)), (8, .int (nI i))]) hb dX11_commonDivisor_36 (by rw [hml]; decide) rfl ?_
        refine a_iinc (v := ((nI i) + 1)) (L' := [(8, .int ((nI i) + 1)), (6, .long ((lJ x) - (lJ x) / (lJ y) * (lJ y))), (4, .long (lJ y)), (9, .long ((lJ x) - (lJ x) / (lJ y) * (lJ y))), (0, .long (lJ a)), (2, .long (lJ b))]) hb dX11_commonDivisor_38 5 rfl rfl (by rw [hml]; decide) rfl ?_
        refine a_goto hb 9 dX11_commonDivisor_41 (by decide) ?_
        refine AW.sub (L' := [(0, .long (lJ a)), (2, .long (lJ b)), (4, .long (lJ y)), (6, .long ((lJ x) - (lJ x) / (lJ y) * (lJ y))), (8, .int ((nI i) + 1))]) [4, 5, 2, 1, 0] rfl ?_
        exact AW.eq (ih (i + 1) y (x % y) (by omega) (hk.s yp) hy (by omega) (by rw [Nat.gcd_comm, ← Nat.gcd_rec, Nat.gcd_comm]; exact hg2)) rfl rfl (by rw [lJ_rem (by omega) (by omega), nI_1]) rfl
  refine a_lload_n hb dX11_commonDivisor_0 rfl 0 rfl ?_
  refine a_lstore (L' := [(4, .long (lJ a)), (0, .long (lJ a)), (2, .long (lJ b))]) hb dX11_commonDivisor_1 (by rw [hml]; decide) rfl ?_
  refine a_lload_n hb dX11_commonDivisor_3 rfl 2 rfl ?_
  refine a_lstore (L' := [(6, .long (lJ b)), (4, .long (lJ a)), (0, .long (lJ a)), (2, .long (lJ b))]) hb dX11_commonDivisor_4 (by rw [hml]; decide) rfl ?_
  refine a_iconst (v := 0) hb dX11_commonDivisor_6 (by decide) ?_
  refine a_istore (L' := [(8, .int 0), (6, .long (lJ b)), (4, .long (lJ a)), (0, .long (lJ a)), (2, .long (lJ b))]) hb dX11_commonDivisor_7 (by rw [hml]; decide) rfl ?_
  refine AW.sub (L' := [(0, .long (lJ a)), (2, .long (lJ b)), (4, .long (lJ a)), (6, .long (lJ b)), (8, .int 0)]) [3, 4, 2, 1, 0] rfl ?_
  exact AW.eq (loop 100 0 a b (by omega) (EU.of ha hb3) ha hb3 rfl) rfl rfl (rfl) rfl
