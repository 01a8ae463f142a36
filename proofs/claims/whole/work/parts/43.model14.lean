/-! ===== the model: divisor ===== -/
def lJ (n : Nat) : Int64 := Int64.ofNat n
theorem lJ_toInt {n : Nat} (h : n < 2 ^ 63) : (lJ n).toInt = n := by unfold lJ; rw [Int64.toInt_ofNat_of_lt h]
theorem lJ_0 {n : Nat} (h : n < 2 ^ 63) : lJ n = 0 ↔ n = 0 := by
  constructor
  · intro e
    have := congrArg Int64.toInt e
    rw [lJ_toInt h] at this
    have z : (0 : Int64).toInt = 0 := by decide
    omega
  · intro e; subst e; rfl
theorem lJ_div {a b : Nat} (ha : a < 2 ^ 63) (hb : b < 2 ^ 63) : lJ a / lJ b = lJ (a / b) := by
  apply Int64.toInt_inj.mp
  have q : a / b ≤ a := Nat.div_le_self a b
  have q0 : 0 ≤ (a : Int) / (b : Int) := Int.ediv_nonneg (Int.natCast_nonneg _) (Int.natCast_nonneg _)
  rw [Int64.toInt_div, lJ_toInt ha, lJ_toInt hb, lJ_toInt (by omega), ← Int.ofNat_tdiv, Int.bmod_eq_of_le (by omega) (by omega)]
theorem lJ_rem {a b : Nat} (ha : a < 2 ^ 63) (hb : b < 2 ^ 63) : lJ a - lJ a / lJ b * lJ b = lJ (a % b) := by
  rw [lJ_div ha hb]
  apply Int64.toInt_inj.mp
  have q : a / b ≤ a := Nat.div_le_self a b
  have q2 : a % b ≤ a := Nat.mod_le a b
  have q3 : a / b * b ≤ a := Nat.div_mul_le_self a b
  have q4 : a / b * b + a % b = a := by rw [Nat.mul_comm]; exact Nat.div_add_mod a b
  have e : ((a / b : Nat) : Int) * (b : Int) = ((a / b * b : Nat) : Int) := by push_cast; rfl
  rw [Int64.toInt_sub, Int64.toInt_mul, lJ_toInt ha, lJ_toInt hb, lJ_toInt (by omega), lJ_toInt (by omega), e, Int.bmod_eq_of_le (n := ((a / b * b : Nat) : Int)) (by omega) (by omega), Int.bmod_eq_of_le (by omega) (by omega)]
  omega
set_option maxRecDepth 100000 in
theorem m_divisor (g : GG) (h : AH) (a b : Nat) (ha : a < 2 ^ 31) (hb3 : b < 2 ^ 31) : AM g 1 0 0 mX12_divisor [.long (lJ a), .long (lJ b)] h (fun rv h' => rv = some (.long (lJ (Nat.gcd a b))) ∧ h' = h) := by
  refine AM.of [(0, .long (lJ a)), (2, .long (lJ b))] (by decide) (Nat.le_of_ble_eq_true rfl) rfl ?_
  intro V hV
  have hb : V.2.1.2.1 = cX12_divisor := by subst hV; rfl
  have ow : V.2.1.1.cls = RX12 := by subst hV; rfl
  have hr : V.2.2.1 = aw_rm 1 0 0 := by subst hV; rfl
  have hz : V.2.2.2 = aw_Z V.1 (fun rv h' => rv = some (.long (lJ (Nat.gcd a b))) ∧ h' = h) V.2.2.1 := by subst hV; rfl
  have hg : V.1 = g := by subst hV; rfl
  have hret : V.2.1.2.2.2 = (some .long) := by subst hV; rfl
  have hml : V.2.1.2.2.1 = 10 := by subst hV; rfl
  clear hV
  have loop : ∀ (k x y : Nat), y ≤ k → x < 2 ^ 31 → y < 2 ^ 31 → Nat.gcd x y = Nat.gcd a b → AW V 0 0 h 6 [(0, .long (lJ a)), (2, .long (lJ b)), (4, .long (lJ x)), (6, .long (lJ y))] [] := by
    intro k
    induction k with
    | zero =>
      intro x y hk hx hy hg2
      have y0 : y = 0 := by omega
      subst y0
      refine a_lload hb dX12_divisor_6 3 rfl ?_
      refine a_lconst (v := 0) hb dX12_divisor_8 (by decide) ?_
      refine a_lcmp hb dX12_divisor_9 ?_
      refine a_if_eq hb 31 dX12_divisor_10 (by decide) (fun c10 => ?_) (fun c10 => absurd (lc_eq.mpr rfl) c10)
      refine a_lload hb dX12_divisor_31 2 rfl ?_
      exact a_lreturn hb hz dX12_divisor_33 hret (by rw [hr]; exact Nat.le_of_ble_eq_true rfl) (by rw [hr]; exact Nat.le_of_ble_eq_true rfl) (⟨by rw [← hg2, Nat.gcd_zero_right], rfl⟩)
    | succ k ih =>
      intro x y hk hx hy hg2
      refine a_lload hb dX12_divisor_6 3 rfl ?_
      refine a_lconst (v := 0) hb dX12_divisor_8 (by decide) ?_
      refine a_lcmp hb dX12_divisor_9 ?_
      refine a_if_eq hb 31 dX12_divisor_10 (by decide) (fun c10 => ?_) (fun c10 => ?_)
      · rw [lc_eq] at c10
        refine a_lload hb dX12_divisor_31 2 rfl ?_
        exact a_lreturn hb hz dX12_divisor_33 hret (by rw [hr]; exact Nat.le_of_ble_eq_true rfl) (by rw [hr]; exact Nat.le_of_ble_eq_true rfl) (⟨by rw [← hg2, (lJ_0 (by omega)).mp c10, Nat.gcd_zero_right], rfl⟩)
      · rw [lc_eq] at c10
        have yp : 0 < y := Nat.pos_of_ne_zero (fun q => c10 ((lJ_0 (by omega)).mpr q))
        have ym : x % y < y := Nat.mod_lt x yp
        refine a_lload hb dX12_divisor_13 2 rfl ?_
        refine a_lload hb dX12_divisor_15 3 rfl ?_
        refine a_lrem hb dX12_divisor_17 c10 ?_
        refine a_lstore (L' := [(8, .long ((lJ x) - (lJ x) / (lJ y) * (lJ y))), (0, .long (lJ a)), (2, .long (lJ b)), (4, .long (lJ x)), (6, .long (lJ y))]) hb dX12_divisor_18 (by rw [hml]; decide) rfl ?_
        refine a_lload hb dX12_divisor_20 4 rfl ?_
        refine a_lstore (L' := [(4, .long (lJ y)), (8, .long ((lJ x) - (lJ x) / (lJ y) * (lJ y))), (0, .long (lJ a)), (2, .long (lJ b)), (6, .long (lJ y))]) hb dX12_divisor_22 (by rw [hml]; decide) rfl ?_
        refine a_lload hb dX12_divisor_24 1 rfl ?_
        refine a_lstore (L' := [(6, .long ((lJ x) - (lJ x) / (lJ y) * (lJ y))), (4, .long (lJ y)), (8, .long ((lJ x) - (lJ x) / (lJ y) * (lJ y))), (0, .long (lJ a)), (2, .long (lJ b))]) hb dX12_divisor_26 (by rw [hml]; decide) rfl ?_
        refine a_goto hb 6 dX12_divisor_28 (by decide) ?_
        refine AW.sub (L' := [(0, .long (lJ a)), (2, .long (lJ b)), (4, .long (lJ y)), (6, .long (lJ x - lJ x / lJ y * lJ y))]) [3, 4, 1, 0] rfl ?_
        exact AW.eq (ih y (x % y) (by omega) hy (by omega) (by rw [Nat.gcd_comm, ← Nat.gcd_rec, Nat.gcd_comm]; exact hg2)) rfl rfl (by rw [lJ_rem (by omega) (by omega)]) rfl
  refine a_lload_n hb dX12_divisor_0 rfl 0 rfl ?_
  refine a_lstore (L' := [(4, .long (lJ a)), (0, .long (lJ a)), (2, .long (lJ b))]) hb dX12_divisor_1 (by rw [hml]; decide) rfl ?_
  refine a_lload_n hb dX12_divisor_3 rfl 2 rfl ?_
  refine a_lstore (L' := [(6, .long (lJ b)), (4, .long (lJ a)), (0, .long (lJ a)), (2, .long (lJ b))]) hb dX12_divisor_4 (by rw [hml]; decide) rfl ?_
  refine AW.sub (L' := [(0, .long (lJ a)), (2, .long (lJ b)), (4, .long (lJ a)), (6, .long (lJ b))]) [2, 3, 1, 0] rfl ?_
  exact AW.eq (loop b a b (by omega) ha hb3 rfl) rfl rfl (rfl) rfl
