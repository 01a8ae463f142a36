/-! ===== the model: sure, with its bounds ===== -/
set_option maxRecDepth 100000 in
theorem m_sureB (g : GG) (h : AH) (B : Nat) (hL : LY h B) (P : PF) (hP : PcM g B h P) (h6 : ¬ hI h (B + 52) 6 = 0) (hl : Nat) (hhl : IX (hI h (B + 52) 8) hl) (lhl : hl < 5) (np : Nat) (hnp : IX (hI h (B + 52) 0) np) (lnp : np ≤ 8) (n : Nat) (hn : IX (hI h (B + 52) 1) n) (ln : n ≤ 5) (h7 : ¬ (hI h (B + 52) 7).toInt64 = 0) (hla : ¬ hI h (B + 52) 8 = -1) (hd : ∀ j, j < 8 → hI h (B + 56) j = 0) (c x : Int32) (hab : ¬ 4 < (ltM (hI h (B + 52)) np) → ∃ a b : Nat, a < 2 ^ 31 ∧ b < 2 ^ 31 ∧ 0 < b ∧ (wyS (fun dl => fbW P (hI h (B + 52)) dl hl np n c) (hI h (B + 52)) np 0 (hI h (B + 56)) 1 0 (0, 0, -5, -5)).1 = lJ a ∧ (wyS (fun dl => fbW P (hI h (B + 52)) dl hl np n c) (hI h (B + 52)) np 0 (hI h (B + 56)) 1 0 (0, 0, -5, -5)).2.1 = lJ b) : AM g 19 0 0 mX12_sure [.ref (B + 51), .int c, .int x] h (fun rv h' => (((oO c 0 999 || oO x 0 1 || decide (4 < (ltM (hI h (B + 52)) np))) = true ∧ rv = some (.long (-9223372036854775808))) ∨ ((oO c 0 999 || oO x 0 1 || decide (4 < (ltM (hI h (B + 52)) np))) = false ∧ ∃ a b : Nat, a < 2 ^ 31 ∧ b < 2 ^ 31 ∧ (wyS (fun dl => fbW P (hI h (B + 52)) dl hl np n c) (hI h (B + 52)) np 0 (hI h (B + 56)) 1 0 (0, 0, -5, -5)).1 = lJ a ∧ (wyS (fun dl => fbW P (hI h (B + 52)) dl hl np n c) (hI h (B + 52)) np 0 (hI h (B + 56)) 1 0 (0, 0, -5, -5)).2.1 = lJ b ∧ rv = some (.long (lJ ((if x = 0 then a else b) / Nat.gcd a b))))) ∧ FR (Aq B) h h' ∧ (hI h' (B + 56) = hI h (B + 56)) ∧ (∀ j, j ≠ 15 → j ≠ 16 → j ≠ 17 → j ≠ 18 → hI h' (B + 51) j = hI h (B + 51) j)) := by
  refine AM.of [(0, .ref (B + 51)), (1, .int c), (2, .int x)] (by decide) (Nat.le_of_ble_eq_true rfl) rfl ?_
  intro V hV
  have hb : V.2.1.2.1 = cX12_sure := by subst hV; rfl
  have ow : V.2.1.1.cls = RX12 := by subst hV; rfl
  have hr : V.2.2.1 = aw_rm 19 0 0 := by subst hV; rfl
  have hz : V.2.2.2 = aw_Z V.1 (fun rv h' => (((oO c 0 999 || oO x 0 1 || decide (4 < (ltM (hI h (B + 52)) np))) = true ∧ rv = some (.long (-9223372036854775808))) ∨ ((oO c 0 999 || oO x 0 1 || decide (4 < (ltM (hI h (B + 52)) np))) = false ∧ ∃ a b : Nat, a < 2 ^ 31 ∧ b < 2 ^ 31 ∧ (wyS (fun dl => fbW P (hI h (B + 52)) dl hl np n c) (hI h (B + 52)) np 0 (hI h (B + 56)) 1 0 (0, 0, -5, -5)).1 = lJ a ∧ (wyS (fun dl => fbW P (hI h (B + 52)) dl hl np n c) (hI h (B + 52)) np 0 (hI h (B + 56)) 1 0 (0, 0, -5, -5)).2.1 = lJ b ∧ rv = some (.long (lJ ((if x = 0 then a else b) / Nat.gcd a b))))) ∧ FR (Aq B) h h' ∧ (hI h' (B + 56) = hI h (B + 56)) ∧ (∀ j, j ≠ 15 → j ≠ 16 → j ≠ 17 → j ≠ 18 → hI h' (B + 51) j = hI h (B + 51) j)) V.2.2.1 := by subst hV; rfl
  have hg : V.1 = g := by subst hV; rfl
  have hret : V.2.1.2.2.2 = (some .long) := by subst hV; rfl
  have hml : V.2.1.2.2.1 = 3 := by subst hV; rfl
  clear hV
  refine a_aload_n hb dX12_sure_0 rfl 0 rfl ?_
  refine a_callV hb dX12_sure_1 (by rw [hg]; exact w_isLaw g h B hL) (by rw [ow]; exact clv_RX12_152) (hL.1 51 (by decide)) (by decide) rfl rfl rfl (Nat.le_of_ble_eq_true rfl) (by rw [hr]; exact ⟨by decide, by decide⟩) (by rw [hr]; exact ⟨Nat.le_of_ble_eq_true rfl, Nat.le_of_ble_eq_true rfl⟩) ?_
  intro rv h' hp
  rw [hp.1, hp.2]
  show AW V 0 0 h 4 [(0, .ref (B + 51)), (1, .int c), (2, .int x)] [.int (b2i (!decide (hI h (B + 52) 8 = -1)))]
  refine a_if_eq hb 31 dX12_sure_4 (by decide) (fun c4 => absurd c4 (by simp [b2i, hla])) (fun c4 => ?_)
  refine a_iload_n hb dX12_sure_7 rfl 1 rfl ?_
  refine a_callS hb dX12_sure_8 (by rw [hg]; exact w_isBound g h c) (by rw [ow]; exact cls_RX12_189) rfl rfl (Nat.le_of_ble_eq_true rfl) (by rw [hr]; exact ⟨by decide, by decide⟩) (by rw [hr]; exact ⟨Nat.le_of_ble_eq_true rfl, Nat.le_of_ble_eq_true rfl⟩) ?_
  intro rv h' hp
  rw [hp.1, hp.2]
  show AW V 0 0 h 11 [(0, .ref (B + 51)), (1, .int c), (2, .int x)] [.int (b2i (!oO c 0 999))]
  refine a_if_eq hb 31 dX12_sure_11 (by decide) (fun c11 => ?_) (fun c11 => ?_)
  · simp [b2i_0] at c11
    refine a_ldc2 (v := (-9223372036854775808)) hb dX12_sure_31 (by rw [ow]; exact kw_1258) ?_
    exact a_lreturn hb hz dX12_sure_34 hret (by rw [hr]; exact Nat.le_of_ble_eq_true rfl) (by rw [hr]; exact Nat.le_of_ble_eq_true rfl) (⟨Or.inl ⟨by rw [c11]; rfl, rfl⟩, FR.rf, rfl, fun _ _ _ _ _ => rfl⟩)
  · simp [b2i_0] at c11
    refine a_iload_n hb dX12_sure_14 rfl 2 rfl ?_
    refine a_iconst (v := 0) hb dX12_sure_15 (by decide) ?_
    refine a_iconst (v := 1) hb dX12_sure_16 (by decide) ?_
    refine a_callS hb dX12_sure_17 (by rw [hg]; exact w_in g h x 0 1) (by rw [ow]; exact cls_RX12_48) rfl rfl (Nat.le_of_ble_eq_true rfl) (by rw [hr]; exact ⟨by decide, by decide⟩) (by rw [hr]; exact ⟨Nat.le_of_ble_eq_true rfl, Nat.le_of_ble_eq_true rfl⟩) ?_
    intro rv h' hp
    rw [hp.1, hp.2]
    show AW V 0 0 h 20 [(0, .ref (B + 51)), (1, .int c), (2, .int x)] [.int (b2i (!oO x 0 1))]
    refine a_if_eq hb 31 dX12_sure_20 (by decide) (fun c20 => ?_) (fun c20 => ?_)
    · simp [b2i_0] at c20
      refine a_ldc2 (v := (-9223372036854775808)) hb dX12_sure_31 (by rw [ow]; exact kw_1258) ?_
      exact a_lreturn hb hz dX12_sure_34 hret (by rw [hr]; exact Nat.le_of_ble_eq_true rfl) (by rw [hr]; exact Nat.le_of_ble_eq_true rfl) (⟨Or.inl ⟨by rw [c11, c20]; rfl, rfl⟩, FR.rf, rfl, fun _ _ _ _ _ => rfl⟩)
    · simp [b2i_0] at c20
      refine a_aload_n hb dX12_sure_23 rfl 0 rfl ?_
      refine a_callV hb dX12_sure_24 (by rw [hg]; exact m_lateMany g h B hL np hnp lnp) (by rw [ow]; exact clv_RX12_218) (hL.1 51 (by decide)) (by decide) rfl rfl rfl (Nat.le_of_ble_eq_true rfl) (by rw [hr]; exact ⟨by decide, by decide⟩) (by rw [hr]; exact ⟨Nat.le_of_ble_eq_true rfl, Nat.le_of_ble_eq_true rfl⟩) ?_
      intro rv h' hp
      rw [hp.1, hp.2]
      show AW V 0 0 h 27 [(0, .ref (B + 51)), (1, .int c), (2, .int x)] [.int (ltM (hI h (B + 52)) np)]
      refine a_iconst (v := 4) hb dX12_sure_27 (by decide) ?_
      refine a_icmp_le hb 35 dX12_sure_28 (by decide) (fun c28 => ?_) (fun c28 => ?_)
      · have c28' := Int32.not_lt.mpr c28
        refine a_aload_n hb dX12_sure_35 rfl 0 rfl ?_
        refine a_iload_n hb dX12_sure_36 rfl 1 rfl ?_
        refine a_callV hb dX12_sure_37 (by rw [hg]; exact m_allWays g h B hL P (hP.mv (FR.mo (A := Aq B) (A' := Ax B) FR.rf (by intro a; unfold Aq Ax; omega))) h6 hl hhl lhl np hnp lnp n hn ln h7 c hd) (by rw [ow]; exact clv_RX12_221) (hL.1 51 (by decide)) (by decide) rfl rfl rfl (Nat.le_of_ble_eq_true rfl) (by rw [hr]; exact ⟨by decide, by decide⟩) (by rw [hr]; exact ⟨Nat.le_of_ble_eq_true rfl, Nat.le_of_ble_eq_true rfl⟩) ?_
        intro rv h1_ hp
        obtain ⟨hv, hf1, hx1_0, hx1_1, hx1_2⟩ := hp
        rw [hv]
        have hF1 := FR.tr FR.rf hf1
        have hL1 : LY h1_ B := FR.ly hF1 hL
        have hS1_52 : hI h1_ (B + 52) = hI h (B + 52) := hF1.2.2.2.2 _ (by unfold Aq; omega)
        clear hv
        show AW V 0 0 h1_ 40 [(0, .ref (B + 51)), (1, .int c), (2, .int x)] []
        obtain ⟨a, b, ha, hb3, hb0, e1, e2⟩ := hab c28'
        have m1 : hJ h1_ (B + 51) 15 = lJ a := by rw [← e1, ← hx1_2]; rfl
        have m2 : hJ h1_ (B + 51) 16 = lJ b := by rw [← e2, ← hx1_2]; rfl
        have gp : 0 < Nat.gcd a b := Nat.gcd_pos_of_pos_right a hb0
        have gl : Nat.gcd a b ≤ b := Nat.gcd_le_right a hb0
        refine a_iload_n hb dX12_sure_40 rfl 2 rfl ?_
        refine a_if_ne hb 51 dX12_sure_41 (by decide) (fun c41 => ?_) (fun c41 => ?_)
        · refine a_aload_n hb dX12_sure_51 rfl 0 rfl ?_
          refine a_getJ hb dX12_sure_52 (by rw [ow]; exact fl_RX12_198_12) (hL1.1 51 (by decide)) ?_
          rw [m2]
          show AW V 0 0 h1_ 55 [(0, .ref (B + 51)), (1, .int c), (2, .int x)] [.long (lJ b)]
          refine a_aload_n hb dX12_sure_55 rfl 0 rfl ?_
          refine a_getJ hb dX12_sure_56 (by rw [ow]; exact fl_RX12_202_12) (hL1.1 51 (by decide)) ?_
          rw [m1]
          show AW V 0 0 h1_ 59 [(0, .ref (B + 51)), (1, .int c), (2, .int x)] [.long (lJ a), .long (lJ b)]
          refine a_aload_n hb dX12_sure_59 rfl 0 rfl ?_
          refine a_getJ hb dX12_sure_60 (by rw [ow]; exact fl_RX12_198_12) (hL1.1 51 (by decide)) ?_
          rw [m2]
          show AW V 0 0 h1_ 63 [(0, .ref (B + 51)), (1, .int c), (2, .int x)] [.long (lJ b), .long (lJ a), .long (lJ b)]
          refine a_callS hb dX12_sure_63 (by rw [hg]; exact m_divisor g h1_ a b ha hb3) (by rw [ow]; exact cls_RX12_224) rfl rfl (Nat.le_of_ble_eq_true rfl) (by rw [hr]; exact ⟨by decide, by decide⟩) (by rw [hr]; exact ⟨Nat.le_of_ble_eq_true rfl, Nat.le_of_ble_eq_true rfl⟩) ?_
          intro rv h' hp
          rw [hp.1, hp.2]
          show AW V 0 0 h1_ 66 [(0, .ref (B + 51)), (1, .int c), (2, .int x)] [.long (lJ (Nat.gcd a b)), .long (lJ b)]
          refine a_ldiv hb dX12_sure_66 (fun q => absurd ((lJ_0 (by omega)).mp q) (by omega)) ?_
          exact a_lreturn hb hz dX12_sure_67 hret (by rw [hr]; exact Nat.le_of_ble_eq_true rfl) (by rw [hr]; exact Nat.le_of_ble_eq_true rfl) (⟨Or.inr ⟨by rw [c11, c20, decide_eq_false c28']; rfl, a, b, ha, hb3, e1, e2, by rw [lJ_div (by omega) (by omega), if_neg c41]⟩, hF1, hx1_0, hx1_1⟩)
        · refine a_aload_n hb dX12_sure_44 rfl 0 rfl ?_
          refine a_getJ hb dX12_sure_45 (by rw [ow]; exact fl_RX12_202_12) (hL1.1 51 (by decide)) ?_
          rw [m1]
          show AW V 0 0 h1_ 48 [(0, .ref (B + 51)), (1, .int c), (2, .int x)] [.long (lJ a)]
          refine a_goto hb 55 dX12_sure_48 (by decide) ?_
          refine a_aload_n hb dX12_sure_55 rfl 0 rfl ?_
          refine a_getJ hb dX12_sure_56 (by rw [ow]; exact fl_RX12_202_12) (hL1.1 51 (by decide)) ?_
          rw [m1]
          show AW V 0 0 h1_ 59 [(0, .ref (B + 51)), (1, .int c), (2, .int x)] [.long (lJ a), .long (lJ a)]
          refine a_aload_n hb dX12_sure_59 rfl 0 rfl ?_
          refine a_getJ hb dX12_sure_60 (by rw [ow]; exact fl_RX12_198_12) (hL1.1 51 (by decide)) ?_
          rw [m2]
          show AW V 0 0 h1_ 63 [(0, .ref (B + 51)), (1, .int c), (2, .int x)] [.long (lJ b), .long (lJ a), .long (lJ a)]
          refine a_callS hb dX12_sure_63 (by rw [hg]; exact m_divisor g h1_ a b ha hb3) (by rw [ow]; exact cls_RX12_224) rfl rfl (Nat.le_of_ble_eq_true rfl) (by rw [hr]; exact ⟨by decide, by decide⟩) (by rw [hr]; exact ⟨Nat.le_of_ble_eq_true rfl, Nat.le_of_ble_eq_true rfl⟩) ?_
          intro rv h' hp
          rw [hp.1, hp.2]
          show AW V 0 0 h1_ 66 [(0, .ref (B + 51)), (1, .int c), (2, .int x)] [.long (lJ (Nat.gcd a b)), .long (lJ a)]
          refine a_ldiv hb dX12_sure_66 (fun q => absurd ((lJ_0 (by omega)).mp q) (by omega)) ?_
          exact a_lreturn hb hz dX12_sure_67 hret (by rw [hr]; exact Nat.le_of_ble_eq_true rfl) (by rw [hr]; exact Nat.le_of_ble_eq_true rfl) (⟨Or.inr ⟨by rw [c11, c20, decide_eq_false c28']; rfl, a, b, ha, hb3, e1, e2, by rw [lJ_div (by omega) (by omega), if_pos c41]⟩, hF1, hx1_0, hx1_1⟩)
      · have c28' := Int32.not_le.mp c28
        refine a_ldc2 (v := (-9223372036854775808)) hb dX12_sure_31 (by rw [ow]; exact kw_1258) ?_
        exact a_lreturn hb hz dX12_sure_34 hret (by rw [hr]; exact Nat.le_of_ble_eq_true rfl) (by rw [hr]; exact Nat.le_of_ble_eq_true rfl) (⟨Or.inl ⟨by rw [c11, c20, decide_eq_true c28']; rfl, rfl⟩, FR.rf, rfl, fun _ _ _ _ _ => rfl⟩)
