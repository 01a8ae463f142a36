/-! ===== the class: copyFrom ===== -/
set_option maxRecDepth 100000 in
theorem x_copy10 (g : GG) (h : AH) (B : Nat) (hL : LY h B) (ty : TY h (B + 1)) (hby : ∀ i, i < 120 → fits (aw_ty 13) (.int (hI h (B + 7) i)) = true) : AM g 1 0 0 mX7_copyFrom [.ref (B + 10), .ref (B + 1)] h (fun rv h' => rv = none ∧ CF (B + 10) h h' ∧ (∀ t, t < 8 → hQ h' (B + 11) t = hQ h (B + 2) t ∧ hI h' (B + 12) t = hI h (B + 3) t ∧ hI h' (B + 13) t = hI h (B + 4) t) ∧ (hI h' (B + 10) 3 = hI h (B + 1) 3) ∧ (∀ t, t < 5 → hQ h' (B + 14) t = hQ h (B + 5) t) ∧ (hI h' (B + 10) 5 = hI h (B + 1) 5) ∧ (∀ t, t < 5 → hQ h' (B + 15) t = hQ h (B + 6) t) ∧ (hI h' (B + 10) 7 = hI h (B + 1) 7) ∧ (∀ t, t < 120 → hI h' (B + 16) t = hI h (B + 7) t) ∧ (hI h' (B + 10) 9 = hI h (B + 1) 9) ∧ (∀ t, t < 20 → hI h' (B + 17) t = hI h (B + 8) t) ∧ (hI h' (B + 10) 11 = hI h (B + 1) 11) ∧ (∀ t, t < 3 → hI h' (B + 18) t = hI h (B + 9) t)) := by
  refine AM.of [(0, .ref (B + 10)), (1, .ref (B + 1))] (by decide) (Nat.le_of_ble_eq_true rfl) rfl ?_
  intro V hV
  have hb : V.2.1.2.1 = cX7_copyFrom := by subst hV; rfl
  have ow : V.2.1.1.cls = RX7 := by subst hV; rfl
  have hr : V.2.2.1 = aw_rm 1 0 0 := by subst hV; rfl
  have hz : V.2.2.2 = aw_Z V.1 (fun rv h' => rv = none ∧ CF (B + 10) h h' ∧ (∀ t, t < 8 → hQ h' (B + 11) t = hQ h (B + 2) t ∧ hI h' (B + 12) t = hI h (B + 3) t ∧ hI h' (B + 13) t = hI h (B + 4) t) ∧ (hI h' (B + 10) 3 = hI h (B + 1) 3) ∧ (∀ t, t < 5 → hQ h' (B + 14) t = hQ h (B + 5) t) ∧ (hI h' (B + 10) 5 = hI h (B + 1) 5) ∧ (∀ t, t < 5 → hQ h' (B + 15) t = hQ h (B + 6) t) ∧ (hI h' (B + 10) 7 = hI h (B + 1) 7) ∧ (∀ t, t < 120 → hI h' (B + 16) t = hI h (B + 7) t) ∧ (hI h' (B + 10) 9 = hI h (B + 1) 9) ∧ (∀ t, t < 20 → hI h' (B + 17) t = hI h (B + 8) t) ∧ (hI h' (B + 10) 11 = hI h (B + 1) 11) ∧ (∀ t, t < 3 → hI h' (B + 18) t = hI h (B + 9) t)) V.2.2.1 := by subst hV; rfl
  have hg : V.1 = g := by subst hV; rfl
  have hret : V.2.1.2.2.2 = none := by subst hV; rfl
  have hml : V.2.1.2.2.1 = 3 := by subst hV; rfl
  clear hV
  have loop3 : ∀ (k i : Nat) (h1 : AH) (cf : CF (B + 10) h h1) (iv : (∀ t, t < 8 → hQ h1 (B + 11) t = hQ h (B + 2) t ∧ hI h1 (B + 12) t = hI h (B + 3) t ∧ hI h1 (B + 13) t = hI h (B + 4) t) ∧ (hI h1 (B + 10) 3 = hI h (B + 1) 3) ∧ (∀ t, t < 5 → hQ h1 (B + 14) t = hQ h (B + 5) t) ∧ (hI h1 (B + 10) 5 = hI h (B + 1) 5) ∧ ∀ t, t < i → hQ h1 (B + 15) t = hQ h (B + 6) t), i + k = 5 → AW V 0 0 h1 93 [(0, .ref (B + 10)), (1, .ref (B + 1)), (2, .int (nI i))] [] := by
    intro k
    induction k with
    | zero =>
      intro i h1 cf iv hi
      have hL1 : LY h1 B := cf.ly (by omega) hL
      refine a_iload_n hb dX7_copyFrom_93 rfl 2 rfl ?_
      refine a_iconst (v := 5) hb dX7_copyFrom_94 (by decide) ?_
      refine a_icmp_ge hb 116 dX7_copyFrom_95 (by decide) (fun c95 => ?_) (fun c95 => absurd (nI_le (b := i) (a := 5) (by omega) (by omega)) c95)
      refine a_aload_n hb dX7_copyFrom_116 rfl 0 rfl ?_
      refine a_aload_n hb dX7_copyFrom_117 rfl 1 rfl ?_
      refine a_getI hb dX7_copyFrom_118 (by rw [ow]; exact fl_RX7_43_7) (hL1.1 1 (by decide)) ?_
      refine a_putI (fty := .int) hb dX7_copyFrom_121 (by rw [ow]; exact fp_RX7_43_7) (Or.inr (fun C T N hq => by cases hq; rfl)) (hL1.1 10 (by decide)) rfl rfl ?_
      generalize eh1 : (setI h1 (B + 10) 7 (hI h1 (B + 1) 7)) = h1_
      have cf1 : CF (B + 10) h h1_ := by rw [← eh1]; exact CF.I cf (by omega)
      have hL1 : LY h1_ B := cf1.ly (by omega) hL
      have hi1 : ∀ b, b ≠ (B + 10) → hI h1_ b = hI h1 b := fun b hb_ => by rw [← eh1, hI_setI_n hb_]
      have hq1 : hQ h1_ = hQ h1 := by rw [← eh1, hQ_I]
      have hw1 : hI h1_ (B + 10) = upd (hI h1 (B + 10)) 7 ((hI h1 (B + 1) 7)) := by rw [← eh1, hI_setI_s]
      clear eh1
      show AW V 0 0 h1_ 124 [(0, .ref (B + 10)), (1, .ref (B + 1)), (2, .int (nI i))] []
      refine a_aload_n hb dX7_copyFrom_124 rfl 1 rfl ?_
      refine a_getQ (q := (B + 7)) hb dX7_copyFrom_125 (by rw [ow]; exact fl_RX7_46_7) (hL1.1 1 (by decide)) (hL1.2.1 (1, 8, 7) (by decide)) ?_
      refine a_iconst (v := 0) hb dX7_copyFrom_128 (by decide) ?_
      refine a_aload_n hb dX7_copyFrom_129 rfl 0 rfl ?_
      refine a_getQ (q := (B + 16)) hb dX7_copyFrom_130 (by rw [ow]; exact fl_RX7_46_7) (hL1.1 10 (by decide)) (hL1.2.1 (10, 8, 16) (by decide)) ?_
      refine a_iconst (v := 0) hb dX7_copyFrom_133 (by decide) ?_
      refine a_bipush (v := 120) hb dX7_copyFrom_134 (by decide) ?_
      refine a_acopy (kd := 13) hb dX7_copyFrom_136 (by rw [ow]; exact kw_1012) kw_411 kw_410 kw_95 (by decide) (hL1.1 7 (by decide)) (hL1.1 16 (by decide)) (by decide) (by decide) (by decide) (by decide) (by decide) (fun i hi => by have e : hI h1_ (B + 7) = hI h (B + 7) := cf1.2.2.2.1 _ (by omega) (by omega) (by omega) (by omega) (by omega) (by omega); rw [e, show (0 : Int32).toNatClampNeg + i = i from Nat.zero_add i]; exact hby i hi) (by rw [hr]; exact ⟨by decide, Nat.le_of_ble_eq_true rfl⟩) ?_
      rw [show (0 : Int32).toNatClampNeg = 0 from by decide, show (120 : Int32).toNatClampNeg = 120 from by decide]
      show AW V 0 0 (setR h1_ (B + 16) (va_cpy (hI h1_ (B + 7)) (hI h1_ (B + 16)) 0 0 120)) 139 [(0, .ref (B + 10)), (1, .ref (B + 1)), (2, .int (nI i))] []
      generalize eh2 : (setR h1_ (B + 16) (va_cpy (hI h1_ (B + 7)) (hI h1_ (B + 16)) 0 0 120)) = h2_
      have cf2 : CF (B + 10) h h2_ := by rw [← eh2]; exact CF.R cf1 (by omega)
      have hL2 : LY h2_ B := cf2.ly (by omega) hL
      have hi2 : ∀ b, b ≠ (B + 16) → hI h2_ b = hI h1_ b := fun b hb_ => by rw [← eh2, hI_Rn hb_]
      have hq2 : hQ h2_ = hQ h1_ := by rw [← eh2, hQ_R]
      have hw2 : hI h2_ (B + 16) = (va_cpy (hI h1_ (B + 7)) (hI h1_ (B + 16)) 0 0 120) := by rw [← eh2, hI_R]
      clear eh2
      show AW V 0 0 h2_ 139 [(0, .ref (B + 10)), (1, .ref (B + 1)), (2, .int (nI i))] []
      refine a_aload_n hb dX7_copyFrom_139 rfl 0 rfl ?_
      refine a_aload_n hb dX7_copyFrom_140 rfl 1 rfl ?_
      refine a_getI hb dX7_copyFrom_141 (by rw [ow]; exact fl_RX7_50_7) (hL2.1 1 (by decide)) ?_
      refine a_putI (fty := .int) hb dX7_copyFrom_144 (by rw [ow]; exact fp_RX7_50_7) (Or.inr (fun C T N hq => by cases hq; rfl)) (hL2.1 10 (by decide)) rfl rfl ?_
      generalize eh3 : (setI h2_ (B + 10) 9 (hI h2_ (B + 1) 9)) = h3_
      have cf3 : CF (B + 10) h h3_ := by rw [← eh3]; exact CF.I cf2 (by omega)
      have hL3 : LY h3_ B := cf3.ly (by omega) hL
      have hi3 : ∀ b, b ≠ (B + 10) → hI h3_ b = hI h2_ b := fun b hb_ => by rw [← eh3, hI_setI_n hb_]
      have hq3 : hQ h3_ = hQ h2_ := by rw [← eh3, hQ_I]
      have hw3 : hI h3_ (B + 10) = upd (hI h2_ (B + 10)) 9 ((hI h2_ (B + 1) 9)) := by rw [← eh3, hI_setI_s]
      clear eh3
      show AW V 0 0 h3_ 147 [(0, .ref (B + 10)), (1, .ref (B + 1)), (2, .int (nI i))] []
      refine a_aload_n hb dX7_copyFrom_147 rfl 1 rfl ?_
      refine a_getQ (q := (B + 8)) hb dX7_copyFrom_148 (by rw [ow]; exact fl_RX7_53_7) (hL3.1 1 (by decide)) (hL3.2.1 (1, 10, 8) (by decide)) ?_
      refine a_iconst (v := 0) hb dX7_copyFrom_151 (by decide) ?_
      refine a_aload_n hb dX7_copyFrom_152 rfl 0 rfl ?_
      refine a_getQ (q := (B + 17)) hb dX7_copyFrom_153 (by rw [ow]; exact fl_RX7_53_7) (hL3.1 10 (by decide)) (hL3.2.1 (10, 10, 17) (by decide)) ?_
      refine a_iconst (v := 0) hb dX7_copyFrom_156 (by decide) ?_
      refine a_bipush (v := 20) hb dX7_copyFrom_157 (by decide) ?_
      refine a_acopy (kd := 14) hb dX7_copyFrom_159 (by rw [ow]; exact kw_1012) kw_411 kw_410 kw_95 (by decide) (hL3.1 8 (by decide)) (hL3.1 17 (by decide)) (by decide) (by decide) (by decide) (by decide) (by decide) (fun _ _ => rfl) (by rw [hr]; exact ⟨by decide, Nat.le_of_ble_eq_true rfl⟩) ?_
      rw [show (0 : Int32).toNatClampNeg = 0 from by decide, show (20 : Int32).toNatClampNeg = 20 from by decide]
      show AW V 0 0 (setR h3_ (B + 17) (va_cpy (hI h3_ (B + 8)) (hI h3_ (B + 17)) 0 0 20)) 162 [(0, .ref (B + 10)), (1, .ref (B + 1)), (2, .int (nI i))] []
      generalize eh4 : (setR h3_ (B + 17) (va_cpy (hI h3_ (B + 8)) (hI h3_ (B + 17)) 0 0 20)) = h4_
      have cf4 : CF (B + 10) h h4_ := by rw [← eh4]; exact CF.R cf3 (by omega)
      have hL4 : LY h4_ B := cf4.ly (by omega) hL
      have hi4 : ∀ b, b ≠ (B + 17) → hI h4_ b = hI h3_ b := fun b hb_ => by rw [← eh4, hI_Rn hb_]
      have hq4 : hQ h4_ = hQ h3_ := by rw [← eh4, hQ_R]
      have hw4 : hI h4_ (B + 17) = (va_cpy (hI h3_ (B + 8)) (hI h3_ (B + 17)) 0 0 20) := by rw [← eh4, hI_R]
      clear eh4
      show AW V 0 0 h4_ 162 [(0, .ref (B + 10)), (1, .ref (B + 1)), (2, .int (nI i))] []
      refine a_aload_n hb dX7_copyFrom_162 rfl 0 rfl ?_
      refine a_aload_n hb dX7_copyFrom_163 rfl 1 rfl ?_
      refine a_getI hb dX7_copyFrom_164 (by rw [ow]; exact fl_RX7_56_7) (hL4.1 1 (by decide)) ?_
      refine a_putI (fty := .int) hb dX7_copyFrom_167 (by rw [ow]; exact fp_RX7_56_7) (Or.inr (fun C T N hq => by cases hq; rfl)) (hL4.1 10 (by decide)) rfl rfl ?_
      generalize eh5 : (setI h4_ (B + 10) 11 (hI h4_ (B + 1) 11)) = h5_
      have cf5 : CF (B + 10) h h5_ := by rw [← eh5]; exact CF.I cf4 (by omega)
      have hL5 : LY h5_ B := cf5.ly (by omega) hL
      have hi5 : ∀ b, b ≠ (B + 10) → hI h5_ b = hI h4_ b := fun b hb_ => by rw [← eh5, hI_setI_n hb_]
      have hq5 : hQ h5_ = hQ h4_ := by rw [← eh5, hQ_I]
      have hw5 : hI h5_ (B + 10) = upd (hI h4_ (B + 10)) 11 ((hI h4_ (B + 1) 11)) := by rw [← eh5, hI_setI_s]
      clear eh5
      show AW V 0 0 h5_ 170 [(0, .ref (B + 10)), (1, .ref (B + 1)), (2, .int (nI i))] []
      refine a_aload_n hb dX7_copyFrom_170 rfl 1 rfl ?_
      refine a_getQ (q := (B + 9)) hb dX7_copyFrom_171 (by rw [ow]; exact fl_RX7_59_7) (hL5.1 1 (by decide)) (hL5.2.1 (1, 12, 9) (by decide)) ?_
      refine a_iconst (v := 0) hb dX7_copyFrom_174 (by decide) ?_
      refine a_aload_n hb dX7_copyFrom_175 rfl 0 rfl ?_
      refine a_getQ (q := (B + 18)) hb dX7_copyFrom_176 (by rw [ow]; exact fl_RX7_59_7) (hL5.1 10 (by decide)) (hL5.2.1 (10, 12, 18) (by decide)) ?_
      refine a_iconst (v := 0) hb dX7_copyFrom_179 (by decide) ?_
      refine a_aload_n hb dX7_copyFrom_180 rfl 0 rfl ?_
      refine a_getQ (q := (B + 18)) hb dX7_copyFrom_181 (by rw [ow]; exact fl_RX7_59_7) (hL5.1 10 (by decide)) (hL5.2.1 (10, 12, 18) (by decide)) ?_
      refine a_alenI (v := 3) hb dX7_copyFrom_184 (hL5.1 18 (by decide)) (by decide) rfl ?_
      refine a_acopy (kd := 14) hb dX7_copyFrom_185 (by rw [ow]; exact kw_1012) kw_411 kw_410 kw_95 (by decide) (hL5.1 9 (by decide)) (hL5.1 18 (by decide)) (by decide) (by decide) (by decide) (by decide) (by decide) (fun _ _ => rfl) (by rw [hr]; exact ⟨by decide, Nat.le_of_ble_eq_true rfl⟩) ?_
      rw [show (0 : Int32).toNatClampNeg = 0 from by decide, show (3 : Int32).toNatClampNeg = 3 from by decide]
      show AW V 0 0 (setR h5_ (B + 18) (va_cpy (hI h5_ (B + 9)) (hI h5_ (B + 18)) 0 0 3)) 188 [(0, .ref (B + 10)), (1, .ref (B + 1)), (2, .int (nI i))] []
      generalize eh6 : (setR h5_ (B + 18) (va_cpy (hI h5_ (B + 9)) (hI h5_ (B + 18)) 0 0 3)) = h6_
      have cf6 : CF (B + 10) h h6_ := by rw [← eh6]; exact CF.R cf5 (by omega)
      have hL6 : LY h6_ B := cf6.ly (by omega) hL
      have hi6 : ∀ b, b ≠ (B + 18) → hI h6_ b = hI h5_ b := fun b hb_ => by rw [← eh6, hI_Rn hb_]
      have hq6 : hQ h6_ = hQ h5_ := by rw [← eh6, hQ_R]
      have hw6 : hI h6_ (B + 18) = (va_cpy (hI h5_ (B + 9)) (hI h5_ (B + 18)) 0 0 3) := by rw [← eh6, hI_R]
      clear eh6
      show AW V 0 0 h6_ 188 [(0, .ref (B + 10)), (1, .ref (B + 1)), (2, .int (nI i))] []
      exact a_return hb hz dX7_copyFrom_188 hret (by rw [hr]; exact Nat.le_of_ble_eq_true rfl) (by rw [hr]; exact Nat.le_of_ble_eq_true rfl) (⟨rfl, cf6, fun t ht => by rw [hq6, hq5, hq4, hq3, hq2, hq1, hi6 _ (by omega), hi5 _ (by omega), hi4 _ (by omega), hi3 _ (by omega), hi2 _ (by omega), hi1 _ (by omega), hi6 _ (by omega), hi5 _ (by omega), hi4 _ (by omega), hi3 _ (by omega), hi2 _ (by omega), hi1 _ (by omega)]; exact iv.1 t ht, by rw [hi6 _ (by omega), hw5, upd_n (by decide), hi4 _ (by omega), hw3, upd_n (by decide), hi2 _ (by omega), hw1, upd_n (by decide)]; exact iv.2.1, fun t ht => by rw [hq6, hq5, hq4, hq3, hq2, hq1]; exact iv.2.2.1 t ht, by rw [hi6 _ (by omega), hw5, upd_n (by decide), hi4 _ (by omega), hw3, upd_n (by decide), hi2 _ (by omega), hw1, upd_n (by decide)]; exact iv.2.2.2.1, fun t ht => by rw [hq6, hq5, hq4, hq3, hq2, hq1]; exact iv.2.2.2.2 t (by omega), by rw [hi6 _ (by omega), hw5, upd_n (by decide), hi4 _ (by omega), hw3, upd_n (by decide), hi2 _ (by omega), hw1, upd_s]; rw [(show hI h1 (B + 1) = hI h (B + 1) from cf.2.2.2.1 _ (by omega) (by omega) (by omega) (by omega) (by omega) (by omega))], fun t ht => by rw [hi6 _ (by omega), hi5 _ (by omega), hi4 _ (by omega), hi3 _ (by omega), hw2, pk_cpy_in (Nat.zero_le _) (by omega), Nat.zero_add, Nat.sub_zero]; rw [(show hI h1_ (B + 7) = hI h (B + 7) from cf1.2.2.2.1 _ (by omega) (by omega) (by omega) (by omega) (by omega) (by omega))], by rw [hi6 _ (by omega), hw5, upd_n (by decide), hi4 _ (by omega), hw3, upd_s]; rw [(show hI h2_ (B + 1) = hI h (B + 1) from cf2.2.2.2.1 _ (by omega) (by omega) (by omega) (by omega) (by omega) (by omega))], fun t ht => by rw [hi6 _ (by omega), hi5 _ (by omega), hw4, pk_cpy_in (Nat.zero_le _) (by omega), Nat.zero_add, Nat.sub_zero]; rw [(show hI h3_ (B + 8) = hI h (B + 8) from cf3.2.2.2.1 _ (by omega) (by omega) (by omega) (by omega) (by omega) (by omega))], by rw [hi6 _ (by omega), hw5, upd_s]; rw [(show hI h4_ (B + 1) = hI h (B + 1) from cf4.2.2.2.1 _ (by omega) (by omega) (by omega) (by omega) (by omega) (by omega))], fun t ht => by rw [hw6, pk_cpy_in (Nat.zero_le _) (by omega), Nat.zero_add, Nat.sub_zero]; rw [(show hI h5_ (B + 9) = hI h (B + 9) from cf5.2.2.2.1 _ (by omega) (by omega) (by omega) (by omega) (by omega) (by omega))]⟩)
    | succ k ih =>
      intro i h1 cf iv hi
      have hL1 : LY h1 B := cf.ly (by omega) hL
      refine a_iload_n hb dX7_copyFrom_93 rfl 2 rfl ?_
      refine a_iconst (v := 5) hb dX7_copyFrom_94 (by decide) ?_
      refine a_icmp_ge hb 116 dX7_copyFrom_95 (by decide) (fun c95 => absurd c95 (nI_ge (b := 5) (a := i) (by omega) (by omega))) (fun c95 => ?_)
      refine a_aload_n hb dX7_copyFrom_98 rfl 0 rfl ?_
      refine a_getQ (q := (B + 15)) hb dX7_copyFrom_99 (by rw [ow]; exact fl_RX7_39_7) (hL1.1 10 (by decide)) (hL1.2.1 (10, 6, 15) (by decide)) ?_
      refine a_iload_n hb dX7_copyFrom_102 rfl 2 rfl ?_
      refine a_aload_n hb dX7_copyFrom_103 rfl 1 rfl ?_
      refine a_getQ (q := (B + 6)) hb dX7_copyFrom_104 (by rw [ow]; exact fl_RX7_39_7) (hL1.1 1 (by decide)) (hL1.2.1 (1, 6, 6) (by decide)) ?_
      refine a_iload_n hb dX7_copyFrom_107 rfl 2 rfl ?_
      refine b_aald (j := i) hb dX7_copyFrom_108 (hL1.1 6 (by decide)) (by decide) (by decide) (IX.n (by omega)) (by omega) ?_
      refine b_aastO (j := i) (E := RX10) hb dX7_copyFrom_109 (hL1.1 15 (by decide)) (by decide) (by decide) rfl (IX.n (by omega)) (by omega) (by rw [show hQ h1 (B + 6) = hQ h (B + 6) from cf.2.2.2.2 _ (by omega) (by omega) (by omega)]; exact (ty.2.2 i (by omega)).cf cf) ?_
      generalize eh1 : (setQ h1 (B + 15) i (hQ h1 (B + 6) i)) = h1_
      have cf1 : CF (B + 10) h h1_ := by rw [← eh1]; exact CF.Q cf (by omega)
      have hL1 : LY h1_ B := cf1.ly (by omega) hL
      have hi1 : hI h1_ = hI h1 := by rw [← eh1, hI_Q2]
      have hq1 : ∀ b, b ≠ (B + 15) → hQ h1_ b = hQ h1 b := fun b hb_ => by rw [← eh1, hQ_Qa hb_]
      have hk1 : ∀ j, j ≠ i → hQ h1_ (B + 15) j = hQ h1 (B + 15) j := fun j hj => by rw [← eh1, hQ_Qk hj]
      have hw1 : hQ h1_ (B + 15) i = (hQ h1 (B + 6) i) := by rw [← eh1, hQ_Qs]
      clear eh1
      show AW V 0 0 h1_ 110 [(0, .ref (B + 10)), (1, .ref (B + 1)), (2, .int (nI i))] []
      refine a_iinc (v := ((nI i) + 1)) (L' := [(2, .int ((nI i) + 1)), (0, .ref (B + 10)), (1, .ref (B + 1))]) hb dX7_copyFrom_110 2 rfl rfl (by rw [hml]; decide) rfl ?_
      refine a_goto hb 93 dX7_copyFrom_113 (by decide) ?_
      refine AW.sub (L' := [(0, .ref (B + 10)), (1, .ref (B + 1)), (2, .int ((nI i) + 1))]) [1, 2, 0] rfl ?_
      exact AW.eq (ih (i + 1) h1_ cf1 (⟨fun t ht => by rw [hq1 _ (by omega), hi1]; exact iv.1 t ht, by rw [hi1]; exact iv.2.1, fun t ht => by rw [hq1 _ (by omega)]; exact iv.2.2.1 t ht, by rw [hi1]; exact iv.2.2.2.1, fun t ht => (Nat.lt_or_ge t i).elim (fun q => by rw [hk1 t (by omega)]; exact iv.2.2.2.2 t q) (fun q => by rw [show t = i by omega, hw1, (show hQ h1 (B + 6) = hQ h (B + 6) from cf.2.2.2.2 _ (by omega) (by omega) (by omega))])⟩) (by omega)) rfl rfl (by first | (simp only [nI_1]; done) | (simp only [nI_1]; rfl)) rfl
  have loop2 : ∀ (k i : Nat) (h1 : AH) (cf : CF (B + 10) h h1) (iv : (∀ t, t < 8 → hQ h1 (B + 11) t = hQ h (B + 2) t ∧ hI h1 (B + 12) t = hI h (B + 3) t ∧ hI h1 (B + 13) t = hI h (B + 4) t) ∧ (hI h1 (B + 10) 3 = hI h (B + 1) 3) ∧ ∀ t, t < i → hQ h1 (B + 14) t = hQ h (B + 5) t), i + k = 5 → AW V 0 0 h1 60 [(0, .ref (B + 10)), (1, .ref (B + 1)), (2, .int (nI i))] [] := by
    intro k
    induction k with
    | zero =>
      intro i h1 cf iv hi
      have hL1 : LY h1 B := cf.ly (by omega) hL
      refine a_iload_n hb dX7_copyFrom_60 rfl 2 rfl ?_
      refine a_iconst (v := 5) hb dX7_copyFrom_61 (by decide) ?_
      refine a_icmp_ge hb 83 dX7_copyFrom_62 (by decide) (fun c62 => ?_) (fun c62 => absurd (nI_le (b := i) (a := 5) (by omega) (by omega)) c62)
      refine a_aload_n hb dX7_copyFrom_83 rfl 0 rfl ?_
      refine a_aload_n hb dX7_copyFrom_84 rfl 1 rfl ?_
      refine a_getI hb dX7_copyFrom_85 (by rw [ow]; exact fl_RX7_34_7) (hL1.1 1 (by decide)) ?_
      refine a_putI (fty := .int) hb dX7_copyFrom_88 (by rw [ow]; exact fp_RX7_34_7) (Or.inr (fun C T N hq => by cases hq; rfl)) (hL1.1 10 (by decide)) rfl rfl ?_
      generalize eh1 : (setI h1 (B + 10) 5 (hI h1 (B + 1) 5)) = h1_
      have cf1 : CF (B + 10) h h1_ := by rw [← eh1]; exact CF.I cf (by omega)
      have hL1 : LY h1_ B := cf1.ly (by omega) hL
      have hi1 : ∀ b, b ≠ (B + 10) → hI h1_ b = hI h1 b := fun b hb_ => by rw [← eh1, hI_setI_n hb_]
      have hq1 : hQ h1_ = hQ h1 := by rw [← eh1, hQ_I]
      have hw1 : hI h1_ (B + 10) = upd (hI h1 (B + 10)) 5 ((hI h1 (B + 1) 5)) := by rw [← eh1, hI_setI_s]
      clear eh1
      show AW V 0 0 h1_ 91 [(0, .ref (B + 10)), (1, .ref (B + 1)), (2, .int (nI i))] []
      refine a_iconst (v := 0) hb dX7_copyFrom_91 (by decide) ?_
      refine a_istore_n (L' := [(2, .int 0), (0, .ref (B + 10)), (1, .ref (B + 1))]) hb dX7_copyFrom_92 rfl (by rw [hml]; decide) rfl ?_
      refine AW.sub (L' := [(0, .ref (B + 10)), (1, .ref (B + 1)), (2, .int 0)]) [1, 2, 0] rfl ?_
      exact AW.eq (loop3 5 0 h1_ cf1 ⟨fun t ht => by rw [hq1, hi1 _ (by omega), hi1 _ (by omega)]; exact iv.1 t ht, by rw [hw1, upd_n (by decide)]; exact iv.2.1, fun t ht => by rw [hq1]; exact iv.2.2 t (by omega), by rw [hw1, upd_s]; rw [(show hI h1 (B + 1) = hI h (B + 1) from cf.2.2.2.1 _ (by omega) (by omega) (by omega) (by omega) (by omega) (by omega))], fun t ht => absurd ht (Nat.not_lt_zero t)⟩ (by omega)) rfl rfl (rfl) rfl
    | succ k ih =>
      intro i h1 cf iv hi
      have hL1 : LY h1 B := cf.ly (by omega) hL
      refine a_iload_n hb dX7_copyFrom_60 rfl 2 rfl ?_
      refine a_iconst (v := 5) hb dX7_copyFrom_61 (by decide) ?_
      refine a_icmp_ge hb 83 dX7_copyFrom_62 (by decide) (fun c62 => absurd c62 (nI_ge (b := 5) (a := i) (by omega) (by omega))) (fun c62 => ?_)
      refine a_aload_n hb dX7_copyFrom_65 rfl 0 rfl ?_
      refine a_getQ (q := (B + 14)) hb dX7_copyFrom_66 (by rw [ow]; exact fl_RX7_30_7) (hL1.1 10 (by decide)) (hL1.2.1 (10, 4, 14) (by decide)) ?_
      refine a_iload_n hb dX7_copyFrom_69 rfl 2 rfl ?_
      refine a_aload_n hb dX7_copyFrom_70 rfl 1 rfl ?_
      refine a_getQ (q := (B + 5)) hb dX7_copyFrom_71 (by rw [ow]; exact fl_RX7_30_7) (hL1.1 1 (by decide)) (hL1.2.1 (1, 4, 5) (by decide)) ?_
      refine a_iload_n hb dX7_copyFrom_74 rfl 2 rfl ?_
      refine b_aald (j := i) hb dX7_copyFrom_75 (hL1.1 5 (by decide)) (by decide) (by decide) (IX.n (by omega)) (by omega) ?_
      refine b_aastO (j := i) (E := RX1) hb dX7_copyFrom_76 (hL1.1 14 (by decide)) (by decide) (by decide) rfl (IX.n (by omega)) (by omega) (by rw [show hQ h1 (B + 5) = hQ h (B + 5) from cf.2.2.2.2 _ (by omega) (by omega) (by omega)]; exact (ty.2.1 i (by omega)).cf cf) ?_
      generalize eh1 : (setQ h1 (B + 14) i (hQ h1 (B + 5) i)) = h1_
      have cf1 : CF (B + 10) h h1_ := by rw [← eh1]; exact CF.Q cf (by omega)
      have hL1 : LY h1_ B := cf1.ly (by omega) hL
      have hi1 : hI h1_ = hI h1 := by rw [← eh1, hI_Q2]
      have hq1 : ∀ b, b ≠ (B + 14) → hQ h1_ b = hQ h1 b := fun b hb_ => by rw [← eh1, hQ_Qa hb_]
      have hk1 : ∀ j, j ≠ i → hQ h1_ (B + 14) j = hQ h1 (B + 14) j := fun j hj => by rw [← eh1, hQ_Qk hj]
      have hw1 : hQ h1_ (B + 14) i = (hQ h1 (B + 5) i) := by rw [← eh1, hQ_Qs]
      clear eh1
      show AW V 0 0 h1_ 77 [(0, .ref (B + 10)), (1, .ref (B + 1)), (2, .int (nI i))] []
      refine a_iinc (v := ((nI i) + 1)) (L' := [(2, .int ((nI i) + 1)), (0, .ref (B + 10)), (1, .ref (B + 1))]) hb dX7_copyFrom_77 2 rfl rfl (by rw [hml]; decide) rfl ?_
      refine a_goto hb 60 dX7_copyFrom_80 (by decide) ?_
      refine AW.sub (L' := [(0, .ref (B + 10)), (1, .ref (B + 1)), (2, .int ((nI i) + 1))]) [1, 2, 0] rfl ?_
      exact AW.eq (ih (i + 1) h1_ cf1 (⟨fun t ht => by rw [hq1 _ (by omega), hi1]; exact iv.1 t ht, by rw [hi1]; exact iv.2.1, fun t ht => (Nat.lt_or_ge t i).elim (fun q => by rw [hk1 t (by omega)]; exact iv.2.2 t q) (fun q => by rw [show t = i by omega, hw1, (show hQ h1 (B + 5) = hQ h (B + 5) from cf.2.2.2.2 _ (by omega) (by omega) (by omega))])⟩) (by omega)) rfl rfl (by first | (simp only [nI_1]; done) | (simp only [nI_1]; rfl)) rfl
  have loop1 : ∀ (k i : Nat) (h1 : AH) (cf : CF (B + 10) h h1) (iv : ∀ t, t < i → hQ h1 (B + 11) t = hQ h (B + 2) t ∧ hI h1 (B + 12) t = hI h (B + 3) t ∧ hI h1 (B + 13) t = hI h (B + 4) t), i + k = 8 → AW V 0 0 h1 2 [(0, .ref (B + 10)), (1, .ref (B + 1)), (2, .int (nI i))] [] := by
    intro k
    induction k with
    | zero =>
      intro i h1 cf iv hi
      have hL1 : LY h1 B := cf.ly (by omega) hL
      refine a_iload_n hb dX7_copyFrom_2 rfl 2 rfl ?_
      refine a_bipush (v := 8) hb dX7_copyFrom_3 (by decide) ?_
      refine a_icmp_ge hb 50 dX7_copyFrom_5 (by decide) (fun c5 => ?_) (fun c5 => absurd (nI_le (b := i) (a := 8) (by omega) (by omega)) c5)
      refine a_aload_n hb dX7_copyFrom_50 rfl 0 rfl ?_
      refine a_aload_n hb dX7_copyFrom_51 rfl 1 rfl ?_
      refine a_getI hb dX7_copyFrom_52 (by rw [ow]; exact fl_RX7_24_7) (hL1.1 1 (by decide)) ?_
      refine a_putI (fty := .int) hb dX7_copyFrom_55 (by rw [ow]; exact fp_RX7_24_7) (Or.inr (fun C T N hq => by cases hq; rfl)) (hL1.1 10 (by decide)) rfl rfl ?_
      generalize eh1 : (setI h1 (B + 10) 3 (hI h1 (B + 1) 3)) = h1_
      have cf1 : CF (B + 10) h h1_ := by rw [← eh1]; exact CF.I cf (by omega)
      have hL1 : LY h1_ B := cf1.ly (by omega) hL
      have hi1 : ∀ b, b ≠ (B + 10) → hI h1_ b = hI h1 b := fun b hb_ => by rw [← eh1, hI_setI_n hb_]
      have hq1 : hQ h1_ = hQ h1 := by rw [← eh1, hQ_I]
      have hw1 : hI h1_ (B + 10) = upd (hI h1 (B + 10)) 3 ((hI h1 (B + 1) 3)) := by rw [← eh1, hI_setI_s]
      clear eh1
      show AW V 0 0 h1_ 58 [(0, .ref (B + 10)), (1, .ref (B + 1)), (2, .int (nI i))] []
      refine a_iconst (v := 0) hb dX7_copyFrom_58 (by decide) ?_
      refine a_istore_n (L' := [(2, .int 0), (0, .ref (B + 10)), (1, .ref (B + 1))]) hb dX7_copyFrom_59 rfl (by rw [hml]; decide) rfl ?_
      refine AW.sub (L' := [(0, .ref (B + 10)), (1, .ref (B + 1)), (2, .int 0)]) [1, 2, 0] rfl ?_
      exact AW.eq (loop2 5 0 h1_ cf1 ⟨fun t ht => by rw [hq1, hi1 _ (by omega), hi1 _ (by omega)]; exact iv t (by omega), by rw [hw1, upd_s]; rw [(show hI h1 (B + 1) = hI h (B + 1) from cf.2.2.2.1 _ (by omega) (by omega) (by omega) (by omega) (by omega) (by omega))], fun t ht => absurd ht (Nat.not_lt_zero t)⟩ (by omega)) rfl rfl (rfl) rfl
    | succ k ih =>
      intro i h1 cf iv hi
      have hL1 : LY h1 B := cf.ly (by omega) hL
      refine a_iload_n hb dX7_copyFrom_2 rfl 2 rfl ?_
      refine a_bipush (v := 8) hb dX7_copyFrom_3 (by decide) ?_
      refine a_icmp_ge hb 50 dX7_copyFrom_5 (by decide) (fun c5 => absurd c5 (nI_ge (b := 8) (a := i) (by omega) (by omega))) (fun c5 => ?_)
      refine a_aload_n hb dX7_copyFrom_8 rfl 0 rfl ?_
      refine a_getQ (q := (B + 11)) hb dX7_copyFrom_9 (by rw [ow]; exact fl_RX7_11_7) (hL1.1 10 (by decide)) (hL1.2.1 (10, 0, 11) (by decide)) ?_
      refine a_iload_n hb dX7_copyFrom_12 rfl 2 rfl ?_
      refine a_aload_n hb dX7_copyFrom_13 rfl 1 rfl ?_
      refine a_getQ (q := (B + 2)) hb dX7_copyFrom_14 (by rw [ow]; exact fl_RX7_11_7) (hL1.1 1 (by decide)) (hL1.2.1 (1, 0, 2) (by decide)) ?_
      refine a_iload_n hb dX7_copyFrom_17 rfl 2 rfl ?_
      refine b_aald (j := i) hb dX7_copyFrom_18 (hL1.1 2 (by decide)) (by decide) (by decide) (IX.n (by omega)) (by omega) ?_
      refine b_aastO (j := i) (E := RX2) hb dX7_copyFrom_19 (hL1.1 11 (by decide)) (by decide) (by decide) rfl (IX.n (by omega)) (by omega) (by rw [show hQ h1 (B + 2) = hQ h (B + 2) from cf.2.2.2.2 _ (by omega) (by omega) (by omega)]; exact (ty.1 i (by omega)).cf cf) ?_
      generalize eh1 : (setQ h1 (B + 11) i (hQ h1 (B + 2) i)) = h1_
      have cf1 : CF (B + 10) h h1_ := by rw [← eh1]; exact CF.Q cf (by omega)
      have hL1 : LY h1_ B := cf1.ly (by omega) hL
      have hi1 : hI h1_ = hI h1 := by rw [← eh1, hI_Q2]
      have hq1 : ∀ b, b ≠ (B + 11) → hQ h1_ b = hQ h1 b := fun b hb_ => by rw [← eh1, hQ_Qa hb_]
      have hk1 : ∀ j, j ≠ i → hQ h1_ (B + 11) j = hQ h1 (B + 11) j := fun j hj => by rw [← eh1, hQ_Qk hj]
      have hw1 : hQ h1_ (B + 11) i = (hQ h1 (B + 2) i) := by rw [← eh1, hQ_Qs]
      clear eh1
      show AW V 0 0 h1_ 20 [(0, .ref (B + 10)), (1, .ref (B + 1)), (2, .int (nI i))] []
      refine a_aload_n hb dX7_copyFrom_20 rfl 0 rfl ?_
      refine a_getQ (q := (B + 12)) hb dX7_copyFrom_21 (by rw [ow]; exact fl_RX7_17_7) (hL1.1 10 (by decide)) (hL1.2.1 (10, 1, 12) (by decide)) ?_
      refine a_iload_n hb dX7_copyFrom_24 rfl 2 rfl ?_
      refine a_aload_n hb dX7_copyFrom_25 rfl 1 rfl ?_
      refine a_getQ (q := (B + 3)) hb dX7_copyFrom_26 (by rw [ow]; exact fl_RX7_17_7) (hL1.1 1 (by decide)) (hL1.2.1 (1, 1, 3) (by decide)) ?_
      refine a_iload_n hb dX7_copyFrom_29 rfl 2 rfl ?_
      refine b_iald (j := i) hb dX7_copyFrom_30 (hL1.1 3 (by decide)) (IX.n (by omega)) (by omega) ?_
      refine b_iast (j := i) hb dX7_copyFrom_31 (hL1.1 12 (by decide)) (IX.n (by omega)) (by omega) ?_
      generalize eh2 : (setI h1_ (B + 12) i (hI h1_ (B + 3) i)) = h2_
      have cf2 : CF (B + 10) h h2_ := by rw [← eh2]; exact CF.I cf1 (by omega)
      have hL2 : LY h2_ B := cf2.ly (by omega) hL
      have hi2 : ∀ b, b ≠ (B + 12) → hI h2_ b = hI h1_ b := fun b hb_ => by rw [← eh2, hI_setI_n hb_]
      have hq2 : hQ h2_ = hQ h1_ := by rw [← eh2, hQ_I]
      have hw2 : hI h2_ (B + 12) = upd (hI h1_ (B + 12)) i ((hI h1_ (B + 3) i)) := by rw [← eh2, hI_setI_s]
      clear eh2
      show AW V 0 0 h2_ 32 [(0, .ref (B + 10)), (1, .ref (B + 1)), (2, .int (nI i))] []
      refine a_aload_n hb dX7_copyFrom_32 rfl 0 rfl ?_
      refine a_getQ (q := (B + 13)) hb dX7_copyFrom_33 (by rw [ow]; exact fl_RX7_21_7) (hL2.1 10 (by decide)) (hL2.2.1 (10, 2, 13) (by decide)) ?_
      refine a_iload_n hb dX7_copyFrom_36 rfl 2 rfl ?_
      refine a_aload_n hb dX7_copyFrom_37 rfl 1 rfl ?_
      refine a_getQ (q := (B + 4)) hb dX7_copyFrom_38 (by rw [ow]; exact fl_RX7_21_7) (hL2.1 1 (by decide)) (hL2.2.1 (1, 2, 4) (by decide)) ?_
      refine a_iload_n hb dX7_copyFrom_41 rfl 2 rfl ?_
      refine b_iald (j := i) hb dX7_copyFrom_42 (hL2.1 4 (by decide)) (IX.n (by omega)) (by omega) ?_
      refine b_iast (j := i) hb dX7_copyFrom_43 (hL2.1 13 (by decide)) (IX.n (by omega)) (by omega) ?_
      generalize eh3 : (setI h2_ (B + 13) i (hI h2_ (B + 4) i)) = h3_
      have cf3 : CF (B + 10) h h3_ := by rw [← eh3]; exact CF.I cf2 (by omega)
      have hL3 : LY h3_ B := cf3.ly (by omega) hL
      have hi3 : ∀ b, b ≠ (B + 13) → hI h3_ b = hI h2_ b := fun b hb_ => by rw [← eh3, hI_setI_n hb_]
      have hq3 : hQ h3_ = hQ h2_ := by rw [← eh3, hQ_I]
      have hw3 : hI h3_ (B + 13) = upd (hI h2_ (B + 13)) i ((hI h2_ (B + 4) i)) := by rw [← eh3, hI_setI_s]
      clear eh3
      show AW V 0 0 h3_ 44 [(0, .ref (B + 10)), (1, .ref (B + 1)), (2, .int (nI i))] []
      refine a_iinc (v := ((nI i) + 1)) (L' := [(2, .int ((nI i) + 1)), (0, .ref (B + 10)), (1, .ref (B + 1))]) hb dX7_copyFrom_44 2 rfl rfl (by rw [hml]; decide) rfl ?_
      refine a_goto hb 2 dX7_copyFrom_47 (by decide) ?_
      refine AW.sub (L' := [(0, .ref (B + 10)), (1, .ref (B + 1)), (2, .int ((nI i) + 1))]) [1, 2, 0] rfl ?_
      exact AW.eq (ih (i + 1) h3_ cf3 (fun t ht => (Nat.lt_or_ge t i).elim (fun q => ⟨by rw [hq3, hq2, hk1 t (by omega)]; exact (iv t q).1, by rw [hi3 _ (by omega), hw2, upd_n (by omega), hi1]; exact (iv t q).2.1, by rw [hw3, upd_n (by omega), hi2 _ (by omega), hi1]; exact (iv t q).2.2⟩) (fun q => ⟨by rw [hq3, hq2, show t = i by omega, hw1, (show hQ h1 (B + 2) = hQ h (B + 2) from cf.2.2.2.2 _ (by omega) (by omega) (by omega))], by rw [hi3 _ (by omega), hw2, show t = i by omega, upd_s]; rw [(show hI h1_ (B + 3) = hI h (B + 3) from cf1.2.2.2.1 _ (by omega) (by omega) (by omega) (by omega) (by omega) (by omega))], by rw [hw3, show t = i by omega, upd_s]; rw [(show hI h2_ (B + 4) = hI h (B + 4) from cf2.2.2.2.1 _ (by omega) (by omega) (by omega) (by omega) (by omega) (by omega))]⟩)) (by omega)) rfl rfl (by first | (simp only [nI_1]; done) | (simp only [nI_1]; rfl)) rfl
  refine a_iconst (v := 0) hb dX7_copyFrom_0 (by decide) ?_
  refine a_istore_n (L' := [(2, .int 0), (0, .ref (B + 10)), (1, .ref (B + 1))]) hb dX7_copyFrom_1 rfl (by rw [hml]; decide) rfl ?_
  refine AW.sub (L' := [(0, .ref (B + 10)), (1, .ref (B + 1)), (2, .int 0)]) [1, 2, 0] rfl ?_
  exact AW.eq (loop1 8 0 h CF.rf (fun t ht => absurd ht (Nat.not_lt_zero t)) (by omega)) rfl rfl (rfl) rfl
set_option maxRecDepth 100000 in
theorem x_copy1 (g : GG) (h : AH) (B : Nat) (hL : LY h B) (ty : TY h (B + 10)) (hby : ∀ i, i < 120 → fits (aw_ty 13) (.int (hI h (B + 16) i)) = true) : AM g 1 0 0 mX7_copyFrom [.ref (B + 1), .ref (B + 10)] h (fun rv h' => rv = none ∧ CF (B + 1) h h' ∧ (∀ t, t < 8 → hQ h' (B + 2) t = hQ h (B + 11) t ∧ hI h' (B + 3) t = hI h (B + 12) t ∧ hI h' (B + 4) t = hI h (B + 13) t) ∧ (hI h' (B + 1) 3 = hI h (B + 10) 3) ∧ (∀ t, t < 5 → hQ h' (B + 5) t = hQ h (B + 14) t) ∧ (hI h' (B + 1) 5 = hI h (B + 10) 5) ∧ (∀ t, t < 5 → hQ h' (B + 6) t = hQ h (B + 15) t) ∧ (hI h' (B + 1) 7 = hI h (B + 10) 7) ∧ (∀ t, t < 120 → hI h' (B + 7) t = hI h (B + 16) t) ∧ (hI h' (B + 1) 9 = hI h (B + 10) 9) ∧ (∀ t, t < 20 → hI h' (B + 8) t = hI h (B + 17) t) ∧ (hI h' (B + 1) 11 = hI h (B + 10) 11) ∧ (∀ t, t < 3 → hI h' (B + 9) t = hI h (B + 18) t)) := by
  refine AM.of [(0, .ref (B + 1)), (1, .ref (B + 10))] (by decide) (Nat.le_of_ble_eq_true rfl) rfl ?_
  intro V hV
  have hb : V.2.1.2.1 = cX7_copyFrom := by subst hV; rfl
  have ow : V.2.1.1.cls = RX7 := by subst hV; rfl
  have hr : V.2.2.1 = aw_rm 1 0 0 := by subst hV; rfl
  have hz : V.2.2.2 = aw_Z V.1 (fun rv h' => rv = none ∧ CF (B + 1) h h' ∧ (∀ t, t < 8 → hQ h' (B + 2) t = hQ h (B + 11) t ∧ hI h' (B + 3) t = hI h (B + 12) t ∧ hI h' (B + 4) t = hI h (B + 13) t) ∧ (hI h' (B + 1) 3 = hI h (B + 10) 3) ∧ (∀ t, t < 5 → hQ h' (B + 5) t = hQ h (B + 14) t) ∧ (hI h' (B + 1) 5 = hI h (B + 10) 5) ∧ (∀ t, t < 5 → hQ h' (B + 6) t = hQ h (B + 15) t) ∧ (hI h' (B + 1) 7 = hI h (B + 10) 7) ∧ (∀ t, t < 120 → hI h' (B + 7) t = hI h (B + 16) t) ∧ (hI h' (B + 1) 9 = hI h (B + 10) 9) ∧ (∀ t, t < 20 → hI h' (B + 8) t = hI h (B + 17) t) ∧ (hI h' (B + 1) 11 = hI h (B + 10) 11) ∧ (∀ t, t < 3 → hI h' (B + 9) t = hI h (B + 18) t)) V.2.2.1 := by subst hV; rfl
  have hg : V.1 = g := by subst hV; rfl
  have hret : V.2.1.2.2.2 = none := by subst hV; rfl
  have hml : V.2.1.2.2.1 = 3 := by subst hV; rfl
  clear hV
  have loop3 : ∀ (k i : Nat) (h1 : AH) (cf : CF (B + 1) h h1) (iv : (∀ t, t < 8 → hQ h1 (B + 2) t = hQ h (B + 11) t ∧ hI h1 (B + 3) t = hI h (B + 12) t ∧ hI h1 (B + 4) t = hI h (B + 13) t) ∧ (hI h1 (B + 1) 3 = hI h (B + 10) 3) ∧ (∀ t, t < 5 → hQ h1 (B + 5) t = hQ h (B + 14) t) ∧ (hI h1 (B + 1) 5 = hI h (B + 10) 5) ∧ ∀ t, t < i → hQ h1 (B + 6) t = hQ h (B + 15) t), i + k = 5 → AW V 0 0 h1 93 [(0, .ref (B + 1)), (1, .ref (B + 10)), (2, .int (nI i))] [] := by
    intro k
    induction k with
    | zero =>
      intro i h1 cf iv hi
      have hL1 : LY h1 B := cf.ly (by omega) hL
      refine a_iload_n hb dX7_copyFrom_93 rfl 2 rfl ?_
      refine a_iconst (v := 5) hb dX7_copyFrom_94 (by decide) ?_
      refine a_icmp_ge hb 116 dX7_copyFrom_95 (by decide) (fun c95 => ?_) (fun c95 => absurd (nI_le (b := i) (a := 5) (by omega) (by omega)) c95)
      refine a_aload_n hb dX7_copyFrom_116 rfl 0 rfl ?_
      refine a_aload_n hb dX7_copyFrom_117 rfl 1 rfl ?_
      refine a_getI hb dX7_copyFrom_118 (by rw [ow]; exact fl_RX7_43_7) (hL1.1 10 (by decide)) ?_
      refine a_putI (fty := .int) hb dX7_copyFrom_121 (by rw [ow]; exact fp_RX7_43_7) (Or.inr (fun C T N hq => by cases hq; rfl)) (hL1.1 1 (by decide)) rfl rfl ?_
      generalize eh1 : (setI h1 (B + 1) 7 (hI h1 (B + 10) 7)) = h1_
      have cf1 : CF (B + 1) h h1_ := by rw [← eh1]; exact CF.I cf (by omega)
      have hL1 : LY h1_ B := cf1.ly (by omega) hL
      have hi1 : ∀ b, b ≠ (B + 1) → hI h1_ b = hI h1 b := fun b hb_ => by rw [← eh1, hI_setI_n hb_]
      have hq1 : hQ h1_ = hQ h1 := by rw [← eh1, hQ_I]
      have hw1 : hI h1_ (B + 1) = upd (hI h1 (B + 1)) 7 ((hI h1 (B + 10) 7)) := by rw [← eh1, hI_setI_s]
      clear eh1
      show AW V 0 0 h1_ 124 [(0, .ref (B + 1)), (1, .ref (B + 10)), (2, .int (nI i))] []
      refine a_aload_n hb dX7_copyFrom_124 rfl 1 rfl ?_
      refine a_getQ (q := (B + 16)) hb dX7_copyFrom_125 (by rw [ow]; exact fl_RX7_46_7) (hL1.1 10 (by decide)) (hL1.2.1 (10, 8, 16) (by decide)) ?_
      refine a_iconst (v := 0) hb dX7_copyFrom_128 (by decide) ?_
      refine a_aload_n hb dX7_copyFrom_129 rfl 0 rfl ?_
      refine a_getQ (q := (B + 7)) hb dX7_copyFrom_130 (by rw [ow]; exact fl_RX7_46_7) (hL1.1 1 (by decide)) (hL1.2.1 (1, 8, 7) (by decide)) ?_
      refine a_iconst (v := 0) hb dX7_copyFrom_133 (by decide) ?_
      refine a_bipush (v := 120) hb dX7_copyFrom_134 (by decide) ?_
      refine a_acopy (kd := 13) hb dX7_copyFrom_136 (by rw [ow]; exact kw_1012) kw_411 kw_410 kw_95 (by decide) (hL1.1 16 (by decide)) (hL1.1 7 (by decide)) (by decide) (by decide) (by decide) (by decide) (by decide) (fun i hi => by have e : hI h1_ (B + 16) = hI h (B + 16) := cf1.2.2.2.1 _ (by omega) (by omega) (by omega) (by omega) (by omega) (by omega); rw [e, show (0 : Int32).toNatClampNeg + i = i from Nat.zero_add i]; exact hby i hi) (by rw [hr]; exact ⟨by decide, Nat.le_of_ble_eq_true rfl⟩) ?_
      rw [show (0 : Int32).toNatClampNeg = 0 from by decide, show (120 : Int32).toNatClampNeg = 120 from by decide]
      show AW V 0 0 (setR h1_ (B + 7) (va_cpy (hI h1_ (B + 16)) (hI h1_ (B + 7)) 0 0 120)) 139 [(0, .ref (B + 1)), (1, .ref (B + 10)), (2, .int (nI i))] []
      generalize eh2 : (setR h1_ (B + 7) (va_cpy (hI h1_ (B + 16)) (hI h1_ (B + 7)) 0 0 120)) = h2_
      have cf2 : CF (B + 1) h h2_ := by rw [← eh2]; exact CF.R cf1 (by omega)
      have hL2 : LY h2_ B := cf2.ly (by omega) hL
      have hi2 : ∀ b, b ≠ (B + 7) → hI h2_ b = hI h1_ b := fun b hb_ => by rw [← eh2, hI_Rn hb_]
      have hq2 : hQ h2_ = hQ h1_ := by rw [← eh2, hQ_R]
      have hw2 : hI h2_ (B + 7) = (va_cpy (hI h1_ (B + 16)) (hI h1_ (B + 7)) 0 0 120) := by rw [← eh2, hI_R]
      clear eh2
      show AW V 0 0 h2_ 139 [(0, .ref (B + 1)), (1, .ref (B + 10)), (2, .int (nI i))] []
      refine a_aload_n hb dX7_copyFrom_139 rfl 0 rfl ?_
      refine a_aload_n hb dX7_copyFrom_140 rfl 1 rfl ?_
      refine a_getI hb dX7_copyFrom_141 (by rw [ow]; exact fl_RX7_50_7) (hL2.1 10 (by decide)) ?_
      refine a_putI (fty := .int) hb dX7_copyFrom_144 (by rw [ow]; exact fp_RX7_50_7) (Or.inr (fun C T N hq => by cases hq; rfl)) (hL2.1 1 (by decide)) rfl rfl ?_
      generalize eh3 : (setI h2_ (B + 1) 9 (hI h2_ (B + 10) 9)) = h3_
      have cf3 : CF (B + 1) h h3_ := by rw [← eh3]; exact CF.I cf2 (by omega)
      have hL3 : LY h3_ B := cf3.ly (by omega) hL
      have hi3 : ∀ b, b ≠ (B + 1) → hI h3_ b = hI h2_ b := fun b hb_ => by rw [← eh3, hI_setI_n hb_]
      have hq3 : hQ h3_ = hQ h2_ := by rw [← eh3, hQ_I]
      have hw3 : hI h3_ (B + 1) = upd (hI h2_ (B + 1)) 9 ((hI h2_ (B + 10) 9)) := by rw [← eh3, hI_setI_s]
      clear eh3
      show AW V 0 0 h3_ 147 [(0, .ref (B + 1)), (1, .ref (B + 10)), (2, .int (nI i))] []
      refine a_aload_n hb dX7_copyFrom_147 rfl 1 rfl ?_
      refine a_getQ (q := (B + 17)) hb dX7_copyFrom_148 (by rw [ow]; exact fl_RX7_53_7) (hL3.1 10 (by decide)) (hL3.2.1 (10, 10, 17) (by decide)) ?_
      refine a_iconst (v := 0) hb dX7_copyFrom_151 (by decide) ?_
      refine a_aload_n hb dX7_copyFrom_152 rfl 0 rfl ?_
      refine a_getQ (q := (B + 8)) hb dX7_copyFrom_153 (by rw [ow]; exact fl_RX7_53_7) (hL3.1 1 (by decide)) (hL3.2.1 (1, 10, 8) (by decide)) ?_
      refine a_iconst (v := 0) hb dX7_copyFrom_156 (by decide) ?_
      refine a_bipush (v := 20) hb dX7_copyFrom_157 (by decide) ?_
      refine a_acopy (kd := 14) hb dX7_copyFrom_159 (by rw [ow]; exact kw_1012) kw_411 kw_410 kw_95 (by decide) (hL3.1 17 (by decide)) (hL3.1 8 (by decide)) (by decide) (by decide) (by decide) (by decide) (by decide) (fun _ _ => rfl) (by rw [hr]; exact ⟨by decide, Nat.le_of_ble_eq_true rfl⟩) ?_
      rw [show (0 : Int32).toNatClampNeg = 0 from by decide, show (20 : Int32).toNatClampNeg = 20 from by decide]
      show AW V 0 0 (setR h3_ (B + 8) (va_cpy (hI h3_ (B + 17)) (hI h3_ (B + 8)) 0 0 20)) 162 [(0, .ref (B + 1)), (1, .ref (B + 10)), (2, .int (nI i))] []
      generalize eh4 : (setR h3_ (B + 8) (va_cpy (hI h3_ (B + 17)) (hI h3_ (B + 8)) 0 0 20)) = h4_
      have cf4 : CF (B + 1) h h4_ := by rw [← eh4]; exact CF.R cf3 (by omega)
      have hL4 : LY h4_ B := cf4.ly (by omega) hL
      have hi4 : ∀ b, b ≠ (B + 8) → hI h4_ b = hI h3_ b := fun b hb_ => by rw [← eh4, hI_Rn hb_]
      have hq4 : hQ h4_ = hQ h3_ := by rw [← eh4, hQ_R]
      have hw4 : hI h4_ (B + 8) = (va_cpy (hI h3_ (B + 17)) (hI h3_ (B + 8)) 0 0 20) := by rw [← eh4, hI_R]
      clear eh4
      show AW V 0 0 h4_ 162 [(0, .ref (B + 1)), (1, .ref (B + 10)), (2, .int (nI i))] []
      refine a_aload_n hb dX7_copyFrom_162 rfl 0 rfl ?_
      refine a_aload_n hb dX7_copyFrom_163 rfl 1 rfl ?_
      refine a_getI hb dX7_copyFrom_164 (by rw [ow]; exact fl_RX7_56_7) (hL4.1 10 (by decide)) ?_
      refine a_putI (fty := .int) hb dX7_copyFrom_167 (by rw [ow]; exact fp_RX7_56_7) (Or.inr (fun C T N hq => by cases hq; rfl)) (hL4.1 1 (by decide)) rfl rfl ?_
      generalize eh5 : (setI h4_ (B + 1) 11 (hI h4_ (B + 10) 11)) = h5_
      have cf5 : CF (B + 1) h h5_ := by rw [← eh5]; exact CF.I cf4 (by omega)
      have hL5 : LY h5_ B := cf5.ly (by omega) hL
      have hi5 : ∀ b, b ≠ (B + 1) → hI h5_ b = hI h4_ b := fun b hb_ => by rw [← eh5, hI_setI_n hb_]
      have hq5 : hQ h5_ = hQ h4_ := by rw [← eh5, hQ_I]
      have hw5 : hI h5_ (B + 1) = upd (hI h4_ (B + 1)) 11 ((hI h4_ (B + 10) 11)) := by rw [← eh5, hI_setI_s]
      clear eh5
      show AW V 0 0 h5_ 170 [(0, .ref (B + 1)), (1, .ref (B + 10)), (2, .int (nI i))] []
      refine a_aload_n hb dX7_copyFrom_170 rfl 1 rfl ?_
      refine a_getQ (q := (B + 18)) hb dX7_copyFrom_171 (by rw [ow]; exact fl_RX7_59_7) (hL5.1 10 (by decide)) (hL5.2.1 (10, 12, 18) (by decide)) ?_
      refine a_iconst (v := 0) hb dX7_copyFrom_174 (by decide) ?_
      refine a_aload_n hb dX7_copyFrom_175 rfl 0 rfl ?_
      refine a_getQ (q := (B + 9)) hb dX7_copyFrom_176 (by rw [ow]; exact fl_RX7_59_7) (hL5.1 1 (by decide)) (hL5.2.1 (1, 12, 9) (by decide)) ?_
      refine a_iconst (v := 0) hb dX7_copyFrom_179 (by decide) ?_
      refine a_aload_n hb dX7_copyFrom_180 rfl 0 rfl ?_
      refine a_getQ (q := (B + 9)) hb dX7_copyFrom_181 (by rw [ow]; exact fl_RX7_59_7) (hL5.1 1 (by decide)) (hL5.2.1 (1, 12, 9) (by decide)) ?_
      refine a_alenI (v := 3) hb dX7_copyFrom_184 (hL5.1 9 (by decide)) (by decide) rfl ?_
      refine a_acopy (kd := 14) hb dX7_copyFrom_185 (by rw [ow]; exact kw_1012) kw_411 kw_410 kw_95 (by decide) (hL5.1 18 (by decide)) (hL5.1 9 (by decide)) (by decide) (by decide) (by decide) (by decide) (by decide) (fun _ _ => rfl) (by rw [hr]; exact ⟨by decide, Nat.le_of_ble_eq_true rfl⟩) ?_
      rw [show (0 : Int32).toNatClampNeg = 0 from by decide, show (3 : Int32).toNatClampNeg = 3 from by decide]
      show AW V 0 0 (setR h5_ (B + 9) (va_cpy (hI h5_ (B + 18)) (hI h5_ (B + 9)) 0 0 3)) 188 [(0, .ref (B + 1)), (1, .ref (B + 10)), (2, .int (nI i))] []
      generalize eh6 : (setR h5_ (B + 9) (va_cpy (hI h5_ (B + 18)) (hI h5_ (B + 9)) 0 0 3)) = h6_
      have cf6 : CF (B + 1) h h6_ := by rw [← eh6]; exact CF.R cf5 (by omega)
      have hL6 : LY h6_ B := cf6.ly (by omega) hL
      have hi6 : ∀ b, b ≠ (B + 9) → hI h6_ b = hI h5_ b := fun b hb_ => by rw [← eh6, hI_Rn hb_]
      have hq6 : hQ h6_ = hQ h5_ := by rw [← eh6, hQ_R]
      have hw6 : hI h6_ (B + 9) = (va_cpy (hI h5_ (B + 18)) (hI h5_ (B + 9)) 0 0 3) := by rw [← eh6, hI_R]
      clear eh6
      show AW V 0 0 h6_ 188 [(0, .ref (B + 1)), (1, .ref (B + 10)), (2, .int (nI i))] []
      exact a_return hb hz dX7_copyFrom_188 hret (by rw [hr]; exact Nat.le_of_ble_eq_true rfl) (by rw [hr]; exact Nat.le_of_ble_eq_true rfl) (⟨rfl, cf6, fun t ht => by rw [hq6, hq5, hq4, hq3, hq2, hq1, hi6 _ (by omega), hi5 _ (by omega), hi4 _ (by omega), hi3 _ (by omega), hi2 _ (by omega), hi1 _ (by omega), hi6 _ (by omega), hi5 _ (by omega), hi4 _ (by omega), hi3 _ (by omega), hi2 _ (by omega), hi1 _ (by omega)]; exact iv.1 t ht, by rw [hi6 _ (by omega), hw5, upd_n (by decide), hi4 _ (by omega), hw3, upd_n (by decide), hi2 _ (by omega), hw1, upd_n (by decide)]; exact iv.2.1, fun t ht => by rw [hq6, hq5, hq4, hq3, hq2, hq1]; exact iv.2.2.1 t ht, by rw [hi6 _ (by omega), hw5, upd_n (by decide), hi4 _ (by omega), hw3, upd_n (by decide), hi2 _ (by omega), hw1, upd_n (by decide)]; exact iv.2.2.2.1, fun t ht => by rw [hq6, hq5, hq4, hq3, hq2, hq1]; exact iv.2.2.2.2 t (by omega), by rw [hi6 _ (by omega), hw5, upd_n (by decide), hi4 _ (by omega), hw3, upd_n (by decide), hi2 _ (by omega), hw1, upd_s]; rw [(show hI h1 (B + 10) = hI h (B + 10) from cf.2.2.2.1 _ (by omega) (by omega) (by omega) (by omega) (by omega) (by omega))], fun t ht => by rw [hi6 _ (by omega), hi5 _ (by omega), hi4 _ (by omega), hi3 _ (by omega), hw2, pk_cpy_in (Nat.zero_le _) (by omega), Nat.zero_add, Nat.sub_zero]; rw [(show hI h1_ (B + 16) = hI h (B + 16) from cf1.2.2.2.1 _ (by omega) (by omega) (by omega) (by omega) (by omega) (by omega))], by rw [hi6 _ (by omega), hw5, upd_n (by decide), hi4 _ (by omega), hw3, upd_s]; rw [(show hI h2_ (B + 10) = hI h (B + 10) from cf2.2.2.2.1 _ (by omega) (by omega) (by omega) (by omega) (by omega) (by omega))], fun t ht => by rw [hi6 _ (by omega), hi5 _ (by omega), hw4, pk_cpy_in (Nat.zero_le _) (by omega), Nat.zero_add, Nat.sub_zero]; rw [(show hI h3_ (B + 17) = hI h (B + 17) from cf3.2.2.2.1 _ (by omega) (by omega) (by omega) (by omega) (by omega) (by omega))], by rw [hi6 _ (by omega), hw5, upd_s]; rw [(show hI h4_ (B + 10) = hI h (B + 10) from cf4.2.2.2.1 _ (by omega) (by omega) (by omega) (by omega) (by omega) (by omega))], fun t ht => by rw [hw6, pk_cpy_in (Nat.zero_le _) (by omega), Nat.zero_add, Nat.sub_zero]; rw [(show hI h5_ (B + 18) = hI h (B + 18) from cf5.2.2.2.1 _ (by omega) (by omega) (by omega) (by omega) (by omega) (by omega))]⟩)
    | succ k ih =>
      intro i h1 cf iv hi
      have hL1 : LY h1 B := cf.ly (by omega) hL
      refine a_iload_n hb dX7_copyFrom_93 rfl 2 rfl ?_
      refine a_iconst (v := 5) hb dX7_copyFrom_94 (by decide) ?_
      refine a_icmp_ge hb 116 dX7_copyFrom_95 (by decide) (fun c95 => absurd c95 (nI_ge (b := 5) (a := i) (by omega) (by omega))) (fun c95 => ?_)
      refine a_aload_n hb dX7_copyFrom_98 rfl 0 rfl ?_
      refine a_getQ (q := (B + 6)) hb dX7_copyFrom_99 (by rw [ow]; exact fl_RX7_39_7) (hL1.1 1 (by decide)) (hL1.2.1 (1, 6, 6) (by decide)) ?_
      refine a_iload_n hb dX7_copyFrom_102 rfl 2 rfl ?_
      refine a_aload_n hb dX7_copyFrom_103 rfl 1 rfl ?_
      refine a_getQ (q := (B + 15)) hb dX7_copyFrom_104 (by rw [ow]; exact fl_RX7_39_7) (hL1.1 10 (by decide)) (hL1.2.1 (10, 6, 15) (by decide)) ?_
      refine a_iload_n hb dX7_copyFrom_107 rfl 2 rfl ?_
      refine b_aald (j := i) hb dX7_copyFrom_108 (hL1.1 15 (by decide)) (by decide) (by decide) (IX.n (by omega)) (by omega) ?_
      refine b_aastO (j := i) (E := RX10) hb dX7_copyFrom_109 (hL1.1 6 (by decide)) (by decide) (by decide) rfl (IX.n (by omega)) (by omega) (by rw [show hQ h1 (B + 15) = hQ h (B + 15) from cf.2.2.2.2 _ (by omega) (by omega) (by omega)]; exact (ty.2.2 i (by omega)).cf cf) ?_
      generalize eh1 : (setQ h1 (B + 6) i (hQ h1 (B + 15) i)) = h1_
      have cf1 : CF (B + 1) h h1_ := by rw [← eh1]; exact CF.Q cf (by omega)
      have hL1 : LY h1_ B := cf1.ly (by omega) hL
      have hi1 : hI h1_ = hI h1 := by rw [← eh1, hI_Q2]
      have hq1 : ∀ b, b ≠ (B + 6) → hQ h1_ b = hQ h1 b := fun b hb_ => by rw [← eh1, hQ_Qa hb_]
      have hk1 : ∀ j, j ≠ i → hQ h1_ (B + 6) j = hQ h1 (B + 6) j := fun j hj => by rw [← eh1, hQ_Qk hj]
      have hw1 : hQ h1_ (B + 6) i = (hQ h1 (B + 15) i) := by rw [← eh1, hQ_Qs]
      clear eh1
      show AW V 0 0 h1_ 110 [(0, .ref (B + 1)), (1, .ref (B + 10)), (2, .int (nI i))] []
      refine a_iinc (v := ((nI i) + 1)) (L' := [(2, .int ((nI i) + 1)), (0, .ref (B + 1)), (1, .ref (B + 10))]) hb dX7_copyFrom_110 2 rfl rfl (by rw [hml]; decide) rfl ?_
      refine a_goto hb 93 dX7_copyFrom_113 (by decide) ?_
      refine AW.sub (L' := [(0, .ref (B + 1)), (1, .ref (B + 10)), (2, .int ((nI i) + 1))]) [1, 2, 0] rfl ?_
      exact AW.eq (ih (i + 1) h1_ cf1 (⟨fun t ht => by rw [hq1 _ (by omega), hi1]; exact iv.1 t ht, by rw [hi1]; exact iv.2.1, fun t ht => by rw [hq1 _ (by omega)]; exact iv.2.2.1 t ht, by rw [hi1]; exact iv.2.2.2.1, fun t ht => (Nat.lt_or_ge t i).elim (fun q => by rw [hk1 t (by omega)]; exact iv.2.2.2.2 t q) (fun q => by rw [show t = i by omega, hw1, (show hQ h1 (B + 15) = hQ h (B + 15) from cf.2.2.2.2 _ (by omega) (by omega) (by omega))])⟩) (by omega)) rfl rfl (by first | (simp only [nI_1]; done) | (simp only [nI_1]; rfl)) rfl
  have loop2 : ∀ (k i : Nat) (h1 : AH) (cf : CF (B + 1) h h1) (iv : (∀ t, t < 8 → hQ h1 (B + 2) t = hQ h (B + 11) t ∧ hI h1 (B + 3) t = hI h (B + 12) t ∧ hI h1 (B + 4) t = hI h (B + 13) t) ∧ (hI h1 (B + 1) 3 = hI h (B + 10) 3) ∧ ∀ t, t < i → hQ h1 (B + 5) t = hQ h (B + 14) t), i + k = 5 → AW V 0 0 h1 60 [(0, .ref (B + 1)), (1, .ref (B + 10)), (2, .int (nI i))] [] := by
    intro k
    induction k with
    | zero =>
      intro i h1 cf iv hi
      have hL1 : LY h1 B := cf.ly (by omega) hL
      refine a_iload_n hb dX7_copyFrom_60 rfl 2 rfl ?_
      refine a_iconst (v := 5) hb dX7_copyFrom_61 (by decide) ?_
      refine a_icmp_ge hb 83 dX7_copyFrom_62 (by decide) (fun c62 => ?_) (fun c62 => absurd (nI_le (b := i) (a := 5) (by omega) (by omega)) c62)
      refine a_aload_n hb dX7_copyFrom_83 rfl 0 rfl ?_
      refine a_aload_n hb dX7_copyFrom_84 rfl 1 rfl ?_
      refine a_getI hb dX7_copyFrom_85 (by rw [ow]; exact fl_RX7_34_7) (hL1.1 10 (by decide)) ?_
      refine a_putI (fty := .int) hb dX7_copyFrom_88 (by rw [ow]; exact fp_RX7_34_7) (Or.inr (fun C T N hq => by cases hq; rfl)) (hL1.1 1 (by decide)) rfl rfl ?_
      generalize eh1 : (setI h1 (B + 1) 5 (hI h1 (B + 10) 5)) = h1_
      have cf1 : CF (B + 1) h h1_ := by rw [← eh1]; exact CF.I cf (by omega)
      have hL1 : LY h1_ B := cf1.ly (by omega) hL
      have hi1 : ∀ b, b ≠ (B + 1) → hI h1_ b = hI h1 b := fun b hb_ => by rw [← eh1, hI_setI_n hb_]
      have hq1 : hQ h1_ = hQ h1 := by rw [← eh1, hQ_I]
      have hw1 : hI h1_ (B + 1) = upd (hI h1 (B + 1)) 5 ((hI h1 (B + 10) 5)) := by rw [← eh1, hI_setI_s]
      clear eh1
      show AW V 0 0 h1_ 91 [(0, .ref (B + 1)), (1, .ref (B + 10)), (2, .int (nI i))] []
      refine a_iconst (v := 0) hb dX7_copyFrom_91 (by decide) ?_
      refine a_istore_n (L' := [(2, .int 0), (0, .ref (B + 1)), (1, .ref (B + 10))]) hb dX7_copyFrom_92 rfl (by rw [hml]; decide) rfl ?_
      refine AW.sub (L' := [(0, .ref (B + 1)), (1, .ref (B + 10)), (2, .int 0)]) [1, 2, 0] rfl ?_
      exact AW.eq (loop3 5 0 h1_ cf1 ⟨fun t ht => by rw [hq1, hi1 _ (by omega), hi1 _ (by omega)]; exact iv.1 t ht, by rw [hw1, upd_n (by decide)]; exact iv.2.1, fun t ht => by rw [hq1]; exact iv.2.2 t (by omega), by rw [hw1, upd_s]; rw [(show hI h1 (B + 10) = hI h (B + 10) from cf.2.2.2.1 _ (by omega) (by omega) (by omega) (by omega) (by omega) (by omega))], fun t ht => absurd ht (Nat.not_lt_zero t)⟩ (by omega)) rfl rfl (rfl) rfl
    | succ k ih =>
      intro i h1 cf iv hi
      have hL1 : LY h1 B := cf.ly (by omega) hL
      refine a_iload_n hb dX7_copyFrom_60 rfl 2 rfl ?_
      refine a_iconst (v := 5) hb dX7_copyFrom_61 (by decide) ?_
      refine a_icmp_ge hb 83 dX7_copyFrom_62 (by decide) (fun c62 => absurd c62 (nI_ge (b := 5) (a := i) (by omega) (by omega))) (fun c62 => ?_)
      refine a_aload_n hb dX7_copyFrom_65 rfl 0 rfl ?_
      refine a_getQ (q := (B + 5)) hb dX7_copyFrom_66 (by rw [ow]; exact fl_RX7_30_7) (hL1.1 1 (by decide)) (hL1.2.1 (1, 4, 5) (by decide)) ?_
      refine a_iload_n hb dX7_copyFrom_69 rfl 2 rfl ?_
      refine a_aload_n hb dX7_copyFrom_70 rfl 1 rfl ?_
      refine a_getQ (q := (B + 14)) hb dX7_copyFrom_71 (by rw [ow]; exact fl_RX7_30_7) (hL1.1 10 (by decide)) (hL1.2.1 (10, 4, 14) (by decide)) ?_
      refine a_iload_n hb dX7_copyFrom_74 rfl 2 rfl ?_
      refine b_aald (j := i) hb dX7_copyFrom_75 (hL1.1 14 (by decide)) (by decide) (by decide) (IX.n (by omega)) (by omega) ?_
      refine b_aastO (j := i) (E := RX1) hb dX7_copyFrom_76 (hL1.1 5 (by decide)) (by decide) (by decide) rfl (IX.n (by omega)) (by omega) (by rw [show hQ h1 (B + 14) = hQ h (B + 14) from cf.2.2.2.2 _ (by omega) (by omega) (by omega)]; exact (ty.2.1 i (by omega)).cf cf) ?_
      generalize eh1 : (setQ h1 (B + 5) i (hQ h1 (B + 14) i)) = h1_
      have cf1 : CF (B + 1) h h1_ := by rw [← eh1]; exact CF.Q cf (by omega)
      have hL1 : LY h1_ B := cf1.ly (by omega) hL
      have hi1 : hI h1_ = hI h1 := by rw [← eh1, hI_Q2]
      have hq1 : ∀ b, b ≠ (B + 5) → hQ h1_ b = hQ h1 b := fun b hb_ => by rw [← eh1, hQ_Qa hb_]
      have hk1 : ∀ j, j ≠ i → hQ h1_ (B + 5) j = hQ h1 (B + 5) j := fun j hj => by rw [← eh1, hQ_Qk hj]
      have hw1 : hQ h1_ (B + 5) i = (hQ h1 (B + 14) i) := by rw [← eh1, hQ_Qs]
      clear eh1
      show AW V 0 0 h1_ 77 [(0, .ref (B + 1)), (1, .ref (B + 10)), (2, .int (nI i))] []
      refine a_iinc (v := ((nI i) + 1)) (L' := [(2, .int ((nI i) + 1)), (0, .ref (B + 1)), (1, .ref (B + 10))]) hb dX7_copyFrom_77 2 rfl rfl (by rw [hml]; decide) rfl ?_
      refine a_goto hb 60 dX7_copyFrom_80 (by decide) ?_
      refine AW.sub (L' := [(0, .ref (B + 1)), (1, .ref (B + 10)), (2, .int ((nI i) + 1))]) [1, 2, 0] rfl ?_
      exact AW.eq (ih (i + 1) h1_ cf1 (⟨fun t ht => by rw [hq1 _ (by omega), hi1]; exact iv.1 t ht, by rw [hi1]; exact iv.2.1, fun t ht => (Nat.lt_or_ge t i).elim (fun q => by rw [hk1 t (by omega)]; exact iv.2.2 t q) (fun q => by rw [show t = i by omega, hw1, (show hQ h1 (B + 14) = hQ h (B + 14) from cf.2.2.2.2 _ (by omega) (by omega) (by omega))])⟩) (by omega)) rfl rfl (by first | (simp only [nI_1]; done) | (simp only [nI_1]; rfl)) rfl
  have loop1 : ∀ (k i : Nat) (h1 : AH) (cf : CF (B + 1) h h1) (iv : ∀ t, t < i → hQ h1 (B + 2) t = hQ h (B + 11) t ∧ hI h1 (B + 3) t = hI h (B + 12) t ∧ hI h1 (B + 4) t = hI h (B + 13) t), i + k = 8 → AW V 0 0 h1 2 [(0, .ref (B + 1)), (1, .ref (B + 10)), (2, .int (nI i))] [] := by
    intro k
    induction k with
    | zero =>
      intro i h1 cf iv hi
      have hL1 : LY h1 B := cf.ly (by omega) hL
      refine a_iload_n hb dX7_copyFrom_2 rfl 2 rfl ?_
      refine a_bipush (v := 8) hb dX7_copyFrom_3 (by decide) ?_
      refine a_icmp_ge hb 50 dX7_copyFrom_5 (by decide) (fun c5 => ?_) (fun c5 => absurd (nI_le (b := i) (a := 8) (by omega) (by omega)) c5)
      refine a_aload_n hb dX7_copyFrom_50 rfl 0 rfl ?_
      refine a_aload_n hb dX7_copyFrom_51 rfl 1 rfl ?_
      refine a_getI hb dX7_copyFrom_52 (by rw [ow]; exact fl_RX7_24_7) (hL1.1 10 (by decide)) ?_
      refine a_putI (fty := .int) hb dX7_copyFrom_55 (by rw [ow]; exact fp_RX7_24_7) (Or.inr (fun C T N hq => by cases hq; rfl)) (hL1.1 1 (by decide)) rfl rfl ?_
      generalize eh1 : (setI h1 (B + 1) 3 (hI h1 (B + 10) 3)) = h1_
      have cf1 : CF (B + 1) h h1_ := by rw [← eh1]; exact CF.I cf (by omega)
      have hL1 : LY h1_ B := cf1.ly (by omega) hL
      have hi1 : ∀ b, b ≠ (B + 1) → hI h1_ b = hI h1 b := fun b hb_ => by rw [← eh1, hI_setI_n hb_]
      have hq1 : hQ h1_ = hQ h1 := by rw [← eh1, hQ_I]
      have hw1 : hI h1_ (B + 1) = upd (hI h1 (B + 1)) 3 ((hI h1 (B + 10) 3)) := by rw [← eh1, hI_setI_s]
      clear eh1
      show AW V 0 0 h1_ 58 [(0, .ref (B + 1)), (1, .ref (B + 10)), (2, .int (nI i))] []
      refine a_iconst (v := 0) hb dX7_copyFrom_58 (by decide) ?_
      refine a_istore_n (L' := [(2, .int 0), (0, .ref (B + 1)), (1, .ref (B + 10))]) hb dX7_copyFrom_59 rfl (by rw [hml]; decide) rfl ?_
      refine AW.sub (L' := [(0, .ref (B + 1)), (1, .ref (B + 10)), (2, .int 0)]) [1, 2, 0] rfl ?_
      exact AW.eq (loop2 5 0 h1_ cf1 ⟨fun t ht => by rw [hq1, hi1 _ (by omega), hi1 _ (by omega)]; exact iv t (by omega), by rw [hw1, upd_s]; rw [(show hI h1 (B + 10) = hI h (B + 10) from cf.2.2.2.1 _ (by omega) (by omega) (by omega) (by omega) (by omega) (by omega))], fun t ht => absurd ht (Nat.not_lt_zero t)⟩ (by omega)) rfl rfl (rfl) rfl
    | succ k ih =>
      intro i h1 cf iv hi
      have hL1 : LY h1 B := cf.ly (by omega) hL
      refine a_iload_n hb dX7_copyFrom_2 rfl 2 rfl ?_
      refine a_bipush (v := 8) hb dX7_copyFrom_3 (by decide) ?_
      refine a_icmp_ge hb 50 dX7_copyFrom_5 (by decide) (fun c5 => absurd c5 (nI_ge (b := 8) (a := i) (by omega) (by omega))) (fun c5 => ?_)
      refine a_aload_n hb dX7_copyFrom_8 rfl 0 rfl ?_
      refine a_getQ (q := (B + 2)) hb dX7_copyFrom_9 (by rw [ow]; exact fl_RX7_11_7) (hL1.1 1 (by decide)) (hL1.2.1 (1, 0, 2) (by decide)) ?_
      refine a_iload_n hb dX7_copyFrom_12 rfl 2 rfl ?_
      refine a_aload_n hb dX7_copyFrom_13 rfl 1 rfl ?_
      refine a_getQ (q := (B + 11)) hb dX7_copyFrom_14 (by rw [ow]; exact fl_RX7_11_7) (hL1.1 10 (by decide)) (hL1.2.1 (10, 0, 11) (by decide)) ?_
      refine a_iload_n hb dX7_copyFrom_17 rfl 2 rfl ?_
      refine b_aald (j := i) hb dX7_copyFrom_18 (hL1.1 11 (by decide)) (by decide) (by decide) (IX.n (by omega)) (by omega) ?_
      refine b_aastO (j := i) (E := RX2) hb dX7_copyFrom_19 (hL1.1 2 (by decide)) (by decide) (by decide) rfl (IX.n (by omega)) (by omega) (by rw [show hQ h1 (B + 11) = hQ h (B + 11) from cf.2.2.2.2 _ (by omega) (by omega) (by omega)]; exact (ty.1 i (by omega)).cf cf) ?_
      generalize eh1 : (setQ h1 (B + 2) i (hQ h1 (B + 11) i)) = h1_
      have cf1 : CF (B + 1) h h1_ := by rw [← eh1]; exact CF.Q cf (by omega)
      have hL1 : LY h1_ B := cf1.ly (by omega) hL
      have hi1 : hI h1_ = hI h1 := by rw [← eh1, hI_Q2]
      have hq1 : ∀ b, b ≠ (B + 2) → hQ h1_ b = hQ h1 b := fun b hb_ => by rw [← eh1, hQ_Qa hb_]
      have hk1 : ∀ j, j ≠ i → hQ h1_ (B + 2) j = hQ h1 (B + 2) j := fun j hj => by rw [← eh1, hQ_Qk hj]
      have hw1 : hQ h1_ (B + 2) i = (hQ h1 (B + 11) i) := by rw [← eh1, hQ_Qs]
      clear eh1
      show AW V 0 0 h1_ 20 [(0, .ref (B + 1)), (1, .ref (B + 10)), (2, .int (nI i))] []
      refine a_aload_n hb dX7_copyFrom_20 rfl 0 rfl ?_
      refine a_getQ (q := (B + 3)) hb dX7_copyFrom_21 (by rw [ow]; exact fl_RX7_17_7) (hL1.1 1 (by decide)) (hL1.2.1 (1, 1, 3) (by decide)) ?_
      refine a_iload_n hb dX7_copyFrom_24 rfl 2 rfl ?_
      refine a_aload_n hb dX7_copyFrom_25 rfl 1 rfl ?_
      refine a_getQ (q := (B + 12)) hb dX7_copyFrom_26 (by rw [ow]; exact fl_RX7_17_7) (hL1.1 10 (by decide)) (hL1.2.1 (10, 1, 12) (by decide)) ?_
      refine a_iload_n hb dX7_copyFrom_29 rfl 2 rfl ?_
      refine b_iald (j := i) hb dX7_copyFrom_30 (hL1.1 12 (by decide)) (IX.n (by omega)) (by omega) ?_
      refine b_iast (j := i) hb dX7_copyFrom_31 (hL1.1 3 (by decide)) (IX.n (by omega)) (by omega) ?_
      generalize eh2 : (setI h1_ (B + 3) i (hI h1_ (B + 12) i)) = h2_
      have cf2 : CF (B + 1) h h2_ := by rw [← eh2]; exact CF.I cf1 (by omega)
      have hL2 : LY h2_ B := cf2.ly (by omega) hL
      have hi2 : ∀ b, b ≠ (B + 3) → hI h2_ b = hI h1_ b := fun b hb_ => by rw [← eh2, hI_setI_n hb_]
      have hq2 : hQ h2_ = hQ h1_ := by rw [← eh2, hQ_I]
      have hw2 : hI h2_ (B + 3) = upd (hI h1_ (B + 3)) i ((hI h1_ (B + 12) i)) := by rw [← eh2, hI_setI_s]
      clear eh2
      show AW V 0 0 h2_ 32 [(0, .ref (B + 1)), (1, .ref (B + 10)), (2, .int (nI i))] []
      refine a_aload_n hb dX7_copyFrom_32 rfl 0 rfl ?_
      refine a_getQ (q := (B + 4)) hb dX7_copyFrom_33 (by rw [ow]; exact fl_RX7_21_7) (hL2.1 1 (by decide)) (hL2.2.1 (1, 2, 4) (by decide)) ?_
      refine a_iload_n hb dX7_copyFrom_36 rfl 2 rfl ?_
      refine a_aload_n hb dX7_copyFrom_37 rfl 1 rfl ?_
      refine a_getQ (q := (B + 13)) hb dX7_copyFrom_38 (by rw [ow]; exact fl_RX7_21_7) (hL2.1 10 (by decide)) (hL2.2.1 (10, 2, 13) (by decide)) ?_
      refine a_iload_n hb dX7_copyFrom_41 rfl 2 rfl ?_
      refine b_iald (j := i) hb dX7_copyFrom_42 (hL2.1 13 (by decide)) (IX.n (by omega)) (by omega) ?_
      refine b_iast (j := i) hb dX7_copyFrom_43 (hL2.1 4 (by decide)) (IX.n (by omega)) (by omega) ?_
      generalize eh3 : (setI h2_ (B + 4) i (hI h2_ (B + 13) i)) = h3_
      have cf3 : CF (B + 1) h h3_ := by rw [← eh3]; exact CF.I cf2 (by omega)
      have hL3 : LY h3_ B := cf3.ly (by omega) hL
      have hi3 : ∀ b, b ≠ (B + 4) → hI h3_ b = hI h2_ b := fun b hb_ => by rw [← eh3, hI_setI_n hb_]
      have hq3 : hQ h3_ = hQ h2_ := by rw [← eh3, hQ_I]
      have hw3 : hI h3_ (B + 4) = upd (hI h2_ (B + 4)) i ((hI h2_ (B + 13) i)) := by rw [← eh3, hI_setI_s]
      clear eh3
      show AW V 0 0 h3_ 44 [(0, .ref (B + 1)), (1, .ref (B + 10)), (2, .int (nI i))] []
      refine a_iinc (v := ((nI i) + 1)) (L' := [(2, .int ((nI i) + 1)), (0, .ref (B + 1)), (1, .ref (B + 10))]) hb dX7_copyFrom_44 2 rfl rfl (by rw [hml]; decide) rfl ?_
      refine a_goto hb 2 dX7_copyFrom_47 (by decide) ?_
      refine AW.sub (L' := [(0, .ref (B + 1)), (1, .ref (B + 10)), (2, .int ((nI i) + 1))]) [1, 2, 0] rfl ?_
      exact AW.eq (ih (i + 1) h3_ cf3 (fun t ht => (Nat.lt_or_ge t i).elim (fun q => ⟨by rw [hq3, hq2, hk1 t (by omega)]; exact (iv t q).1, by rw [hi3 _ (by omega), hw2, upd_n (by omega), hi1]; exact (iv t q).2.1, by rw [hw3, upd_n (by omega), hi2 _ (by omega), hi1]; exact (iv t q).2.2⟩) (fun q => ⟨by rw [hq3, hq2, show t = i by omega, hw1, (show hQ h1 (B + 11) = hQ h (B + 11) from cf.2.2.2.2 _ (by omega) (by omega) (by omega))], by rw [hi3 _ (by omega), hw2, show t = i by omega, upd_s]; rw [(show hI h1_ (B + 12) = hI h (B + 12) from cf1.2.2.2.1 _ (by omega) (by omega) (by omega) (by omega) (by omega) (by omega))], by rw [hw3, show t = i by omega, upd_s]; rw [(show hI h2_ (B + 13) = hI h (B + 13) from cf2.2.2.2.1 _ (by omega) (by omega) (by omega) (by omega) (by omega) (by omega))]⟩)) (by omega)) rfl rfl (by first | (simp only [nI_1]; done) | (simp only [nI_1]; rfl)) rfl
  refine a_iconst (v := 0) hb dX7_copyFrom_0 (by decide) ?_
  refine a_istore_n (L' := [(2, .int 0), (0, .ref (B + 1)), (1, .ref (B + 10))]) hb dX7_copyFrom_1 rfl (by rw [hml]; decide) rfl ?_
  refine AW.sub (L' := [(0, .ref (B + 1)), (1, .ref (B + 10)), (2, .int 0)]) [1, 2, 0] rfl ?_
  exact AW.eq (loop1 8 0 h CF.rf (fun t ht => absurd ht (Nat.not_lt_zero t)) (by omega)) rfl rfl (rfl) rfl
