/-! ===== the model takes a law ===== -/
theorem mp_start {h : AH} {B a n : Nat} (ha : a < 5) : setI (setI (setI (setI (setI (setI (setI (setI h (B + 51) 4 (nI a)) (B + 51) 6 (nI n)) (B + 52) 4 0) (B + 52) (208 + a) 999) (B + 52) (213 + a) 0) (B + 51) 5 0) (B + 51) 7 0) (B + 51) 8 0 = mpH (setI (setI (setI h (B + 51) 4 (nI a)) (B + 51) 6 (nI n)) (B + 52) 4 0) B a 0 false 0 [] 999 := by
  refine AH_ext rfl rfl (fun b => ?_) rfl rfl
  by_cases e1 : b = B + 51
  · subst e1
    rw [mp_1]
    simp only [hI_setI_s, hI_setI_n (show B + 51 ≠ B + 52 by omega)]
    rfl
  · by_cases e2 : b = B + 52
    · subst e2
      rw [mp_2]
      simp only [hI_setI_s, hI_setI_n (show B + 52 ≠ B + 51 by omega)]
      unfold mpR
      rw [upd_c (i := 208 + a) (by omega)]
      rfl
    · rw [mp_n e1 e2]
      simp only [hI_setI_n e1, hI_setI_n e2]
theorem clL_g {tx : Nat → Int32} {n : Nat} : ∀ k (r : LR), r.2.1 ≤ n → r.2.2.1.length ≤ r.2.1 → (clL (hrT tx n) k r).2.1 ≤ n ∧ (clL (hrT tx n) k r).2.2.1.length ≤ (clL (hrT tx n) k r).2.1
  | 0, r, h1, h2 => ⟨h1, h2⟩
  | k + 1, r, h1, h2 => by
    unfold clL
    split
    · exact ⟨h1, h2⟩
    · split
      · rename_i q
        have hp := hrT_n (by decide) q
        have h := clP_g (tx := tx) (n := n) (r.2.1 + 1) r.2.2.1 r.2.2.2 (by omega)
        exact clL_g k _ (h.1 (by omega)) h.2.2
      · exact ⟨h1, h2⟩
theorem clPH {tx : Nat → Int32} {n : Nat} {H : Nat → Int32} (hH : H = hrT tx n) (p : Nat) (l : List Int32) (mo : Int32) (hl : l.length ≤ p) : (p ≤ n → (clP H p l mo).2.1 ≤ n) ∧ p ≤ (clP H p l mo).2.1 ∧ (clP H p l mo).2.2.1.length ≤ (clP H p l mo).2.1 := by subst hH; exact clP_g p l mo hl
set_option maxRecDepth 100000 in
theorem m_law (g : GG) (h : AH) (B : Nat) (hL : LY h B) (a n : Nat) (ha2 : hI h (B + 52) 2 = nI a) (ha : a ≤ 5) (hn4 : hI h (B + 52) 4 = nI n) (hn : n ≤ 120) : AM g 26 0 0 mX12_law [.ref (B + 51)] h (fun rv h' => (a = 5 ∧ rv = some (.int (-4)) ∧ h' = h) ∨ (a < 5 ∧ ((lawP (hrT (fun i => hI h (B + 52) (10 + i)) n)).1 = true ∨ ¬ (lawP (hrT (fun i => hI h (B + 52) (10 + i)) n)).2.1 = n) ∧ rv = some (.int (-10 - nI (lawP (hrT (fun i => hI h (B + 52) (10 + i)) n)).2.1)) ∧ h' = mpL (setI (setI (setI h (B + 51) 4 (nI a)) (B + 51) 6 (nI n)) (B + 52) 4 0) B a (lawP (hrT (fun i => hI h (B + 52) (10 + i)) n))) ∨ (a < 5 ∧ (lawP (hrT (fun i => hI h (B + 52) (10 + i)) n)).1 = false ∧ (lawP (hrT (fun i => hI h (B + 52) (10 + i)) n)).2.1 = n ∧ rv = some (.int (nI a)) ∧ h' = setI (setI (mpL (setI (setI (setI h (B + 51) 4 (nI a)) (B + 51) 6 (nI n)) (B + 52) 4 0) B a (lawP (hrT (fun i => hI h (B + 52) (10 + i)) n))) (B + 52) 2 (nI a + 1)) (B + 52) 8 (nI a))) := by
  refine AM.of [(0, .ref (B + 51))] (by decide) (Nat.le_of_ble_eq_true rfl) rfl ?_
  intro V hV
  have hb : V.2.1.2.1 = cX12_law := by subst hV; rfl
  have ow : V.2.1.1.cls = RX12 := by subst hV; rfl
  have hr : V.2.2.1 = aw_rm 26 0 0 := by subst hV; rfl
  have hz : V.2.2.2 = aw_Z V.1 (fun rv h' => (a = 5 ∧ rv = some (.int (-4)) ∧ h' = h) ∨ (a < 5 ∧ ((lawP (hrT (fun i => hI h (B + 52) (10 + i)) n)).1 = true ∨ ¬ (lawP (hrT (fun i => hI h (B + 52) (10 + i)) n)).2.1 = n) ∧ rv = some (.int (-10 - nI (lawP (hrT (fun i => hI h (B + 52) (10 + i)) n)).2.1)) ∧ h' = mpL (setI (setI (setI h (B + 51) 4 (nI a)) (B + 51) 6 (nI n)) (B + 52) 4 0) B a (lawP (hrT (fun i => hI h (B + 52) (10 + i)) n))) ∨ (a < 5 ∧ (lawP (hrT (fun i => hI h (B + 52) (10 + i)) n)).1 = false ∧ (lawP (hrT (fun i => hI h (B + 52) (10 + i)) n)).2.1 = n ∧ rv = some (.int (nI a)) ∧ h' = setI (setI (mpL (setI (setI (setI h (B + 51) 4 (nI a)) (B + 51) 6 (nI n)) (B + 52) 4 0) B a (lawP (hrT (fun i => hI h (B + 52) (10 + i)) n))) (B + 52) 2 (nI a + 1)) (B + 52) 8 (nI a))) V.2.2.1 := by subst hV; rfl
  have hg : V.1 = g := by subst hV; rfl
  have hret : V.2.1.2.2.2 = (some .int) := by subst hV; rfl
  have hml : V.2.1.2.2.1 = 2 := by subst hV; rfl
  clear hV
  refine a_aload_n hb dX12_law_0 rfl 0 rfl ?_
  refine a_getQ (q := (B + 52)) hb dX12_law_1 (by rw [ow]; exact fl_RX12_9_12) (hL.1 51 (by decide)) (hL.2.1 (51, 1, 52) (by decide)) ?_
  refine a_iconst (v := 2) hb dX12_law_4 (by decide) ?_
  refine b_iald (j := 2) hb dX12_law_5 (hL.1 52 (by decide)) ⟨by decide, by decide⟩ (by decide) ?_
  rw [ha2]
  show AW V 0 0 h 6 [(0, .ref (B + 51))] [.int (nI a)]
  refine a_iconst (v := 5) hb dX12_law_6 (by decide) ?_
  refine a_icmp_ne hb 13 dX12_law_7 (by decide) (fun c7 => ?_) (fun c7 => ?_)
  · have a5 : a < 5 := by have q : a ≠ 5 := fun q => c7 (by rw [q]; rfl); omega
    refine a_aload_n hb dX12_law_13 rfl 0 rfl ?_
    refine a_aload_n hb dX12_law_14 rfl 0 rfl ?_
    refine a_getQ (q := (B + 52)) hb dX12_law_15 (by rw [ow]; exact fl_RX12_9_12) (hL.1 51 (by decide)) (hL.2.1 (51, 1, 52) (by decide)) ?_
    refine a_iconst (v := 2) hb dX12_law_18 (by decide) ?_
    refine b_iald (j := 2) hb dX12_law_19 (hL.1 52 (by decide)) ⟨by decide, by decide⟩ (by decide) ?_
    rw [ha2]
    show AW V 0 0 h 20 [(0, .ref (B + 51))] [.int (nI a), .ref (B + 51)]
    refine a_putI (fty := .int) hb dX12_law_20 (by rw [ow]; exact fp_RX12_88_12) (Or.inr (fun C T N hq => by cases hq; rfl)) (hL.1 51 (by decide)) rfl rfl ?_
    refine a_aload_n hb dX12_law_23 rfl 0 rfl ?_
    refine a_aload_n hb dX12_law_24 rfl 0 rfl ?_
    refine a_getQ (q := (B + 52)) hb dX12_law_25 (by rw [ow]; exact fl_RX12_9_12) (hL.1 51 (by decide)) (hL.2.1 (51, 1, 52) (by decide)) ?_
    refine a_iconst (v := 4) hb dX12_law_28 (by decide) ?_
    refine b_iald (j := 4) hb dX12_law_29 (hL.1 52 (by decide)) ⟨by decide, by decide⟩ (by decide) ?_
    rw [hI_setI_n (by omega), hn4]
    show AW V 0 0 (setI h (B + 51) 4 (nI a)) 30 [(0, .ref (B + 51))] [.int (nI n), .ref (B + 51)]
    refine a_putI (fty := .int) hb dX12_law_30 (by rw [ow]; exact fp_RX12_64_12) (Or.inr (fun C T N hq => by cases hq; rfl)) (hL.1 51 (by decide)) rfl rfl ?_
    refine a_aload_n hb dX12_law_33 rfl 0 rfl ?_
    refine a_getQ (q := (B + 52)) hb dX12_law_34 (by rw [ow]; exact fl_RX12_9_12) (hL.1 51 (by decide)) (hL.2.1 (51, 1, 52) (by decide)) ?_
    refine a_iconst (v := 4) hb dX12_law_37 (by decide) ?_
    refine a_iconst (v := 0) hb dX12_law_38 (by decide) ?_
    refine b_iast (j := 4) hb dX12_law_39 (hL.1 52 (by decide)) ⟨by decide, by decide⟩ (by decide) ?_
    refine a_aload_n hb dX12_law_40 rfl 0 rfl ?_
    refine a_getQ (q := (B + 52)) hb dX12_law_41 (by rw [ow]; exact fl_RX12_9_12) (hL.1 51 (by decide)) (hL.2.1 (51, 1, 52) (by decide)) ?_
    refine a_sipush (v := 208) hb dX12_law_44 (by decide) ?_
    refine a_aload_n hb dX12_law_47 rfl 0 rfl ?_
    refine a_getI hb dX12_law_48 (by rw [ow]; exact fl_RX12_88_12) (hL.1 51 (by decide)) ?_
    rw [show hI (setI (setI (setI h (B + 51) 4 (nI a)) (B + 51) 6 (nI n)) (B + 52) 4 0) (B + 51) 4 = nI a from by simp [hI_setI_s, hI_setI_n, upd]]
    show AW V 0 0 (setI (setI (setI h (B + 51) 4 (nI a)) (B + 51) 6 (nI n)) (B + 52) 4 0) 51 [(0, .ref (B + 51))] [.int (nI a), .int 208, .ref (B + 52)]
    refine a_iadd hb dX12_law_51 ?_
    refine a_sipush (v := 999) hb dX12_law_52 (by decide) ?_
    refine b_iast (j := (208 + a)) hb dX12_law_55 (hL.1 52 (by decide)) (IX.add ⟨by decide, by decide⟩ (IX.n (by omega)) (by omega)) (by omega) ?_
    refine a_aload_n hb dX12_law_56 rfl 0 rfl ?_
    refine a_getQ (q := (B + 52)) hb dX12_law_57 (by rw [ow]; exact fl_RX12_9_12) (hL.1 51 (by decide)) (hL.2.1 (51, 1, 52) (by decide)) ?_
    refine a_sipush (v := 213) hb dX12_law_60 (by decide) ?_
    refine a_aload_n hb dX12_law_63 rfl 0 rfl ?_
    refine a_getI hb dX12_law_64 (by rw [ow]; exact fl_RX12_88_12) (hL.1 51 (by decide)) ?_
    rw [show hI (setI (setI (setI (setI h (B + 51) 4 (nI a)) (B + 51) 6 (nI n)) (B + 52) 4 0) (B + 52) (208 + a) 999) (B + 51) 4 = nI a from by simp [hI_setI_s, hI_setI_n, upd]]
    show AW V 0 0 (setI (setI (setI (setI h (B + 51) 4 (nI a)) (B + 51) 6 (nI n)) (B + 52) 4 0) (B + 52) (208 + a) 999) 67 [(0, .ref (B + 51))] [.int (nI a), .int 213, .ref (B + 52)]
    refine a_iadd hb dX12_law_67 ?_
    refine a_iconst (v := 0) hb dX12_law_68 (by decide) ?_
    refine b_iast (j := (213 + a)) hb dX12_law_69 (hL.1 52 (by decide)) (IX.add ⟨by decide, by decide⟩ (IX.n (by omega)) (by omega)) (by omega) ?_
    refine a_aload_n hb dX12_law_70 rfl 0 rfl ?_
    refine a_iconst (v := 0) hb dX12_law_71 (by decide) ?_
    refine a_putI (fty := .int) hb dX12_law_72 (by rw [ow]; exact fp_RX12_61_12) (Or.inr (fun C T N hq => by cases hq; rfl)) (hL.1 51 (by decide)) rfl rfl ?_
    refine a_aload_n hb dX12_law_75 rfl 0 rfl ?_
    refine a_iconst (v := 0) hb dX12_law_76 (by decide) ?_
    refine a_putI (fty := .boolean) hb dX12_law_77 (by rw [ow]; exact fp_RX12_67_12) (Or.inr (fun C T N hq => by cases hq; rfl)) (hL.1 51 (by decide)) rfl rfl ?_
    refine a_aload_n hb dX12_law_80 rfl 0 rfl ?_
    refine a_iconst (v := 0) hb dX12_law_81 (by decide) ?_
    refine a_putI (fty := .int) hb dX12_law_82 (by rw [ow]; exact fp_RX12_91_12) (Or.inr (fun C T N hq => by cases hq; rfl)) (hL.1 51 (by decide)) rfl rfl ?_
    rw [mp_start a5]
    generalize eh1 : (setI (setI (setI h (B + 51) 4 (nI a)) (B + 51) 6 (nI n)) (B + 52) 4 0) = h1
    have hL1 : LY h1 B := by rw [← eh1]; exact hL
    have hac : hI h1 (B + 51) 4 = nI a := by rw [← eh1]; simp [hI_setI_s, hI_setI_n, upd]
    have he : hI h1 (B + 51) 6 = nI n := by rw [← eh1]; simp [hI_setI_s, hI_setI_n, upd]
    have hS1 : ∀ k, k ≠ 4 → hI h1 (B + 52) k = hI h (B + 52) k := by intro k q; rw [← eh1, hI_setI_s, upd_n q, hI_setI_n (by omega), hI_setI_n (by omega)]
    generalize eH : (hrT (fun i => hI h (B + 52) (10 + i)) n) = H at *
    have hH : H = hrT (fun i => hI h1 (B + 52) (10 + i)) n := by rw [← eH]; congr 1; funext i; rw [hS1 (10 + i) (by omega)]
    have hlp : clL H 7 (clP H 0 [] 999) = lawP H := rfl
    generalize lawP H = R at *
    clear eH
    refine a_iconst (v := 1) hb dX12_law_85 (by decide) ?_
    refine a_istore_n (L' := [(1, .int 1), (0, .ref (B + 51))]) hb dX12_law_86 rfl (by rw [hml]; decide) rfl ?_
    have fin : ∀ v : Int32, AW V 0 0 (mpL h1 B a R) 133 [(0, .ref (B + 51)), (1, .int v)] [] := by
      intro v
      have hLR : LY (mpL h1 B a R) B := LY.mp hL1
      have R1 : R.2.1 ≤ n := by rw [← hlp, hH]; exact (clL_g 7 _ ((clP_g 0 [] 999 (Nat.le_refl _)).1 (Nat.zero_le _)) (clP_g (n := n) 0 [] 999 (Nat.le_refl _)).2.2).1
      refine a_aload_n hb dX12_law_133 rfl 0 rfl ?_
      refine a_getI hb dX12_law_134 (by rw [ow]; exact fl_RX12_67_12) (hLR.1 51 (by decide)) ?_
      rw [show hI (mpL h1 B a R) (B + 51) 7 = b2i R.1 from mp_f7]
      show AW V 0 0 (mpL h1 B a R) 137 [(0, .ref (B + 51)), (1, .int v)] [.int (b2i R.1)]
      refine a_if_ne hb 151 dX12_law_137 (by decide) (fun c137 => ?_) (fun c137 => ?_)
      · simp [b2i_0] at c137
        refine a_bipush (v := (-10)) hb dX12_law_151 (by decide) ?_
        refine a_aload_n hb dX12_law_153 rfl 0 rfl ?_
        refine a_getI hb dX12_law_154 (by rw [ow]; exact fl_RX12_61_12) (hLR.1 51 (by decide)) ?_
        rw [show hI (mpL h1 B a R) (B + 51) 5 = nI R.2.1 from mp_f5]
        show AW V 0 0 (mpL h1 B a R) 157 [(0, .ref (B + 51)), (1, .int v)] [.int (nI R.2.1), .int (-10)]
        refine a_isub hb dX12_law_157 ?_
        exact a_ireturn (ty := .int) hb hz dX12_law_158 hret rfl (by rw [hr]; exact Nat.le_of_ble_eq_true rfl) (by rw [hr]; exact Nat.le_of_ble_eq_true rfl) (Or.inr (Or.inl ⟨a5, Or.inl c137, rfl, by rw [eh1]⟩))
      · simp [b2i_0] at c137
        refine a_aload_n hb dX12_law_140 rfl 0 rfl ?_
        refine a_getI hb dX12_law_141 (by rw [ow]; exact fl_RX12_61_12) (hLR.1 51 (by decide)) ?_
        rw [show hI (mpL h1 B a R) (B + 51) 5 = nI R.2.1 from mp_f5]
        show AW V 0 0 (mpL h1 B a R) 144 [(0, .ref (B + 51)), (1, .int v)] [.int (nI R.2.1)]
        refine a_aload_n hb dX12_law_144 rfl 0 rfl ?_
        refine a_getI hb dX12_law_145 (by rw [ow]; exact fl_RX12_64_12) (hLR.1 51 (by decide)) ?_
        rw [show hI (mpL h1 B a R) (B + 51) 6 = nI n from mp_f6.trans he]
        show AW V 0 0 (mpL h1 B a R) 148 [(0, .ref (B + 51)), (1, .int v)] [.int (nI n), .int (nI R.2.1)]
        refine a_icmp_eq hb 159 dX12_law_148 (by decide) (fun c148 => ?_) (fun c148 => ?_)
        · have pn : R.2.1 = n := nI_inj (by omega) (by omega) c148
          refine a_aload_n hb dX12_law_159 rfl 0 rfl ?_
          refine a_getQ (q := (B + 52)) hb dX12_law_160 (by rw [ow]; exact fl_RX12_9_12) (hLR.1 51 (by decide)) (hLR.2.1 (51, 1, 52) (by decide)) ?_
          refine a_iconst (v := 2) hb dX12_law_163 (by decide) ?_
          refine a_dup2_11 hb dX12_law_164 rfl rfl ?_
          refine b_iald (j := 2) hb dX12_law_165 (hLR.1 52 (by decide)) ⟨by decide, by decide⟩ (by decide) ?_
          rw [show hI (mpL h1 B a R) (B + 52) 2 = nI a from by unfold mpL; rw [mp_2, mpR_lo (by omega), hS1 2 (by omega), ha2]]
          show AW V 0 0 (mpL h1 B a R) 166 [(0, .ref (B + 51)), (1, .int v)] [.int (nI a), .int 2, .ref (B + 52)]
          refine a_iconst (v := 1) hb dX12_law_166 (by decide) ?_
          refine a_iadd hb dX12_law_167 ?_
          refine b_iast (j := 2) hb dX12_law_168 (hLR.1 52 (by decide)) ⟨by decide, by decide⟩ (by decide) ?_
          refine a_aload_n hb dX12_law_169 rfl 0 rfl ?_
          refine a_getQ (q := (B + 52)) hb dX12_law_170 (by rw [ow]; exact fl_RX12_9_12) (hLR.1 51 (by decide)) (hLR.2.1 (51, 1, 52) (by decide)) ?_
          refine a_bipush (v := 8) hb dX12_law_173 (by decide) ?_
          refine a_aload_n hb dX12_law_175 rfl 0 rfl ?_
          refine a_getI hb dX12_law_176 (by rw [ow]; exact fl_RX12_88_12) (hLR.1 51 (by decide)) ?_
          rw [show hI (setI (mpL h1 B a R) (B + 52) 2 ((nI a) + 1)) (B + 51) 4 = nI a from by simp only [hI_setI_n (show B + 51 ≠ B + 52 by omega)]; exact mp_f4.trans hac]
          show AW V 0 0 (setI (mpL h1 B a R) (B + 52) 2 ((nI a) + 1)) 179 [(0, .ref (B + 51)), (1, .int v)] [.int (nI a), .int 8, .ref (B + 52)]
          refine b_iast (j := 8) hb dX12_law_179 (hLR.1 52 (by decide)) ⟨by decide, by decide⟩ (by decide) ?_
          refine a_aload_n hb dX12_law_180 rfl 0 rfl ?_
          refine a_getI hb dX12_law_181 (by rw [ow]; exact fl_RX12_88_12) (hLR.1 51 (by decide)) ?_
          rw [show hI (setI (setI (mpL h1 B a R) (B + 52) 2 ((nI a) + 1)) (B + 52) 8 (nI a)) (B + 51) 4 = nI a from by simp only [hI_setI_n (show B + 51 ≠ B + 52 by omega)]; exact mp_f4.trans hac]
          show AW V 0 0 (setI (setI (mpL h1 B a R) (B + 52) 2 ((nI a) + 1)) (B + 52) 8 (nI a)) 184 [(0, .ref (B + 51)), (1, .int v)] [.int (nI a)]
          exact a_ireturn (ty := .int) hb hz dX12_law_184 hret rfl (by rw [hr]; exact Nat.le_of_ble_eq_true rfl) (by rw [hr]; exact Nat.le_of_ble_eq_true rfl) (Or.inr (Or.inr ⟨a5, c137, pn, rfl, by rw [eh1]⟩))
        · have pn : ¬ R.2.1 = n := fun q => c148 (by rw [q])
          refine a_bipush (v := (-10)) hb dX12_law_151 (by decide) ?_
          refine a_aload_n hb dX12_law_153 rfl 0 rfl ?_
          refine a_getI hb dX12_law_154 (by rw [ow]; exact fl_RX12_61_12) (hLR.1 51 (by decide)) ?_
          rw [show hI (mpL h1 B a R) (B + 51) 5 = nI R.2.1 from mp_f5]
          show AW V 0 0 (mpL h1 B a R) 157 [(0, .ref (B + 51)), (1, .int v)] [.int (nI R.2.1), .int (-10)]
          refine a_isub hb dX12_law_157 ?_
          exact a_ireturn (ty := .int) hb hz dX12_law_158 hret rfl (by rw [hr]; exact Nat.le_of_ble_eq_true rfl) (by rw [hr]; exact Nat.le_of_ble_eq_true rfl) (Or.inr (Or.inl ⟨a5, Or.inr pn, rfl, by rw [eh1]⟩))
    have loop : ∀ (k i : Nat) (r : LR), i + k = 8 → r.2.1 ≤ n → r.2.2.1.length ≤ r.2.1 → clL H k r = R → AW V 0 0 (mpL h1 B a r) 91 [(0, .ref (B + 51)), (1, .int (nI i))] [] := by
      intro k
      induction k with
      | zero =>
        intro i r hi h1_ h2_ h4
        have hLr : LY (mpL h1 B a r) B := LY.mp hL1
        refine a_aload_n hb dX12_law_91 rfl 0 rfl ?_
        refine a_getI hb dX12_law_92 (by rw [ow]; exact fl_RX12_67_12) (hLr.1 51 (by decide)) ?_
        rw [show hI (mpL h1 B a r) (B + 51) 7 = b2i r.1 from mp_f7]
        show AW V 0 0 (mpL h1 B a r) 95 [(0, .ref (B + 51)), (1, .int (nI i))] [.int (b2i r.1)]
        refine a_if_ne hb 133 dX12_law_95 (by decide) (fun c95 => ?_) (fun c95 => ?_)
        · simp [b2i_0] at c95
          rw [show r = R from by rw [← h4]; rfl]
          exact fin _
        · simp [b2i_0] at c95
          refine a_iload_n hb dX12_law_98 rfl 1 rfl ?_
          refine a_bipush (v := 8) hb dX12_law_99 (by decide) ?_
          refine a_icmp_ge hb 133 dX12_law_101 (by decide) (fun c101 => ?_) (fun c101 => absurd (by rw [show i = 8 by omega]; decide) c101)
          rw [show r = R from by rw [← h4]; rfl]
          exact fin _
      | succ k ih =>
        intro i r hi h1_ h2_ h4
        have hLr : LY (mpL h1 B a r) B := LY.mp hL1
        refine a_aload_n hb dX12_law_91 rfl 0 rfl ?_
        refine a_getI hb dX12_law_92 (by rw [ow]; exact fl_RX12_67_12) (hLr.1 51 (by decide)) ?_
        rw [show hI (mpL h1 B a r) (B + 51) 7 = b2i r.1 from mp_f7]
        show AW V 0 0 (mpL h1 B a r) 95 [(0, .ref (B + 51)), (1, .int (nI i))] [.int (b2i r.1)]
        refine a_if_ne hb 133 dX12_law_95 (by decide) (fun c95 => ?_) (fun c95 => ?_)
        · simp [b2i_0] at c95
          rw [show r = R from by simp only [clL, c95] at h4; simpa using h4]
          exact fin _
        · simp [b2i_0] at c95
          refine a_iload_n hb dX12_law_98 rfl 1 rfl ?_
          refine a_bipush (v := 8) hb dX12_law_99 (by decide) ?_
          refine a_icmp_ge hb 133 dX12_law_101 (by decide) (fun c101 => absurd c101 (by exact nI_ge (b := 8) (a := i) (by omega) (by omega))) (fun c101 => ?_)
          refine a_aload_n hb dX12_law_104 rfl 0 rfl ?_
          refine a_callV hb dX12_law_105 (by rw [hg]; exact m_here g h1 B hL1 a n a5 hac he hn H hH r.2.1 0 r.1 r.2.2.1 r.2.2.2 h1_) (by rw [ow]; exact clv_RX12_71) (hLr.1 51 (by decide)) (by decide) rfl rfl rfl (Nat.le_of_ble_eq_true rfl) (by rw [hr]; exact ⟨by decide, by decide⟩) (by rw [hr]; exact ⟨Nat.le_of_ble_eq_true rfl, Nat.le_of_ble_eq_true rfl⟩) ?_
          intro rv h' hp_
          rw [hp_.1, hp_.2]
          show AW V 0 0 (mpL h1 B a r) 108 [(0, .ref (B + 51)), (1, .int (nI i))] [.int (H r.2.1)]
          refine a_bipush (v := 59) hb dX12_law_108 (by decide) ?_
          refine a_icmp_ne hb 133 dX12_law_110 (by decide) (fun c110 => ?_) (fun c110 => ?_)
          · rw [show r = R from by simp only [clL, c95, if_neg c110] at h4; simpa using h4]
            exact fin _
          · have rl : r.2.1 < n := by rw [hH] at c110; exact hrT_n (by decide) c110
            refine a_aload_n hb dX12_law_113 rfl 0 rfl ?_
            refine a_dup hb dX12_law_114 rfl ?_
            refine a_getI hb dX12_law_115 (by rw [ow]; exact fl_RX12_61_12) (hLr.1 51 (by decide)) ?_
            rw [show hI (mpL h1 B a r) (B + 51) 5 = nI r.2.1 from mp_f5]
            show AW V 0 0 (mpL h1 B a r) 118 [(0, .ref (B + 51)), (1, .int (nI i))] [.int (nI r.2.1), .ref (B + 51)]
            refine a_iconst (v := 1) hb dX12_law_118 (by decide) ?_
            refine a_iadd hb dX12_law_119 ?_
            refine a_putI (fty := .int) hb dX12_law_120 (by rw [ow]; exact fp_RX12_61_12) (Or.inr (fun C T N hq => by cases hq; rfl)) (hLr.1 51 (by decide)) rfl rfl ?_
            rw [show setI (mpL h1 B a r) (B + 51) 5 (nI r.2.1 + 1) = mpH h1 B a (r.2.1 + 1) r.1 0 r.2.2.1 r.2.2.2 from mp_5 (by rw [nI_1]), c95]
            show AW V 0 0 (mpH h1 B a (r.2.1 + 1) false 0 r.2.2.1 r.2.2.2) 123 [(0, .ref (B + 51)), (1, .int (nI i))] []
            refine a_aload_n hb dX12_law_123 rfl 0 rfl ?_
            refine a_callV hb dX12_law_124 (by rw [hg]; exact m_clauseHere g h1 B hL1 a n a5 hac he hn H hH (r.2.1 + 1) r.2.2.1 r.2.2.2 (by omega) (by omega)) (by rw [ow]; exact clv_RX12_131) ((LY.mp hL1 : LY (mpH h1 B a (r.2.1 + 1) false 0 r.2.2.1 r.2.2.2) B).1 51 (by decide)) (by decide) rfl rfl rfl (Nat.le_of_ble_eq_true rfl) (by rw [hr]; exact ⟨by decide, by decide⟩) (by rw [hr]; exact ⟨Nat.le_of_ble_eq_true rfl, Nat.le_of_ble_eq_true rfl⟩) ?_
            intro rv h' hp_
            rw [hp_.1, hp_.2]
            show AW V 0 0 (mpL h1 B a (clP H (r.2.1 + 1) r.2.2.1 r.2.2.2)) 127 [(0, .ref (B + 51)), (1, .int (nI i))] []
            refine a_iinc (v := ((nI i) + 1)) (L' := [(1, .int ((nI i) + 1)), (0, .ref (B + 51))]) hb dX12_law_127 1 rfl rfl (by rw [hml]; decide) rfl ?_
            refine a_goto hb 91 dX12_law_130 (by decide) ?_
            refine AW.sub (L' := [(0, .ref (B + 51)), (1, .int ((nI i) + 1))]) [1, 0] rfl ?_
            have gg := clPH hH (r.2.1 + 1) r.2.2.1 r.2.2.2 (by omega)
            exact AW.eq (ih (i + 1) _ (by omega) (gg.1 (by omega)) gg.2.2 (by simp only [clL, c95, if_pos c110] at h4; simpa using h4)) rfl rfl (by rw [nI_1]) rfl
    show AW V 0 0 (mpH h1 B a 0 false 0 [] 999) 87 [(1, .int 1), (0, .ref (B + 51))] []
    refine a_aload_n hb dX12_law_87 rfl 1 rfl ?_
    refine a_callV hb dX12_law_88 (by rw [hg]; exact m_clauseHere g h1 B hL1 a n a5 hac he hn H hH 0 [] 999 (Nat.zero_le _) (Nat.le_refl _)) (by rw [ow]; exact clv_RX12_131) ((LY.mp hL1 : LY (mpH h1 B a 0 false 0 [] 999) B).1 51 (by decide)) (by decide) rfl rfl rfl (Nat.le_of_ble_eq_true rfl) (by rw [hr]; exact ⟨by decide, by decide⟩) (by rw [hr]; exact ⟨Nat.le_of_ble_eq_true rfl, Nat.le_of_ble_eq_true rfl⟩) ?_
    intro rv h' hp_
    rw [hp_.1, hp_.2]
    show AW V 0 0 (mpL h1 B a (clP H 0 [] 999)) 91 [(1, .int 1), (0, .ref (B + 51))] []
    refine AW.sub (L' := [(0, .ref (B + 51)), (1, .int 1)]) [1, 0] rfl ?_
    have gg := clPH hH 0 [] 999 (Nat.le_refl _)
    exact AW.eq (loop 7 1 _ (by omega) (gg.1 (Nat.zero_le _)) gg.2.2 hlp) rfl rfl rfl rfl
  · have a5 : a = 5 := nI_inj (by omega) (by omega) c7
    refine a_bipush (v := (-4)) hb dX12_law_10 (by decide) ?_
    exact a_ireturn (ty := .int) hb hz dX12_law_12 hret rfl (by rw [hr]; exact Nat.le_of_ble_eq_true rfl) (by rw [hr]; exact Nat.le_of_ble_eq_true rfl) (Or.inl ⟨a5, rfl, rfl⟩)
