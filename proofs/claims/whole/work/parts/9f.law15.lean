/-! ===== the class reads a law: one of ===== -/
theorem ox0_e {c : Int32} (h : ix5 c = 5) : (if ix5 c = 5 then -1 else nI (ix5 c)) < 0 := by rw [if_pos h]; decide
theorem ox0_n {c : Int32} (h : ¬ ix5 c = 5) : ¬ (if ix5 c = 5 then -1 else nI (ix5 c)) < 0 := by
  rw [if_neg h]
  have : ix5 c < 6 := by unfold ix5; repeat (first | decide | split)
  exact nI_pos (by omega)
set_option maxRecDepth 100000 in
theorem l_oneOf0 (g : GG) (h : AH) (lq tq cq n : Nat) (t1 : hT h lq = (1, 0)) (t2 : hT h tq = (13, n)) (t3 : hT h cq = (14, n)) (q0 : hQ h lq 0 = some tq) (q7 : hQ h lq 7 = some cq) (ne1 : lq ≠ cq) (ne2 : tq ≠ lq) (ne3 : tq ≠ cq) (hn : n ≤ 120) (H : Nat → Int32) (hH : ∀ p, p < n → hI h tq p = bx (H p) ∧ oO (H p) 0 255 = false) (hE : ∀ p, n ≤ p → H p = -1) (p : Nat) (l : List Int32) (hp : p ≤ n) : AM g 6 0 0 mX1_oneOf [.ref lq, .ref (gS g (2 + 0))] (lpH h lq cq p l) (fun rv h' => rv = some (.int (if ix5 (H p) = 5 then -1 else nI (ix5 (H p)))) ∧ h' = lpH h lq cq (if ix5 (H p) = 5 then p else p + 1) l) := by
  refine AM.of [(0, .ref lq), (1, .ref (gS g (2 + 0)))] (by decide) (Nat.le_of_ble_eq_true rfl) rfl ?_
  intro V hV
  have hb : V.2.1.2.1 = cX1_oneOf := by subst hV; rfl
  have ow : V.2.1.1.cls = RX1 := by subst hV; rfl
  have hr : V.2.2.1 = aw_rm 6 0 0 := by subst hV; rfl
  have hz : V.2.2.2 = aw_Z V.1 (fun rv h' => rv = some (.int (if ix5 (H p) = 5 then -1 else nI (ix5 (H p)))) ∧ h' = lpH h lq cq (if ix5 (H p) = 5 then p else p + 1) l) V.2.2.1 := by subst hV; rfl
  have hg : V.1 = g := by subst hV; rfl
  have hret : V.2.1.2.2.2 = (some .int) := by subst hV; rfl
  have hml : V.2.1.2.2.1 = 3 := by subst hV; rfl
  clear hV
  rw [← hg]
  refine a_aload_n hb dX1_oneOf_0 rfl 0 rfl ?_
  refine a_getI hb dX1_oneOf_1 (by rw [ow]; exact fl_RX1_7_1) (lp_k (h := h) (lq := lq) (cq := cq) (p := p) (l := l) t1) ?_
  rw [lp_1 ne1]
  show AW V 0 0 (lpH h lq cq p l) 4 [(0, .ref lq), (1, .ref (gS V.1 (2 + 0)))] [.int (nI p)]
  refine a_aload_n hb dX1_oneOf_4 rfl 0 rfl ?_
  refine a_getQ (q := tq) hb dX1_oneOf_5 (by rw [ow]; exact fl_RX1_32_1) (lp_k (h := h) (lq := lq) (cq := cq) (p := p) (l := l) t1) (lp_q (h := h) (lq := lq) (cq := cq) (p := p) (l := l) q0) ?_
  refine a_alenI (v := (nI n)) hb dX1_oneOf_8 (lp_k (h := h) (lq := lq) (cq := cq) (p := p) (l := l) t2) (by decide) rfl ?_
  refine a_icmp_ge hb 33 dX1_oneOf_9 (by decide) (fun c9 => ?_) (fun c9 => ?_)
  · refine a_iconst (v := (-1)) hb dX1_oneOf_33 (by decide) ?_
    refine a_istore_n (L' := [(2, .int (-1)), (0, .ref lq), (1, .ref (gS V.1 (2 + 0)))]) hb dX1_oneOf_34 rfl (by rw [hml]; decide) rfl ?_
    refine a_aload_n hb dX1_oneOf_35 rfl 1 rfl ?_
    refine a_dup hb dX1_oneOf_36 rfl ?_
    refine a_getI hb dX1_oneOf_37 (by rw [ow]; exact fl_RX1_7_1) (lp_k (h := h) (lq := lq) (cq := cq) (p := p) (l := l) t1) ?_
    rw [lp_1 ne1]
    show AW V 0 0 (lpH h lq cq p l) 40 [(2, .int (-1)), (0, .ref lq), (1, .ref (gS V.1 (2 + 0)))] [.int (nI p), .ref lq]
    refine a_iload_n hb dX1_oneOf_40 rfl 0 rfl ?_
    refine a_if_ge hb 48 dX1_oneOf_41 (by decide) (fun c41 => absurd c41 (by decide)) (fun c41 => ?_)
    refine a_iconst (v := 0) hb dX1_oneOf_44 (by decide) ?_
    refine a_goto hb 49 dX1_oneOf_45 (by decide) ?_
    refine a_iadd hb dX1_oneOf_49 ?_
    refine a_putI (fty := .int) hb dX1_oneOf_50 (by rw [ow]; exact fp_RX1_7_1) (Or.inr (fun C T N hq => by cases hq; rfl)) (lp_k (h := h) (lq := lq) (cq := cq) (p := p) (l := l) t1) rfl rfl ?_
    rw [lp_p ne1 (q := p) (by rw [Int32.add_zero])]
    show AW V 0 0 (lpH h lq cq p l) 53 [(2, .int (-1)), (0, .ref lq), (1, .ref (gS V.1 (2 + 0)))] []
    refine a_iload_n hb dX1_oneOf_53 rfl 0 rfl ?_
    exact a_ireturn (ty := .int) hb hz dX1_oneOf_54 hret rfl (by rw [hr]; exact Nat.le_of_ble_eq_true rfl) (by rw [hr]; exact Nat.le_of_ble_eq_true rfl) (⟨by rw [if_pos (show ix5 (H p) = 5 from by rw [hE p ((nI_leI (by omega) (by omega)).mp c9)]; decide)], by rw [if_pos (show ix5 (H p) = 5 from by rw [hE p ((nI_leI (by omega) (by omega)).mp c9)]; decide)]⟩)
  · have hlt : p < n := Nat.lt_of_not_le (fun z => c9 (nI_le z (by omega)))
    have hc := (hH p hlt).2
    refine a_aload_n hb dX1_oneOf_12 rfl 1 rfl ?_
    refine a_aload_n hb dX1_oneOf_13 rfl 0 rfl ?_
    refine a_getQ (q := tq) hb dX1_oneOf_14 (by rw [ow]; exact fl_RX1_32_1) (lp_k (h := h) (lq := lq) (cq := cq) (p := p) (l := l) t1) (lp_q (h := h) (lq := lq) (cq := cq) (p := p) (l := l) q0) ?_
    refine a_aload_n hb dX1_oneOf_17 rfl 0 rfl ?_
    refine a_getI hb dX1_oneOf_18 (by rw [ow]; exact fl_RX1_7_1) (lp_k (h := h) (lq := lq) (cq := cq) (p := p) (l := l) t1) ?_
    rw [lp_1 ne1]
    show AW V 0 0 (lpH h lq cq p l) 21 [(0, .ref lq), (1, .ref (gS V.1 (2 + 0)))] [.int (nI p), .ref tq, .ref (gS V.1 (2 + 0))]
    refine b_bald (j := p) hb dX1_oneOf_21 (lp_k (h := h) (lq := lq) (cq := cq) (p := p) (l := l) t2) (IX.n (by omega)) (by omega) ?_
    rw [lp_n ne2 ne3, (hH p (by omega)).1]
    show AW V 0 0 (lpH h lq cq p l) 22 [(0, .ref lq), (1, .ref (gS V.1 (2 + 0)))] [.int (bx (H p)), .ref (gS V.1 (2 + 0))]
    refine a_sipush (v := 255) hb dX1_oneOf_22 (by decide) ?_
    refine a_iand hb dX1_oneOf_25 ?_
    refine a_i2c hb dX1_oneOf_26 rfl ?_
    rw [by_c hc]
    show AW V 0 0 (lpH h lq cq p l) 27 [(0, .ref lq), (1, .ref (gS V.1 (2 + 0)))] [.int (H p), .ref (gS V.1 (2 + 0))]
    refine a_callT (i := 0) hb (by decide) dX1_oneOf_27 (by have z_ := j_index0 g (lpH h lq cq p l) (H p) hc (by have z := hc; simp only [oO, Bool.or_eq_false_iff, decide_eq_false_iff_not] at z; exact z.1) (by have z := hc; simp only [oO, Bool.or_eq_false_iff, decide_eq_false_iff_not] at z; exact z.2); rw [← hg] at z_; exact z_) (by rw [ow]; exact clv_RX1_117) rfl rfl rfl (Nat.le_of_ble_eq_true rfl) (by rw [hr]; exact ⟨by decide, by decide⟩) (by rw [hr]; exact ⟨Nat.le_of_ble_eq_true rfl, Nat.le_of_ble_eq_true rfl⟩) ?_
    intro rv h' hp_
    rw [hp_.1, hp_.2]
    show AW V 0 0 (lpH h lq cq p l) 30 [(0, .ref lq), (1, .ref (gS V.1 (2 + 0)))] [.int (if ix5 (H p) = 5 then -1 else nI (ix5 (H p)))]
    refine a_goto hb 34 dX1_oneOf_30 (by decide) ?_
    refine a_istore_n (L' := [(2, .int (if ix5 (H p) = 5 then -1 else nI (ix5 (H p)))), (0, .ref lq), (1, .ref (gS V.1 (2 + 0)))]) hb dX1_oneOf_34 rfl (by rw [hml]; decide) rfl ?_
    refine a_aload_n hb dX1_oneOf_35 rfl 1 rfl ?_
    refine a_dup hb dX1_oneOf_36 rfl ?_
    refine a_getI hb dX1_oneOf_37 (by rw [ow]; exact fl_RX1_7_1) (lp_k (h := h) (lq := lq) (cq := cq) (p := p) (l := l) t1) ?_
    rw [lp_1 ne1]
    show AW V 0 0 (lpH h lq cq p l) 40 [(2, .int (if ix5 (H p) = 5 then -1 else nI (ix5 (H p)))), (0, .ref lq), (1, .ref (gS V.1 (2 + 0)))] [.int (nI p), .ref lq]
    refine a_iload_n hb dX1_oneOf_40 rfl 0 rfl ?_
    refine a_if_ge hb 48 dX1_oneOf_41 (by decide) (fun c41 => ?_) (fun c41 => ?_)
    · refine a_iconst (v := 1) hb dX1_oneOf_48 (by decide) ?_
      refine a_iadd hb dX1_oneOf_49 ?_
      refine a_putI (fty := .int) hb dX1_oneOf_50 (by rw [ow]; exact fp_RX1_7_1) (Or.inr (fun C T N hq => by cases hq; rfl)) (lp_k (h := h) (lq := lq) (cq := cq) (p := p) (l := l) t1) rfl rfl ?_
      rw [lp_p ne1 (q := p + 1) (by rw [nI_1])]
      show AW V 0 0 (lpH h lq cq (p + 1) l) 53 [(2, .int (if ix5 (H p) = 5 then -1 else nI (ix5 (H p)))), (0, .ref lq), (1, .ref (gS V.1 (2 + 0)))] []
      refine a_iload_n hb dX1_oneOf_53 rfl 0 rfl ?_
      exact a_ireturn (ty := .int) hb hz dX1_oneOf_54 hret rfl (by rw [hr]; exact Nat.le_of_ble_eq_true rfl) (by rw [hr]; exact Nat.le_of_ble_eq_true rfl) (⟨rfl, by rw [if_neg (fun q => absurd (ox0_e q) (Int32.not_lt.mpr c41))]⟩)
    · refine a_iconst (v := 0) hb dX1_oneOf_44 (by decide) ?_
      refine a_goto hb 49 dX1_oneOf_45 (by decide) ?_
      refine a_iadd hb dX1_oneOf_49 ?_
      refine a_putI (fty := .int) hb dX1_oneOf_50 (by rw [ow]; exact fp_RX1_7_1) (Or.inr (fun C T N hq => by cases hq; rfl)) (lp_k (h := h) (lq := lq) (cq := cq) (p := p) (l := l) t1) rfl rfl ?_
      rw [lp_p ne1 (q := p) (by rw [Int32.add_zero])]
      show AW V 0 0 (lpH h lq cq p l) 53 [(2, .int (if ix5 (H p) = 5 then -1 else nI (ix5 (H p)))), (0, .ref lq), (1, .ref (gS V.1 (2 + 0)))] []
      refine a_iload_n hb dX1_oneOf_53 rfl 0 rfl ?_
      exact a_ireturn (ty := .int) hb hz dX1_oneOf_54 hret rfl (by rw [hr]; exact Nat.le_of_ble_eq_true rfl) (by rw [hr]; exact Nat.le_of_ble_eq_true rfl) (⟨rfl, by rw [if_pos (Decidable.of_not_not (fun q => ox0_n q (Int32.not_le.mp c41)))]⟩)
theorem ox1_e {c : Int32} (h : ix3 c = 3) : (if ix3 c = 3 then -1 else nI (ix3 c)) < 0 := by rw [if_pos h]; decide
theorem ox1_n {c : Int32} (h : ¬ ix3 c = 3) : ¬ (if ix3 c = 3 then -1 else nI (ix3 c)) < 0 := by
  rw [if_neg h]
  have : ix3 c < 6 := by unfold ix3; repeat (first | decide | split)
  exact nI_pos (by omega)
set_option maxRecDepth 100000 in
theorem l_oneOf1 (g : GG) (h : AH) (lq tq cq n : Nat) (t1 : hT h lq = (1, 0)) (t2 : hT h tq = (13, n)) (t3 : hT h cq = (14, n)) (q0 : hQ h lq 0 = some tq) (q7 : hQ h lq 7 = some cq) (ne1 : lq ≠ cq) (ne2 : tq ≠ lq) (ne3 : tq ≠ cq) (hn : n ≤ 120) (H : Nat → Int32) (hH : ∀ p, p < n → hI h tq p = bx (H p) ∧ oO (H p) 0 255 = false) (hE : ∀ p, n ≤ p → H p = -1) (p : Nat) (l : List Int32) (hp : p ≤ n) : AM g 6 0 0 mX1_oneOf [.ref lq, .ref (gS g (2 + 1))] (lpH h lq cq p l) (fun rv h' => rv = some (.int (if ix3 (H p) = 3 then -1 else nI (ix3 (H p)))) ∧ h' = lpH h lq cq (if ix3 (H p) = 3 then p else p + 1) l) := by
  refine AM.of [(0, .ref lq), (1, .ref (gS g (2 + 1)))] (by decide) (Nat.le_of_ble_eq_true rfl) rfl ?_
  intro V hV
  have hb : V.2.1.2.1 = cX1_oneOf := by subst hV; rfl
  have ow : V.2.1.1.cls = RX1 := by subst hV; rfl
  have hr : V.2.2.1 = aw_rm 6 0 0 := by subst hV; rfl
  have hz : V.2.2.2 = aw_Z V.1 (fun rv h' => rv = some (.int (if ix3 (H p) = 3 then -1 else nI (ix3 (H p)))) ∧ h' = lpH h lq cq (if ix3 (H p) = 3 then p else p + 1) l) V.2.2.1 := by subst hV; rfl
  have hg : V.1 = g := by subst hV; rfl
  have hret : V.2.1.2.2.2 = (some .int) := by subst hV; rfl
  have hml : V.2.1.2.2.1 = 3 := by subst hV; rfl
  clear hV
  rw [← hg]
  refine a_aload_n hb dX1_oneOf_0 rfl 0 rfl ?_
  refine a_getI hb dX1_oneOf_1 (by rw [ow]; exact fl_RX1_7_1) (lp_k (h := h) (lq := lq) (cq := cq) (p := p) (l := l) t1) ?_
  rw [lp_1 ne1]
  show AW V 0 0 (lpH h lq cq p l) 4 [(0, .ref lq), (1, .ref (gS V.1 (2 + 1)))] [.int (nI p)]
  refine a_aload_n hb dX1_oneOf_4 rfl 0 rfl ?_
  refine a_getQ (q := tq) hb dX1_oneOf_5 (by rw [ow]; exact fl_RX1_32_1) (lp_k (h := h) (lq := lq) (cq := cq) (p := p) (l := l) t1) (lp_q (h := h) (lq := lq) (cq := cq) (p := p) (l := l) q0) ?_
  refine a_alenI (v := (nI n)) hb dX1_oneOf_8 (lp_k (h := h) (lq := lq) (cq := cq) (p := p) (l := l) t2) (by decide) rfl ?_
  refine a_icmp_ge hb 33 dX1_oneOf_9 (by decide) (fun c9 => ?_) (fun c9 => ?_)
  · refine a_iconst (v := (-1)) hb dX1_oneOf_33 (by decide) ?_
    refine a_istore_n (L' := [(2, .int (-1)), (0, .ref lq), (1, .ref (gS V.1 (2 + 1)))]) hb dX1_oneOf_34 rfl (by rw [hml]; decide) rfl ?_
    refine a_aload_n hb dX1_oneOf_35 rfl 1 rfl ?_
    refine a_dup hb dX1_oneOf_36 rfl ?_
    refine a_getI hb dX1_oneOf_37 (by rw [ow]; exact fl_RX1_7_1) (lp_k (h := h) (lq := lq) (cq := cq) (p := p) (l := l) t1) ?_
    rw [lp_1 ne1]
    show AW V 0 0 (lpH h lq cq p l) 40 [(2, .int (-1)), (0, .ref lq), (1, .ref (gS V.1 (2 + 1)))] [.int (nI p), .ref lq]
    refine a_iload_n hb dX1_oneOf_40 rfl 0 rfl ?_
    refine a_if_ge hb 48 dX1_oneOf_41 (by decide) (fun c41 => absurd c41 (by decide)) (fun c41 => ?_)
    refine a_iconst (v := 0) hb dX1_oneOf_44 (by decide) ?_
    refine a_goto hb 49 dX1_oneOf_45 (by decide) ?_
    refine a_iadd hb dX1_oneOf_49 ?_
    refine a_putI (fty := .int) hb dX1_oneOf_50 (by rw [ow]; exact fp_RX1_7_1) (Or.inr (fun C T N hq => by cases hq; rfl)) (lp_k (h := h) (lq := lq) (cq := cq) (p := p) (l := l) t1) rfl rfl ?_
    rw [lp_p ne1 (q := p) (by rw [Int32.add_zero])]
    show AW V 0 0 (lpH h lq cq p l) 53 [(2, .int (-1)), (0, .ref lq), (1, .ref (gS V.1 (2 + 1)))] []
    refine a_iload_n hb dX1_oneOf_53 rfl 0 rfl ?_
    exact a_ireturn (ty := .int) hb hz dX1_oneOf_54 hret rfl (by rw [hr]; exact Nat.le_of_ble_eq_true rfl) (by rw [hr]; exact Nat.le_of_ble_eq_true rfl) (⟨by rw [if_pos (show ix3 (H p) = 3 from by rw [hE p ((nI_leI (by omega) (by omega)).mp c9)]; decide)], by rw [if_pos (show ix3 (H p) = 3 from by rw [hE p ((nI_leI (by omega) (by omega)).mp c9)]; decide)]⟩)
  · have hlt : p < n := Nat.lt_of_not_le (fun z => c9 (nI_le z (by omega)))
    have hc := (hH p hlt).2
    refine a_aload_n hb dX1_oneOf_12 rfl 1 rfl ?_
    refine a_aload_n hb dX1_oneOf_13 rfl 0 rfl ?_
    refine a_getQ (q := tq) hb dX1_oneOf_14 (by rw [ow]; exact fl_RX1_32_1) (lp_k (h := h) (lq := lq) (cq := cq) (p := p) (l := l) t1) (lp_q (h := h) (lq := lq) (cq := cq) (p := p) (l := l) q0) ?_
    refine a_aload_n hb dX1_oneOf_17 rfl 0 rfl ?_
    refine a_getI hb dX1_oneOf_18 (by rw [ow]; exact fl_RX1_7_1) (lp_k (h := h) (lq := lq) (cq := cq) (p := p) (l := l) t1) ?_
    rw [lp_1 ne1]
    show AW V 0 0 (lpH h lq cq p l) 21 [(0, .ref lq), (1, .ref (gS V.1 (2 + 1)))] [.int (nI p), .ref tq, .ref (gS V.1 (2 + 1))]
    refine b_bald (j := p) hb dX1_oneOf_21 (lp_k (h := h) (lq := lq) (cq := cq) (p := p) (l := l) t2) (IX.n (by omega)) (by omega) ?_
    rw [lp_n ne2 ne3, (hH p (by omega)).1]
    show AW V 0 0 (lpH h lq cq p l) 22 [(0, .ref lq), (1, .ref (gS V.1 (2 + 1)))] [.int (bx (H p)), .ref (gS V.1 (2 + 1))]
    refine a_sipush (v := 255) hb dX1_oneOf_22 (by decide) ?_
    refine a_iand hb dX1_oneOf_25 ?_
    refine a_i2c hb dX1_oneOf_26 rfl ?_
    rw [by_c hc]
    show AW V 0 0 (lpH h lq cq p l) 27 [(0, .ref lq), (1, .ref (gS V.1 (2 + 1)))] [.int (H p), .ref (gS V.1 (2 + 1))]
    refine a_callT (i := 1) hb (by decide) dX1_oneOf_27 (by have z_ := j_index1 g (lpH h lq cq p l) (H p) hc (by have z := hc; simp only [oO, Bool.or_eq_false_iff, decide_eq_false_iff_not] at z; exact z.1) (by have z := hc; simp only [oO, Bool.or_eq_false_iff, decide_eq_false_iff_not] at z; exact z.2); rw [← hg] at z_; exact z_) (by rw [ow]; exact clv_RX1_117) rfl rfl rfl (Nat.le_of_ble_eq_true rfl) (by rw [hr]; exact ⟨by decide, by decide⟩) (by rw [hr]; exact ⟨Nat.le_of_ble_eq_true rfl, Nat.le_of_ble_eq_true rfl⟩) ?_
    intro rv h' hp_
    rw [hp_.1, hp_.2]
    show AW V 0 0 (lpH h lq cq p l) 30 [(0, .ref lq), (1, .ref (gS V.1 (2 + 1)))] [.int (if ix3 (H p) = 3 then -1 else nI (ix3 (H p)))]
    refine a_goto hb 34 dX1_oneOf_30 (by decide) ?_
    refine a_istore_n (L' := [(2, .int (if ix3 (H p) = 3 then -1 else nI (ix3 (H p)))), (0, .ref lq), (1, .ref (gS V.1 (2 + 1)))]) hb dX1_oneOf_34 rfl (by rw [hml]; decide) rfl ?_
    refine a_aload_n hb dX1_oneOf_35 rfl 1 rfl ?_
    refine a_dup hb dX1_oneOf_36 rfl ?_
    refine a_getI hb dX1_oneOf_37 (by rw [ow]; exact fl_RX1_7_1) (lp_k (h := h) (lq := lq) (cq := cq) (p := p) (l := l) t1) ?_
    rw [lp_1 ne1]
    show AW V 0 0 (lpH h lq cq p l) 40 [(2, .int (if ix3 (H p) = 3 then -1 else nI (ix3 (H p)))), (0, .ref lq), (1, .ref (gS V.1 (2 + 1)))] [.int (nI p), .ref lq]
    refine a_iload_n hb dX1_oneOf_40 rfl 0 rfl ?_
    refine a_if_ge hb 48 dX1_oneOf_41 (by decide) (fun c41 => ?_) (fun c41 => ?_)
    · refine a_iconst (v := 1) hb dX1_oneOf_48 (by decide) ?_
      refine a_iadd hb dX1_oneOf_49 ?_
      refine a_putI (fty := .int) hb dX1_oneOf_50 (by rw [ow]; exact fp_RX1_7_1) (Or.inr (fun C T N hq => by cases hq; rfl)) (lp_k (h := h) (lq := lq) (cq := cq) (p := p) (l := l) t1) rfl rfl ?_
      rw [lp_p ne1 (q := p + 1) (by rw [nI_1])]
      show AW V 0 0 (lpH h lq cq (p + 1) l) 53 [(2, .int (if ix3 (H p) = 3 then -1 else nI (ix3 (H p)))), (0, .ref lq), (1, .ref (gS V.1 (2 + 1)))] []
      refine a_iload_n hb dX1_oneOf_53 rfl 0 rfl ?_
      exact a_ireturn (ty := .int) hb hz dX1_oneOf_54 hret rfl (by rw [hr]; exact Nat.le_of_ble_eq_true rfl) (by rw [hr]; exact Nat.le_of_ble_eq_true rfl) (⟨rfl, by rw [if_neg (fun q => absurd (ox1_e q) (Int32.not_lt.mpr c41))]⟩)
    · refine a_iconst (v := 0) hb dX1_oneOf_44 (by decide) ?_
      refine a_goto hb 49 dX1_oneOf_45 (by decide) ?_
      refine a_iadd hb dX1_oneOf_49 ?_
      refine a_putI (fty := .int) hb dX1_oneOf_50 (by rw [ow]; exact fp_RX1_7_1) (Or.inr (fun C T N hq => by cases hq; rfl)) (lp_k (h := h) (lq := lq) (cq := cq) (p := p) (l := l) t1) rfl rfl ?_
      rw [lp_p ne1 (q := p) (by rw [Int32.add_zero])]
      show AW V 0 0 (lpH h lq cq p l) 53 [(2, .int (if ix3 (H p) = 3 then -1 else nI (ix3 (H p)))), (0, .ref lq), (1, .ref (gS V.1 (2 + 1)))] []
      refine a_iload_n hb dX1_oneOf_53 rfl 0 rfl ?_
      exact a_ireturn (ty := .int) hb hz dX1_oneOf_54 hret rfl (by rw [hr]; exact Nat.le_of_ble_eq_true rfl) (by rw [hr]; exact Nat.le_of_ble_eq_true rfl) (⟨rfl, by rw [if_pos (Decidable.of_not_not (fun q => ox1_n q (Int32.not_le.mp c41)))]⟩)
