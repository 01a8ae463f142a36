/-! ===== the class reads a law: next, take, emit ===== -/
theorem lp_k {h : AH} {lq cq p a : Nat} {l : List Int32} {x : Nat × Nat} (t : hT h a = x) : hT (lpH h lq cq p l) a = x := t
theorem lp_q {h : AH} {lq cq p a k : Nat} {l : List Int32} {x : Option Nat} (t : hQ h a k = x) : hQ (lpH h lq cq p l) a k = x := t
theorem m1_c {c : Int32} (h : oO c 1 127 = false) : ¬ (-1 : Int32) = c := fun e => by subst e; exact absurd h (by decide)
set_option maxRecDepth 100000 in
theorem l_next (g : GG) (h : AH) (lq tq cq n : Nat) (t1 : hT h lq = (1, 0)) (t2 : hT h tq = (13, n)) (t3 : hT h cq = (14, n)) (q0 : hQ h lq 0 = some tq) (q7 : hQ h lq 7 = some cq) (ne1 : lq ≠ cq) (ne2 : tq ≠ lq) (ne3 : tq ≠ cq) (hn : n ≤ 120) (H : Nat → Int32) (hH : ∀ p, p < n → hI h tq p = bx (H p) ∧ oO (H p) 0 255 = false) (hE : ∀ p, n ≤ p → H p = -1) (p : Nat) (l : List Int32) (hp : p ≤ n) (c : Int32) (hc : oO c 1 127 = false) : AM g 1 0 0 mX1_next [.ref lq, .int c] (lpH h lq cq p l) (fun rv h' => rv = some (.int (b2i (decide (H p = c)))) ∧ h' = (lpH h lq cq p l)) := by
  refine AM.of [(0, .ref lq), (1, .int c)] (by decide) (Nat.le_of_ble_eq_true rfl) rfl ?_
  intro V hV
  have hb : V.2.1.2.1 = cX1_next := by subst hV; rfl
  have ow : V.2.1.1.cls = RX1 := by subst hV; rfl
  have hr : V.2.2.1 = aw_rm 1 0 0 := by subst hV; rfl
  have hz : V.2.2.2 = aw_Z V.1 (fun rv h' => rv = some (.int (b2i (decide (H p = c)))) ∧ h' = (lpH h lq cq p l)) V.2.2.1 := by subst hV; rfl
  have hg : V.1 = g := by subst hV; rfl
  have hret : V.2.1.2.2.2 = (some .boolean) := by subst hV; rfl
  have hml : V.2.1.2.2.1 = 2 := by subst hV; rfl
  clear hV
  refine a_aload_n hb dX1_next_0 rfl 0 rfl ?_
  refine a_getI hb dX1_next_1 (by rw [ow]; exact fl_RX1_7_1) (lp_k (h := h) (lq := lq) (cq := cq) (p := p) (l := l) t1) ?_
  rw [lp_1 ne1]
  show AW V 0 0 (lpH h lq cq p l) 4 [(0, .ref lq), (1, .int c)] [.int (nI p)]
  refine a_aload_n hb dX1_next_4 rfl 0 rfl ?_
  refine a_getQ (q := tq) hb dX1_next_5 (by rw [ow]; exact fl_RX1_32_1) (lp_k (h := h) (lq := lq) (cq := cq) (p := p) (l := l) t1) (lp_q (h := h) (lq := lq) (cq := cq) (p := p) (l := l) q0) ?_
  refine a_alenI (v := (nI n)) hb dX1_next_8 (lp_k (h := h) (lq := lq) (cq := cq) (p := p) (l := l) t2) (by decide) rfl ?_
  refine a_icmp_ge hb 29 dX1_next_9 (by decide) (fun c9 => ?_) (fun c9 => ?_)
  · have hge : n ≤ p := (nI_leI (by omega) (by omega)).mp c9
    refine a_iconst (v := 0) hb dX1_next_29 (by decide) ?_
    exact a_ireturn (ty := .boolean) hb hz dX1_next_30 hret (by first | rfl | (simp only [narrow]; done) | exact aw_nb _) (by rw [hr]; exact Nat.le_of_ble_eq_true rfl) (by rw [hr]; exact Nat.le_of_ble_eq_true rfl) (⟨by rw [hE p hge, decide_eq_false (m1_c hc)]; rfl, rfl⟩)
  · have hlt : p < n := Nat.lt_of_not_le (fun z => c9 (nI_le z (by omega)))
    have hx := bx_eq (hH p hlt).2 hc
    refine a_aload_n hb dX1_next_12 rfl 0 rfl ?_
    refine a_getQ (q := tq) hb dX1_next_13 (by rw [ow]; exact fl_RX1_32_1) (lp_k (h := h) (lq := lq) (cq := cq) (p := p) (l := l) t1) (lp_q (h := h) (lq := lq) (cq := cq) (p := p) (l := l) q0) ?_
    refine a_aload_n hb dX1_next_16 rfl 0 rfl ?_
    refine a_getI hb dX1_next_17 (by rw [ow]; exact fl_RX1_7_1) (lp_k (h := h) (lq := lq) (cq := cq) (p := p) (l := l) t1) ?_
    rw [lp_1 ne1]
    show AW V 0 0 (lpH h lq cq p l) 20 [(0, .ref lq), (1, .int c)] [.int (nI p), .ref tq]
    refine b_bald (j := p) hb dX1_next_20 (lp_k (h := h) (lq := lq) (cq := cq) (p := p) (l := l) t2) (IX.n (by omega)) (by omega) ?_
    rw [lp_n ne2 ne3, (hH p (by omega)).1]
    show AW V 0 0 (lpH h lq cq p l) 21 [(0, .ref lq), (1, .int c)] [.int (bx (H p))]
    refine a_iload_n hb dX1_next_21 rfl 1 rfl ?_
    refine a_icmp_ne hb 29 dX1_next_22 (by decide) (fun c22 => ?_) (fun c22 => ?_)
    · refine a_iconst (v := 0) hb dX1_next_29 (by decide) ?_
      exact a_ireturn (ty := .boolean) hb hz dX1_next_30 hret (by first | rfl | (simp only [narrow]; done) | exact aw_nb _) (by rw [hr]; exact Nat.le_of_ble_eq_true rfl) (by rw [hr]; exact Nat.le_of_ble_eq_true rfl) (⟨by rw [decide_eq_false (fun q => c22 (hx.mpr q))]; rfl, rfl⟩)
    · refine a_iconst (v := 1) hb dX1_next_25 (by decide) ?_
      refine a_goto hb 30 dX1_next_26 (by decide) ?_
      exact a_ireturn (ty := .boolean) hb hz dX1_next_30 hret (by first | rfl | (simp only [narrow]; done) | exact aw_nb _) (by rw [hr]; exact Nat.le_of_ble_eq_true rfl) (by rw [hr]; exact Nat.le_of_ble_eq_true rfl) (⟨by rw [decide_eq_true (hx.mp (by simpa using c22))]; rfl, rfl⟩)
set_option maxRecDepth 100000 in
theorem l_take (g : GG) (h : AH) (lq tq cq n : Nat) (t1 : hT h lq = (1, 0)) (t2 : hT h tq = (13, n)) (t3 : hT h cq = (14, n)) (q0 : hQ h lq 0 = some tq) (q7 : hQ h lq 7 = some cq) (ne1 : lq ≠ cq) (ne2 : tq ≠ lq) (ne3 : tq ≠ cq) (hn : n ≤ 120) (H : Nat → Int32) (hH : ∀ p, p < n → hI h tq p = bx (H p) ∧ oO (H p) 0 255 = false) (hE : ∀ p, n ≤ p → H p = -1) (p : Nat) (l : List Int32) (hp : p ≤ n) (c : Int32) (hc : oO c 1 127 = false) : AM g 2 0 0 mX1_take [.ref lq, .int c] (lpH h lq cq p l) (fun rv h' => rv = some (.int (b2i (decide (H p = c)))) ∧ h' = lpH h lq cq (if H p = c then p + 1 else p) l) := by
  refine AM.of [(0, .ref lq), (1, .int c)] (by decide) (Nat.le_of_ble_eq_true rfl) rfl ?_
  intro V hV
  have hb : V.2.1.2.1 = cX1_take := by subst hV; rfl
  have ow : V.2.1.1.cls = RX1 := by subst hV; rfl
  have hr : V.2.2.1 = aw_rm 2 0 0 := by subst hV; rfl
  have hz : V.2.2.2 = aw_Z V.1 (fun rv h' => rv = some (.int (b2i (decide (H p = c)))) ∧ h' = lpH h lq cq (if H p = c then p + 1 else p) l) V.2.2.1 := by subst hV; rfl
  have hg : V.1 = g := by subst hV; rfl
  have hret : V.2.1.2.2.2 = (some .boolean) := by subst hV; rfl
  have hml : V.2.1.2.2.1 = 3 := by subst hV; rfl
  clear hV
  refine a_aload_n hb dX1_take_0 rfl 0 rfl ?_
  refine a_iload_n hb dX1_take_1 rfl 1 rfl ?_
  refine a_callV hb dX1_take_2 (by rw [hg]; exact l_next g h lq tq cq n t1 t2 t3 q0 q7 ne1 ne2 ne3 hn H hH hE p l hp c hc) (by rw [ow]; exact clv_RX1_65) (lp_k (h := h) (lq := lq) (cq := cq) (p := p) (l := l) t1) (by decide) rfl rfl rfl (Nat.le_of_ble_eq_true rfl) (by rw [hr]; exact ⟨by decide, by decide⟩) (by rw [hr]; exact ⟨Nat.le_of_ble_eq_true rfl, Nat.le_of_ble_eq_true rfl⟩) ?_
  intro rv h' hq_
  rw [hq_.1, hq_.2]
  show AW V 0 0 (lpH h lq cq p l) 5 [(0, .ref lq), (1, .int c)] [.int (b2i (decide (H p = c)))]
  refine a_istore_n (L' := [(2, .int (b2i (decide (H p = c)))), (0, .ref lq), (1, .int c)]) hb dX1_take_5 rfl (by rw [hml]; decide) rfl ?_
  refine a_aload_n hb dX1_take_6 rfl 1 rfl ?_
  refine a_dup hb dX1_take_7 rfl ?_
  refine a_getI hb dX1_take_8 (by rw [ow]; exact fl_RX1_7_1) (lp_k (h := h) (lq := lq) (cq := cq) (p := p) (l := l) t1) ?_
  rw [lp_1 ne1]
  show AW V 0 0 (lpH h lq cq p l) 11 [(2, .int (b2i (decide (H p = c)))), (0, .ref lq), (1, .int c)] [.int (nI p), .ref lq]
  refine a_iload_n hb dX1_take_11 rfl 0 rfl ?_
  refine a_if_eq hb 19 dX1_take_12 (by decide) (fun c12 => ?_) (fun c12 => ?_)
  · simp [b2i_0] at c12
    refine a_iconst (v := 0) hb dX1_take_19 (by decide) ?_
    refine a_iadd hb dX1_take_20 ?_
    refine a_putI (fty := .int) hb dX1_take_21 (by rw [ow]; exact fp_RX1_7_1) (Or.inr (fun C T N hq => by cases hq; rfl)) (lp_k (h := h) (lq := lq) (cq := cq) (p := p) (l := l) t1) rfl rfl ?_
    rw [lp_p ne1 (q := p) (by rw [Int32.add_zero])]
    show AW V 0 0 (lpH h lq cq p l) 24 [(2, .int (b2i (decide (H p = c)))), (0, .ref lq), (1, .int c)] []
    refine a_iload_n hb dX1_take_24 rfl 0 rfl ?_
    exact a_ireturn (ty := .boolean) hb hz dX1_take_25 hret (b2i_nb _) (by rw [hr]; exact Nat.le_of_ble_eq_true rfl) (by rw [hr]; exact Nat.le_of_ble_eq_true rfl) (⟨rfl, by rw [if_neg (by simpa using c12)]⟩)
  · simp [b2i_0] at c12
    refine a_iconst (v := 1) hb dX1_take_15 (by decide) ?_
    refine a_goto hb 20 dX1_take_16 (by decide) ?_
    refine a_iadd hb dX1_take_20 ?_
    refine a_putI (fty := .int) hb dX1_take_21 (by rw [ow]; exact fp_RX1_7_1) (Or.inr (fun C T N hq => by cases hq; rfl)) (lp_k (h := h) (lq := lq) (cq := cq) (p := p) (l := l) t1) rfl rfl ?_
    rw [lp_p ne1 (q := p + 1) (by rw [nI_1])]
    show AW V 0 0 (lpH h lq cq (p + 1) l) 24 [(2, .int (b2i (decide (H p = c)))), (0, .ref lq), (1, .int c)] []
    refine a_iload_n hb dX1_take_24 rfl 0 rfl ?_
    exact a_ireturn (ty := .boolean) hb hz dX1_take_25 hret (b2i_nb _) (by rw [hr]; exact Nat.le_of_ble_eq_true rfl) (by rw [hr]; exact Nat.le_of_ble_eq_true rfl) (⟨rfl, by rw [if_pos (by simpa using c12)]⟩)
set_option maxRecDepth 100000 in
theorem l_emit (g : GG) (h : AH) (lq tq cq n : Nat) (t1 : hT h lq = (1, 0)) (t2 : hT h tq = (13, n)) (t3 : hT h cq = (14, n)) (q0 : hQ h lq 0 = some tq) (q7 : hQ h lq 7 = some cq) (ne1 : lq ≠ cq) (ne2 : tq ≠ lq) (ne3 : tq ≠ cq) (hn : n ≤ 120) (H : Nat → Int32) (hH : ∀ p, p < n → hI h tq p = bx (H p) ∧ oO (H p) 0 255 = false) (hE : ∀ p, n ≤ p → H p = -1) (p : Nat) (l : List Int32) (hp : p ≤ n) (s : Int32) (hl : l.length < n) : AM g 1 0 0 mX1_emit [.ref lq, .int s] (lpH h lq cq p l) (fun rv h' => rv = some (.int 1) ∧ h' = lpH h lq cq p (l ++ [s])) := by
  refine AM.of [(0, .ref lq), (1, .int s)] (by decide) (Nat.le_of_ble_eq_true rfl) rfl ?_
  intro V hV
  have hb : V.2.1.2.1 = cX1_emit := by subst hV; rfl
  have ow : V.2.1.1.cls = RX1 := by subst hV; rfl
  have hr : V.2.2.1 = aw_rm 1 0 0 := by subst hV; rfl
  have hz : V.2.2.2 = aw_Z V.1 (fun rv h' => rv = some (.int 1) ∧ h' = lpH h lq cq p (l ++ [s])) V.2.2.1 := by subst hV; rfl
  have hg : V.1 = g := by subst hV; rfl
  have hret : V.2.1.2.2.2 = (some .boolean) := by subst hV; rfl
  have hml : V.2.1.2.2.1 = 2 := by subst hV; rfl
  clear hV
  refine a_aload_n hb dX1_emit_0 rfl 0 rfl ?_
  refine a_getI hb dX1_emit_1 (by rw [ow]; exact fl_RX1_26_1) (lp_k (h := h) (lq := lq) (cq := cq) (p := p) (l := l) t1) ?_
  rw [lp_8 ne1]
  show AW V 0 0 (lpH h lq cq p l) 4 [(0, .ref lq), (1, .int s)] [.int (nI l.length)]
  refine a_aload_n hb dX1_emit_4 rfl 0 rfl ?_
  refine a_getQ (q := cq) hb dX1_emit_5 (by rw [ow]; exact fl_RX1_36_1) (lp_k (h := h) (lq := lq) (cq := cq) (p := p) (l := l) t1) (lp_q (h := h) (lq := lq) (cq := cq) (p := p) (l := l) q7) ?_
  refine a_alenI (v := (nI n)) hb dX1_emit_8 (lp_k (h := h) (lq := lq) (cq := cq) (p := p) (l := l) t3) (by decide) rfl ?_
  refine a_icmp_lt hb 14 dX1_emit_9 (by decide) (fun c9 => ?_) (fun c9 => absurd ((nI_ltI (by omega) (by omega)).mpr hl) c9)
  refine a_aload_n hb dX1_emit_14 rfl 0 rfl ?_
  refine a_getQ (q := cq) hb dX1_emit_15 (by rw [ow]; exact fl_RX1_36_1) (lp_k (h := h) (lq := lq) (cq := cq) (p := p) (l := l) t1) (lp_q (h := h) (lq := lq) (cq := cq) (p := p) (l := l) q7) ?_
  refine a_aload_n hb dX1_emit_18 rfl 0 rfl ?_
  refine a_getI hb dX1_emit_19 (by rw [ow]; exact fl_RX1_26_1) (lp_k (h := h) (lq := lq) (cq := cq) (p := p) (l := l) t1) ?_
  rw [lp_8 ne1]
  show AW V 0 0 (lpH h lq cq p l) 22 [(0, .ref lq), (1, .int s)] [.int (nI l.length), .ref cq]
  refine a_iload_n hb dX1_emit_22 rfl 1 rfl ?_
  refine b_iast (j := l.length) hb dX1_emit_23 (lp_k (h := h) (lq := lq) (cq := cq) (p := p) (l := l) t3) (IX.n (by omega)) (by omega) ?_
  refine a_aload_n hb dX1_emit_24 rfl 0 rfl ?_
  refine a_dup hb dX1_emit_25 rfl ?_
  refine a_getI hb dX1_emit_26 (by rw [ow]; exact fl_RX1_26_1) (lp_k (h := h) (lq := lq) (cq := cq) (p := p) (l := l) t1) ?_
  rw [hI_setI_n ne1, lp_8 ne1]
  show AW V 0 0 (setI (lpH h lq cq p l) cq l.length s) 29 [(0, .ref lq), (1, .int s)] [.int (nI l.length), .ref lq]
  refine a_iconst (v := 1) hb dX1_emit_29 (by decide) ?_
  refine a_iadd hb dX1_emit_30 ?_
  refine a_putI (fty := .int) hb dX1_emit_31 (by rw [ow]; exact fp_RX1_26_1) (Or.inr (fun C T N hq => by cases hq; rfl)) (lp_k (h := h) (lq := lq) (cq := cq) (p := p) (l := l) t1) rfl rfl ?_
  refine a_iconst (v := 1) hb dX1_emit_34 (by decide) ?_
  exact a_ireturn (ty := .boolean) hb hz dX1_emit_35 hret (by first | rfl | (simp only [narrow]; done) | exact aw_nb _) (by rw [hr]; exact Nat.le_of_ble_eq_true rfl) (by rw [hr]; exact Nat.le_of_ble_eq_true rfl) (⟨rfl, lp_e ne1⟩)
