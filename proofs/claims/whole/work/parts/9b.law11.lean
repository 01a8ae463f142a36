/-! ===== the class reads a law: a word ===== -/
set_option maxRecDepth 100000 in
theorem l_word2 (g : GG) (h : AH) (lq tq cq n : Nat) (t1 : hT h lq = (1, 0)) (t2 : hT h tq = (13, n)) (t3 : hT h cq = (14, n)) (q0 : hQ h lq 0 = some tq) (q7 : hQ h lq 7 = some cq) (ne1 : lq ≠ cq) (ne2 : tq ≠ lq) (ne3 : tq ≠ cq) (hn : n ≤ 120) (H : Nat → Int32) (hH : ∀ p, p < n → hI h tq p = bx (H p) ∧ oO (H p) 0 255 = false) (hE : ∀ p, n ≤ p → H p = -1) (p : Nat) (l : List Int32) (hp : p ≤ n) : AM g 5 0 0 mX1_word [.ref lq, .ref (gS g (2 + 2))] (lpH h lq cq p l) (fun rv h' => rv = some (.int (b2i (!(spS H wdM false p).1))) ∧ h' = lpH h lq cq (spS H wdM false p).2 l) := by
  refine AM.of [(0, .ref lq), (1, .ref (gS g (2 + 2)))] (by decide) (Nat.le_of_ble_eq_true rfl) rfl ?_
  intro V hV
  have hb : V.2.1.2.1 = cX1_word := by subst hV; rfl
  have ow : V.2.1.1.cls = RX1 := by subst hV; rfl
  have hr : V.2.2.1 = aw_rm 5 0 0 := by subst hV; rfl
  have hz : V.2.2.2 = aw_Z V.1 (fun rv h' => rv = some (.int (b2i (!(spS H wdM false p).1))) ∧ h' = lpH h lq cq (spS H wdM false p).2 l) V.2.2.1 := by subst hV; rfl
  have hg : V.1 = g := by subst hV; rfl
  have hret : V.2.1.2.2.2 = (some .boolean) := by subst hV; rfl
  have hml : V.2.1.2.2.1 = 3 := by subst hV; rfl
  clear hV
  rw [← hg]
  refine a_iconst (v := 0) hb dX1_word_0 (by decide) ?_
  refine a_istore_n (L' := [(2, .int 0), (0, .ref lq), (1, .ref (gS V.1 (2 + 2)))]) hb dX1_word_1 rfl (by rw [hml]; decide) rfl ?_
  refine a_iload_n hb dX1_word_2 rfl 0 rfl ?_
  refine a_aload_n hb dX1_word_3 rfl 2 rfl ?_
  refine a_callT (i := 2) hb (by decide) dX1_word_4 (by rw [hg]; exact j_length g (lpH h lq cq p l) 2 (by decide)) (by rw [ow]; exact clv_RX1_108) rfl rfl rfl (Nat.le_of_ble_eq_true rfl) (by rw [hr]; exact ⟨by decide, by decide⟩) (by rw [hr]; exact ⟨Nat.le_of_ble_eq_true rfl, Nat.le_of_ble_eq_true rfl⟩) ?_
  intro rv h' hp_
  rw [hp_.1, hp_.2, show Int32.ofNat (aw_tl.getD 2 0) = 5 from by decide]
  show AW V 0 0 (lpH h lq cq p l) 7 [(2, .int 0), (0, .ref lq), (1, .ref (gS V.1 (2 + 2)))] [.int 5, .int 0]
  refine a_icmp_ge hb 30 dX1_word_7 (by decide) (fun c7_0 => absurd c7_0 (by decide)) (fun c7_0 => ?_)
  refine a_aload_n hb dX1_word_10 rfl 1 rfl ?_
  refine a_aload_n hb dX1_word_11 rfl 2 rfl ?_
  refine a_iload_n hb dX1_word_12 rfl 0 rfl ?_
  refine a_callT (i := 2) hb (by decide) dX1_word_13 (by rw [hg]; exact j_char g (lpH h lq cq p l) 2 (by decide) 0 0 ⟨by decide, by decide⟩ (by decide) (by decide) (by decide) rfl) (by rw [ow]; exact clv_RX1_113) rfl rfl rfl (Nat.le_of_ble_eq_true rfl) (by rw [hr]; exact ⟨by decide, by decide⟩) (by rw [hr]; exact ⟨Nat.le_of_ble_eq_true rfl, Nat.le_of_ble_eq_true rfl⟩) ?_
  intro rv h' hp_
  rw [hp_.1, hp_.2, show (aw_tb.getD 2 []).getD 0 0 = 109 from by decide]
  show AW V 0 0 (lpH h lq cq p l) 16 [(2, .int 0), (0, .ref lq), (1, .ref (gS V.1 (2 + 2)))] [.int 109, .ref lq]
  refine a_callV hb dX1_word_16 (by rw [hg]; exact l_take g h lq tq cq n t1 t2 t3 q0 q7 ne1 ne2 ne3 hn H hH hE p l hp 109 (by decide)) (by rw [ow]; exact clv_RX1_43) (lp_k (h := h) (lq := lq) (cq := cq) (p := p) (l := l) t1) (by decide) rfl rfl rfl (Nat.le_of_ble_eq_true rfl) (by rw [hr]; exact ⟨by decide, by decide⟩) (by rw [hr]; exact ⟨Nat.le_of_ble_eq_true rfl, Nat.le_of_ble_eq_true rfl⟩) ?_
  intro rv h' hq_
  rw [hq_.1, hq_.2]
  show AW V 0 0 (lpH h lq cq (if H p = 109 then p + 1 else p) l) 19 [(2, .int 0), (0, .ref lq), (1, .ref (gS V.1 (2 + 2)))] [.int (b2i (decide (H p = 109)))]
  refine a_if_ne hb 24 dX1_word_19 (by decide) (fun c19_0 => ?_) (fun c19_0 => ?_)
  · simp [b2i_0] at c19_0
    have e0 : H p = 109 := by simpa using c19_0
    have l0 : p < n := Nat.lt_of_not_le (fun z => absurd ((hE _ z).symm.trans e0) (by decide))
    rw [if_pos e0]
    show AW V 0 0 (lpH h lq cq (p + 1) l) 24 [(2, .int 0), (0, .ref lq), (1, .ref (gS V.1 (2 + 2)))] []
    refine a_iinc (v := (0 + 1)) (L' := [(2, .int (0 + 1)), (0, .ref lq), (1, .ref (gS V.1 (2 + 2)))]) hb dX1_word_24 0 rfl rfl (by rw [hml]; decide) rfl ?_
    refine a_goto hb 2 dX1_word_27 (by decide) ?_
    rw [show ((0 : Int32) + 1) = 1 from by decide]
    show AW V 0 0 (lpH h lq cq (p + 1) l) 2 [(2, .int 1), (0, .ref lq), (1, .ref (gS V.1 (2 + 2)))] []
    refine a_iload_n hb dX1_word_2 rfl 0 rfl ?_
    refine a_aload_n hb dX1_word_3 rfl 2 rfl ?_
    refine a_callT (i := 2) hb (by decide) dX1_word_4 (by rw [hg]; exact j_length g (lpH h lq cq (p + 1) l) 2 (by decide)) (by rw [ow]; exact clv_RX1_108) rfl rfl rfl (Nat.le_of_ble_eq_true rfl) (by rw [hr]; exact ⟨by decide, by decide⟩) (by rw [hr]; exact ⟨Nat.le_of_ble_eq_true rfl, Nat.le_of_ble_eq_true rfl⟩) ?_
    intro rv h' hp_
    rw [hp_.1, hp_.2, show Int32.ofNat (aw_tl.getD 2 0) = 5 from by decide]
    show AW V 0 0 (lpH h lq cq (p + 1) l) 7 [(2, .int 1), (0, .ref lq), (1, .ref (gS V.1 (2 + 2)))] [.int 5, .int 1]
    refine a_icmp_ge hb 30 dX1_word_7 (by decide) (fun c7_1 => absurd c7_1 (by decide)) (fun c7_1 => ?_)
    refine a_aload_n hb dX1_word_10 rfl 1 rfl ?_
    refine a_aload_n hb dX1_word_11 rfl 2 rfl ?_
    refine a_iload_n hb dX1_word_12 rfl 0 rfl ?_
    refine a_callT (i := 2) hb (by decide) dX1_word_13 (by rw [hg]; exact j_char g (lpH h lq cq (p + 1) l) 2 (by decide) 1 1 ⟨by decide, by decide⟩ (by decide) (by decide) (by decide) rfl) (by rw [ow]; exact clv_RX1_113) rfl rfl rfl (Nat.le_of_ble_eq_true rfl) (by rw [hr]; exact ⟨by decide, by decide⟩) (by rw [hr]; exact ⟨Nat.le_of_ble_eq_true rfl, Nat.le_of_ble_eq_true rfl⟩) ?_
    intro rv h' hp_
    rw [hp_.1, hp_.2, show (aw_tb.getD 2 []).getD 1 0 = 111 from by decide]
    show AW V 0 0 (lpH h lq cq (p + 1) l) 16 [(2, .int 1), (0, .ref lq), (1, .ref (gS V.1 (2 + 2)))] [.int 111, .ref lq]
    refine a_callV hb dX1_word_16 (by rw [hg]; exact l_take g h lq tq cq n t1 t2 t3 q0 q7 ne1 ne2 ne3 hn H hH hE (p + 1) l (by omega) 111 (by decide)) (by rw [ow]; exact clv_RX1_43) (lp_k (h := h) (lq := lq) (cq := cq) (p := p + 1) (l := l) t1) (by decide) rfl rfl rfl (Nat.le_of_ble_eq_true rfl) (by rw [hr]; exact ⟨by decide, by decide⟩) (by rw [hr]; exact ⟨Nat.le_of_ble_eq_true rfl, Nat.le_of_ble_eq_true rfl⟩) ?_
    intro rv h' hq_
    rw [hq_.1, hq_.2]
    show AW V 0 0 (lpH h lq cq (if H (p + 1) = 111 then p + 1 + 1 else p + 1) l) 19 [(2, .int 1), (0, .ref lq), (1, .ref (gS V.1 (2 + 2)))] [.int (b2i (decide (H (p + 1) = 111)))]
    refine a_if_ne hb 24 dX1_word_19 (by decide) (fun c19_1 => ?_) (fun c19_1 => ?_)
    · simp [b2i_0] at c19_1
      have e1 : H (p + 1) = 111 := by simpa using c19_1
      have l1 : p + 1 < n := Nat.lt_of_not_le (fun z => absurd ((hE _ z).symm.trans e1) (by decide))
      rw [if_pos e1]
      show AW V 0 0 (lpH h lq cq (p + 2) l) 24 [(2, .int 1), (0, .ref lq), (1, .ref (gS V.1 (2 + 2)))] []
      refine a_iinc (v := (1 + 1)) (L' := [(2, .int (1 + 1)), (0, .ref lq), (1, .ref (gS V.1 (2 + 2)))]) hb dX1_word_24 0 rfl rfl (by rw [hml]; decide) rfl ?_
      refine a_goto hb 2 dX1_word_27 (by decide) ?_
      rw [show ((1 : Int32) + 1) = 2 from by decide]
      show AW V 0 0 (lpH h lq cq (p + 2) l) 2 [(2, .int 2), (0, .ref lq), (1, .ref (gS V.1 (2 + 2)))] []
      refine a_iload_n hb dX1_word_2 rfl 0 rfl ?_
      refine a_aload_n hb dX1_word_3 rfl 2 rfl ?_
      refine a_callT (i := 2) hb (by decide) dX1_word_4 (by rw [hg]; exact j_length g (lpH h lq cq (p + 2) l) 2 (by decide)) (by rw [ow]; exact clv_RX1_108) rfl rfl rfl (Nat.le_of_ble_eq_true rfl) (by rw [hr]; exact ⟨by decide, by decide⟩) (by rw [hr]; exact ⟨Nat.le_of_ble_eq_true rfl, Nat.le_of_ble_eq_true rfl⟩) ?_
      intro rv h' hp_
      rw [hp_.1, hp_.2, show Int32.ofNat (aw_tl.getD 2 0) = 5 from by decide]
      show AW V 0 0 (lpH h lq cq (p + 2) l) 7 [(2, .int 2), (0, .ref lq), (1, .ref (gS V.1 (2 + 2)))] [.int 5, .int 2]
      refine a_icmp_ge hb 30 dX1_word_7 (by decide) (fun c7_2 => absurd c7_2 (by decide)) (fun c7_2 => ?_)
      refine a_aload_n hb dX1_word_10 rfl 1 rfl ?_
      refine a_aload_n hb dX1_word_11 rfl 2 rfl ?_
      refine a_iload_n hb dX1_word_12 rfl 0 rfl ?_
      refine a_callT (i := 2) hb (by decide) dX1_word_13 (by rw [hg]; exact j_char g (lpH h lq cq (p + 2) l) 2 (by decide) 2 2 ⟨by decide, by decide⟩ (by decide) (by decide) (by decide) rfl) (by rw [ow]; exact clv_RX1_113) rfl rfl rfl (Nat.le_of_ble_eq_true rfl) (by rw [hr]; exact ⟨by decide, by decide⟩) (by rw [hr]; exact ⟨Nat.le_of_ble_eq_true rfl, Nat.le_of_ble_eq_true rfl⟩) ?_
      intro rv h' hp_
      rw [hp_.1, hp_.2, show (aw_tb.getD 2 []).getD 2 0 = 115 from by decide]
      show AW V 0 0 (lpH h lq cq (p + 2) l) 16 [(2, .int 2), (0, .ref lq), (1, .ref (gS V.1 (2 + 2)))] [.int 115, .ref lq]
      refine a_callV hb dX1_word_16 (by rw [hg]; exact l_take g h lq tq cq n t1 t2 t3 q0 q7 ne1 ne2 ne3 hn H hH hE (p + 2) l (by omega) 115 (by decide)) (by rw [ow]; exact clv_RX1_43) (lp_k (h := h) (lq := lq) (cq := cq) (p := p + 2) (l := l) t1) (by decide) rfl rfl rfl (Nat.le_of_ble_eq_true rfl) (by rw [hr]; exact ⟨by decide, by decide⟩) (by rw [hr]; exact ⟨Nat.le_of_ble_eq_true rfl, Nat.le_of_ble_eq_true rfl⟩) ?_
      intro rv h' hq_
      rw [hq_.1, hq_.2]
      show AW V 0 0 (lpH h lq cq (if H (p + 2) = 115 then p + 2 + 1 else p + 2) l) 19 [(2, .int 2), (0, .ref lq), (1, .ref (gS V.1 (2 + 2)))] [.int (b2i (decide (H (p + 2) = 115)))]
      refine a_if_ne hb 24 dX1_word_19 (by decide) (fun c19_2 => ?_) (fun c19_2 => ?_)
      · simp [b2i_0] at c19_2
        have e2 : H (p + 2) = 115 := by simpa using c19_2
        have l2 : p + 2 < n := Nat.lt_of_not_le (fun z => absurd ((hE _ z).symm.trans e2) (by decide))
        rw [if_pos e2]
        show AW V 0 0 (lpH h lq cq (p + 3) l) 24 [(2, .int 2), (0, .ref lq), (1, .ref (gS V.1 (2 + 2)))] []
        refine a_iinc (v := (2 + 1)) (L' := [(2, .int (2 + 1)), (0, .ref lq), (1, .ref (gS V.1 (2 + 2)))]) hb dX1_word_24 0 rfl rfl (by rw [hml]; decide) rfl ?_
        refine a_goto hb 2 dX1_word_27 (by decide) ?_
        rw [show ((2 : Int32) + 1) = 3 from by decide]
        show AW V 0 0 (lpH h lq cq (p + 3) l) 2 [(2, .int 3), (0, .ref lq), (1, .ref (gS V.1 (2 + 2)))] []
        refine a_iload_n hb dX1_word_2 rfl 0 rfl ?_
        refine a_aload_n hb dX1_word_3 rfl 2 rfl ?_
        refine a_callT (i := 2) hb (by decide) dX1_word_4 (by rw [hg]; exact j_length g (lpH h lq cq (p + 3) l) 2 (by decide)) (by rw [ow]; exact clv_RX1_108) rfl rfl rfl (Nat.le_of_ble_eq_true rfl) (by rw [hr]; exact ⟨by decide, by decide⟩) (by rw [hr]; exact ⟨Nat.le_of_ble_eq_true rfl, Nat.le_of_ble_eq_true rfl⟩) ?_
        intro rv h' hp_
        rw [hp_.1, hp_.2, show Int32.ofNat (aw_tl.getD 2 0) = 5 from by decide]
        show AW V 0 0 (lpH h lq cq (p + 3) l) 7 [(2, .int 3), (0, .ref lq), (1, .ref (gS V.1 (2 + 2)))] [.int 5, .int 3]
        refine a_icmp_ge hb 30 dX1_word_7 (by decide) (fun c7_3 => absurd c7_3 (by decide)) (fun c7_3 => ?_)
        refine a_aload_n hb dX1_word_10 rfl 1 rfl ?_
        refine a_aload_n hb dX1_word_11 rfl 2 rfl ?_
        refine a_iload_n hb dX1_word_12 rfl 0 rfl ?_
        refine a_callT (i := 2) hb (by decide) dX1_word_13 (by rw [hg]; exact j_char g (lpH h lq cq (p + 3) l) 2 (by decide) 3 3 ⟨by decide, by decide⟩ (by decide) (by decide) (by decide) rfl) (by rw [ow]; exact clv_RX1_113) rfl rfl rfl (Nat.le_of_ble_eq_true rfl) (by rw [hr]; exact ⟨by decide, by decide⟩) (by rw [hr]; exact ⟨Nat.le_of_ble_eq_true rfl, Nat.le_of_ble_eq_true rfl⟩) ?_
        intro rv h' hp_
        rw [hp_.1, hp_.2, show (aw_tb.getD 2 []).getD 3 0 = 116 from by decide]
        show AW V 0 0 (lpH h lq cq (p + 3) l) 16 [(2, .int 3), (0, .ref lq), (1, .ref (gS V.1 (2 + 2)))] [.int 116, .ref lq]
        refine a_callV hb dX1_word_16 (by rw [hg]; exact l_take g h lq tq cq n t1 t2 t3 q0 q7 ne1 ne2 ne3 hn H hH hE (p + 3) l (by omega) 116 (by decide)) (by rw [ow]; exact clv_RX1_43) (lp_k (h := h) (lq := lq) (cq := cq) (p := p + 3) (l := l) t1) (by decide) rfl rfl rfl (Nat.le_of_ble_eq_true rfl) (by rw [hr]; exact ⟨by decide, by decide⟩) (by rw [hr]; exact ⟨Nat.le_of_ble_eq_true rfl, Nat.le_of_ble_eq_true rfl⟩) ?_
        intro rv h' hq_
        rw [hq_.1, hq_.2]
        show AW V 0 0 (lpH h lq cq (if H (p + 3) = 116 then p + 3 + 1 else p + 3) l) 19 [(2, .int 3), (0, .ref lq), (1, .ref (gS V.1 (2 + 2)))] [.int (b2i (decide (H (p + 3) = 116)))]
        refine a_if_ne hb 24 dX1_word_19 (by decide) (fun c19_3 => ?_) (fun c19_3 => ?_)
        · simp [b2i_0] at c19_3
          have e3 : H (p + 3) = 116 := by simpa using c19_3
          have l3 : p + 3 < n := Nat.lt_of_not_le (fun z => absurd ((hE _ z).symm.trans e3) (by decide))
          rw [if_pos e3]
          show AW V 0 0 (lpH h lq cq (p + 4) l) 24 [(2, .int 3), (0, .ref lq), (1, .ref (gS V.1 (2 + 2)))] []
          refine a_iinc (v := (3 + 1)) (L' := [(2, .int (3 + 1)), (0, .ref lq), (1, .ref (gS V.1 (2 + 2)))]) hb dX1_word_24 0 rfl rfl (by rw [hml]; decide) rfl ?_
          refine a_goto hb 2 dX1_word_27 (by decide) ?_
          rw [show ((3 : Int32) + 1) = 4 from by decide]
          show AW V 0 0 (lpH h lq cq (p + 4) l) 2 [(2, .int 4), (0, .ref lq), (1, .ref (gS V.1 (2 + 2)))] []
          refine a_iload_n hb dX1_word_2 rfl 0 rfl ?_
          refine a_aload_n hb dX1_word_3 rfl 2 rfl ?_
          refine a_callT (i := 2) hb (by decide) dX1_word_4 (by rw [hg]; exact j_length g (lpH h lq cq (p + 4) l) 2 (by decide)) (by rw [ow]; exact clv_RX1_108) rfl rfl rfl (Nat.le_of_ble_eq_true rfl) (by rw [hr]; exact ⟨by decide, by decide⟩) (by rw [hr]; exact ⟨Nat.le_of_ble_eq_true rfl, Nat.le_of_ble_eq_true rfl⟩) ?_
          intro rv h' hp_
          rw [hp_.1, hp_.2, show Int32.ofNat (aw_tl.getD 2 0) = 5 from by decide]
          show AW V 0 0 (lpH h lq cq (p + 4) l) 7 [(2, .int 4), (0, .ref lq), (1, .ref (gS V.1 (2 + 2)))] [.int 5, .int 4]
          refine a_icmp_ge hb 30 dX1_word_7 (by decide) (fun c7_4 => absurd c7_4 (by decide)) (fun c7_4 => ?_)
          refine a_aload_n hb dX1_word_10 rfl 1 rfl ?_
          refine a_aload_n hb dX1_word_11 rfl 2 rfl ?_
          refine a_iload_n hb dX1_word_12 rfl 0 rfl ?_
          refine a_callT (i := 2) hb (by decide) dX1_word_13 (by rw [hg]; exact j_char g (lpH h lq cq (p + 4) l) 2 (by decide) 4 4 ⟨by decide, by decide⟩ (by decide) (by decide) (by decide) rfl) (by rw [ow]; exact clv_RX1_113) rfl rfl rfl (Nat.le_of_ble_eq_true rfl) (by rw [hr]; exact ⟨by decide, by decide⟩) (by rw [hr]; exact ⟨Nat.le_of_ble_eq_true rfl, Nat.le_of_ble_eq_true rfl⟩) ?_
          intro rv h' hp_
          rw [hp_.1, hp_.2, show (aw_tb.getD 2 []).getD 4 0 = 32 from by decide]
          show AW V 0 0 (lpH h lq cq (p + 4) l) 16 [(2, .int 4), (0, .ref lq), (1, .ref (gS V.1 (2 + 2)))] [.int 32, .ref lq]
          refine a_callV hb dX1_word_16 (by rw [hg]; exact l_take g h lq tq cq n t1 t2 t3 q0 q7 ne1 ne2 ne3 hn H hH hE (p + 4) l (by omega) 32 (by decide)) (by rw [ow]; exact clv_RX1_43) (lp_k (h := h) (lq := lq) (cq := cq) (p := p + 4) (l := l) t1) (by decide) rfl rfl rfl (Nat.le_of_ble_eq_true rfl) (by rw [hr]; exact ⟨by decide, by decide⟩) (by rw [hr]; exact ⟨Nat.le_of_ble_eq_true rfl, Nat.le_of_ble_eq_true rfl⟩) ?_
          intro rv h' hq_
          rw [hq_.1, hq_.2]
          show AW V 0 0 (lpH h lq cq (if H (p + 4) = 32 then p + 4 + 1 else p + 4) l) 19 [(2, .int 4), (0, .ref lq), (1, .ref (gS V.1 (2 + 2)))] [.int (b2i (decide (H (p + 4) = 32)))]
          refine a_if_ne hb 24 dX1_word_19 (by decide) (fun c19_4 => ?_) (fun c19_4 => ?_)
          · simp [b2i_0] at c19_4
            have e4 : H (p + 4) = 32 := by simpa using c19_4
            have l4 : p + 4 < n := Nat.lt_of_not_le (fun z => absurd ((hE _ z).symm.trans e4) (by decide))
            rw [if_pos e4]
            show AW V 0 0 (lpH h lq cq (p + 5) l) 24 [(2, .int 4), (0, .ref lq), (1, .ref (gS V.1 (2 + 2)))] []
            refine a_iinc (v := (4 + 1)) (L' := [(2, .int (4 + 1)), (0, .ref lq), (1, .ref (gS V.1 (2 + 2)))]) hb dX1_word_24 0 rfl rfl (by rw [hml]; decide) rfl ?_
            refine a_goto hb 2 dX1_word_27 (by decide) ?_
            rw [show ((4 : Int32) + 1) = 5 from by decide]
            show AW V 0 0 (lpH h lq cq (p + 5) l) 2 [(2, .int 5), (0, .ref lq), (1, .ref (gS V.1 (2 + 2)))] []
            refine a_iload_n hb dX1_word_2 rfl 0 rfl ?_
            refine a_aload_n hb dX1_word_3 rfl 2 rfl ?_
            refine a_callT (i := 2) hb (by decide) dX1_word_4 (by rw [hg]; exact j_length g (lpH h lq cq (p + 5) l) 2 (by decide)) (by rw [ow]; exact clv_RX1_108) rfl rfl rfl (Nat.le_of_ble_eq_true rfl) (by rw [hr]; exact ⟨by decide, by decide⟩) (by rw [hr]; exact ⟨Nat.le_of_ble_eq_true rfl, Nat.le_of_ble_eq_true rfl⟩) ?_
            intro rv h' hp_
            rw [hp_.1, hp_.2, show Int32.ofNat (aw_tl.getD 2 0) = 5 from by decide]
            show AW V 0 0 (lpH h lq cq (p + 5) l) 7 [(2, .int 5), (0, .ref lq), (1, .ref (gS V.1 (2 + 2)))] [.int 5, .int 5]
            refine a_icmp_ge hb 30 dX1_word_7 (by decide) (fun c7_5 => ?_) (fun c7_5 => absurd (by decide) c7_5)
            refine a_iconst (v := 1) hb dX1_word_30 (by decide) ?_
            exact a_ireturn (ty := .boolean) hb hz dX1_word_31 hret (by first | rfl | (simp only [narrow]; done) | exact aw_nb _) (by rw [hr]; exact Nat.le_of_ble_eq_true rfl) (by rw [hr]; exact Nat.le_of_ble_eq_true rfl) ((by have z : spS H wdM false p = (false, p + 5) := (by simp [wdM, spS, muP, e0, e1, e2, e3, e4]); exact ⟨(by rw [z]; rfl), (by rw [z])⟩))
          · simp [b2i_0] at c19_4
            have n4 : ¬ H (p + 4) = 32 := by simpa using c19_4
            rw [if_neg n4]
            show AW V 0 0 (lpH h lq cq (p + 4) l) 22 [(2, .int 4), (0, .ref lq), (1, .ref (gS V.1 (2 + 2)))] []
            refine a_iconst (v := 0) hb dX1_word_22 (by decide) ?_
            exact a_ireturn (ty := .boolean) hb hz dX1_word_23 hret (by first | rfl | (simp only [narrow]; done) | exact aw_nb _) (by rw [hr]; exact Nat.le_of_ble_eq_true rfl) (by rw [hr]; exact Nat.le_of_ble_eq_true rfl) ((by have z : spS H wdM false p = (true, p + 4) := (by simp [wdM, spS, muP, e0, e1, e2, e3, n4]); exact ⟨(by rw [z]; rfl), (by rw [z])⟩))
        · simp [b2i_0] at c19_3
          have n3 : ¬ H (p + 3) = 116 := by simpa using c19_3
          rw [if_neg n3]
          show AW V 0 0 (lpH h lq cq (p + 3) l) 22 [(2, .int 3), (0, .ref lq), (1, .ref (gS V.1 (2 + 2)))] []
          refine a_iconst (v := 0) hb dX1_word_22 (by decide) ?_
          exact a_ireturn (ty := .boolean) hb hz dX1_word_23 hret (by first | rfl | (simp only [narrow]; done) | exact aw_nb _) (by rw [hr]; exact Nat.le_of_ble_eq_true rfl) (by rw [hr]; exact Nat.le_of_ble_eq_true rfl) ((by have z : spS H wdM false p = (true, p + 3) := (by simp [wdM, spS, muP, e0, e1, e2, n3]); exact ⟨(by rw [z]; rfl), (by rw [z])⟩))
      · simp [b2i_0] at c19_2
        have n2 : ¬ H (p + 2) = 115 := by simpa using c19_2
        rw [if_neg n2]
        show AW V 0 0 (lpH h lq cq (p + 2) l) 22 [(2, .int 2), (0, .ref lq), (1, .ref (gS V.1 (2 + 2)))] []
        refine a_iconst (v := 0) hb dX1_word_22 (by decide) ?_
        exact a_ireturn (ty := .boolean) hb hz dX1_word_23 hret (by first | rfl | (simp only [narrow]; done) | exact aw_nb _) (by rw [hr]; exact Nat.le_of_ble_eq_true rfl) (by rw [hr]; exact Nat.le_of_ble_eq_true rfl) ((by have z : spS H wdM false p = (true, p + 2) := (by simp [wdM, spS, muP, e0, e1, n2]); exact ⟨(by rw [z]; rfl), (by rw [z])⟩))
    · simp [b2i_0] at c19_1
      have n1 : ¬ H (p + 1) = 111 := by simpa using c19_1
      rw [if_neg n1]
      show AW V 0 0 (lpH h lq cq (p + 1) l) 22 [(2, .int 1), (0, .ref lq), (1, .ref (gS V.1 (2 + 2)))] []
      refine a_iconst (v := 0) hb dX1_word_22 (by decide) ?_
      exact a_ireturn (ty := .boolean) hb hz dX1_word_23 hret (by first | rfl | (simp only [narrow]; done) | exact aw_nb _) (by rw [hr]; exact Nat.le_of_ble_eq_true rfl) (by rw [hr]; exact Nat.le_of_ble_eq_true rfl) ((by have z : spS H wdM false p = (true, p + 1) := (by simp [wdM, spS, muP, e0, n1]); exact ⟨(by rw [z]; rfl), (by rw [z])⟩))
  · simp [b2i_0] at c19_0
    have n0 : ¬ H p = 109 := by simpa using c19_0
    rw [if_neg n0]
    show AW V 0 0 (lpH h lq cq p l) 22 [(2, .int 0), (0, .ref lq), (1, .ref (gS V.1 (2 + 2)))] []
    refine a_iconst (v := 0) hb dX1_word_22 (by decide) ?_
    exact a_ireturn (ty := .boolean) hb hz dX1_word_23 hret (by first | rfl | (simp only [narrow]; done) | exact aw_nb _) (by rw [hr]; exact Nat.le_of_ble_eq_true rfl) (by rw [hr]; exact Nat.le_of_ble_eq_true rfl) ((by have z : spS H wdM false p = (true, p) := (by simp [wdM, spS, muP, n0]); exact ⟨(by rw [z]; rfl), (by rw [z])⟩))
set_option maxRecDepth 100000 in
theorem l_word3 (g : GG) (h : AH) (lq tq cq n : Nat) (t1 : hT h lq = (1, 0)) (t2 : hT h tq = (13, n)) (t3 : hT h cq = (14, n)) (q0 : hQ h lq 0 = some tq) (q7 : hQ h lq 7 = some cq) (ne1 : lq ≠ cq) (ne2 : tq ≠ lq) (ne3 : tq ≠ cq) (hn : n ≤ 120) (H : Nat → Int32) (hH : ∀ p, p < n → hI h tq p = bx (H p) ∧ oO (H p) 0 255 = false) (hE : ∀ p, n ≤ p → H p = -1) (p : Nat) (l : List Int32) (hp : p ≤ n) : AM g 5 0 0 mX1_word [.ref lq, .ref (gS g (2 + 3))] (lpH h lq cq p l) (fun rv h' => rv = some (.int (b2i (!(spS H wdE false p).1))) ∧ h' = lpH h lq cq (spS H wdE false p).2 l) := by
  refine AM.of [(0, .ref lq), (1, .ref (gS g (2 + 3)))] (by decide) (Nat.le_of_ble_eq_true rfl) rfl ?_
  intro V hV
  have hb : V.2.1.2.1 = cX1_word := by subst hV; rfl
  have ow : V.2.1.1.cls = RX1 := by subst hV; rfl
  have hr : V.2.2.1 = aw_rm 5 0 0 := by subst hV; rfl
  have hz : V.2.2.2 = aw_Z V.1 (fun rv h' => rv = some (.int (b2i (!(spS H wdE false p).1))) ∧ h' = lpH h lq cq (spS H wdE false p).2 l) V.2.2.1 := by subst hV; rfl
  have hg : V.1 = g := by subst hV; rfl
  have hret : V.2.1.2.2.2 = (some .boolean) := by subst hV; rfl
  have hml : V.2.1.2.2.1 = 3 := by subst hV; rfl
  clear hV
  rw [← hg]
  refine a_iconst (v := 0) hb dX1_word_0 (by decide) ?_
  refine a_istore_n (L' := [(2, .int 0), (0, .ref lq), (1, .ref (gS V.1 (2 + 3)))]) hb dX1_word_1 rfl (by rw [hml]; decide) rfl ?_
  refine a_iload_n hb dX1_word_2 rfl 0 rfl ?_
  refine a_aload_n hb dX1_word_3 rfl 2 rfl ?_
  refine a_callT (i := 3) hb (by decide) dX1_word_4 (by rw [hg]; exact j_length g (lpH h lq cq p l) 3 (by decide)) (by rw [ow]; exact clv_RX1_108) rfl rfl rfl (Nat.le_of_ble_eq_true rfl) (by rw [hr]; exact ⟨by decide, by decide⟩) (by rw [hr]; exact ⟨Nat.le_of_ble_eq_true rfl, Nat.le_of_ble_eq_true rfl⟩) ?_
  intro rv h' hp_
  rw [hp_.1, hp_.2, show Int32.ofNat (aw_tl.getD 3 0) = 5 from by decide]
  show AW V 0 0 (lpH h lq cq p l) 7 [(2, .int 0), (0, .ref lq), (1, .ref (gS V.1 (2 + 3)))] [.int 5, .int 0]
  refine a_icmp_ge hb 30 dX1_word_7 (by decide) (fun c7_0 => absurd c7_0 (by decide)) (fun c7_0 => ?_)
  refine a_aload_n hb dX1_word_10 rfl 1 rfl ?_
  refine a_aload_n hb dX1_word_11 rfl 2 rfl ?_
  refine a_iload_n hb dX1_word_12 rfl 0 rfl ?_
  refine a_callT (i := 3) hb (by decide) dX1_word_13 (by rw [hg]; exact j_char g (lpH h lq cq p l) 3 (by decide) 0 0 ⟨by decide, by decide⟩ (by decide) (by decide) (by decide) rfl) (by rw [ow]; exact clv_RX1_113) rfl rfl rfl (Nat.le_of_ble_eq_true rfl) (by rw [hr]; exact ⟨by decide, by decide⟩) (by rw [hr]; exact ⟨Nat.le_of_ble_eq_true rfl, Nat.le_of_ble_eq_true rfl⟩) ?_
  intro rv h' hp_
  rw [hp_.1, hp_.2, show (aw_tb.getD 3 []).getD 0 0 = 101 from by decide]
  show AW V 0 0 (lpH h lq cq p l) 16 [(2, .int 0), (0, .ref lq), (1, .ref (gS V.1 (2 + 3)))] [.int 101, .ref lq]
  refine a_callV hb dX1_word_16 (by rw [hg]; exact l_take g h lq tq cq n t1 t2 t3 q0 q7 ne1 ne2 ne3 hn H hH hE p l hp 101 (by decide)) (by rw [ow]; exact clv_RX1_43) (lp_k (h := h) (lq := lq) (cq := cq) (p := p) (l := l) t1) (by decide) rfl rfl rfl (Nat.le_of_ble_eq_true rfl) (by rw [hr]; exact ⟨by decide, by decide⟩) (by rw [hr]; exact ⟨Nat.le_of_ble_eq_true rfl, Nat.le_of_ble_eq_true rfl⟩) ?_
  intro rv h' hq_
  rw [hq_.1, hq_.2]
  show AW V 0 0 (lpH h lq cq (if H p = 101 then p + 1 else p) l) 19 [(2, .int 0), (0, .ref lq), (1, .ref (gS V.1 (2 + 3)))] [.int (b2i (decide (H p = 101)))]
  refine a_if_ne hb 24 dX1_word_19 (by decide) (fun c19_0 => ?_) (fun c19_0 => ?_)
  · simp [b2i_0] at c19_0
    have e0 : H p = 101 := by simpa using c19_0
    have l0 : p < n := Nat.lt_of_not_le (fun z => absurd ((hE _ z).symm.trans e0) (by decide))
    rw [if_pos e0]
    show AW V 0 0 (lpH h lq cq (p + 1) l) 24 [(2, .int 0), (0, .ref lq), (1, .ref (gS V.1 (2 + 3)))] []
    refine a_iinc (v := (0 + 1)) (L' := [(2, .int (0 + 1)), (0, .ref lq), (1, .ref (gS V.1 (2 + 3)))]) hb dX1_word_24 0 rfl rfl (by rw [hml]; decide) rfl ?_
    refine a_goto hb 2 dX1_word_27 (by decide) ?_
    rw [show ((0 : Int32) + 1) = 1 from by decide]
    show AW V 0 0 (lpH h lq cq (p + 1) l) 2 [(2, .int 1), (0, .ref lq), (1, .ref (gS V.1 (2 + 3)))] []
    refine a_iload_n hb dX1_word_2 rfl 0 rfl ?_
    refine a_aload_n hb dX1_word_3 rfl 2 rfl ?_
    refine a_callT (i := 3) hb (by decide) dX1_word_4 (by rw [hg]; exact j_length g (lpH h lq cq (p + 1) l) 3 (by decide)) (by rw [ow]; exact clv_RX1_108) rfl rfl rfl (Nat.le_of_ble_eq_true rfl) (by rw [hr]; exact ⟨by decide, by decide⟩) (by rw [hr]; exact ⟨Nat.le_of_ble_eq_true rfl, Nat.le_of_ble_eq_true rfl⟩) ?_
    intro rv h' hp_
    rw [hp_.1, hp_.2, show Int32.ofNat (aw_tl.getD 3 0) = 5 from by decide]
    show AW V 0 0 (lpH h lq cq (p + 1) l) 7 [(2, .int 1), (0, .ref lq), (1, .ref (gS V.1 (2 + 3)))] [.int 5, .int 1]
    refine a_icmp_ge hb 30 dX1_word_7 (by decide) (fun c7_1 => absurd c7_1 (by decide)) (fun c7_1 => ?_)
    refine a_aload_n hb dX1_word_10 rfl 1 rfl ?_
    refine a_aload_n hb dX1_word_11 rfl 2 rfl ?_
    refine a_iload_n hb dX1_word_12 rfl 0 rfl ?_
    refine a_callT (i := 3) hb (by decide) dX1_word_13 (by rw [hg]; exact j_char g (lpH h lq cq (p + 1) l) 3 (by decide) 1 1 ⟨by decide, by decide⟩ (by decide) (by decide) (by decide) rfl) (by rw [ow]; exact clv_RX1_113) rfl rfl rfl (Nat.le_of_ble_eq_true rfl) (by rw [hr]; exact ⟨by decide, by decide⟩) (by rw [hr]; exact ⟨Nat.le_of_ble_eq_true rfl, Nat.le_of_ble_eq_true rfl⟩) ?_
    intro rv h' hp_
    rw [hp_.1, hp_.2, show (aw_tb.getD 3 []).getD 1 0 = 97 from by decide]
    show AW V 0 0 (lpH h lq cq (p + 1) l) 16 [(2, .int 1), (0, .ref lq), (1, .ref (gS V.1 (2 + 3)))] [.int 97, .ref lq]
    refine a_callV hb dX1_word_16 (by rw [hg]; exact l_take g h lq tq cq n t1 t2 t3 q0 q7 ne1 ne2 ne3 hn H hH hE (p + 1) l (by omega) 97 (by decide)) (by rw [ow]; exact clv_RX1_43) (lp_k (h := h) (lq := lq) (cq := cq) (p := p + 1) (l := l) t1) (by decide) rfl rfl rfl (Nat.le_of_ble_eq_true rfl) (by rw [hr]; exact ⟨by decide, by decide⟩) (by rw [hr]; exact ⟨Nat.le_of_ble_eq_true rfl, Nat.le_of_ble_eq_true rfl⟩) ?_
    intro rv h' hq_
    rw [hq_.1, hq_.2]
    show AW V 0 0 (lpH h lq cq (if H (p + 1) = 97 then p + 1 + 1 else p + 1) l) 19 [(2, .int 1), (0, .ref lq), (1, .ref (gS V.1 (2 + 3)))] [.int (b2i (decide (H (p + 1) = 97)))]
    refine a_if_ne hb 24 dX1_word_19 (by decide) (fun c19_1 => ?_) (fun c19_1 => ?_)
    · simp [b2i_0] at c19_1
      have e1 : H (p + 1) = 97 := by simpa using c19_1
      have l1 : p + 1 < n := Nat.lt_of_not_le (fun z => absurd ((hE _ z).symm.trans e1) (by decide))
      rw [if_pos e1]
      show AW V 0 0 (lpH h lq cq (p + 2) l) 24 [(2, .int 1), (0, .ref lq), (1, .ref (gS V.1 (2 + 3)))] []
      refine a_iinc (v := (1 + 1)) (L' := [(2, .int (1 + 1)), (0, .ref lq), (1, .ref (gS V.1 (2 + 3)))]) hb dX1_word_24 0 rfl rfl (by rw [hml]; decide) rfl ?_
      refine a_goto hb 2 dX1_word_27 (by decide) ?_
      rw [show ((1 : Int32) + 1) = 2 from by decide]
      show AW V 0 0 (lpH h lq cq (p + 2) l) 2 [(2, .int 2), (0, .ref lq), (1, .ref (gS V.1 (2 + 3)))] []
      refine a_iload_n hb dX1_word_2 rfl 0 rfl ?_
      refine a_aload_n hb dX1_word_3 rfl 2 rfl ?_
      refine a_callT (i := 3) hb (by decide) dX1_word_4 (by rw [hg]; exact j_length g (lpH h lq cq (p + 2) l) 3 (by decide)) (by rw [ow]; exact clv_RX1_108) rfl rfl rfl (Nat.le_of_ble_eq_true rfl) (by rw [hr]; exact ⟨by decide, by decide⟩) (by rw [hr]; exact ⟨Nat.le_of_ble_eq_true rfl, Nat.le_of_ble_eq_true rfl⟩) ?_
      intro rv h' hp_
      rw [hp_.1, hp_.2, show Int32.ofNat (aw_tl.getD 3 0) = 5 from by decide]
      show AW V 0 0 (lpH h lq cq (p + 2) l) 7 [(2, .int 2), (0, .ref lq), (1, .ref (gS V.1 (2 + 3)))] [.int 5, .int 2]
      refine a_icmp_ge hb 30 dX1_word_7 (by decide) (fun c7_2 => absurd c7_2 (by decide)) (fun c7_2 => ?_)
      refine a_aload_n hb dX1_word_10 rfl 1 rfl ?_
      refine a_aload_n hb dX1_word_11 rfl 2 rfl ?_
      refine a_iload_n hb dX1_word_12 rfl 0 rfl ?_
      refine a_callT (i := 3) hb (by decide) dX1_word_13 (by rw [hg]; exact j_char g (lpH h lq cq (p + 2) l) 3 (by decide) 2 2 ⟨by decide, by decide⟩ (by decide) (by decide) (by decide) rfl) (by rw [ow]; exact clv_RX1_113) rfl rfl rfl (Nat.le_of_ble_eq_true rfl) (by rw [hr]; exact ⟨by decide, by decide⟩) (by rw [hr]; exact ⟨Nat.le_of_ble_eq_true rfl, Nat.le_of_ble_eq_true rfl⟩) ?_
      intro rv h' hp_
      rw [hp_.1, hp_.2, show (aw_tb.getD 3 []).getD 2 0 = 115 from by decide]
      show AW V 0 0 (lpH h lq cq (p + 2) l) 16 [(2, .int 2), (0, .ref lq), (1, .ref (gS V.1 (2 + 3)))] [.int 115, .ref lq]
      refine a_callV hb dX1_word_16 (by rw [hg]; exact l_take g h lq tq cq n t1 t2 t3 q0 q7 ne1 ne2 ne3 hn H hH hE (p + 2) l (by omega) 115 (by decide)) (by rw [ow]; exact clv_RX1_43) (lp_k (h := h) (lq := lq) (cq := cq) (p := p + 2) (l := l) t1) (by decide) rfl rfl rfl (Nat.le_of_ble_eq_true rfl) (by rw [hr]; exact ⟨by decide, by decide⟩) (by rw [hr]; exact ⟨Nat.le_of_ble_eq_true rfl, Nat.le_of_ble_eq_true rfl⟩) ?_
      intro rv h' hq_
      rw [hq_.1, hq_.2]
      show AW V 0 0 (lpH h lq cq (if H (p + 2) = 115 then p + 2 + 1 else p + 2) l) 19 [(2, .int 2), (0, .ref lq), (1, .ref (gS V.1 (2 + 3)))] [.int (b2i (decide (H (p + 2) = 115)))]
      refine a_if_ne hb 24 dX1_word_19 (by decide) (fun c19_2 => ?_) (fun c19_2 => ?_)
      · simp [b2i_0] at c19_2
        have e2 : H (p + 2) = 115 := by simpa using c19_2
        have l2 : p + 2 < n := Nat.lt_of_not_le (fun z => absurd ((hE _ z).symm.trans e2) (by decide))
        rw [if_pos e2]
        show AW V 0 0 (lpH h lq cq (p + 3) l) 24 [(2, .int 2), (0, .ref lq), (1, .ref (gS V.1 (2 + 3)))] []
        refine a_iinc (v := (2 + 1)) (L' := [(2, .int (2 + 1)), (0, .ref lq), (1, .ref (gS V.1 (2 + 3)))]) hb dX1_word_24 0 rfl rfl (by rw [hml]; decide) rfl ?_
        refine a_goto hb 2 dX1_word_27 (by decide) ?_
        rw [show ((2 : Int32) + 1) = 3 from by decide]
        show AW V 0 0 (lpH h lq cq (p + 3) l) 2 [(2, .int 3), (0, .ref lq), (1, .ref (gS V.1 (2 + 3)))] []
        refine a_iload_n hb dX1_word_2 rfl 0 rfl ?_
        refine a_aload_n hb dX1_word_3 rfl 2 rfl ?_
        refine a_callT (i := 3) hb (by decide) dX1_word_4 (by rw [hg]; exact j_length g (lpH h lq cq (p + 3) l) 3 (by decide)) (by rw [ow]; exact clv_RX1_108) rfl rfl rfl (Nat.le_of_ble_eq_true rfl) (by rw [hr]; exact ⟨by decide, by decide⟩) (by rw [hr]; exact ⟨Nat.le_of_ble_eq_true rfl, Nat.le_of_ble_eq_true rfl⟩) ?_
        intro rv h' hp_
        rw [hp_.1, hp_.2, show Int32.ofNat (aw_tl.getD 3 0) = 5 from by decide]
        show AW V 0 0 (lpH h lq cq (p + 3) l) 7 [(2, .int 3), (0, .ref lq), (1, .ref (gS V.1 (2 + 3)))] [.int 5, .int 3]
        refine a_icmp_ge hb 30 dX1_word_7 (by decide) (fun c7_3 => absurd c7_3 (by decide)) (fun c7_3 => ?_)
        refine a_aload_n hb dX1_word_10 rfl 1 rfl ?_
        refine a_aload_n hb dX1_word_11 rfl 2 rfl ?_
        refine a_iload_n hb dX1_word_12 rfl 0 rfl ?_
        refine a_callT (i := 3) hb (by decide) dX1_word_13 (by rw [hg]; exact j_char g (lpH h lq cq (p + 3) l) 3 (by decide) 3 3 ⟨by decide, by decide⟩ (by decide) (by decide) (by decide) rfl) (by rw [ow]; exact clv_RX1_113) rfl rfl rfl (Nat.le_of_ble_eq_true rfl) (by rw [hr]; exact ⟨by decide, by decide⟩) (by rw [hr]; exact ⟨Nat.le_of_ble_eq_true rfl, Nat.le_of_ble_eq_true rfl⟩) ?_
        intro rv h' hp_
        rw [hp_.1, hp_.2, show (aw_tb.getD 3 []).getD 3 0 = 101 from by decide]
        show AW V 0 0 (lpH h lq cq (p + 3) l) 16 [(2, .int 3), (0, .ref lq), (1, .ref (gS V.1 (2 + 3)))] [.int 101, .ref lq]
        refine a_callV hb dX1_word_16 (by rw [hg]; exact l_take g h lq tq cq n t1 t2 t3 q0 q7 ne1 ne2 ne3 hn H hH hE (p + 3) l (by omega) 101 (by decide)) (by rw [ow]; exact clv_RX1_43) (lp_k (h := h) (lq := lq) (cq := cq) (p := p + 3) (l := l) t1) (by decide) rfl rfl rfl (Nat.le_of_ble_eq_true rfl) (by rw [hr]; exact ⟨by decide, by decide⟩) (by rw [hr]; exact ⟨Nat.le_of_ble_eq_true rfl, Nat.le_of_ble_eq_true rfl⟩) ?_
        intro rv h' hq_
        rw [hq_.1, hq_.2]
        show AW V 0 0 (lpH h lq cq (if H (p + 3) = 101 then p + 3 + 1 else p + 3) l) 19 [(2, .int 3), (0, .ref lq), (1, .ref (gS V.1 (2 + 3)))] [.int (b2i (decide (H (p + 3) = 101)))]
        refine a_if_ne hb 24 dX1_word_19 (by decide) (fun c19_3 => ?_) (fun c19_3 => ?_)
        · simp [b2i_0] at c19_3
          have e3 : H (p + 3) = 101 := by simpa using c19_3
          have l3 : p + 3 < n := Nat.lt_of_not_le (fun z => absurd ((hE _ z).symm.trans e3) (by decide))
          rw [if_pos e3]
          show AW V 0 0 (lpH h lq cq (p + 4) l) 24 [(2, .int 3), (0, .ref lq), (1, .ref (gS V.1 (2 + 3)))] []
          refine a_iinc (v := (3 + 1)) (L' := [(2, .int (3 + 1)), (0, .ref lq), (1, .ref (gS V.1 (2 + 3)))]) hb dX1_word_24 0 rfl rfl (by rw [hml]; decide) rfl ?_
          refine a_goto hb 2 dX1_word_27 (by decide) ?_
          rw [show ((3 : Int32) + 1) = 4 from by decide]
          show AW V 0 0 (lpH h lq cq (p + 4) l) 2 [(2, .int 4), (0, .ref lq), (1, .ref (gS V.1 (2 + 3)))] []
          refine a_iload_n hb dX1_word_2 rfl 0 rfl ?_
          refine a_aload_n hb dX1_word_3 rfl 2 rfl ?_
          refine a_callT (i := 3) hb (by decide) dX1_word_4 (by rw [hg]; exact j_length g (lpH h lq cq (p + 4) l) 3 (by decide)) (by rw [ow]; exact clv_RX1_108) rfl rfl rfl (Nat.le_of_ble_eq_true rfl) (by rw [hr]; exact ⟨by decide, by decide⟩) (by rw [hr]; exact ⟨Nat.le_of_ble_eq_true rfl, Nat.le_of_ble_eq_true rfl⟩) ?_
          intro rv h' hp_
          rw [hp_.1, hp_.2, show Int32.ofNat (aw_tl.getD 3 0) = 5 from by decide]
          show AW V 0 0 (lpH h lq cq (p + 4) l) 7 [(2, .int 4), (0, .ref lq), (1, .ref (gS V.1 (2 + 3)))] [.int 5, .int 4]
          refine a_icmp_ge hb 30 dX1_word_7 (by decide) (fun c7_4 => absurd c7_4 (by decide)) (fun c7_4 => ?_)
          refine a_aload_n hb dX1_word_10 rfl 1 rfl ?_
          refine a_aload_n hb dX1_word_11 rfl 2 rfl ?_
          refine a_iload_n hb dX1_word_12 rfl 0 rfl ?_
          refine a_callT (i := 3) hb (by decide) dX1_word_13 (by rw [hg]; exact j_char g (lpH h lq cq (p + 4) l) 3 (by decide) 4 4 ⟨by decide, by decide⟩ (by decide) (by decide) (by decide) rfl) (by rw [ow]; exact clv_RX1_113) rfl rfl rfl (Nat.le_of_ble_eq_true rfl) (by rw [hr]; exact ⟨by decide, by decide⟩) (by rw [hr]; exact ⟨Nat.le_of_ble_eq_true rfl, Nat.le_of_ble_eq_true rfl⟩) ?_
          intro rv h' hp_
          rw [hp_.1, hp_.2, show (aw_tb.getD 3 []).getD 4 0 = 32 from by decide]
          show AW V 0 0 (lpH h lq cq (p + 4) l) 16 [(2, .int 4), (0, .ref lq), (1, .ref (gS V.1 (2 + 3)))] [.int 32, .ref lq]
          refine a_callV hb dX1_word_16 (by rw [hg]; exact l_take g h lq tq cq n t1 t2 t3 q0 q7 ne1 ne2 ne3 hn H hH hE (p + 4) l (by omega) 32 (by decide)) (by rw [ow]; exact clv_RX1_43) (lp_k (h := h) (lq := lq) (cq := cq) (p := p + 4) (l := l) t1) (by decide) rfl rfl rfl (Nat.le_of_ble_eq_true rfl) (by rw [hr]; exact ⟨by decide, by decide⟩) (by rw [hr]; exact ⟨Nat.le_of_ble_eq_true rfl, Nat.le_of_ble_eq_true rfl⟩) ?_
          intro rv h' hq_
          rw [hq_.1, hq_.2]
          show AW V 0 0 (lpH h lq cq (if H (p + 4) = 32 then p + 4 + 1 else p + 4) l) 19 [(2, .int 4), (0, .ref lq), (1, .ref (gS V.1 (2 + 3)))] [.int (b2i (decide (H (p + 4) = 32)))]
          refine a_if_ne hb 24 dX1_word_19 (by decide) (fun c19_4 => ?_) (fun c19_4 => ?_)
          · simp [b2i_0] at c19_4
            have e4 : H (p + 4) = 32 := by simpa using c19_4
            have l4 : p + 4 < n := Nat.lt_of_not_le (fun z => absurd ((hE _ z).symm.trans e4) (by decide))
            rw [if_pos e4]
            show AW V 0 0 (lpH h lq cq (p + 5) l) 24 [(2, .int 4), (0, .ref lq), (1, .ref (gS V.1 (2 + 3)))] []
            refine a_iinc (v := (4 + 1)) (L' := [(2, .int (4 + 1)), (0, .ref lq), (1, .ref (gS V.1 (2 + 3)))]) hb dX1_word_24 0 rfl rfl (by rw [hml]; decide) rfl ?_
            refine a_goto hb 2 dX1_word_27 (by decide) ?_
            rw [show ((4 : Int32) + 1) = 5 from by decide]
            show AW V 0 0 (lpH h lq cq (p + 5) l) 2 [(2, .int 5), (0, .ref lq), (1, .ref (gS V.1 (2 + 3)))] []
            refine a_iload_n hb dX1_word_2 rfl 0 rfl ?_
            refine a_aload_n hb dX1_word_3 rfl 2 rfl ?_
            refine a_callT (i := 3) hb (by decide) dX1_word_4 (by rw [hg]; exact j_length g (lpH h lq cq (p + 5) l) 3 (by decide)) (by rw [ow]; exact clv_RX1_108) rfl rfl rfl (Nat.le_of_ble_eq_true rfl) (by rw [hr]; exact ⟨by decide, by decide⟩) (by rw [hr]; exact ⟨Nat.le_of_ble_eq_true rfl, Nat.le_of_ble_eq_true rfl⟩) ?_
            intro rv h' hp_
            rw [hp_.1, hp_.2, show Int32.ofNat (aw_tl.getD 3 0) = 5 from by decide]
            show AW V 0 0 (lpH h lq cq (p + 5) l) 7 [(2, .int 5), (0, .ref lq), (1, .ref (gS V.1 (2 + 3)))] [.int 5, .int 5]
            refine a_icmp_ge hb 30 dX1_word_7 (by decide) (fun c7_5 => ?_) (fun c7_5 => absurd (by decide) c7_5)
            refine a_iconst (v := 1) hb dX1_word_30 (by decide) ?_
            exact a_ireturn (ty := .boolean) hb hz dX1_word_31 hret (by first | rfl | (simp only [narrow]; done) | exact aw_nb _) (by rw [hr]; exact Nat.le_of_ble_eq_true rfl) (by rw [hr]; exact Nat.le_of_ble_eq_true rfl) ((by have z : spS H wdE false p = (false, p + 5) := (by simp [wdE, spS, muP, e0, e1, e2, e3, e4]); exact ⟨(by rw [z]; rfl), (by rw [z])⟩))
          · simp [b2i_0] at c19_4
            have n4 : ¬ H (p + 4) = 32 := by simpa using c19_4
            rw [if_neg n4]
            show AW V 0 0 (lpH h lq cq (p + 4) l) 22 [(2, .int 4), (0, .ref lq), (1, .ref (gS V.1 (2 + 3)))] []
            refine a_iconst (v := 0) hb dX1_word_22 (by decide) ?_
            exact a_ireturn (ty := .boolean) hb hz dX1_word_23 hret (by first | rfl | (simp only [narrow]; done) | exact aw_nb _) (by rw [hr]; exact Nat.le_of_ble_eq_true rfl) (by rw [hr]; exact Nat.le_of_ble_eq_true rfl) ((by have z : spS H wdE false p = (true, p + 4) := (by simp [wdE, spS, muP, e0, e1, e2, e3, n4]); exact ⟨(by rw [z]; rfl), (by rw [z])⟩))
        · simp [b2i_0] at c19_3
          have n3 : ¬ H (p + 3) = 101 := by simpa using c19_3
          rw [if_neg n3]
          show AW V 0 0 (lpH h lq cq (p + 3) l) 22 [(2, .int 3), (0, .ref lq), (1, .ref (gS V.1 (2 + 3)))] []
          refine a_iconst (v := 0) hb dX1_word_22 (by decide) ?_
          exact a_ireturn (ty := .boolean) hb hz dX1_word_23 hret (by first | rfl | (simp only [narrow]; done) | exact aw_nb _) (by rw [hr]; exact Nat.le_of_ble_eq_true rfl) (by rw [hr]; exact Nat.le_of_ble_eq_true rfl) ((by have z : spS H wdE false p = (true, p + 3) := (by simp [wdE, spS, muP, e0, e1, e2, n3]); exact ⟨(by rw [z]; rfl), (by rw [z])⟩))
      · simp [b2i_0] at c19_2
        have n2 : ¬ H (p + 2) = 115 := by simpa using c19_2
        rw [if_neg n2]
        show AW V 0 0 (lpH h lq cq (p + 2) l) 22 [(2, .int 2), (0, .ref lq), (1, .ref (gS V.1 (2 + 3)))] []
        refine a_iconst (v := 0) hb dX1_word_22 (by decide) ?_
        exact a_ireturn (ty := .boolean) hb hz dX1_word_23 hret (by first | rfl | (simp only [narrow]; done) | exact aw_nb _) (by rw [hr]; exact Nat.le_of_ble_eq_true rfl) (by rw [hr]; exact Nat.le_of_ble_eq_true rfl) ((by have z : spS H wdE false p = (true, p + 2) := (by simp [wdE, spS, muP, e0, e1, n2]); exact ⟨(by rw [z]; rfl), (by rw [z])⟩))
    · simp [b2i_0] at c19_1
      have n1 : ¬ H (p + 1) = 97 := by simpa using c19_1
      rw [if_neg n1]
      show AW V 0 0 (lpH h lq cq (p + 1) l) 22 [(2, .int 1), (0, .ref lq), (1, .ref (gS V.1 (2 + 3)))] []
      refine a_iconst (v := 0) hb dX1_word_22 (by decide) ?_
      exact a_ireturn (ty := .boolean) hb hz dX1_word_23 hret (by first | rfl | (simp only [narrow]; done) | exact aw_nb _) (by rw [hr]; exact Nat.le_of_ble_eq_true rfl) (by rw [hr]; exact Nat.le_of_ble_eq_true rfl) ((by have z : spS H wdE false p = (true, p + 1) := (by simp [wdE, spS, muP, e0, n1]); exact ⟨(by rw [z]; rfl), (by rw [z])⟩))
  · simp [b2i_0] at c19_0
    have n0 : ¬ H p = 101 := by simpa using c19_0
    rw [if_neg n0]
    show AW V 0 0 (lpH h lq cq p l) 22 [(2, .int 0), (0, .ref lq), (1, .ref (gS V.1 (2 + 3)))] []
    refine a_iconst (v := 0) hb dX1_word_22 (by decide) ?_
    exact a_ireturn (ty := .boolean) hb hz dX1_word_23 hret (by first | rfl | (simp only [narrow]; done) | exact aw_nb _) (by rw [hr]; exact Nat.le_of_ble_eq_true rfl) (by rw [hr]; exact Nat.le_of_ble_eq_true rfl) ((by have z : spS H wdE false p = (true, p) := (by simp [wdE, spS, muP, n0]); exact ⟨(by rw [z]; rfl), (by rw [z])⟩))
set_option maxRecDepth 100000 in
theorem l_word4 (g : GG) (h : AH) (lq tq cq n : Nat) (t1 : hT h lq = (1, 0)) (t2 : hT h tq = (13, n)) (t3 : hT h cq = (14, n)) (q0 : hQ h lq 0 = some tq) (q7 : hQ h lq 7 = some cq) (ne1 : lq ≠ cq) (ne2 : tq ≠ lq) (ne3 : tq ≠ cq) (hn : n ≤ 120) (H : Nat → Int32) (hH : ∀ p, p < n → hI h tq p = bx (H p) ∧ oO (H p) 0 255 = false) (hE : ∀ p, n ≤ p → H p = -1) (p : Nat) (l : List Int32) (hp : p ≤ n) : AM g 5 0 0 mX1_word [.ref lq, .ref (gS g (2 + 4))] (lpH h lq cq p l) (fun rv h' => rv = some (.int (b2i (!(spS H wdD false p).1))) ∧ h' = lpH h lq cq (spS H wdD false p).2 l) := by
  refine AM.of [(0, .ref lq), (1, .ref (gS g (2 + 4)))] (by decide) (Nat.le_of_ble_eq_true rfl) rfl ?_
  intro V hV
  have hb : V.2.1.2.1 = cX1_word := by subst hV; rfl
  have ow : V.2.1.1.cls = RX1 := by subst hV; rfl
  have hr : V.2.2.1 = aw_rm 5 0 0 := by subst hV; rfl
  have hz : V.2.2.2 = aw_Z V.1 (fun rv h' => rv = some (.int (b2i (!(spS H wdD false p).1))) ∧ h' = lpH h lq cq (spS H wdD false p).2 l) V.2.2.1 := by subst hV; rfl
  have hg : V.1 = g := by subst hV; rfl
  have hret : V.2.1.2.2.2 = (some .boolean) := by subst hV; rfl
  have hml : V.2.1.2.2.1 = 3 := by subst hV; rfl
  clear hV
  rw [← hg]
  refine a_iconst (v := 0) hb dX1_word_0 (by decide) ?_
  refine a_istore_n (L' := [(2, .int 0), (0, .ref lq), (1, .ref (gS V.1 (2 + 4)))]) hb dX1_word_1 rfl (by rw [hml]; decide) rfl ?_
  refine a_iload_n hb dX1_word_2 rfl 0 rfl ?_
  refine a_aload_n hb dX1_word_3 rfl 2 rfl ?_
  refine a_callT (i := 4) hb (by decide) dX1_word_4 (by rw [hg]; exact j_length g (lpH h lq cq p l) 4 (by decide)) (by rw [ow]; exact clv_RX1_108) rfl rfl rfl (Nat.le_of_ble_eq_true rfl) (by rw [hr]; exact ⟨by decide, by decide⟩) (by rw [hr]; exact ⟨Nat.le_of_ble_eq_true rfl, Nat.le_of_ble_eq_true rfl⟩) ?_
  intro rv h' hp_
  rw [hp_.1, hp_.2, show Int32.ofNat (aw_tl.getD 4 0) = 5 from by decide]
  show AW V 0 0 (lpH h lq cq p l) 7 [(2, .int 0), (0, .ref lq), (1, .ref (gS V.1 (2 + 4)))] [.int 5, .int 0]
  refine a_icmp_ge hb 30 dX1_word_7 (by decide) (fun c7_0 => absurd c7_0 (by decide)) (fun c7_0 => ?_)
  refine a_aload_n hb dX1_word_10 rfl 1 rfl ?_
  refine a_aload_n hb dX1_word_11 rfl 2 rfl ?_
  refine a_iload_n hb dX1_word_12 rfl 0 rfl ?_
  refine a_callT (i := 4) hb (by decide) dX1_word_13 (by rw [hg]; exact j_char g (lpH h lq cq p l) 4 (by decide) 0 0 ⟨by decide, by decide⟩ (by decide) (by decide) (by decide) rfl) (by rw [ow]; exact clv_RX1_113) rfl rfl rfl (Nat.le_of_ble_eq_true rfl) (by rw [hr]; exact ⟨by decide, by decide⟩) (by rw [hr]; exact ⟨Nat.le_of_ble_eq_true rfl, Nat.le_of_ble_eq_true rfl⟩) ?_
  intro rv h' hp_
  rw [hp_.1, hp_.2, show (aw_tb.getD 4 []).getD 0 0 = 100 from by decide]
  show AW V 0 0 (lpH h lq cq p l) 16 [(2, .int 0), (0, .ref lq), (1, .ref (gS V.1 (2 + 4)))] [.int 100, .ref lq]
  refine a_callV hb dX1_word_16 (by rw [hg]; exact l_take g h lq tq cq n t1 t2 t3 q0 q7 ne1 ne2 ne3 hn H hH hE p l hp 100 (by decide)) (by rw [ow]; exact clv_RX1_43) (lp_k (h := h) (lq := lq) (cq := cq) (p := p) (l := l) t1) (by decide) rfl rfl rfl (Nat.le_of_ble_eq_true rfl) (by rw [hr]; exact ⟨by decide, by decide⟩) (by rw [hr]; exact ⟨Nat.le_of_ble_eq_true rfl, Nat.le_of_ble_eq_true rfl⟩) ?_
  intro rv h' hq_
  rw [hq_.1, hq_.2]
  show AW V 0 0 (lpH h lq cq (if H p = 100 then p + 1 else p) l) 19 [(2, .int 0), (0, .ref lq), (1, .ref (gS V.1 (2 + 4)))] [.int (b2i (decide (H p = 100)))]
  refine a_if_ne hb 24 dX1_word_19 (by decide) (fun c19_0 => ?_) (fun c19_0 => ?_)
  · simp [b2i_0] at c19_0
    have e0 : H p = 100 := by simpa using c19_0
    have l0 : p < n := Nat.lt_of_not_le (fun z => absurd ((hE _ z).symm.trans e0) (by decide))
    rw [if_pos e0]
    show AW V 0 0 (lpH h lq cq (p + 1) l) 24 [(2, .int 0), (0, .ref lq), (1, .ref (gS V.1 (2 + 4)))] []
    refine a_iinc (v := (0 + 1)) (L' := [(2, .int (0 + 1)), (0, .ref lq), (1, .ref (gS V.1 (2 + 4)))]) hb dX1_word_24 0 rfl rfl (by rw [hml]; decide) rfl ?_
    refine a_goto hb 2 dX1_word_27 (by decide) ?_
    rw [show ((0 : Int32) + 1) = 1 from by decide]
    show AW V 0 0 (lpH h lq cq (p + 1) l) 2 [(2, .int 1), (0, .ref lq), (1, .ref (gS V.1 (2 + 4)))] []
    refine a_iload_n hb dX1_word_2 rfl 0 rfl ?_
    refine a_aload_n hb dX1_word_3 rfl 2 rfl ?_
    refine a_callT (i := 4) hb (by decide) dX1_word_4 (by rw [hg]; exact j_length g (lpH h lq cq (p + 1) l) 4 (by decide)) (by rw [ow]; exact clv_RX1_108) rfl rfl rfl (Nat.le_of_ble_eq_true rfl) (by rw [hr]; exact ⟨by decide, by decide⟩) (by rw [hr]; exact ⟨Nat.le_of_ble_eq_true rfl, Nat.le_of_ble_eq_true rfl⟩) ?_
    intro rv h' hp_
    rw [hp_.1, hp_.2, show Int32.ofNat (aw_tl.getD 4 0) = 5 from by decide]
    show AW V 0 0 (lpH h lq cq (p + 1) l) 7 [(2, .int 1), (0, .ref lq), (1, .ref (gS V.1 (2 + 4)))] [.int 5, .int 1]
    refine a_icmp_ge hb 30 dX1_word_7 (by decide) (fun c7_1 => absurd c7_1 (by decide)) (fun c7_1 => ?_)
    refine a_aload_n hb dX1_word_10 rfl 1 rfl ?_
    refine a_aload_n hb dX1_word_11 rfl 2 rfl ?_
    refine a_iload_n hb dX1_word_12 rfl 0 rfl ?_
    refine a_callT (i := 4) hb (by decide) dX1_word_13 (by rw [hg]; exact j_char g (lpH h lq cq (p + 1) l) 4 (by decide) 1 1 ⟨by decide, by decide⟩ (by decide) (by decide) (by decide) rfl) (by rw [ow]; exact clv_RX1_113) rfl rfl rfl (Nat.le_of_ble_eq_true rfl) (by rw [hr]; exact ⟨by decide, by decide⟩) (by rw [hr]; exact ⟨Nat.le_of_ble_eq_true rfl, Nat.le_of_ble_eq_true rfl⟩) ?_
    intro rv h' hp_
    rw [hp_.1, hp_.2, show (aw_tb.getD 4 []).getD 1 0 = 114 from by decide]
    show AW V 0 0 (lpH h lq cq (p + 1) l) 16 [(2, .int 1), (0, .ref lq), (1, .ref (gS V.1 (2 + 4)))] [.int 114, .ref lq]
    refine a_callV hb dX1_word_16 (by rw [hg]; exact l_take g h lq tq cq n t1 t2 t3 q0 q7 ne1 ne2 ne3 hn H hH hE (p + 1) l (by omega) 114 (by decide)) (by rw [ow]; exact clv_RX1_43) (lp_k (h := h) (lq := lq) (cq := cq) (p := p + 1) (l := l) t1) (by decide) rfl rfl rfl (Nat.le_of_ble_eq_true rfl) (by rw [hr]; exact ⟨by decide, by decide⟩) (by rw [hr]; exact ⟨Nat.le_of_ble_eq_true rfl, Nat.le_of_ble_eq_true rfl⟩) ?_
    intro rv h' hq_
    rw [hq_.1, hq_.2]
    show AW V 0 0 (lpH h lq cq (if H (p + 1) = 114 then p + 1 + 1 else p + 1) l) 19 [(2, .int 1), (0, .ref lq), (1, .ref (gS V.1 (2 + 4)))] [.int (b2i (decide (H (p + 1) = 114)))]
    refine a_if_ne hb 24 dX1_word_19 (by decide) (fun c19_1 => ?_) (fun c19_1 => ?_)
    · simp [b2i_0] at c19_1
      have e1 : H (p + 1) = 114 := by simpa using c19_1
      have l1 : p + 1 < n := Nat.lt_of_not_le (fun z => absurd ((hE _ z).symm.trans e1) (by decide))
      rw [if_pos e1]
      show AW V 0 0 (lpH h lq cq (p + 2) l) 24 [(2, .int 1), (0, .ref lq), (1, .ref (gS V.1 (2 + 4)))] []
      refine a_iinc (v := (1 + 1)) (L' := [(2, .int (1 + 1)), (0, .ref lq), (1, .ref (gS V.1 (2 + 4)))]) hb dX1_word_24 0 rfl rfl (by rw [hml]; decide) rfl ?_
      refine a_goto hb 2 dX1_word_27 (by decide) ?_
      rw [show ((1 : Int32) + 1) = 2 from by decide]
      show AW V 0 0 (lpH h lq cq (p + 2) l) 2 [(2, .int 2), (0, .ref lq), (1, .ref (gS V.1 (2 + 4)))] []
      refine a_iload_n hb dX1_word_2 rfl 0 rfl ?_
      refine a_aload_n hb dX1_word_3 rfl 2 rfl ?_
      refine a_callT (i := 4) hb (by decide) dX1_word_4 (by rw [hg]; exact j_length g (lpH h lq cq (p + 2) l) 4 (by decide)) (by rw [ow]; exact clv_RX1_108) rfl rfl rfl (Nat.le_of_ble_eq_true rfl) (by rw [hr]; exact ⟨by decide, by decide⟩) (by rw [hr]; exact ⟨Nat.le_of_ble_eq_true rfl, Nat.le_of_ble_eq_true rfl⟩) ?_
      intro rv h' hp_
      rw [hp_.1, hp_.2, show Int32.ofNat (aw_tl.getD 4 0) = 5 from by decide]
      show AW V 0 0 (lpH h lq cq (p + 2) l) 7 [(2, .int 2), (0, .ref lq), (1, .ref (gS V.1 (2 + 4)))] [.int 5, .int 2]
      refine a_icmp_ge hb 30 dX1_word_7 (by decide) (fun c7_2 => absurd c7_2 (by decide)) (fun c7_2 => ?_)
      refine a_aload_n hb dX1_word_10 rfl 1 rfl ?_
      refine a_aload_n hb dX1_word_11 rfl 2 rfl ?_
      refine a_iload_n hb dX1_word_12 rfl 0 rfl ?_
      refine a_callT (i := 4) hb (by decide) dX1_word_13 (by rw [hg]; exact j_char g (lpH h lq cq (p + 2) l) 4 (by decide) 2 2 ⟨by decide, by decide⟩ (by decide) (by decide) (by decide) rfl) (by rw [ow]; exact clv_RX1_113) rfl rfl rfl (Nat.le_of_ble_eq_true rfl) (by rw [hr]; exact ⟨by decide, by decide⟩) (by rw [hr]; exact ⟨Nat.le_of_ble_eq_true rfl, Nat.le_of_ble_eq_true rfl⟩) ?_
      intro rv h' hp_
      rw [hp_.1, hp_.2, show (aw_tb.getD 4 []).getD 2 0 = 97 from by decide]
      show AW V 0 0 (lpH h lq cq (p + 2) l) 16 [(2, .int 2), (0, .ref lq), (1, .ref (gS V.1 (2 + 4)))] [.int 97, .ref lq]
      refine a_callV hb dX1_word_16 (by rw [hg]; exact l_take g h lq tq cq n t1 t2 t3 q0 q7 ne1 ne2 ne3 hn H hH hE (p + 2) l (by omega) 97 (by decide)) (by rw [ow]; exact clv_RX1_43) (lp_k (h := h) (lq := lq) (cq := cq) (p := p + 2) (l := l) t1) (by decide) rfl rfl rfl (Nat.le_of_ble_eq_true rfl) (by rw [hr]; exact ⟨by decide, by decide⟩) (by rw [hr]; exact ⟨Nat.le_of_ble_eq_true rfl, Nat.le_of_ble_eq_true rfl⟩) ?_
      intro rv h' hq_
      rw [hq_.1, hq_.2]
      show AW V 0 0 (lpH h lq cq (if H (p + 2) = 97 then p + 2 + 1 else p + 2) l) 19 [(2, .int 2), (0, .ref lq), (1, .ref (gS V.1 (2 + 4)))] [.int (b2i (decide (H (p + 2) = 97)))]
      refine a_if_ne hb 24 dX1_word_19 (by decide) (fun c19_2 => ?_) (fun c19_2 => ?_)
      · simp [b2i_0] at c19_2
        have e2 : H (p + 2) = 97 := by simpa using c19_2
        have l2 : p + 2 < n := Nat.lt_of_not_le (fun z => absurd ((hE _ z).symm.trans e2) (by decide))
        rw [if_pos e2]
        show AW V 0 0 (lpH h lq cq (p + 3) l) 24 [(2, .int 2), (0, .ref lq), (1, .ref (gS V.1 (2 + 4)))] []
        refine a_iinc (v := (2 + 1)) (L' := [(2, .int (2 + 1)), (0, .ref lq), (1, .ref (gS V.1 (2 + 4)))]) hb dX1_word_24 0 rfl rfl (by rw [hml]; decide) rfl ?_
        refine a_goto hb 2 dX1_word_27 (by decide) ?_
        rw [show ((2 : Int32) + 1) = 3 from by decide]
        show AW V 0 0 (lpH h lq cq (p + 3) l) 2 [(2, .int 3), (0, .ref lq), (1, .ref (gS V.1 (2 + 4)))] []
        refine a_iload_n hb dX1_word_2 rfl 0 rfl ?_
        refine a_aload_n hb dX1_word_3 rfl 2 rfl ?_
        refine a_callT (i := 4) hb (by decide) dX1_word_4 (by rw [hg]; exact j_length g (lpH h lq cq (p + 3) l) 4 (by decide)) (by rw [ow]; exact clv_RX1_108) rfl rfl rfl (Nat.le_of_ble_eq_true rfl) (by rw [hr]; exact ⟨by decide, by decide⟩) (by rw [hr]; exact ⟨Nat.le_of_ble_eq_true rfl, Nat.le_of_ble_eq_true rfl⟩) ?_
        intro rv h' hp_
        rw [hp_.1, hp_.2, show Int32.ofNat (aw_tl.getD 4 0) = 5 from by decide]
        show AW V 0 0 (lpH h lq cq (p + 3) l) 7 [(2, .int 3), (0, .ref lq), (1, .ref (gS V.1 (2 + 4)))] [.int 5, .int 3]
        refine a_icmp_ge hb 30 dX1_word_7 (by decide) (fun c7_3 => absurd c7_3 (by decide)) (fun c7_3 => ?_)
        refine a_aload_n hb dX1_word_10 rfl 1 rfl ?_
        refine a_aload_n hb dX1_word_11 rfl 2 rfl ?_
        refine a_iload_n hb dX1_word_12 rfl 0 rfl ?_
        refine a_callT (i := 4) hb (by decide) dX1_word_13 (by rw [hg]; exact j_char g (lpH h lq cq (p + 3) l) 4 (by decide) 3 3 ⟨by decide, by decide⟩ (by decide) (by decide) (by decide) rfl) (by rw [ow]; exact clv_RX1_113) rfl rfl rfl (Nat.le_of_ble_eq_true rfl) (by rw [hr]; exact ⟨by decide, by decide⟩) (by rw [hr]; exact ⟨Nat.le_of_ble_eq_true rfl, Nat.le_of_ble_eq_true rfl⟩) ?_
        intro rv h' hp_
        rw [hp_.1, hp_.2, show (aw_tb.getD 4 []).getD 3 0 = 119 from by decide]
        show AW V 0 0 (lpH h lq cq (p + 3) l) 16 [(2, .int 3), (0, .ref lq), (1, .ref (gS V.1 (2 + 4)))] [.int 119, .ref lq]
        refine a_callV hb dX1_word_16 (by rw [hg]; exact l_take g h lq tq cq n t1 t2 t3 q0 q7 ne1 ne2 ne3 hn H hH hE (p + 3) l (by omega) 119 (by decide)) (by rw [ow]; exact clv_RX1_43) (lp_k (h := h) (lq := lq) (cq := cq) (p := p + 3) (l := l) t1) (by decide) rfl rfl rfl (Nat.le_of_ble_eq_true rfl) (by rw [hr]; exact ⟨by decide, by decide⟩) (by rw [hr]; exact ⟨Nat.le_of_ble_eq_true rfl, Nat.le_of_ble_eq_true rfl⟩) ?_
        intro rv h' hq_
        rw [hq_.1, hq_.2]
        show AW V 0 0 (lpH h lq cq (if H (p + 3) = 119 then p + 3 + 1 else p + 3) l) 19 [(2, .int 3), (0, .ref lq), (1, .ref (gS V.1 (2 + 4)))] [.int (b2i (decide (H (p + 3) = 119)))]
        refine a_if_ne hb 24 dX1_word_19 (by decide) (fun c19_3 => ?_) (fun c19_3 => ?_)
        · simp [b2i_0] at c19_3
          have e3 : H (p + 3) = 119 := by simpa using c19_3
          have l3 : p + 3 < n := Nat.lt_of_not_le (fun z => absurd ((hE _ z).symm.trans e3) (by decide))
          rw [if_pos e3]
          show AW V 0 0 (lpH h lq cq (p + 4) l) 24 [(2, .int 3), (0, .ref lq), (1, .ref (gS V.1 (2 + 4)))] []
          refine a_iinc (v := (3 + 1)) (L' := [(2, .int (3 + 1)), (0, .ref lq), (1, .ref (gS V.1 (2 + 4)))]) hb dX1_word_24 0 rfl rfl (by rw [hml]; decide) rfl ?_
          refine a_goto hb 2 dX1_word_27 (by decide) ?_
          rw [show ((3 : Int32) + 1) = 4 from by decide]
          show AW V 0 0 (lpH h lq cq (p + 4) l) 2 [(2, .int 4), (0, .ref lq), (1, .ref (gS V.1 (2 + 4)))] []
          refine a_iload_n hb dX1_word_2 rfl 0 rfl ?_
          refine a_aload_n hb dX1_word_3 rfl 2 rfl ?_
          refine a_callT (i := 4) hb (by decide) dX1_word_4 (by rw [hg]; exact j_length g (lpH h lq cq (p + 4) l) 4 (by decide)) (by rw [ow]; exact clv_RX1_108) rfl rfl rfl (Nat.le_of_ble_eq_true rfl) (by rw [hr]; exact ⟨by decide, by decide⟩) (by rw [hr]; exact ⟨Nat.le_of_ble_eq_true rfl, Nat.le_of_ble_eq_true rfl⟩) ?_
          intro rv h' hp_
          rw [hp_.1, hp_.2, show Int32.ofNat (aw_tl.getD 4 0) = 5 from by decide]
          show AW V 0 0 (lpH h lq cq (p + 4) l) 7 [(2, .int 4), (0, .ref lq), (1, .ref (gS V.1 (2 + 4)))] [.int 5, .int 4]
          refine a_icmp_ge hb 30 dX1_word_7 (by decide) (fun c7_4 => absurd c7_4 (by decide)) (fun c7_4 => ?_)
          refine a_aload_n hb dX1_word_10 rfl 1 rfl ?_
          refine a_aload_n hb dX1_word_11 rfl 2 rfl ?_
          refine a_iload_n hb dX1_word_12 rfl 0 rfl ?_
          refine a_callT (i := 4) hb (by decide) dX1_word_13 (by rw [hg]; exact j_char g (lpH h lq cq (p + 4) l) 4 (by decide) 4 4 ⟨by decide, by decide⟩ (by decide) (by decide) (by decide) rfl) (by rw [ow]; exact clv_RX1_113) rfl rfl rfl (Nat.le_of_ble_eq_true rfl) (by rw [hr]; exact ⟨by decide, by decide⟩) (by rw [hr]; exact ⟨Nat.le_of_ble_eq_true rfl, Nat.le_of_ble_eq_true rfl⟩) ?_
          intro rv h' hp_
          rw [hp_.1, hp_.2, show (aw_tb.getD 4 []).getD 4 0 = 32 from by decide]
          show AW V 0 0 (lpH h lq cq (p + 4) l) 16 [(2, .int 4), (0, .ref lq), (1, .ref (gS V.1 (2 + 4)))] [.int 32, .ref lq]
          refine a_callV hb dX1_word_16 (by rw [hg]; exact l_take g h lq tq cq n t1 t2 t3 q0 q7 ne1 ne2 ne3 hn H hH hE (p + 4) l (by omega) 32 (by decide)) (by rw [ow]; exact clv_RX1_43) (lp_k (h := h) (lq := lq) (cq := cq) (p := p + 4) (l := l) t1) (by decide) rfl rfl rfl (Nat.le_of_ble_eq_true rfl) (by rw [hr]; exact ⟨by decide, by decide⟩) (by rw [hr]; exact ⟨Nat.le_of_ble_eq_true rfl, Nat.le_of_ble_eq_true rfl⟩) ?_
          intro rv h' hq_
          rw [hq_.1, hq_.2]
          show AW V 0 0 (lpH h lq cq (if H (p + 4) = 32 then p + 4 + 1 else p + 4) l) 19 [(2, .int 4), (0, .ref lq), (1, .ref (gS V.1 (2 + 4)))] [.int (b2i (decide (H (p + 4) = 32)))]
          refine a_if_ne hb 24 dX1_word_19 (by decide) (fun c19_4 => ?_) (fun c19_4 => ?_)
          · simp [b2i_0] at c19_4
            have e4 : H (p + 4) = 32 := by simpa using c19_4
            have l4 : p + 4 < n := Nat.lt_of_not_le (fun z => absurd ((hE _ z).symm.trans e4) (by decide))
            rw [if_pos e4]
            show AW V 0 0 (lpH h lq cq (p + 5) l) 24 [(2, .int 4), (0, .ref lq), (1, .ref (gS V.1 (2 + 4)))] []
            refine a_iinc (v := (4 + 1)) (L' := [(2, .int (4 + 1)), (0, .ref lq), (1, .ref (gS V.1 (2 + 4)))]) hb dX1_word_24 0 rfl rfl (by rw [hml]; decide) rfl ?_
            refine a_goto hb 2 dX1_word_27 (by decide) ?_
            rw [show ((4 : Int32) + 1) = 5 from by decide]
            show AW V 0 0 (lpH h lq cq (p + 5) l) 2 [(2, .int 5), (0, .ref lq), (1, .ref (gS V.1 (2 + 4)))] []
            refine a_iload_n hb dX1_word_2 rfl 0 rfl ?_
            refine a_aload_n hb dX1_word_3 rfl 2 rfl ?_
            refine a_callT (i := 4) hb (by decide) dX1_word_4 (by rw [hg]; exact j_length g (lpH h lq cq (p + 5) l) 4 (by decide)) (by rw [ow]; exact clv_RX1_108) rfl rfl rfl (Nat.le_of_ble_eq_true rfl) (by rw [hr]; exact ⟨by decide, by decide⟩) (by rw [hr]; exact ⟨Nat.le_of_ble_eq_true rfl, Nat.le_of_ble_eq_true rfl⟩) ?_
            intro rv h' hp_
            rw [hp_.1, hp_.2, show Int32.ofNat (aw_tl.getD 4 0) = 5 from by decide]
            show AW V 0 0 (lpH h lq cq (p + 5) l) 7 [(2, .int 5), (0, .ref lq), (1, .ref (gS V.1 (2 + 4)))] [.int 5, .int 5]
            refine a_icmp_ge hb 30 dX1_word_7 (by decide) (fun c7_5 => ?_) (fun c7_5 => absurd (by decide) c7_5)
            refine a_iconst (v := 1) hb dX1_word_30 (by decide) ?_
            exact a_ireturn (ty := .boolean) hb hz dX1_word_31 hret (by first | rfl | (simp only [narrow]; done) | exact aw_nb _) (by rw [hr]; exact Nat.le_of_ble_eq_true rfl) (by rw [hr]; exact Nat.le_of_ble_eq_true rfl) ((by have z : spS H wdD false p = (false, p + 5) := (by simp [wdD, spS, muP, e0, e1, e2, e3, e4]); exact ⟨(by rw [z]; rfl), (by rw [z])⟩))
          · simp [b2i_0] at c19_4
            have n4 : ¬ H (p + 4) = 32 := by simpa using c19_4
            rw [if_neg n4]
            show AW V 0 0 (lpH h lq cq (p + 4) l) 22 [(2, .int 4), (0, .ref lq), (1, .ref (gS V.1 (2 + 4)))] []
            refine a_iconst (v := 0) hb dX1_word_22 (by decide) ?_
            exact a_ireturn (ty := .boolean) hb hz dX1_word_23 hret (by first | rfl | (simp only [narrow]; done) | exact aw_nb _) (by rw [hr]; exact Nat.le_of_ble_eq_true rfl) (by rw [hr]; exact Nat.le_of_ble_eq_true rfl) ((by have z : spS H wdD false p = (true, p + 4) := (by simp [wdD, spS, muP, e0, e1, e2, e3, n4]); exact ⟨(by rw [z]; rfl), (by rw [z])⟩))
        · simp [b2i_0] at c19_3
          have n3 : ¬ H (p + 3) = 119 := by simpa using c19_3
          rw [if_neg n3]
          show AW V 0 0 (lpH h lq cq (p + 3) l) 22 [(2, .int 3), (0, .ref lq), (1, .ref (gS V.1 (2 + 4)))] []
          refine a_iconst (v := 0) hb dX1_word_22 (by decide) ?_
          exact a_ireturn (ty := .boolean) hb hz dX1_word_23 hret (by first | rfl | (simp only [narrow]; done) | exact aw_nb _) (by rw [hr]; exact Nat.le_of_ble_eq_true rfl) (by rw [hr]; exact Nat.le_of_ble_eq_true rfl) ((by have z : spS H wdD false p = (true, p + 3) := (by simp [wdD, spS, muP, e0, e1, e2, n3]); exact ⟨(by rw [z]; rfl), (by rw [z])⟩))
      · simp [b2i_0] at c19_2
        have n2 : ¬ H (p + 2) = 97 := by simpa using c19_2
        rw [if_neg n2]
        show AW V 0 0 (lpH h lq cq (p + 2) l) 22 [(2, .int 2), (0, .ref lq), (1, .ref (gS V.1 (2 + 4)))] []
        refine a_iconst (v := 0) hb dX1_word_22 (by decide) ?_
        exact a_ireturn (ty := .boolean) hb hz dX1_word_23 hret (by first | rfl | (simp only [narrow]; done) | exact aw_nb _) (by rw [hr]; exact Nat.le_of_ble_eq_true rfl) (by rw [hr]; exact Nat.le_of_ble_eq_true rfl) ((by have z : spS H wdD false p = (true, p + 2) := (by simp [wdD, spS, muP, e0, e1, n2]); exact ⟨(by rw [z]; rfl), (by rw [z])⟩))
    · simp [b2i_0] at c19_1
      have n1 : ¬ H (p + 1) = 114 := by simpa using c19_1
      rw [if_neg n1]
      show AW V 0 0 (lpH h lq cq (p + 1) l) 22 [(2, .int 1), (0, .ref lq), (1, .ref (gS V.1 (2 + 4)))] []
      refine a_iconst (v := 0) hb dX1_word_22 (by decide) ?_
      exact a_ireturn (ty := .boolean) hb hz dX1_word_23 hret (by first | rfl | (simp only [narrow]; done) | exact aw_nb _) (by rw [hr]; exact Nat.le_of_ble_eq_true rfl) (by rw [hr]; exact Nat.le_of_ble_eq_true rfl) ((by have z : spS H wdD false p = (true, p + 1) := (by simp [wdD, spS, muP, e0, n1]); exact ⟨(by rw [z]; rfl), (by rw [z])⟩))
  · simp [b2i_0] at c19_0
    have n0 : ¬ H p = 100 := by simpa using c19_0
    rw [if_neg n0]
    show AW V 0 0 (lpH h lq cq p l) 22 [(2, .int 0), (0, .ref lq), (1, .ref (gS V.1 (2 + 4)))] []
    refine a_iconst (v := 0) hb dX1_word_22 (by decide) ?_
    exact a_ireturn (ty := .boolean) hb hz dX1_word_23 hret (by first | rfl | (simp only [narrow]; done) | exact aw_nb _) (by rw [hr]; exact Nat.le_of_ble_eq_true rfl) (by rw [hr]; exact Nat.le_of_ble_eq_true rfl) ((by have z : spS H wdD false p = (true, p) := (by simp [wdD, spS, muP, n0]); exact ⟨(by rw [z]; rfl), (by rw [z])⟩))
