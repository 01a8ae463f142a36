/-! ===== the class reads a law: factors, terms, expressions ===== -/
theorem pF_gH {H : Nat → Int32} {n : Nat} (hE : ∀ p, n ≤ p → H p = -1) (k p : Nat) : gdP n p (pF H k p) := by
  have := pF_g (tx := H) (n := n) k p
  rw [← hr_e hE] at this
  exact this
theorem pV_gH {H : Nat → Int32} {n : Nat} (hE : ∀ p, n ≤ p → H p = -1) (k p : Nat) : gdP n p (pV (pF H k) H p) := by
  have := pV_g (tx := H) (n := n) (F := pF H k) (pF_gH hE k) p
  rw [← hr_e hE] at this
  exact this
theorem pE_gH {H : Nat → Int32} {n : Nat} (hE : ∀ p, n ≤ p → H p = -1) (k p : Nat) : gdP n p (pE (pF H k) H p) := by
  have := pE_g (tx := H) (n := n) (F := pF H k) (pF_gH hE k) p
  rw [← hr_e hE] at this
  exact this
theorem H_c {H : Nat → Int32} {n p : Nat} {c : Int32} (hE : ∀ p, n ≤ p → H p = -1) (hc : oO c 1 127 = false) (h : H p = c) : p < n := Nat.lt_of_not_le (fun z => m1_c hc ((hE p z).symm.trans h))
theorem gdx {n p : Nat} {r : PR} {l : List Int32} (hg : gdP n p r) (hl : l.length ≤ p) : (l ++ r.2.2.map encX).length ≤ r.2.1 := by
  have := hg.1
  rw [List.length_append, List.length_map]; omega
theorem gdx1 {n p : Nat} {r : PR} {l : List Int32} (hg : gdP n (p + 1) r) (hl : l.length ≤ p) : (l ++ r.2.2.map encX).length + 1 ≤ r.2.1 := by
  have := hg.1
  rw [List.length_append, List.length_map]; omega
theorem pF_0 {H : Nat → Int32} {p : Nat} (hc : H p = 33 ∨ H p = 40) : pF H 0 p = (true, p, []) := by
  rw [pF]
  split
  · rfl
  · rw [if_pos (hc.resolve_left (by assumption))]
theorem pF_n {H : Nat → Int32} {k p : Nat} {q : PR} (h33 : H p = 33) (e : pF H k (p + 1) = q) : pF H (k + 1) p = (q.1, q.2.1, q.2.2 ++ if q.1 = true then [] else [(1, 0, 0, 0)]) := by
  subst e
  rw [pF, if_pos h33]; rfl
theorem pF_p {H : Nat → Int32} {k p : Nat} {q : PR} (h33 : ¬ H p = 33) (h40 : H p = 40) (e : pE (pF H k) H (p + 1) = q) : pF H (k + 1) p = (if q.1 = true then q else if H q.2.1 = 41 then (false, q.2.1 + 1, q.2.2) else (true, q.2.1, q.2.2)) := by
  subst e
  rw [pF, if_neg h33, if_pos h40]; rfl
section LPX
variable {h : AH} {lq cq : Nat} {l : List Int32} {q : PR} {st : St}
theorem lpG_w {s : List St} (hw : q.1 = true) : lpH h lq cq q.2.1 (l ++ q.2.2.map encX) = lpG h lq cq l (q.1, q.2.1, q.2.2 ++ if q.1 = true then [] else s) := by
  rw [hw, if_pos rfl, List.append_nil]; rfl
theorem lpG_s {s : St} (hw : q.1 = false) : lpH h lq cq q.2.1 (l ++ q.2.2.map encX ++ [encX s]) = lpG h lq cq l (q.1, q.2.1, q.2.2 ++ if q.1 = true then [] else [s]) := by
  rw [hw, if_neg (by decide)]
  unfold lpG
  rw [List.map_append, List.append_assoc]; rfl
theorem lpG_2w {r : PR} {s : List St} (hw : q.1 = true) : lpH h lq cq q.2.1 (l ++ r.2.2.map encX ++ q.2.2.map encX) = lpG h lq cq l (q.1, q.2.1, r.2.2 ++ q.2.2 ++ if q.1 = true then [] else s) := by
  rw [hw, if_pos rfl, List.append_nil]
  unfold lpG
  rw [List.map_append, List.append_assoc]
theorem lpG_2s {r : PR} {s : St} (hw : q.1 = false) : lpH h lq cq q.2.1 (l ++ r.2.2.map encX ++ q.2.2.map encX ++ [encX s]) = lpG h lq cq l (q.1, q.2.1, r.2.2 ++ q.2.2 ++ if q.1 = true then [] else [s]) := by
  rw [hw, if_neg (by decide)]
  show lpH h lq cq q.2.1 _ = lpH h lq cq q.2.1 (l ++ (r.2.2 ++ q.2.2 ++ [s]).map encX)
  rw [List.map_append, List.map_append]
  simp only [List.append_assoc]
  rfl
end LPX
theorem pV_x {F : Nat → PR} {H : Nat → Int32} {n p : Nat} {q : PR} (hF : ∀ q, q ≤ (F q).2.1) (hE : ∀ p, n ≤ p → H p = -1) (hn : n ≤ 120) (e : F p = q) : lpR F H 38 (2, 0, 0, 0) n q = pV F H p := by
  subst e
  unfold pV
  exact (lpR_t hF (fun _ => H_c hE (by decide)) hn).symm
theorem pE_x {F : Nat → PR} {H : Nat → Int32} {n p : Nat} {q : PR} (hF : ∀ q, q ≤ (pV F H q).2.1) (hE : ∀ p, n ≤ p → H p = -1) (hn : n ≤ 120) (e : pV F H p = q) : lpR (pV F H) H 124 (3, 0, 0, 0) n q = pE F H p := by
  subst e
  unfold pE
  exact (lpR_t hF (fun _ => H_c hE (by decide)) hn).symm
theorem gd_p {F : Nat → PR} {n : Nat} (hF : ∀ q, gdP n q (F q)) (q : Nat) : q ≤ (F q).2.1 := by have := (hF q).1; omega
set_option maxRecDepth 100000 in
theorem l_fac0 (g : GG) (h : AH) (lq tq cq n : Nat) (t1 : hT h lq = (1, 0)) (t2 : hT h tq = (13, n)) (t3 : hT h cq = (14, n)) (q0 : hQ h lq 0 = some tq) (q7 : hQ h lq 7 = some cq) (ne1 : lq ≠ cq) (ne2 : tq ≠ lq) (ne3 : tq ≠ cq) (hn : n ≤ 120) (H : Nat → Int32) (hH : ∀ p, p < n → hI h tq p = bx (H p) ∧ oO (H p) 0 255 = false) (hE : ∀ p, n ≤ p → H p = -1) (p : Nat) (l : List Int32) (hp : p ≤ n) (hll : l.length ≤ p) : AM g 9 0 0 mX1_factor [.ref lq, .int 5] (lpH h lq cq p l) (fun rv h' => rv = some (.int (b2i (!(pF H 0 p).1))) ∧ h' = lpG h lq cq l (pF H 0 p)) := by
  refine AM.of [(0, .ref lq), (1, .int 5)] (by decide) (Nat.le_of_ble_eq_true rfl) rfl ?_
  intro V hV
  have hb : V.2.1.2.1 = cX1_factor := by subst hV; rfl
  have ow : V.2.1.1.cls = RX1 := by subst hV; rfl
  have hr : V.2.2.1 = aw_rm 9 0 0 := by subst hV; rfl
  have hz : V.2.2.2 = aw_Z V.1 (fun rv h' => rv = some (.int (b2i (!(pF H 0 p).1))) ∧ h' = lpG h lq cq l (pF H 0 p)) V.2.2.1 := by subst hV; rfl
  have hg : V.1 = g := by subst hV; rfl
  have hret : V.2.1.2.2.2 = (some .boolean) := by subst hV; rfl
  have hml : V.2.1.2.2.1 = 2 := by subst hV; rfl
  clear hV
  refine a_aload_n hb dX1_factor_0 rfl 0 rfl ?_
  refine a_bipush (v := 33) hb dX1_factor_1 (by decide) ?_
  refine a_callV hb dX1_factor_3 (by rw [hg]; exact l_next g h lq tq cq n t1 t2 t3 q0 q7 ne1 ne2 ne3 hn H hH hE p l hp 33 (by decide)) (by rw [ow]; exact clv_RX1_65) (lp_k (h := h) (lq := lq) (cq := cq) (p := p) (l := l) t1) (by decide) rfl rfl rfl (Nat.le_of_ble_eq_true rfl) (by rw [hr]; exact ⟨by decide, by decide⟩) (by rw [hr]; exact ⟨Nat.le_of_ble_eq_true rfl, Nat.le_of_ble_eq_true rfl⟩) ?_
  intro rv h' hq_
  rw [hq_.1, hq_.2]
  clear hq_ rv h'
  by_cases nx33 : H p = 33
  · rw [decide_eq_true nx33]
    show AW V 0 0 (lpH h lq cq p l) 6 [(0, .ref lq), (1, .int 5)] [.int 1]
    refine a_if_ne hb 23 dX1_factor_6 (by decide) (fun c6 => ?_) (fun c6 => absurd c6 (by decide))
    refine a_iload_n hb dX1_factor_23 rfl 1 rfl ?_
    refine a_iconst (v := 5) hb dX1_factor_24 (by decide) ?_
    refine a_icmp_lt hb 30 dX1_factor_25 (by decide) (fun c25 => absurd c25 (by decide)) (fun c25 => ?_)
    refine a_iconst (v := 0) hb dX1_factor_28 (by decide) ?_
    exact a_ireturn (ty := .boolean) hb hz dX1_factor_29 hret (by first | rfl | (simp only [narrow]; done) | exact aw_nb _) (by rw [hr]; exact Nat.le_of_ble_eq_true rfl) (by rw [hr]; exact Nat.le_of_ble_eq_true rfl) (⟨by rw [pF_0 (Or.inl nx33)]; rfl, by rw [pF_0 (Or.inl nx33), lpG_0]⟩)
  rw [decide_eq_false nx33]
  show AW V 0 0 (lpH h lq cq p l) 6 [(0, .ref lq), (1, .int 5)] [.int 0]
  refine a_if_ne hb 23 dX1_factor_6 (by decide) (fun c6 => absurd c6 (by decide)) (fun c6 => ?_)
  refine a_aload_n hb dX1_factor_9 rfl 0 rfl ?_
  refine a_bipush (v := 40) hb dX1_factor_10 (by decide) ?_
  refine a_callV hb dX1_factor_12 (by rw [hg]; exact l_next g h lq tq cq n t1 t2 t3 q0 q7 ne1 ne2 ne3 hn H hH hE p l hp 40 (by decide)) (by rw [ow]; exact clv_RX1_65) (lp_k (h := h) (lq := lq) (cq := cq) (p := p) (l := l) t1) (by decide) rfl rfl rfl (Nat.le_of_ble_eq_true rfl) (by rw [hr]; exact ⟨by decide, by decide⟩) (by rw [hr]; exact ⟨Nat.le_of_ble_eq_true rfl, Nat.le_of_ble_eq_true rfl⟩) ?_
  intro rv h' hq_
  rw [hq_.1, hq_.2]
  clear hq_ rv h'
  by_cases nx40 : H p = 40
  · rw [decide_eq_true nx40]
    show AW V 0 0 (lpH h lq cq p l) 15 [(0, .ref lq), (1, .int 5)] [.int 1]
    refine a_if_ne hb 23 dX1_factor_15 (by decide) (fun c15 => ?_) (fun c15 => absurd c15 (by decide))
    refine a_iload_n hb dX1_factor_23 rfl 1 rfl ?_
    refine a_iconst (v := 5) hb dX1_factor_24 (by decide) ?_
    refine a_icmp_lt hb 30 dX1_factor_25 (by decide) (fun c25 => absurd c25 (by decide)) (fun c25 => ?_)
    refine a_iconst (v := 0) hb dX1_factor_28 (by decide) ?_
    exact a_ireturn (ty := .boolean) hb hz dX1_factor_29 hret (by first | rfl | (simp only [narrow]; done) | exact aw_nb _) (by rw [hr]; exact Nat.le_of_ble_eq_true rfl) (by rw [hr]; exact Nat.le_of_ble_eq_true rfl) (⟨by rw [pF_0 (Or.inr nx40)]; rfl, by rw [pF_0 (Or.inr nx40), lpG_0]⟩)
  rw [decide_eq_false nx40]
  show AW V 0 0 (lpH h lq cq p l) 15 [(0, .ref lq), (1, .int 5)] [.int 0]
  refine a_if_ne hb 23 dX1_factor_15 (by decide) (fun c15 => absurd c15 (by decide)) (fun c15 => ?_)
  refine a_aload_n hb dX1_factor_18 rfl 0 rfl ?_
  refine a_callV hb dX1_factor_19 (by rw [hg]; exact l_tst g h lq tq cq n t1 t2 t3 q0 q7 ne1 ne2 ne3 hn H hH hE p l hp hll) (by rw [ow]; exact clv_RX1_97) (lp_k (h := h) (lq := lq) (cq := cq) (p := p) (l := l) t1) (by decide) rfl rfl rfl (Nat.le_of_ble_eq_true rfl) (by rw [hr]; exact ⟨by decide, by decide⟩) (by rw [hr]; exact ⟨Nat.le_of_ble_eq_true rfl, Nat.le_of_ble_eq_true rfl⟩) ?_
  intro rv h' hq_
  rw [hq_.1, hq_.2]
  show AW V 0 0 (lpG h lq cq l (pT H p)) 22 [(0, .ref lq), (1, .int 5)] [.int (b2i (!(pT H p).1))]
  exact a_ireturn (ty := .boolean) hb hz dX1_factor_22 hret (b2i_nb _) (by rw [hr]; exact Nat.le_of_ble_eq_true rfl) (by rw [hr]; exact Nat.le_of_ble_eq_true rfl) (⟨by rw [pF_T nx33 nx40], by rw [pF_T nx33 nx40]⟩)
set_option maxRecDepth 100000 in
theorem l_ter0 (g : GG) (h : AH) (lq tq cq n : Nat) (t1 : hT h lq = (1, 0)) (t2 : hT h tq = (13, n)) (t3 : hT h cq = (14, n)) (q0 : hQ h lq 0 = some tq) (q7 : hQ h lq 7 = some cq) (ne1 : lq ≠ cq) (ne2 : tq ≠ lq) (ne3 : tq ≠ cq) (hn : n ≤ 120) (H : Nat → Int32) (hH : ∀ p, p < n → hI h tq p = bx (H p) ∧ oO (H p) 0 255 = false) (hE : ∀ p, n ≤ p → H p = -1) (p : Nat) (l : List Int32) (hp : p ≤ n) (hll : l.length ≤ p) : AM g 10 0 0 mX1_term [.ref lq, .int 5] (lpH h lq cq p l) (fun rv h' => rv = some (.int (b2i (!(pV (pF H 0) H p).1))) ∧ h' = lpG h lq cq l (pV (pF H 0) H p)) := by
  refine AM.of [(0, .ref lq), (1, .int 5)] (by decide) (Nat.le_of_ble_eq_true rfl) rfl ?_
  intro V hV
  have hb : V.2.1.2.1 = cX1_term := by subst hV; rfl
  have ow : V.2.1.1.cls = RX1 := by subst hV; rfl
  have hr : V.2.2.1 = aw_rm 10 0 0 := by subst hV; rfl
  have hz : V.2.2.2 = aw_Z V.1 (fun rv h' => rv = some (.int (b2i (!(pV (pF H 0) H p).1))) ∧ h' = lpG h lq cq l (pV (pF H 0) H p)) V.2.2.1 := by subst hV; rfl
  have hg : V.1 = g := by subst hV; rfl
  have hret : V.2.1.2.2.2 = (some .boolean) := by subst hV; rfl
  have hml : V.2.1.2.2.1 = 4 := by subst hV; rfl
  clear hV
  generalize hR : pV (pF H 0) H p = R at hz
  have loop : ∀ (k i : Nat) (r : PR), i + k = n → r.2.1 ≤ n → (l ++ r.2.2.map encX).length ≤ r.2.1 → lpR (pF H 0) H 38 (2, 0, 0, 0) k r = R → AW V 0 0 (lpG h lq cq l r) 8 [(0, .ref lq), (1, .int 5), (2, .int (b2i (!r.1))), (3, .int (nI i))] [] := by
    intro k
    induction k with
    | zero =>
      intro i r hi h1 h2 h4
      show AW V 0 0 (lpH h lq cq r.2.1 (l ++ r.2.2.map encX)) 8 [(0, .ref lq), (1, .int 5), (2, .int (b2i (!r.1))), (3, .int (nI i))] []
      refine a_iload_n hb dX1_term_8 rfl 3 rfl ?_
      refine a_aload_n hb dX1_term_9 rfl 0 rfl ?_
      refine a_getQ (q := tq) hb dX1_term_10 (by rw [ow]; exact fl_RX1_32_1) (lp_k (h := h) (lq := lq) (cq := cq) (p := r.2.1) (l := (l ++ r.2.2.map encX)) t1) (lp_q (h := h) (lq := lq) (cq := cq) (p := r.2.1) (l := (l ++ r.2.2.map encX)) q0) ?_
      refine a_alenI (v := (nI n)) hb dX1_term_13 (lp_k (h := h) (lq := lq) (cq := cq) (p := r.2.1) (l := (l ++ r.2.2.map encX)) t2) (by decide) rfl ?_
      refine a_icmp_ge hb 58 dX1_term_14 (by decide) (fun c14 => ?_) (fun c14 => absurd (nI_le (by omega) (by omega)) c14)
      refine a_iload_n hb dX1_term_58 rfl 2 rfl ?_
      exact a_ireturn (ty := .boolean) hb hz dX1_term_59 hret (b2i_nb _) (by rw [hr]; exact Nat.le_of_ble_eq_true rfl) (by rw [hr]; exact Nat.le_of_ble_eq_true rfl) (⟨by rw [← h4]; rfl, by rw [← h4]; rfl⟩)
    | succ k ih =>
      intro i r hi h1 h2 h4
      show AW V 0 0 (lpH h lq cq r.2.1 (l ++ r.2.2.map encX)) 8 [(0, .ref lq), (1, .int 5), (2, .int (b2i (!r.1))), (3, .int (nI i))] []
      refine a_iload_n hb dX1_term_8 rfl 3 rfl ?_
      refine a_aload_n hb dX1_term_9 rfl 0 rfl ?_
      refine a_getQ (q := tq) hb dX1_term_10 (by rw [ow]; exact fl_RX1_32_1) (lp_k (h := h) (lq := lq) (cq := cq) (p := r.2.1) (l := (l ++ r.2.2.map encX)) t1) (lp_q (h := h) (lq := lq) (cq := cq) (p := r.2.1) (l := (l ++ r.2.2.map encX)) q0) ?_
      refine a_alenI (v := (nI n)) hb dX1_term_13 (lp_k (h := h) (lq := lq) (cq := cq) (p := r.2.1) (l := (l ++ r.2.2.map encX)) t2) (by decide) rfl ?_
      refine a_icmp_ge hb 58 dX1_term_14 (by decide) (fun c14 => absurd c14 (nI_ge (by omega) (by omega))) (fun c14 => ?_)
      refine a_iload_n hb dX1_term_17 rfl 2 rfl ?_
      refine a_if_eq hb 58 dX1_term_18 (by decide) (fun c18 => ?_) (fun c18 => ?_)
      · simp [b2i_0] at c18
        have rt : r.1 = true := by simpa using c18
        refine a_iload_n hb dX1_term_58 rfl 2 rfl ?_
        exact a_ireturn (ty := .boolean) hb hz dX1_term_59 hret (b2i_nb _) (by rw [hr]; exact Nat.le_of_ble_eq_true rfl) (by rw [hr]; exact Nat.le_of_ble_eq_true rfl) (⟨by rw [← h4, lpR_w rt], by rw [← h4, lpR_w rt]; rfl⟩)
      · simp [b2i_0] at c18
        have rf : r.1 = false := by simpa using c18
        refine a_aload_n hb dX1_term_21 rfl 0 rfl ?_
        refine a_bipush (v := 38) hb dX1_term_22 (by decide) ?_
        refine a_callV hb dX1_term_24 (by rw [hg]; exact l_take g h lq tq cq n t1 t2 t3 q0 q7 ne1 ne2 ne3 hn H hH hE r.2.1 (l ++ r.2.2.map encX) h1 38 (by decide)) (by rw [ow]; exact clv_RX1_43) (lp_k (h := h) (lq := lq) (cq := cq) (p := r.2.1) (l := (l ++ r.2.2.map encX)) t1) (by decide) rfl rfl rfl (Nat.le_of_ble_eq_true rfl) (by rw [hr]; exact ⟨by decide, by decide⟩) (by rw [hr]; exact ⟨Nat.le_of_ble_eq_true rfl, Nat.le_of_ble_eq_true rfl⟩) ?_
        intro rv h' hq_
        rw [hq_.1, hq_.2]
        clear hq_ rv h'
        by_cases tkr21 : H r.2.1 = 38
        · have lttkr21 : r.2.1 < n := H_c hE (by decide) tkr21
          rw [if_pos tkr21, decide_eq_true tkr21]
          show AW V 0 0 (lpH h lq cq (r.2.1 + 1) (l ++ r.2.2.map encX)) 27 [(0, .ref lq), (1, .int 5), (2, .int (b2i (!r.1))), (3, .int (nI i))] [.int 1]
          refine a_if_eq hb 58 dX1_term_27 (by decide) (fun c27 => absurd c27 (by decide)) (fun c27 => ?_)
          refine a_aload_n hb dX1_term_30 rfl 0 rfl ?_
          refine a_iload_n hb dX1_term_31 rfl 1 rfl ?_
          refine a_callV hb dX1_term_32 (by rw [hg]; exact l_fac0 g h lq tq cq n t1 t2 t3 q0 q7 ne1 ne2 ne3 hn H hH hE (r.2.1 + 1) (l ++ r.2.2.map encX) lttkr21 (Nat.le_succ_of_le h2)) (by rw [ow]; exact clv_RX1_94) (lp_k (h := h) (lq := lq) (cq := cq) (p := r.2.1 + 1) (l := (l ++ r.2.2.map encX)) t1) (by decide) rfl rfl rfl (Nat.le_of_ble_eq_true rfl) (by rw [hr]; exact ⟨by decide, by decide⟩) (by rw [hr]; exact ⟨Nat.le_of_ble_eq_true rfl, Nat.le_of_ble_eq_true rfl⟩) ?_
          intro rv h' hq_
          rw [hq_.1, hq_.2]
          clear hq_ rv h'
          have gd1_ := pF_gH hE 0 (r.2.1 + 1)
          generalize eQ1 : pF H 0 (r.2.1 + 1) = q1_ at gd1_ ⊢
          have hp1 := gd1_.2 lttkr21
          have hl1 := gdx gd1_ (Nat.le_succ_of_le h2)
          by_cases w1_ : q1_.1 = true
          · rw [w1_]
            show AW V 0 0 (lpH h lq cq q1_.2.1 ((l ++ r.2.2.map encX) ++ q1_.2.2.map encX)) 35 [(0, .ref lq), (1, .int 5), (2, .int (b2i (!r.1))), (3, .int (nI i))] [.int 0]
            refine a_if_eq hb 50 dX1_term_35 (by decide) (fun c35 => ?_) (fun c35 => absurd (by decide) c35)
            refine a_iconst (v := 0) hb dX1_term_50 (by decide) ?_
            refine a_istore_n (L' := [(2, .int 0), (0, .ref lq), (1, .int 5), (3, .int (nI i))]) hb dX1_term_51 rfl (by rw [hml]; decide) rfl ?_
            refine a_iinc (v := ((nI i) + 1)) (L' := [(3, .int ((nI i) + 1)), (2, .int 0), (0, .ref lq), (1, .int 5)]) hb dX1_term_52 3 rfl rfl (by rw [hml]; decide) rfl ?_
            refine a_goto hb 8 dX1_term_55 (by decide) ?_
            have hq4 := @lpR_s (pF H 0) H 38 (2, 0, 0, 0) k r _ rf tkr21 eQ1
            rw [h4] at hq4
            refine AW.sub (L' := [(0, .ref lq), (1, .int 5), (2, .int 0), (3, .int ((nI i) + 1))]) [2, 3, 1, 0] rfl ?_
            refine AW.eq (ih (i + 1) (q1_.1, q1_.2.1, r.2.2 ++ q1_.2.2 ++ if q1_.1 = true then [] else [(2, 0, 0, 0)]) (by omega) hp1 ?_ hq4.symm) (lpG_2w w1_) rfl (by rw [nI_1]; show _ = [(0, _), (1, _), (2, Value.int (b2i (!q1_.1))), (3, _)]; rw [w1_]; rfl) rfl
            show (l ++ List.map encX (r.2.2 ++ q1_.2.2 ++ if q1_.1 = true then [] else [(2, 0, 0, 0)])).length ≤ q1_.2.1
            have g1 := gdx1 gd1_ h2
            rw [List.length_append] at g1 ⊢
            rw [List.length_append, List.length_map] at g1
            rw [List.length_map, List.length_append, List.length_append]
            rw [List.length_map] at g1
            split <;> simp only [List.length_cons, List.length_nil] <;> omega
          have fw1_ : q1_.1 = false := by simpa using w1_
          rw [fw1_]
          show AW V 0 0 (lpH h lq cq q1_.2.1 ((l ++ r.2.2.map encX) ++ q1_.2.2.map encX)) 35 [(0, .ref lq), (1, .int 5), (2, .int (b2i (!r.1))), (3, .int (nI i))] [.int 1]
          refine a_if_eq hb 50 dX1_term_35 (by decide) (fun c35 => absurd c35 (by decide)) (fun c35 => ?_)
          refine a_aload_n hb dX1_term_38 rfl 0 rfl ?_
          refine a_iconst (v := (-1)) hb dX1_term_39 (by decide) ?_
          refine a_callV hb dX1_term_40 (by rw [hg]; exact l_emit g h lq tq cq n t1 t2 t3 q0 q7 ne1 ne2 ne3 hn H hH hE q1_.2.1 ((l ++ r.2.2.map encX) ++ q1_.2.2.map encX) hp1 (-1) (by have := gdx1 gd1_ h2; omega)) (by rw [ow]; exact clv_RX1_91) (lp_k (h := h) (lq := lq) (cq := cq) (p := q1_.2.1) (l := ((l ++ r.2.2.map encX) ++ q1_.2.2.map encX)) t1) (by decide) rfl rfl rfl (Nat.le_of_ble_eq_true rfl) (by rw [hr]; exact ⟨by decide, by decide⟩) (by rw [hr]; exact ⟨Nat.le_of_ble_eq_true rfl, Nat.le_of_ble_eq_true rfl⟩) ?_
          intro rv h' hq_
          rw [hq_.1, hq_.2]
          show AW V 0 0 (lpH h lq cq q1_.2.1 (((l ++ r.2.2.map encX) ++ q1_.2.2.map encX) ++ [(-1)])) 43 [(0, .ref lq), (1, .int 5), (2, .int (b2i (!r.1))), (3, .int (nI i))] [.int 1]
          refine a_if_eq hb 50 dX1_term_43 (by decide) (fun c43 => absurd c43 (by decide)) (fun c43 => ?_)
          refine a_iconst (v := 1) hb dX1_term_46 (by decide) ?_
          refine a_goto hb 51 dX1_term_47 (by decide) ?_
          refine a_istore_n (L' := [(2, .int 1), (0, .ref lq), (1, .int 5), (3, .int (nI i))]) hb dX1_term_51 rfl (by rw [hml]; decide) rfl ?_
          refine a_iinc (v := ((nI i) + 1)) (L' := [(3, .int ((nI i) + 1)), (2, .int 1), (0, .ref lq), (1, .int 5)]) hb dX1_term_52 3 rfl rfl (by rw [hml]; decide) rfl ?_
          refine a_goto hb 8 dX1_term_55 (by decide) ?_
          have hq4 := @lpR_s (pF H 0) H 38 (2, 0, 0, 0) k r _ rf tkr21 eQ1
          rw [h4] at hq4
          refine AW.sub (L' := [(0, .ref lq), (1, .int 5), (2, .int 1), (3, .int ((nI i) + 1))]) [2, 3, 1, 0] rfl ?_
          refine AW.eq (ih (i + 1) (q1_.1, q1_.2.1, r.2.2 ++ q1_.2.2 ++ if q1_.1 = true then [] else [(2, 0, 0, 0)]) (by omega) hp1 ?_ hq4.symm) (lpG_2s (s := (2, 0, 0, 0)) fw1_) rfl (by rw [nI_1]; show _ = [(0, _), (1, _), (2, Value.int (b2i (!q1_.1))), (3, _)]; rw [fw1_]; rfl) rfl
          show (l ++ List.map encX (r.2.2 ++ q1_.2.2 ++ if q1_.1 = true then [] else [(2, 0, 0, 0)])).length ≤ q1_.2.1
          have g1 := gdx1 gd1_ h2
          rw [List.length_append] at g1 ⊢
          rw [List.length_append, List.length_map] at g1
          rw [List.length_map, List.length_append, List.length_append]
          rw [List.length_map] at g1
          split <;> simp only [List.length_cons, List.length_nil] <;> omega
        rw [if_neg tkr21, decide_eq_false tkr21]
        show AW V 0 0 (lpH h lq cq r.2.1 (l ++ r.2.2.map encX)) 27 [(0, .ref lq), (1, .int 5), (2, .int (b2i (!r.1))), (3, .int (nI i))] [.int 0]
        refine a_if_eq hb 58 dX1_term_27 (by decide) (fun c27 => ?_) (fun c27 => absurd (by decide) c27)
        refine a_iload_n hb dX1_term_58 rfl 2 rfl ?_
        exact a_ireturn (ty := .boolean) hb hz dX1_term_59 hret (b2i_nb _) (by rw [hr]; exact Nat.le_of_ble_eq_true rfl) (by rw [hr]; exact Nat.le_of_ble_eq_true rfl) (⟨by rw [← h4, lpR_n tkr21], by rw [← h4, lpR_n tkr21]; rfl⟩)
  refine a_aload_n hb dX1_term_0 rfl 0 rfl ?_
  refine a_iload_n hb dX1_term_1 rfl 1 rfl ?_
  refine a_callV hb dX1_term_2 (by rw [hg]; exact l_fac0 g h lq tq cq n t1 t2 t3 q0 q7 ne1 ne2 ne3 hn H hH hE p l hp hll) (by rw [ow]; exact clv_RX1_94) (lp_k (h := h) (lq := lq) (cq := cq) (p := p) (l := l) t1) (by decide) rfl rfl rfl (Nat.le_of_ble_eq_true rfl) (by rw [hr]; exact ⟨by decide, by decide⟩) (by rw [hr]; exact ⟨Nat.le_of_ble_eq_true rfl, Nat.le_of_ble_eq_true rfl⟩) ?_
  intro rv h' hq_
  rw [hq_.1, hq_.2]
  clear hq_ rv h'
  have gd1_ := pF_gH hE 0 p
  generalize eQ1 : pF H 0 p = q1_ at gd1_ ⊢
  have hp1 := gd1_.2 hp
  have hl1 := gdx gd1_ hll
  show AW V 0 0 (lpH h lq cq q1_.2.1 (l ++ q1_.2.2.map encX)) 5 [(0, .ref lq), (1, .int 5)] [.int (b2i (!q1_.1))]
  refine a_istore_n (L' := [(2, .int (b2i (!q1_.1))), (0, .ref lq), (1, .int 5)]) hb dX1_term_5 rfl (by rw [hml]; decide) rfl ?_
  refine a_iconst (v := 0) hb dX1_term_6 (by decide) ?_
  refine a_istore_n (L' := [(3, .int 0), (2, .int (b2i (!q1_.1))), (0, .ref lq), (1, .int 5)]) hb dX1_term_7 rfl (by rw [hml]; decide) rfl ?_
  refine AW.sub (L' := [(0, .ref lq), (1, .int 5), (2, .int (b2i (!q1_.1))), (3, .int 0)]) [2, 3, 1, 0] rfl ?_
  exact loop n 0 q1_ (by omega) hp1 hl1 ((pV_x (gd_p (pF_gH hE 0)) hE hn eQ1).trans hR)
set_option maxRecDepth 100000 in
theorem l_exp0 (g : GG) (h : AH) (lq tq cq n : Nat) (t1 : hT h lq = (1, 0)) (t2 : hT h tq = (13, n)) (t3 : hT h cq = (14, n)) (q0 : hQ h lq 0 = some tq) (q7 : hQ h lq 7 = some cq) (ne1 : lq ≠ cq) (ne2 : tq ≠ lq) (ne3 : tq ≠ cq) (hn : n ≤ 120) (H : Nat → Int32) (hH : ∀ p, p < n → hI h tq p = bx (H p) ∧ oO (H p) 0 255 = false) (hE : ∀ p, n ≤ p → H p = -1) (p : Nat) (l : List Int32) (hp : p ≤ n) (hll : l.length ≤ p) : AM g 11 0 0 mX1_expression [.ref lq, .int 5] (lpH h lq cq p l) (fun rv h' => rv = some (.int (b2i (!(pE (pF H 0) H p).1))) ∧ h' = lpG h lq cq l (pE (pF H 0) H p)) := by
  refine AM.of [(0, .ref lq), (1, .int 5)] (by decide) (Nat.le_of_ble_eq_true rfl) rfl ?_
  intro V hV
  have hb : V.2.1.2.1 = cX1_expression := by subst hV; rfl
  have ow : V.2.1.1.cls = RX1 := by subst hV; rfl
  have hr : V.2.2.1 = aw_rm 11 0 0 := by subst hV; rfl
  have hz : V.2.2.2 = aw_Z V.1 (fun rv h' => rv = some (.int (b2i (!(pE (pF H 0) H p).1))) ∧ h' = lpG h lq cq l (pE (pF H 0) H p)) V.2.2.1 := by subst hV; rfl
  have hg : V.1 = g := by subst hV; rfl
  have hret : V.2.1.2.2.2 = (some .boolean) := by subst hV; rfl
  have hml : V.2.1.2.2.1 = 4 := by subst hV; rfl
  clear hV
  generalize hR : pE (pF H 0) H p = R at hz
  have loop : ∀ (k i : Nat) (r : PR), i + k = n → r.2.1 ≤ n → (l ++ r.2.2.map encX).length ≤ r.2.1 → lpR (pV (pF H 0) H) H 124 (3, 0, 0, 0) k r = R → AW V 0 0 (lpG h lq cq l r) 8 [(0, .ref lq), (1, .int 5), (2, .int (b2i (!r.1))), (3, .int (nI i))] [] := by
    intro k
    induction k with
    | zero =>
      intro i r hi h1 h2 h4
      show AW V 0 0 (lpH h lq cq r.2.1 (l ++ r.2.2.map encX)) 8 [(0, .ref lq), (1, .int 5), (2, .int (b2i (!r.1))), (3, .int (nI i))] []
      refine a_iload_n hb dX1_expression_8 rfl 3 rfl ?_
      refine a_aload_n hb dX1_expression_9 rfl 0 rfl ?_
      refine a_getQ (q := tq) hb dX1_expression_10 (by rw [ow]; exact fl_RX1_32_1) (lp_k (h := h) (lq := lq) (cq := cq) (p := r.2.1) (l := (l ++ r.2.2.map encX)) t1) (lp_q (h := h) (lq := lq) (cq := cq) (p := r.2.1) (l := (l ++ r.2.2.map encX)) q0) ?_
      refine a_alenI (v := (nI n)) hb dX1_expression_13 (lp_k (h := h) (lq := lq) (cq := cq) (p := r.2.1) (l := (l ++ r.2.2.map encX)) t2) (by decide) rfl ?_
      refine a_icmp_ge hb 59 dX1_expression_14 (by decide) (fun c14 => ?_) (fun c14 => absurd (nI_le (by omega) (by omega)) c14)
      refine a_iload_n hb dX1_expression_59 rfl 2 rfl ?_
      exact a_ireturn (ty := .boolean) hb hz dX1_expression_60 hret (b2i_nb _) (by rw [hr]; exact Nat.le_of_ble_eq_true rfl) (by rw [hr]; exact Nat.le_of_ble_eq_true rfl) (⟨by rw [← h4]; rfl, by rw [← h4]; rfl⟩)
    | succ k ih =>
      intro i r hi h1 h2 h4
      show AW V 0 0 (lpH h lq cq r.2.1 (l ++ r.2.2.map encX)) 8 [(0, .ref lq), (1, .int 5), (2, .int (b2i (!r.1))), (3, .int (nI i))] []
      refine a_iload_n hb dX1_expression_8 rfl 3 rfl ?_
      refine a_aload_n hb dX1_expression_9 rfl 0 rfl ?_
      refine a_getQ (q := tq) hb dX1_expression_10 (by rw [ow]; exact fl_RX1_32_1) (lp_k (h := h) (lq := lq) (cq := cq) (p := r.2.1) (l := (l ++ r.2.2.map encX)) t1) (lp_q (h := h) (lq := lq) (cq := cq) (p := r.2.1) (l := (l ++ r.2.2.map encX)) q0) ?_
      refine a_alenI (v := (nI n)) hb dX1_expression_13 (lp_k (h := h) (lq := lq) (cq := cq) (p := r.2.1) (l := (l ++ r.2.2.map encX)) t2) (by decide) rfl ?_
      refine a_icmp_ge hb 59 dX1_expression_14 (by decide) (fun c14 => absurd c14 (nI_ge (by omega) (by omega))) (fun c14 => ?_)
      refine a_iload_n hb dX1_expression_17 rfl 2 rfl ?_
      refine a_if_eq hb 59 dX1_expression_18 (by decide) (fun c18 => ?_) (fun c18 => ?_)
      · simp [b2i_0] at c18
        have rt : r.1 = true := by simpa using c18
        refine a_iload_n hb dX1_expression_59 rfl 2 rfl ?_
        exact a_ireturn (ty := .boolean) hb hz dX1_expression_60 hret (b2i_nb _) (by rw [hr]; exact Nat.le_of_ble_eq_true rfl) (by rw [hr]; exact Nat.le_of_ble_eq_true rfl) (⟨by rw [← h4, lpR_w rt], by rw [← h4, lpR_w rt]; rfl⟩)
      · simp [b2i_0] at c18
        have rf : r.1 = false := by simpa using c18
        refine a_aload_n hb dX1_expression_21 rfl 0 rfl ?_
        refine a_bipush (v := 124) hb dX1_expression_22 (by decide) ?_
        refine a_callV hb dX1_expression_24 (by rw [hg]; exact l_take g h lq tq cq n t1 t2 t3 q0 q7 ne1 ne2 ne3 hn H hH hE r.2.1 (l ++ r.2.2.map encX) h1 124 (by decide)) (by rw [ow]; exact clv_RX1_43) (lp_k (h := h) (lq := lq) (cq := cq) (p := r.2.1) (l := (l ++ r.2.2.map encX)) t1) (by decide) rfl rfl rfl (Nat.le_of_ble_eq_true rfl) (by rw [hr]; exact ⟨by decide, by decide⟩) (by rw [hr]; exact ⟨Nat.le_of_ble_eq_true rfl, Nat.le_of_ble_eq_true rfl⟩) ?_
        intro rv h' hq_
        rw [hq_.1, hq_.2]
        clear hq_ rv h'
        by_cases tkr21 : H r.2.1 = 124
        · have lttkr21 : r.2.1 < n := H_c hE (by decide) tkr21
          rw [if_pos tkr21, decide_eq_true tkr21]
          show AW V 0 0 (lpH h lq cq (r.2.1 + 1) (l ++ r.2.2.map encX)) 27 [(0, .ref lq), (1, .int 5), (2, .int (b2i (!r.1))), (3, .int (nI i))] [.int 1]
          refine a_if_eq hb 59 dX1_expression_27 (by decide) (fun c27 => absurd c27 (by decide)) (fun c27 => ?_)
          refine a_aload_n hb dX1_expression_30 rfl 0 rfl ?_
          refine a_iload_n hb dX1_expression_31 rfl 1 rfl ?_
          refine a_callV hb dX1_expression_32 (by rw [hg]; exact l_ter0 g h lq tq cq n t1 t2 t3 q0 q7 ne1 ne2 ne3 hn H hH hE (r.2.1 + 1) (l ++ r.2.2.map encX) lttkr21 (Nat.le_succ_of_le h2)) (by rw [ow]; exact clv_RX1_88) (lp_k (h := h) (lq := lq) (cq := cq) (p := r.2.1 + 1) (l := (l ++ r.2.2.map encX)) t1) (by decide) rfl rfl rfl (Nat.le_of_ble_eq_true rfl) (by rw [hr]; exact ⟨by decide, by decide⟩) (by rw [hr]; exact ⟨Nat.le_of_ble_eq_true rfl, Nat.le_of_ble_eq_true rfl⟩) ?_
          intro rv h' hq_
          rw [hq_.1, hq_.2]
          clear hq_ rv h'
          have gd1_ := pV_gH hE 0 (r.2.1 + 1)
          generalize eQ1 : pV (pF H 0) H (r.2.1 + 1) = q1_ at gd1_ ⊢
          have hp1 := gd1_.2 lttkr21
          have hl1 := gdx gd1_ (Nat.le_succ_of_le h2)
          by_cases w1_ : q1_.1 = true
          · rw [w1_]
            show AW V 0 0 (lpH h lq cq q1_.2.1 ((l ++ r.2.2.map encX) ++ q1_.2.2.map encX)) 35 [(0, .ref lq), (1, .int 5), (2, .int (b2i (!r.1))), (3, .int (nI i))] [.int 0]
            refine a_if_eq hb 51 dX1_expression_35 (by decide) (fun c35 => ?_) (fun c35 => absurd (by decide) c35)
            refine a_iconst (v := 0) hb dX1_expression_51 (by decide) ?_
            refine a_istore_n (L' := [(2, .int 0), (0, .ref lq), (1, .int 5), (3, .int (nI i))]) hb dX1_expression_52 rfl (by rw [hml]; decide) rfl ?_
            refine a_iinc (v := ((nI i) + 1)) (L' := [(3, .int ((nI i) + 1)), (2, .int 0), (0, .ref lq), (1, .int 5)]) hb dX1_expression_53 3 rfl rfl (by rw [hml]; decide) rfl ?_
            refine a_goto hb 8 dX1_expression_56 (by decide) ?_
            have hq4 := @lpR_s (pV (pF H 0) H) H 124 (3, 0, 0, 0) k r _ rf tkr21 eQ1
            rw [h4] at hq4
            refine AW.sub (L' := [(0, .ref lq), (1, .int 5), (2, .int 0), (3, .int ((nI i) + 1))]) [2, 3, 1, 0] rfl ?_
            refine AW.eq (ih (i + 1) (q1_.1, q1_.2.1, r.2.2 ++ q1_.2.2 ++ if q1_.1 = true then [] else [(3, 0, 0, 0)]) (by omega) hp1 ?_ hq4.symm) (lpG_2w w1_) rfl (by rw [nI_1]; show _ = [(0, _), (1, _), (2, Value.int (b2i (!q1_.1))), (3, _)]; rw [w1_]; rfl) rfl
            show (l ++ List.map encX (r.2.2 ++ q1_.2.2 ++ if q1_.1 = true then [] else [(3, 0, 0, 0)])).length ≤ q1_.2.1
            have g1 := gdx1 gd1_ h2
            rw [List.length_append] at g1 ⊢
            rw [List.length_append, List.length_map] at g1
            rw [List.length_map, List.length_append, List.length_append]
            rw [List.length_map] at g1
            split <;> simp only [List.length_cons, List.length_nil] <;> omega
          have fw1_ : q1_.1 = false := by simpa using w1_
          rw [fw1_]
          show AW V 0 0 (lpH h lq cq q1_.2.1 ((l ++ r.2.2.map encX) ++ q1_.2.2.map encX)) 35 [(0, .ref lq), (1, .int 5), (2, .int (b2i (!r.1))), (3, .int (nI i))] [.int 1]
          refine a_if_eq hb 51 dX1_expression_35 (by decide) (fun c35 => absurd c35 (by decide)) (fun c35 => ?_)
          refine a_aload_n hb dX1_expression_38 rfl 0 rfl ?_
          refine a_bipush (v := (-2)) hb dX1_expression_39 (by decide) ?_
          refine a_callV hb dX1_expression_41 (by rw [hg]; exact l_emit g h lq tq cq n t1 t2 t3 q0 q7 ne1 ne2 ne3 hn H hH hE q1_.2.1 ((l ++ r.2.2.map encX) ++ q1_.2.2.map encX) hp1 (-2) (by have := gdx1 gd1_ h2; omega)) (by rw [ow]; exact clv_RX1_91) (lp_k (h := h) (lq := lq) (cq := cq) (p := q1_.2.1) (l := ((l ++ r.2.2.map encX) ++ q1_.2.2.map encX)) t1) (by decide) rfl rfl rfl (Nat.le_of_ble_eq_true rfl) (by rw [hr]; exact ⟨by decide, by decide⟩) (by rw [hr]; exact ⟨Nat.le_of_ble_eq_true rfl, Nat.le_of_ble_eq_true rfl⟩) ?_
          intro rv h' hq_
          rw [hq_.1, hq_.2]
          show AW V 0 0 (lpH h lq cq q1_.2.1 (((l ++ r.2.2.map encX) ++ q1_.2.2.map encX) ++ [(-2)])) 44 [(0, .ref lq), (1, .int 5), (2, .int (b2i (!r.1))), (3, .int (nI i))] [.int 1]
          refine a_if_eq hb 51 dX1_expression_44 (by decide) (fun c44 => absurd c44 (by decide)) (fun c44 => ?_)
          refine a_iconst (v := 1) hb dX1_expression_47 (by decide) ?_
          refine a_goto hb 52 dX1_expression_48 (by decide) ?_
          refine a_istore_n (L' := [(2, .int 1), (0, .ref lq), (1, .int 5), (3, .int (nI i))]) hb dX1_expression_52 rfl (by rw [hml]; decide) rfl ?_
          refine a_iinc (v := ((nI i) + 1)) (L' := [(3, .int ((nI i) + 1)), (2, .int 1), (0, .ref lq), (1, .int 5)]) hb dX1_expression_53 3 rfl rfl (by rw [hml]; decide) rfl ?_
          refine a_goto hb 8 dX1_expression_56 (by decide) ?_
          have hq4 := @lpR_s (pV (pF H 0) H) H 124 (3, 0, 0, 0) k r _ rf tkr21 eQ1
          rw [h4] at hq4
          refine AW.sub (L' := [(0, .ref lq), (1, .int 5), (2, .int 1), (3, .int ((nI i) + 1))]) [2, 3, 1, 0] rfl ?_
          refine AW.eq (ih (i + 1) (q1_.1, q1_.2.1, r.2.2 ++ q1_.2.2 ++ if q1_.1 = true then [] else [(3, 0, 0, 0)]) (by omega) hp1 ?_ hq4.symm) (lpG_2s (s := (3, 0, 0, 0)) fw1_) rfl (by rw [nI_1]; show _ = [(0, _), (1, _), (2, Value.int (b2i (!q1_.1))), (3, _)]; rw [fw1_]; rfl) rfl
          show (l ++ List.map encX (r.2.2 ++ q1_.2.2 ++ if q1_.1 = true then [] else [(3, 0, 0, 0)])).length ≤ q1_.2.1
          have g1 := gdx1 gd1_ h2
          rw [List.length_append] at g1 ⊢
          rw [List.length_append, List.length_map] at g1
          rw [List.length_map, List.length_append, List.length_append]
          rw [List.length_map] at g1
          split <;> simp only [List.length_cons, List.length_nil] <;> omega
        rw [if_neg tkr21, decide_eq_false tkr21]
        show AW V 0 0 (lpH h lq cq r.2.1 (l ++ r.2.2.map encX)) 27 [(0, .ref lq), (1, .int 5), (2, .int (b2i (!r.1))), (3, .int (nI i))] [.int 0]
        refine a_if_eq hb 59 dX1_expression_27 (by decide) (fun c27 => ?_) (fun c27 => absurd (by decide) c27)
        refine a_iload_n hb dX1_expression_59 rfl 2 rfl ?_
        exact a_ireturn (ty := .boolean) hb hz dX1_expression_60 hret (b2i_nb _) (by rw [hr]; exact Nat.le_of_ble_eq_true rfl) (by rw [hr]; exact Nat.le_of_ble_eq_true rfl) (⟨by rw [← h4, lpR_n tkr21], by rw [← h4, lpR_n tkr21]; rfl⟩)
  refine a_aload_n hb dX1_expression_0 rfl 0 rfl ?_
  refine a_iload_n hb dX1_expression_1 rfl 1 rfl ?_
  refine a_callV hb dX1_expression_2 (by rw [hg]; exact l_ter0 g h lq tq cq n t1 t2 t3 q0 q7 ne1 ne2 ne3 hn H hH hE p l hp hll) (by rw [ow]; exact clv_RX1_88) (lp_k (h := h) (lq := lq) (cq := cq) (p := p) (l := l) t1) (by decide) rfl rfl rfl (Nat.le_of_ble_eq_true rfl) (by rw [hr]; exact ⟨by decide, by decide⟩) (by rw [hr]; exact ⟨Nat.le_of_ble_eq_true rfl, Nat.le_of_ble_eq_true rfl⟩) ?_
  intro rv h' hq_
  rw [hq_.1, hq_.2]
  clear hq_ rv h'
  have gd1_ := pV_gH hE 0 p
  generalize eQ1 : pV (pF H 0) H p = q1_ at gd1_ ⊢
  have hp1 := gd1_.2 hp
  have hl1 := gdx gd1_ hll
  show AW V 0 0 (lpH h lq cq q1_.2.1 (l ++ q1_.2.2.map encX)) 5 [(0, .ref lq), (1, .int 5)] [.int (b2i (!q1_.1))]
  refine a_istore_n (L' := [(2, .int (b2i (!q1_.1))), (0, .ref lq), (1, .int 5)]) hb dX1_expression_5 rfl (by rw [hml]; decide) rfl ?_
  refine a_iconst (v := 0) hb dX1_expression_6 (by decide) ?_
  refine a_istore_n (L' := [(3, .int 0), (2, .int (b2i (!q1_.1))), (0, .ref lq), (1, .int 5)]) hb dX1_expression_7 rfl (by rw [hml]; decide) rfl ?_
  refine AW.sub (L' := [(0, .ref lq), (1, .int 5), (2, .int (b2i (!q1_.1))), (3, .int 0)]) [2, 3, 1, 0] rfl ?_
  exact loop n 0 q1_ (by omega) hp1 hl1 ((pE_x (gd_p (pV_gH hE 0)) hE hn eQ1).trans hR)
set_option maxRecDepth 100000 in
theorem l_fac1 (g : GG) (h : AH) (lq tq cq n : Nat) (t1 : hT h lq = (1, 0)) (t2 : hT h tq = (13, n)) (t3 : hT h cq = (14, n)) (q0 : hQ h lq 0 = some tq) (q7 : hQ h lq 7 = some cq) (ne1 : lq ≠ cq) (ne2 : tq ≠ lq) (ne3 : tq ≠ cq) (hn : n ≤ 120) (H : Nat → Int32) (hH : ∀ p, p < n → hI h tq p = bx (H p) ∧ oO (H p) 0 255 = false) (hE : ∀ p, n ≤ p → H p = -1) (p : Nat) (l : List Int32) (hp : p ≤ n) (hll : l.length ≤ p) : AM g 12 0 0 mX1_factor [.ref lq, .int 4] (lpH h lq cq p l) (fun rv h' => rv = some (.int (b2i (!(pF H 1 p).1))) ∧ h' = lpG h lq cq l (pF H 1 p)) := by
  refine AM.of [(0, .ref lq), (1, .int 4)] (by decide) (Nat.le_of_ble_eq_true rfl) rfl ?_
  intro V hV
  have hb : V.2.1.2.1 = cX1_factor := by subst hV; rfl
  have ow : V.2.1.1.cls = RX1 := by subst hV; rfl
  have hr : V.2.2.1 = aw_rm 12 0 0 := by subst hV; rfl
  have hz : V.2.2.2 = aw_Z V.1 (fun rv h' => rv = some (.int (b2i (!(pF H 1 p).1))) ∧ h' = lpG h lq cq l (pF H 1 p)) V.2.2.1 := by subst hV; rfl
  have hg : V.1 = g := by subst hV; rfl
  have hret : V.2.1.2.2.2 = (some .boolean) := by subst hV; rfl
  have hml : V.2.1.2.2.1 = 2 := by subst hV; rfl
  clear hV
  refine a_aload_n hb dX1_factor_0 rfl 0 rfl ?_
  refine a_bipush (v := 33) hb dX1_factor_1 (by decide) ?_
  refine a_callV hb dX1_factor_3 (by rw [hg]; exact l_next g h lq tq cq n t1 t2 t3 q0 q7 ne1 ne2 ne3 hn H hH hE p l hp 33 (by decide)) (by rw [ow]; exact clv_RX1_65) (lp_k (h := h) (lq := lq) (cq := cq) (p := p) (l := l) t1) (by decide) rfl rfl rfl (Nat.le_of_ble_eq_true rfl) (by rw [hr]; exact ⟨by decide, by decide⟩) (by rw [hr]; exact ⟨Nat.le_of_ble_eq_true rfl, Nat.le_of_ble_eq_true rfl⟩) ?_
  intro rv h' hq_
  rw [hq_.1, hq_.2]
  clear hq_ rv h'
  by_cases nx33 : H p = 33
  · rw [decide_eq_true nx33]
    show AW V 0 0 (lpH h lq cq p l) 6 [(0, .ref lq), (1, .int 4)] [.int 1]
    refine a_if_ne hb 23 dX1_factor_6 (by decide) (fun c6 => ?_) (fun c6 => absurd c6 (by decide))
    refine a_iload_n hb dX1_factor_23 rfl 1 rfl ?_
    refine a_iconst (v := 5) hb dX1_factor_24 (by decide) ?_
    refine a_icmp_lt hb 30 dX1_factor_25 (by decide) (fun c25 => ?_) (fun c25 => absurd (by decide) c25)
    refine a_aload_n hb dX1_factor_30 rfl 0 rfl ?_
    refine a_bipush (v := 33) hb dX1_factor_31 (by decide) ?_
    refine a_callV hb dX1_factor_33 (by rw [hg]; exact l_take g h lq tq cq n t1 t2 t3 q0 q7 ne1 ne2 ne3 hn H hH hE p l hp 33 (by decide)) (by rw [ow]; exact clv_RX1_43) (lp_k (h := h) (lq := lq) (cq := cq) (p := p) (l := l) t1) (by decide) rfl rfl rfl (Nat.le_of_ble_eq_true rfl) (by rw [hr]; exact ⟨by decide, by decide⟩) (by rw [hr]; exact ⟨Nat.le_of_ble_eq_true rfl, Nat.le_of_ble_eq_true rfl⟩) ?_
    intro rv h' hq_
    rw [hq_.1, hq_.2]
    clear hq_ rv h'
    have ltnx33 : p < n := H_c hE (by decide) nx33
    rw [if_pos nx33, decide_eq_true nx33]
    show AW V 0 0 (lpH h lq cq (p + 1) l) 36 [(0, .ref lq), (1, .int 4)] [.int 1]
    refine a_if_eq hb 64 dX1_factor_36 (by decide) (fun c36 => absurd c36 (by decide)) (fun c36 => ?_)
    refine a_aload_n hb dX1_factor_39 rfl 0 rfl ?_
    refine a_iload_n hb dX1_factor_40 rfl 1 rfl ?_
    refine a_iconst (v := 1) hb dX1_factor_41 (by decide) ?_
    refine a_iadd hb dX1_factor_42 ?_
    rw [show (4 : Int32) + 1 = 5 from by decide]
    show AW V 0 0 (lpH h lq cq (p + 1) l) 43 [(0, .ref lq), (1, .int 4)] [.int 5, .ref lq]
    refine a_callV hb dX1_factor_43 (by rw [hg]; exact l_fac0 g h lq tq cq n t1 t2 t3 q0 q7 ne1 ne2 ne3 hn H hH hE (p + 1) l ltnx33 (Nat.le_succ_of_le hll)) (by rw [ow]; exact clv_RX1_94) (lp_k (h := h) (lq := lq) (cq := cq) (p := p + 1) (l := l) t1) (by decide) rfl rfl rfl (Nat.le_of_ble_eq_true rfl) (by rw [hr]; exact ⟨by decide, by decide⟩) (by rw [hr]; exact ⟨Nat.le_of_ble_eq_true rfl, Nat.le_of_ble_eq_true rfl⟩) ?_
    intro rv h' hq_
    rw [hq_.1, hq_.2]
    clear hq_ rv h'
    have gd1_ := pF_gH hE 0 (p + 1)
    generalize eQ1 : pF H 0 (p + 1) = q1_ at gd1_ ⊢
    have hp1 := gd1_.2 ltnx33
    have hl1 := gdx gd1_ (Nat.le_succ_of_le hll)
    by_cases w1_ : q1_.1 = true
    · rw [w1_]
      show AW V 0 0 (lpH h lq cq q1_.2.1 (l ++ q1_.2.2.map encX)) 46 [(0, .ref lq), (1, .int 4)] [.int 0]
      refine a_if_eq hb 62 dX1_factor_46 (by decide) (fun c46 => ?_) (fun c46 => absurd (by decide) c46)
      refine a_iconst (v := 0) hb dX1_factor_62 (by decide) ?_
      exact a_ireturn (ty := .boolean) hb hz dX1_factor_63 hret (by first | rfl | (simp only [narrow]; done) | exact aw_nb _) (by rw [hr]; exact Nat.le_of_ble_eq_true rfl) (by rw [hr]; exact Nat.le_of_ble_eq_true rfl) (⟨by rw [pF_n nx33 eQ1, w1_]; rfl, by rw [pF_n nx33 eQ1]; exact lpG_w w1_⟩)
    have fw1_ : q1_.1 = false := by simpa using w1_
    rw [fw1_]
    show AW V 0 0 (lpH h lq cq q1_.2.1 (l ++ q1_.2.2.map encX)) 46 [(0, .ref lq), (1, .int 4)] [.int 1]
    refine a_if_eq hb 62 dX1_factor_46 (by decide) (fun c46 => absurd c46 (by decide)) (fun c46 => ?_)
    refine a_aload_n hb dX1_factor_49 rfl 0 rfl ?_
    refine a_bipush (v := (-3)) hb dX1_factor_50 (by decide) ?_
    refine a_callV hb dX1_factor_52 (by rw [hg]; exact l_emit g h lq tq cq n t1 t2 t3 q0 q7 ne1 ne2 ne3 hn H hH hE q1_.2.1 (l ++ q1_.2.2.map encX) hp1 (-3) (by have := gdx1 gd1_ hll; omega)) (by rw [ow]; exact clv_RX1_91) (lp_k (h := h) (lq := lq) (cq := cq) (p := q1_.2.1) (l := (l ++ q1_.2.2.map encX)) t1) (by decide) rfl rfl rfl (Nat.le_of_ble_eq_true rfl) (by rw [hr]; exact ⟨by decide, by decide⟩) (by rw [hr]; exact ⟨Nat.le_of_ble_eq_true rfl, Nat.le_of_ble_eq_true rfl⟩) ?_
    intro rv h' hq_
    rw [hq_.1, hq_.2]
    show AW V 0 0 (lpH h lq cq q1_.2.1 ((l ++ q1_.2.2.map encX) ++ [(-3)])) 55 [(0, .ref lq), (1, .int 4)] [.int 1]
    refine a_if_eq hb 62 dX1_factor_55 (by decide) (fun c55 => absurd c55 (by decide)) (fun c55 => ?_)
    refine a_iconst (v := 1) hb dX1_factor_58 (by decide) ?_
    refine a_goto hb 63 dX1_factor_59 (by decide) ?_
    exact a_ireturn (ty := .boolean) hb hz dX1_factor_63 hret (by first | rfl | (simp only [narrow]; done) | exact aw_nb _) (by rw [hr]; exact Nat.le_of_ble_eq_true rfl) (by rw [hr]; exact Nat.le_of_ble_eq_true rfl) (⟨by rw [pF_n nx33 eQ1, fw1_]; rfl, by rw [pF_n nx33 eQ1]; exact lpG_s (s := (1, 0, 0, 0)) fw1_⟩)
  rw [decide_eq_false nx33]
  show AW V 0 0 (lpH h lq cq p l) 6 [(0, .ref lq), (1, .int 4)] [.int 0]
  refine a_if_ne hb 23 dX1_factor_6 (by decide) (fun c6 => absurd c6 (by decide)) (fun c6 => ?_)
  refine a_aload_n hb dX1_factor_9 rfl 0 rfl ?_
  refine a_bipush (v := 40) hb dX1_factor_10 (by decide) ?_
  refine a_callV hb dX1_factor_12 (by rw [hg]; exact l_next g h lq tq cq n t1 t2 t3 q0 q7 ne1 ne2 ne3 hn H hH hE p l hp 40 (by decide)) (by rw [ow]; exact clv_RX1_65) (lp_k (h := h) (lq := lq) (cq := cq) (p := p) (l := l) t1) (by decide) rfl rfl rfl (Nat.le_of_ble_eq_true rfl) (by rw [hr]; exact ⟨by decide, by decide⟩) (by rw [hr]; exact ⟨Nat.le_of_ble_eq_true rfl, Nat.le_of_ble_eq_true rfl⟩) ?_
  intro rv h' hq_
  rw [hq_.1, hq_.2]
  clear hq_ rv h'
  by_cases nx40 : H p = 40
  · rw [decide_eq_true nx40]
    show AW V 0 0 (lpH h lq cq p l) 15 [(0, .ref lq), (1, .int 4)] [.int 1]
    refine a_if_ne hb 23 dX1_factor_15 (by decide) (fun c15 => ?_) (fun c15 => absurd c15 (by decide))
    refine a_iload_n hb dX1_factor_23 rfl 1 rfl ?_
    refine a_iconst (v := 5) hb dX1_factor_24 (by decide) ?_
    refine a_icmp_lt hb 30 dX1_factor_25 (by decide) (fun c25 => ?_) (fun c25 => absurd (by decide) c25)
    refine a_aload_n hb dX1_factor_30 rfl 0 rfl ?_
    refine a_bipush (v := 33) hb dX1_factor_31 (by decide) ?_
    refine a_callV hb dX1_factor_33 (by rw [hg]; exact l_take g h lq tq cq n t1 t2 t3 q0 q7 ne1 ne2 ne3 hn H hH hE p l hp 33 (by decide)) (by rw [ow]; exact clv_RX1_43) (lp_k (h := h) (lq := lq) (cq := cq) (p := p) (l := l) t1) (by decide) rfl rfl rfl (Nat.le_of_ble_eq_true rfl) (by rw [hr]; exact ⟨by decide, by decide⟩) (by rw [hr]; exact ⟨Nat.le_of_ble_eq_true rfl, Nat.le_of_ble_eq_true rfl⟩) ?_
    intro rv h' hq_
    rw [hq_.1, hq_.2]
    clear hq_ rv h'
    rw [if_neg nx33, decide_eq_false nx33]
    show AW V 0 0 (lpH h lq cq p l) 36 [(0, .ref lq), (1, .int 4)] [.int 0]
    refine a_if_eq hb 64 dX1_factor_36 (by decide) (fun c36 => ?_) (fun c36 => absurd (by decide) c36)
    refine a_aload_n hb dX1_factor_64 rfl 0 rfl ?_
    refine a_bipush (v := 40) hb dX1_factor_65 (by decide) ?_
    refine a_callV hb dX1_factor_67 (by rw [hg]; exact l_take g h lq tq cq n t1 t2 t3 q0 q7 ne1 ne2 ne3 hn H hH hE p l hp 40 (by decide)) (by rw [ow]; exact clv_RX1_43) (lp_k (h := h) (lq := lq) (cq := cq) (p := p) (l := l) t1) (by decide) rfl rfl rfl (Nat.le_of_ble_eq_true rfl) (by rw [hr]; exact ⟨by decide, by decide⟩) (by rw [hr]; exact ⟨Nat.le_of_ble_eq_true rfl, Nat.le_of_ble_eq_true rfl⟩) ?_
    intro rv h' hq_
    rw [hq_.1, hq_.2]
    clear hq_ rv h'
    have ltnx40 : p < n := H_c hE (by decide) nx40
    rw [if_pos nx40, decide_eq_true nx40]
    show AW V 0 0 (lpH h lq cq (p + 1) l) 70 [(0, .ref lq), (1, .int 4)] [.int 1]
    refine a_if_eq hb 96 dX1_factor_70 (by decide) (fun c70 => absurd c70 (by decide)) (fun c70 => ?_)
    refine a_aload_n hb dX1_factor_73 rfl 0 rfl ?_
    refine a_iload_n hb dX1_factor_74 rfl 1 rfl ?_
    refine a_iconst (v := 1) hb dX1_factor_75 (by decide) ?_
    refine a_iadd hb dX1_factor_76 ?_
    rw [show (4 : Int32) + 1 = 5 from by decide]
    show AW V 0 0 (lpH h lq cq (p + 1) l) 77 [(0, .ref lq), (1, .int 4)] [.int 5, .ref lq]
    refine a_callV hb dX1_factor_77 (by rw [hg]; exact l_exp0 g h lq tq cq n t1 t2 t3 q0 q7 ne1 ne2 ne3 hn H hH hE (p + 1) l ltnx40 (Nat.le_succ_of_le hll)) (by rw [ow]; exact clv_RX1_85) (lp_k (h := h) (lq := lq) (cq := cq) (p := p + 1) (l := l) t1) (by decide) rfl rfl rfl (Nat.le_of_ble_eq_true rfl) (by rw [hr]; exact ⟨by decide, by decide⟩) (by rw [hr]; exact ⟨Nat.le_of_ble_eq_true rfl, Nat.le_of_ble_eq_true rfl⟩) ?_
    intro rv h' hq_
    rw [hq_.1, hq_.2]
    clear hq_ rv h'
    have gd2_ := pE_gH hE 0 (p + 1)
    generalize eQ2 : pE (pF H 0) H (p + 1) = q2_ at gd2_ ⊢
    have hp2 := gd2_.2 ltnx40
    have hl2 := gdx gd2_ (Nat.le_succ_of_le hll)
    by_cases w2_ : q2_.1 = true
    · rw [w2_]
      show AW V 0 0 (lpH h lq cq q2_.2.1 (l ++ q2_.2.2.map encX)) 80 [(0, .ref lq), (1, .int 4)] [.int 0]
      refine a_if_eq hb 96 dX1_factor_80 (by decide) (fun c80 => ?_) (fun c80 => absurd (by decide) c80)
      refine a_iconst (v := 0) hb dX1_factor_96 (by decide) ?_
      exact a_ireturn (ty := .boolean) hb hz dX1_factor_97 hret (by first | rfl | (simp only [narrow]; done) | exact aw_nb _) (by rw [hr]; exact Nat.le_of_ble_eq_true rfl) (by rw [hr]; exact Nat.le_of_ble_eq_true rfl) (⟨by rw [pF_p nx33 nx40 eQ2, if_pos w2_, w2_]; rfl, by rw [pF_p nx33 nx40 eQ2, if_pos w2_]; rfl⟩)
    have fw2_ : q2_.1 = false := by simpa using w2_
    rw [fw2_]
    show AW V 0 0 (lpH h lq cq q2_.2.1 (l ++ q2_.2.2.map encX)) 80 [(0, .ref lq), (1, .int 4)] [.int 1]
    refine a_if_eq hb 96 dX1_factor_80 (by decide) (fun c80 => absurd c80 (by decide)) (fun c80 => ?_)
    refine a_aload_n hb dX1_factor_83 rfl 0 rfl ?_
    refine a_bipush (v := 41) hb dX1_factor_84 (by decide) ?_
    refine a_callV hb dX1_factor_86 (by rw [hg]; exact l_take g h lq tq cq n t1 t2 t3 q0 q7 ne1 ne2 ne3 hn H hH hE q2_.2.1 (l ++ q2_.2.2.map encX) hp2 41 (by decide)) (by rw [ow]; exact clv_RX1_43) (lp_k (h := h) (lq := lq) (cq := cq) (p := q2_.2.1) (l := (l ++ q2_.2.2.map encX)) t1) (by decide) rfl rfl rfl (Nat.le_of_ble_eq_true rfl) (by rw [hr]; exact ⟨by decide, by decide⟩) (by rw [hr]; exact ⟨Nat.le_of_ble_eq_true rfl, Nat.le_of_ble_eq_true rfl⟩) ?_
    intro rv h' hq_
    rw [hq_.1, hq_.2]
    clear hq_ rv h'
    by_cases tkq2_21 : H q2_.2.1 = 41
    · have lttkq2_21 : q2_.2.1 < n := H_c hE (by decide) tkq2_21
      rw [if_pos tkq2_21, decide_eq_true tkq2_21]
      show AW V 0 0 (lpH h lq cq (q2_.2.1 + 1) (l ++ q2_.2.2.map encX)) 89 [(0, .ref lq), (1, .int 4)] [.int 1]
      refine a_if_eq hb 96 dX1_factor_89 (by decide) (fun c89 => absurd c89 (by decide)) (fun c89 => ?_)
      refine a_iconst (v := 1) hb dX1_factor_92 (by decide) ?_
      refine a_goto hb 97 dX1_factor_93 (by decide) ?_
      exact a_ireturn (ty := .boolean) hb hz dX1_factor_97 hret (by first | rfl | (simp only [narrow]; done) | exact aw_nb _) (by rw [hr]; exact Nat.le_of_ble_eq_true rfl) (by rw [hr]; exact Nat.le_of_ble_eq_true rfl) (⟨by rw [pF_p nx33 nx40 eQ2, if_neg w2_, if_pos tkq2_21]; rfl, by rw [pF_p nx33 nx40 eQ2, if_neg w2_, if_pos tkq2_21]; rfl⟩)
    rw [if_neg tkq2_21, decide_eq_false tkq2_21]
    show AW V 0 0 (lpH h lq cq q2_.2.1 (l ++ q2_.2.2.map encX)) 89 [(0, .ref lq), (1, .int 4)] [.int 0]
    refine a_if_eq hb 96 dX1_factor_89 (by decide) (fun c89 => ?_) (fun c89 => absurd (by decide) c89)
    refine a_iconst (v := 0) hb dX1_factor_96 (by decide) ?_
    exact a_ireturn (ty := .boolean) hb hz dX1_factor_97 hret (by first | rfl | (simp only [narrow]; done) | exact aw_nb _) (by rw [hr]; exact Nat.le_of_ble_eq_true rfl) (by rw [hr]; exact Nat.le_of_ble_eq_true rfl) (⟨by rw [pF_p nx33 nx40 eQ2, if_neg w2_, if_neg tkq2_21]; rfl, by rw [pF_p nx33 nx40 eQ2, if_neg w2_, if_neg tkq2_21]; rfl⟩)
  rw [decide_eq_false nx40]
  show AW V 0 0 (lpH h lq cq p l) 15 [(0, .ref lq), (1, .int 4)] [.int 0]
  refine a_if_ne hb 23 dX1_factor_15 (by decide) (fun c15 => absurd c15 (by decide)) (fun c15 => ?_)
  refine a_aload_n hb dX1_factor_18 rfl 0 rfl ?_
  refine a_callV hb dX1_factor_19 (by rw [hg]; exact l_tst g h lq tq cq n t1 t2 t3 q0 q7 ne1 ne2 ne3 hn H hH hE p l hp hll) (by rw [ow]; exact clv_RX1_97) (lp_k (h := h) (lq := lq) (cq := cq) (p := p) (l := l) t1) (by decide) rfl rfl rfl (Nat.le_of_ble_eq_true rfl) (by rw [hr]; exact ⟨by decide, by decide⟩) (by rw [hr]; exact ⟨Nat.le_of_ble_eq_true rfl, Nat.le_of_ble_eq_true rfl⟩) ?_
  intro rv h' hq_
  rw [hq_.1, hq_.2]
  show AW V 0 0 (lpG h lq cq l (pT H p)) 22 [(0, .ref lq), (1, .int 4)] [.int (b2i (!(pT H p).1))]
  exact a_ireturn (ty := .boolean) hb hz dX1_factor_22 hret (b2i_nb _) (by rw [hr]; exact Nat.le_of_ble_eq_true rfl) (by rw [hr]; exact Nat.le_of_ble_eq_true rfl) (⟨by rw [pF_T nx33 nx40], by rw [pF_T nx33 nx40]⟩)
set_option maxRecDepth 100000 in
theorem l_ter1 (g : GG) (h : AH) (lq tq cq n : Nat) (t1 : hT h lq = (1, 0)) (t2 : hT h tq = (13, n)) (t3 : hT h cq = (14, n)) (q0 : hQ h lq 0 = some tq) (q7 : hQ h lq 7 = some cq) (ne1 : lq ≠ cq) (ne2 : tq ≠ lq) (ne3 : tq ≠ cq) (hn : n ≤ 120) (H : Nat → Int32) (hH : ∀ p, p < n → hI h tq p = bx (H p) ∧ oO (H p) 0 255 = false) (hE : ∀ p, n ≤ p → H p = -1) (p : Nat) (l : List Int32) (hp : p ≤ n) (hll : l.length ≤ p) : AM g 13 0 0 mX1_term [.ref lq, .int 4] (lpH h lq cq p l) (fun rv h' => rv = some (.int (b2i (!(pV (pF H 1) H p).1))) ∧ h' = lpG h lq cq l (pV (pF H 1) H p)) := by
  refine AM.of [(0, .ref lq), (1, .int 4)] (by decide) (Nat.le_of_ble_eq_true rfl) rfl ?_
  intro V hV
  have hb : V.2.1.2.1 = cX1_term := by subst hV; rfl
  have ow : V.2.1.1.cls = RX1 := by subst hV; rfl
  have hr : V.2.2.1 = aw_rm 13 0 0 := by subst hV; rfl
  have hz : V.2.2.2 = aw_Z V.1 (fun rv h' => rv = some (.int (b2i (!(pV (pF H 1) H p).1))) ∧ h' = lpG h lq cq l (pV (pF H 1) H p)) V.2.2.1 := by subst hV; rfl
  have hg : V.1 = g := by subst hV; rfl
  have hret : V.2.1.2.2.2 = (some .boolean) := by subst hV; rfl
  have hml : V.2.1.2.2.1 = 4 := by subst hV; rfl
  clear hV
  generalize hR : pV (pF H 1) H p = R at hz
  have loop : ∀ (k i : Nat) (r : PR), i + k = n → r.2.1 ≤ n → (l ++ r.2.2.map encX).length ≤ r.2.1 → lpR (pF H 1) H 38 (2, 0, 0, 0) k r = R → AW V 0 0 (lpG h lq cq l r) 8 [(0, .ref lq), (1, .int 4), (2, .int (b2i (!r.1))), (3, .int (nI i))] [] := by
    intro k
    induction k with
    | zero =>
      intro i r hi h1 h2 h4
      show AW V 0 0 (lpH h lq cq r.2.1 (l ++ r.2.2.map encX)) 8 [(0, .ref lq), (1, .int 4), (2, .int (b2i (!r.1))), (3, .int (nI i))] []
      refine a_iload_n hb dX1_term_8 rfl 3 rfl ?_
      refine a_aload_n hb dX1_term_9 rfl 0 rfl ?_
      refine a_getQ (q := tq) hb dX1_term_10 (by rw [ow]; exact fl_RX1_32_1) (lp_k (h := h) (lq := lq) (cq := cq) (p := r.2.1) (l := (l ++ r.2.2.map encX)) t1) (lp_q (h := h) (lq := lq) (cq := cq) (p := r.2.1) (l := (l ++ r.2.2.map encX)) q0) ?_
      refine a_alenI (v := (nI n)) hb dX1_term_13 (lp_k (h := h) (lq := lq) (cq := cq) (p := r.2.1) (l := (l ++ r.2.2.map encX)) t2) (by decide) rfl ?_
      refine a_icmp_ge hb 58 dX1_term_14 (by decide) (fun c14 => ?_) (fun c14 => absurd (nI_le (by omega) (by omega)) c14)
      refine a_iload_n hb dX1_term_58 rfl 2 rfl ?_
      exact a_ireturn (ty := .boolean) hb hz dX1_term_59 hret (b2i_nb _) (by rw [hr]; exact Nat.le_of_ble_eq_true rfl) (by rw [hr]; exact Nat.le_of_ble_eq_true rfl) (⟨by rw [← h4]; rfl, by rw [← h4]; rfl⟩)
    | succ k ih =>
      intro i r hi h1 h2 h4
      show AW V 0 0 (lpH h lq cq r.2.1 (l ++ r.2.2.map encX)) 8 [(0, .ref lq), (1, .int 4), (2, .int (b2i (!r.1))), (3, .int (nI i))] []
      refine a_iload_n hb dX1_term_8 rfl 3 rfl ?_
      refine a_aload_n hb dX1_term_9 rfl 0 rfl ?_
      refine a_getQ (q := tq) hb dX1_term_10 (by rw [ow]; exact fl_RX1_32_1) (lp_k (h := h) (lq := lq) (cq := cq) (p := r.2.1) (l := (l ++ r.2.2.map encX)) t1) (lp_q (h := h) (lq := lq) (cq := cq) (p := r.2.1) (l := (l ++ r.2.2.map encX)) q0) ?_
      refine a_alenI (v := (nI n)) hb dX1_term_13 (lp_k (h := h) (lq := lq) (cq := cq) (p := r.2.1) (l := (l ++ r.2.2.map encX)) t2) (by decide) rfl ?_
      refine a_icmp_ge hb 58 dX1_term_14 (by decide) (fun c14 => absurd c14 (nI_ge (by omega) (by omega))) (fun c14 => ?_)
      refine a_iload_n hb dX1_term_17 rfl 2 rfl ?_
      refine a_if_eq hb 58 dX1_term_18 (by decide) (fun c18 => ?_) (fun c18 => ?_)
      · simp [b2i_0] at c18
        have rt : r.1 = true := by simpa using c18
        refine a_iload_n hb dX1_term_58 rfl 2 rfl ?_
        exact a_ireturn (ty := .boolean) hb hz dX1_term_59 hret (b2i_nb _) (by rw [hr]; exact Nat.le_of_ble_eq_true rfl) (by rw [hr]; exact Nat.le_of_ble_eq_true rfl) (⟨by rw [← h4, lpR_w rt], by rw [← h4, lpR_w rt]; rfl⟩)
      · simp [b2i_0] at c18
        have rf : r.1 = false := by simpa using c18
        refine a_aload_n hb dX1_term_21 rfl 0 rfl ?_
        refine a_bipush (v := 38) hb dX1_term_22 (by decide) ?_
        refine a_callV hb dX1_term_24 (by rw [hg]; exact l_take g h lq tq cq n t1 t2 t3 q0 q7 ne1 ne2 ne3 hn H hH hE r.2.1 (l ++ r.2.2.map encX) h1 38 (by decide)) (by rw [ow]; exact clv_RX1_43) (lp_k (h := h) (lq := lq) (cq := cq) (p := r.2.1) (l := (l ++ r.2.2.map encX)) t1) (by decide) rfl rfl rfl (Nat.le_of_ble_eq_true rfl) (by rw [hr]; exact ⟨by decide, by decide⟩) (by rw [hr]; exact ⟨Nat.le_of_ble_eq_true rfl, Nat.le_of_ble_eq_true rfl⟩) ?_
        intro rv h' hq_
        rw [hq_.1, hq_.2]
        clear hq_ rv h'
        by_cases tkr21 : H r.2.1 = 38
        · have lttkr21 : r.2.1 < n := H_c hE (by decide) tkr21
          rw [if_pos tkr21, decide_eq_true tkr21]
          show AW V 0 0 (lpH h lq cq (r.2.1 + 1) (l ++ r.2.2.map encX)) 27 [(0, .ref lq), (1, .int 4), (2, .int (b2i (!r.1))), (3, .int (nI i))] [.int 1]
          refine a_if_eq hb 58 dX1_term_27 (by decide) (fun c27 => absurd c27 (by decide)) (fun c27 => ?_)
          refine a_aload_n hb dX1_term_30 rfl 0 rfl ?_
          refine a_iload_n hb dX1_term_31 rfl 1 rfl ?_
          refine a_callV hb dX1_term_32 (by rw [hg]; exact l_fac1 g h lq tq cq n t1 t2 t3 q0 q7 ne1 ne2 ne3 hn H hH hE (r.2.1 + 1) (l ++ r.2.2.map encX) lttkr21 (Nat.le_succ_of_le h2)) (by rw [ow]; exact clv_RX1_94) (lp_k (h := h) (lq := lq) (cq := cq) (p := r.2.1 + 1) (l := (l ++ r.2.2.map encX)) t1) (by decide) rfl rfl rfl (Nat.le_of_ble_eq_true rfl) (by rw [hr]; exact ⟨by decide, by decide⟩) (by rw [hr]; exact ⟨Nat.le_of_ble_eq_true rfl, Nat.le_of_ble_eq_true rfl⟩) ?_
          intro rv h' hq_
          rw [hq_.1, hq_.2]
          clear hq_ rv h'
          have gd1_ := pF_gH hE 1 (r.2.1 + 1)
          generalize eQ1 : pF H 1 (r.2.1 + 1) = q1_ at gd1_ ⊢
          have hp1 := gd1_.2 lttkr21
          have hl1 := gdx gd1_ (Nat.le_succ_of_le h2)
          by_cases w1_ : q1_.1 = true
          · rw [w1_]
            show AW V 0 0 (lpH h lq cq q1_.2.1 ((l ++ r.2.2.map encX) ++ q1_.2.2.map encX)) 35 [(0, .ref lq), (1, .int 4), (2, .int (b2i (!r.1))), (3, .int (nI i))] [.int 0]
            refine a_if_eq hb 50 dX1_term_35 (by decide) (fun c35 => ?_) (fun c35 => absurd (by decide) c35)
            refine a_iconst (v := 0) hb dX1_term_50 (by decide) ?_
            refine a_istore_n (L' := [(2, .int 0), (0, .ref lq), (1, .int 4), (3, .int (nI i))]) hb dX1_term_51 rfl (by rw [hml]; decide) rfl ?_
            refine a_iinc (v := ((nI i) + 1)) (L' := [(3, .int ((nI i) + 1)), (2, .int 0), (0, .ref lq), (1, .int 4)]) hb dX1_term_52 3 rfl rfl (by rw [hml]; decide) rfl ?_
            refine a_goto hb 8 dX1_term_55 (by decide) ?_
            have hq4 := @lpR_s (pF H 1) H 38 (2, 0, 0, 0) k r _ rf tkr21 eQ1
            rw [h4] at hq4
            refine AW.sub (L' := [(0, .ref lq), (1, .int 4), (2, .int 0), (3, .int ((nI i) + 1))]) [2, 3, 1, 0] rfl ?_
            refine AW.eq (ih (i + 1) (q1_.1, q1_.2.1, r.2.2 ++ q1_.2.2 ++ if q1_.1 = true then [] else [(2, 0, 0, 0)]) (by omega) hp1 ?_ hq4.symm) (lpG_2w w1_) rfl (by rw [nI_1]; show _ = [(0, _), (1, _), (2, Value.int (b2i (!q1_.1))), (3, _)]; rw [w1_]; rfl) rfl
            show (l ++ List.map encX (r.2.2 ++ q1_.2.2 ++ if q1_.1 = true then [] else [(2, 0, 0, 0)])).length ≤ q1_.2.1
            have g1 := gdx1 gd1_ h2
            rw [List.length_append] at g1 ⊢
            rw [List.length_append, List.length_map] at g1
            rw [List.length_map, List.length_append, List.length_append]
            rw [List.length_map] at g1
            split <;> simp only [List.length_cons, List.length_nil] <;> omega
          have fw1_ : q1_.1 = false := by simpa using w1_
          rw [fw1_]
          show AW V 0 0 (lpH h lq cq q1_.2.1 ((l ++ r.2.2.map encX) ++ q1_.2.2.map encX)) 35 [(0, .ref lq), (1, .int 4), (2, .int (b2i (!r.1))), (3, .int (nI i))] [.int 1]
          refine a_if_eq hb 50 dX1_term_35 (by decide) (fun c35 => absurd c35 (by decide)) (fun c35 => ?_)
          refine a_aload_n hb dX1_term_38 rfl 0 rfl ?_
          refine a_iconst (v := (-1)) hb dX1_term_39 (by decide) ?_
          refine a_callV hb dX1_term_40 (by rw [hg]; exact l_emit g h lq tq cq n t1 t2 t3 q0 q7 ne1 ne2 ne3 hn H hH hE q1_.2.1 ((l ++ r.2.2.map encX) ++ q1_.2.2.map encX) hp1 (-1) (by have := gdx1 gd1_ h2; omega)) (by rw [ow]; exact clv_RX1_91) (lp_k (h := h) (lq := lq) (cq := cq) (p := q1_.2.1) (l := ((l ++ r.2.2.map encX) ++ q1_.2.2.map encX)) t1) (by decide) rfl rfl rfl (Nat.le_of_ble_eq_true rfl) (by rw [hr]; exact ⟨by decide, by decide⟩) (by rw [hr]; exact ⟨Nat.le_of_ble_eq_true rfl, Nat.le_of_ble_eq_true rfl⟩) ?_
          intro rv h' hq_
          rw [hq_.1, hq_.2]
          show AW V 0 0 (lpH h lq cq q1_.2.1 (((l ++ r.2.2.map encX) ++ q1_.2.2.map encX) ++ [(-1)])) 43 [(0, .ref lq), (1, .int 4), (2, .int (b2i (!r.1))), (3, .int (nI i))] [.int 1]
          refine a_if_eq hb 50 dX1_term_43 (by decide) (fun c43 => absurd c43 (by decide)) (fun c43 => ?_)
          refine a_iconst (v := 1) hb dX1_term_46 (by decide) ?_
          refine a_goto hb 51 dX1_term_47 (by decide) ?_
          refine a_istore_n (L' := [(2, .int 1), (0, .ref lq), (1, .int 4), (3, .int (nI i))]) hb dX1_term_51 rfl (by rw [hml]; decide) rfl ?_
          refine a_iinc (v := ((nI i) + 1)) (L' := [(3, .int ((nI i) + 1)), (2, .int 1), (0, .ref lq), (1, .int 4)]) hb dX1_term_52 3 rfl rfl (by rw [hml]; decide) rfl ?_
          refine a_goto hb 8 dX1_term_55 (by decide) ?_
          have hq4 := @lpR_s (pF H 1) H 38 (2, 0, 0, 0) k r _ rf tkr21 eQ1
          rw [h4] at hq4
          refine AW.sub (L' := [(0, .ref lq), (1, .int 4), (2, .int 1), (3, .int ((nI i) + 1))]) [2, 3, 1, 0] rfl ?_
          refine AW.eq (ih (i + 1) (q1_.1, q1_.2.1, r.2.2 ++ q1_.2.2 ++ if q1_.1 = true then [] else [(2, 0, 0, 0)]) (by omega) hp1 ?_ hq4.symm) (lpG_2s (s := (2, 0, 0, 0)) fw1_) rfl (by rw [nI_1]; show _ = [(0, _), (1, _), (2, Value.int (b2i (!q1_.1))), (3, _)]; rw [fw1_]; rfl) rfl
          show (l ++ List.map encX (r.2.2 ++ q1_.2.2 ++ if q1_.1 = true then [] else [(2, 0, 0, 0)])).length ≤ q1_.2.1
          have g1 := gdx1 gd1_ h2
          rw [List.length_append] at g1 ⊢
          rw [List.length_append, List.length_map] at g1
          rw [List.length_map, List.length_append, List.length_append]
          rw [List.length_map] at g1
          split <;> simp only [List.length_cons, List.length_nil] <;> omega
        rw [if_neg tkr21, decide_eq_false tkr21]
        show AW V 0 0 (lpH h lq cq r.2.1 (l ++ r.2.2.map encX)) 27 [(0, .ref lq), (1, .int 4), (2, .int (b2i (!r.1))), (3, .int (nI i))] [.int 0]
        refine a_if_eq hb 58 dX1_term_27 (by decide) (fun c27 => ?_) (fun c27 => absurd (by decide) c27)
        refine a_iload_n hb dX1_term_58 rfl 2 rfl ?_
        exact a_ireturn (ty := .boolean) hb hz dX1_term_59 hret (b2i_nb _) (by rw [hr]; exact Nat.le_of_ble_eq_true rfl) (by rw [hr]; exact Nat.le_of_ble_eq_true rfl) (⟨by rw [← h4, lpR_n tkr21], by rw [← h4, lpR_n tkr21]; rfl⟩)
  refine a_aload_n hb dX1_term_0 rfl 0 rfl ?_
  refine a_iload_n hb dX1_term_1 rfl 1 rfl ?_
  refine a_callV hb dX1_term_2 (by rw [hg]; exact l_fac1 g h lq tq cq n t1 t2 t3 q0 q7 ne1 ne2 ne3 hn H hH hE p l hp hll) (by rw [ow]; exact clv_RX1_94) (lp_k (h := h) (lq := lq) (cq := cq) (p := p) (l := l) t1) (by decide) rfl rfl rfl (Nat.le_of_ble_eq_true rfl) (by rw [hr]; exact ⟨by decide, by decide⟩) (by rw [hr]; exact ⟨Nat.le_of_ble_eq_true rfl, Nat.le_of_ble_eq_true rfl⟩) ?_
  intro rv h' hq_
  rw [hq_.1, hq_.2]
  clear hq_ rv h'
  have gd1_ := pF_gH hE 1 p
  generalize eQ1 : pF H 1 p = q1_ at gd1_ ⊢
  have hp1 := gd1_.2 hp
  have hl1 := gdx gd1_ hll
  show AW V 0 0 (lpH h lq cq q1_.2.1 (l ++ q1_.2.2.map encX)) 5 [(0, .ref lq), (1, .int 4)] [.int (b2i (!q1_.1))]
  refine a_istore_n (L' := [(2, .int (b2i (!q1_.1))), (0, .ref lq), (1, .int 4)]) hb dX1_term_5 rfl (by rw [hml]; decide) rfl ?_
  refine a_iconst (v := 0) hb dX1_term_6 (by decide) ?_
  refine a_istore_n (L' := [(3, .int 0), (2, .int (b2i (!q1_.1))), (0, .ref lq), (1, .int 4)]) hb dX1_term_7 rfl (by rw [hml]; decide) rfl ?_
  refine AW.sub (L' := [(0, .ref lq), (1, .int 4), (2, .int (b2i (!q1_.1))), (3, .int 0)]) [2, 3, 1, 0] rfl ?_
  exact loop n 0 q1_ (by omega) hp1 hl1 ((pV_x (gd_p (pF_gH hE 1)) hE hn eQ1).trans hR)
set_option maxRecDepth 100000 in
theorem l_exp1 (g : GG) (h : AH) (lq tq cq n : Nat) (t1 : hT h lq = (1, 0)) (t2 : hT h tq = (13, n)) (t3 : hT h cq = (14, n)) (q0 : hQ h lq 0 = some tq) (q7 : hQ h lq 7 = some cq) (ne1 : lq ≠ cq) (ne2 : tq ≠ lq) (ne3 : tq ≠ cq) (hn : n ≤ 120) (H : Nat → Int32) (hH : ∀ p, p < n → hI h tq p = bx (H p) ∧ oO (H p) 0 255 = false) (hE : ∀ p, n ≤ p → H p = -1) (p : Nat) (l : List Int32) (hp : p ≤ n) (hll : l.length ≤ p) : AM g 14 0 0 mX1_expression [.ref lq, .int 4] (lpH h lq cq p l) (fun rv h' => rv = some (.int (b2i (!(pE (pF H 1) H p).1))) ∧ h' = lpG h lq cq l (pE (pF H 1) H p)) := by
  refine AM.of [(0, .ref lq), (1, .int 4)] (by decide) (Nat.le_of_ble_eq_true rfl) rfl ?_
  intro V hV
  have hb : V.2.1.2.1 = cX1_expression := by subst hV; rfl
  have ow : V.2.1.1.cls = RX1 := by subst hV; rfl
  have hr : V.2.2.1 = aw_rm 14 0 0 := by subst hV; rfl
  have hz : V.2.2.2 = aw_Z V.1 (fun rv h' => rv = some (.int (b2i (!(pE (pF H 1) H p).1))) ∧ h' = lpG h lq cq l (pE (pF H 1) H p)) V.2.2.1 := by subst hV; rfl
  have hg : V.1 = g := by subst hV; rfl
  have hret : V.2.1.2.2.2 = (some .boolean) := by subst hV; rfl
  have hml : V.2.1.2.2.1 = 4 := by subst hV; rfl
  clear hV
  generalize hR : pE (pF H 1) H p = R at hz
  have loop : ∀ (k i : Nat) (r : PR), i + k = n → r.2.1 ≤ n → (l ++ r.2.2.map encX).length ≤ r.2.1 → lpR (pV (pF H 1) H) H 124 (3, 0, 0, 0) k r = R → AW V 0 0 (lpG h lq cq l r) 8 [(0, .ref lq), (1, .int 4), (2, .int (b2i (!r.1))), (3, .int (nI i))] [] := by
    intro k
    induction k with
    | zero =>
      intro i r hi h1 h2 h4
      show AW V 0 0 (lpH h lq cq r.2.1 (l ++ r.2.2.map encX)) 8 [(0, .ref lq), (1, .int 4), (2, .int (b2i (!r.1))), (3, .int (nI i))] []
      refine a_iload_n hb dX1_expression_8 rfl 3 rfl ?_
      refine a_aload_n hb dX1_expression_9 rfl 0 rfl ?_
      refine a_getQ (q := tq) hb dX1_expression_10 (by rw [ow]; exact fl_RX1_32_1) (lp_k (h := h) (lq := lq) (cq := cq) (p := r.2.1) (l := (l ++ r.2.2.map encX)) t1) (lp_q (h := h) (lq := lq) (cq := cq) (p := r.2.1) (l := (l ++ r.2.2.map encX)) q0) ?_
      refine a_alenI (v := (nI n)) hb dX1_expression_13 (lp_k (h := h) (lq := lq) (cq := cq) (p := r.2.1) (l := (l ++ r.2.2.map encX)) t2) (by decide) rfl ?_
      refine a_icmp_ge hb 59 dX1_expression_14 (by decide) (fun c14 => ?_) (fun c14 => absurd (nI_le (by omega) (by omega)) c14)
      refine a_iload_n hb dX1_expression_59 rfl 2 rfl ?_
      exact a_ireturn (ty := .boolean) hb hz dX1_expression_60 hret (b2i_nb _) (by rw [hr]; exact Nat.le_of_ble_eq_true rfl) (by rw [hr]; exact Nat.le_of_ble_eq_true rfl) (⟨by rw [← h4]; rfl, by rw [← h4]; rfl⟩)
    | succ k ih =>
      intro i r hi h1 h2 h4
      show AW V 0 0 (lpH h lq cq r.2.1 (l ++ r.2.2.map encX)) 8 [(0, .ref lq), (1, .int 4), (2, .int (b2i (!r.1))), (3, .int (nI i))] []
      refine a_iload_n hb dX1_expression_8 rfl 3 rfl ?_
      refine a_aload_n hb dX1_expression_9 rfl 0 rfl ?_
      refine a_getQ (q := tq) hb dX1_expression_10 (by rw [ow]; exact fl_RX1_32_1) (lp_k (h := h) (lq := lq) (cq := cq) (p := r.2.1) (l := (l ++ r.2.2.map encX)) t1) (lp_q (h := h) (lq := lq) (cq := cq) (p := r.2.1) (l := (l ++ r.2.2.map encX)) q0) ?_
      refine a_alenI (v := (nI n)) hb dX1_expression_13 (lp_k (h := h) (lq := lq) (cq := cq) (p := r.2.1) (l := (l ++ r.2.2.map encX)) t2) (by decide) rfl ?_
      refine a_icmp_ge hb 59 dX1_expression_14 (by decide) (fun c14 => absurd c14 (nI_ge (by omega) (by omega))) (fun c14 => ?_)
      refine a_iload_n hb dX1_expression_17 rfl 2 rfl ?_
      refine a_if_eq hb 59 dX1_expression_18 (by decide) (fun c18 => ?_) (fun c18 => ?_)
      · simp [b2i_0] at c18
        have rt : r.1 = true := by simpa using c18
        refine a_iload_n hb dX1_expression_59 rfl 2 rfl ?_
        exact a_ireturn (ty := .boolean) hb hz dX1_expression_60 hret (b2i_nb _) (by rw [hr]; exact Nat.le_of_ble_eq_true rfl) (by rw [hr]; exact Nat.le_of_ble_eq_true rfl) (⟨by rw [← h4, lpR_w rt], by rw [← h4, lpR_w rt]; rfl⟩)
      · simp [b2i_0] at c18
        have rf : r.1 = false := by simpa using c18
        refine a_aload_n hb dX1_expression_21 rfl 0 rfl ?_
        refine a_bipush (v := 124) hb dX1_expression_22 (by decide) ?_
        refine a_callV hb dX1_expression_24 (by rw [hg]; exact l_take g h lq tq cq n t1 t2 t3 q0 q7 ne1 ne2 ne3 hn H hH hE r.2.1 (l ++ r.2.2.map encX) h1 124 (by decide)) (by rw [ow]; exact clv_RX1_43) (lp_k (h := h) (lq := lq) (cq := cq) (p := r.2.1) (l := (l ++ r.2.2.map encX)) t1) (by decide) rfl rfl rfl (Nat.le_of_ble_eq_true rfl) (by rw [hr]; exact ⟨by decide, by decide⟩) (by rw [hr]; exact ⟨Nat.le_of_ble_eq_true rfl, Nat.le_of_ble_eq_true rfl⟩) ?_
        intro rv h' hq_
        rw [hq_.1, hq_.2]
        clear hq_ rv h'
        by_cases tkr21 : H r.2.1 = 124
        · have lttkr21 : r.2.1 < n := H_c hE (by decide) tkr21
          rw [if_pos tkr21, decide_eq_true tkr21]
          show AW V 0 0 (lpH h lq cq (r.2.1 + 1) (l ++ r.2.2.map encX)) 27 [(0, .ref lq), (1, .int 4), (2, .int (b2i (!r.1))), (3, .int (nI i))] [.int 1]
          refine a_if_eq hb 59 dX1_expression_27 (by decide) (fun c27 => absurd c27 (by decide)) (fun c27 => ?_)
          refine a_aload_n hb dX1_expression_30 rfl 0 rfl ?_
          refine a_iload_n hb dX1_expression_31 rfl 1 rfl ?_
          refine a_callV hb dX1_expression_32 (by rw [hg]; exact l_ter1 g h lq tq cq n t1 t2 t3 q0 q7 ne1 ne2 ne3 hn H hH hE (r.2.1 + 1) (l ++ r.2.2.map encX) lttkr21 (Nat.le_succ_of_le h2)) (by rw [ow]; exact clv_RX1_88) (lp_k (h := h) (lq := lq) (cq := cq) (p := r.2.1 + 1) (l := (l ++ r.2.2.map encX)) t1) (by decide) rfl rfl rfl (Nat.le_of_ble_eq_true rfl) (by rw [hr]; exact ⟨by decide, by decide⟩) (by rw [hr]; exact ⟨Nat.le_of_ble_eq_true rfl, Nat.le_of_ble_eq_true rfl⟩) ?_
          intro rv h' hq_
          rw [hq_.1, hq_.2]
          clear hq_ rv h'
          have gd1_ := pV_gH hE 1 (r.2.1 + 1)
          generalize eQ1 : pV (pF H 1) H (r.2.1 + 1) = q1_ at gd1_ ⊢
          have hp1 := gd1_.2 lttkr21
          have hl1 := gdx gd1_ (Nat.le_succ_of_le h2)
          by_cases w1_ : q1_.1 = true
          · rw [w1_]
            show AW V 0 0 (lpH h lq cq q1_.2.1 ((l ++ r.2.2.map encX) ++ q1_.2.2.map encX)) 35 [(0, .ref lq), (1, .int 4), (2, .int (b2i (!r.1))), (3, .int (nI i))] [.int 0]
            refine a_if_eq hb 51 dX1_expression_35 (by decide) (fun c35 => ?_) (fun c35 => absurd (by decide) c35)
            refine a_iconst (v := 0) hb dX1_expression_51 (by decide) ?_
            refine a_istore_n (L' := [(2, .int 0), (0, .ref lq), (1, .int 4), (3, .int (nI i))]) hb dX1_expression_52 rfl (by rw [hml]; decide) rfl ?_
            refine a_iinc (v := ((nI i) + 1)) (L' := [(3, .int ((nI i) + 1)), (2, .int 0), (0, .ref lq), (1, .int 4)]) hb dX1_expression_53 3 rfl rfl (by rw [hml]; decide) rfl ?_
            refine a_goto hb 8 dX1_expression_56 (by decide) ?_
            have hq4 := @lpR_s (pV (pF H 1) H) H 124 (3, 0, 0, 0) k r _ rf tkr21 eQ1
            rw [h4] at hq4
            refine AW.sub (L' := [(0, .ref lq), (1, .int 4), (2, .int 0), (3, .int ((nI i) + 1))]) [2, 3, 1, 0] rfl ?_
            refine AW.eq (ih (i + 1) (q1_.1, q1_.2.1, r.2.2 ++ q1_.2.2 ++ if q1_.1 = true then [] else [(3, 0, 0, 0)]) (by omega) hp1 ?_ hq4.symm) (lpG_2w w1_) rfl (by rw [nI_1]; show _ = [(0, _), (1, _), (2, Value.int (b2i (!q1_.1))), (3, _)]; rw [w1_]; rfl) rfl
            show (l ++ List.map encX (r.2.2 ++ q1_.2.2 ++ if q1_.1 = true then [] else [(3, 0, 0, 0)])).length ≤ q1_.2.1
            have g1 := gdx1 gd1_ h2
            rw [List.length_append] at g1 ⊢
            rw [List.length_append, List.length_map] at g1
            rw [List.length_map, List.length_append, List.length_append]
            rw [List.length_map] at g1
            split <;> simp only [List.length_cons, List.length_nil] <;> omega
          have fw1_ : q1_.1 = false := by simpa using w1_
          rw [fw1_]
          show AW V 0 0 (lpH h lq cq q1_.2.1 ((l ++ r.2.2.map encX) ++ q1_.2.2.map encX)) 35 [(0, .ref lq), (1, .int 4), (2, .int (b2i (!r.1))), (3, .int (nI i))] [.int 1]
          refine a_if_eq hb 51 dX1_expression_35 (by decide) (fun c35 => absurd c35 (by decide)) (fun c35 => ?_)
          refine a_aload_n hb dX1_expression_38 rfl 0 rfl ?_
          refine a_bipush (v := (-2)) hb dX1_expression_39 (by decide) ?_
          refine a_callV hb dX1_expression_41 (by rw [hg]; exact l_emit g h lq tq cq n t1 t2 t3 q0 q7 ne1 ne2 ne3 hn H hH hE q1_.2.1 ((l ++ r.2.2.map encX) ++ q1_.2.2.map encX) hp1 (-2) (by have := gdx1 gd1_ h2; omega)) (by rw [ow]; exact clv_RX1_91) (lp_k (h := h) (lq := lq) (cq := cq) (p := q1_.2.1) (l := ((l ++ r.2.2.map encX) ++ q1_.2.2.map encX)) t1) (by decide) rfl rfl rfl (Nat.le_of_ble_eq_true rfl) (by rw [hr]; exact ⟨by decide, by decide⟩) (by rw [hr]; exact ⟨Nat.le_of_ble_eq_true rfl, Nat.le_of_ble_eq_true rfl⟩) ?_
          intro rv h' hq_
          rw [hq_.1, hq_.2]
          show AW V 0 0 (lpH h lq cq q1_.2.1 (((l ++ r.2.2.map encX) ++ q1_.2.2.map encX) ++ [(-2)])) 44 [(0, .ref lq), (1, .int 4), (2, .int (b2i (!r.1))), (3, .int (nI i))] [.int 1]
          refine a_if_eq hb 51 dX1_expression_44 (by decide) (fun c44 => absurd c44 (by decide)) (fun c44 => ?_)
          refine a_iconst (v := 1) hb dX1_expression_47 (by decide) ?_
          refine a_goto hb 52 dX1_expression_48 (by decide) ?_
          refine a_istore_n (L' := [(2, .int 1), (0, .ref lq), (1, .int 4), (3, .int (nI i))]) hb dX1_expression_52 rfl (by rw [hml]; decide) rfl ?_
          refine a_iinc (v := ((nI i) + 1)) (L' := [(3, .int ((nI i) + 1)), (2, .int 1), (0, .ref lq), (1, .int 4)]) hb dX1_expression_53 3 rfl rfl (by rw [hml]; decide) rfl ?_
          refine a_goto hb 8 dX1_expression_56 (by decide) ?_
          have hq4 := @lpR_s (pV (pF H 1) H) H 124 (3, 0, 0, 0) k r _ rf tkr21 eQ1
          rw [h4] at hq4
          refine AW.sub (L' := [(0, .ref lq), (1, .int 4), (2, .int 1), (3, .int ((nI i) + 1))]) [2, 3, 1, 0] rfl ?_
          refine AW.eq (ih (i + 1) (q1_.1, q1_.2.1, r.2.2 ++ q1_.2.2 ++ if q1_.1 = true then [] else [(3, 0, 0, 0)]) (by omega) hp1 ?_ hq4.symm) (lpG_2s (s := (3, 0, 0, 0)) fw1_) rfl (by rw [nI_1]; show _ = [(0, _), (1, _), (2, Value.int (b2i (!q1_.1))), (3, _)]; rw [fw1_]; rfl) rfl
          show (l ++ List.map encX (r.2.2 ++ q1_.2.2 ++ if q1_.1 = true then [] else [(3, 0, 0, 0)])).length ≤ q1_.2.1
          have g1 := gdx1 gd1_ h2
          rw [List.length_append] at g1 ⊢
          rw [List.length_append, List.length_map] at g1
          rw [List.length_map, List.length_append, List.length_append]
          rw [List.length_map] at g1
          split <;> simp only [List.length_cons, List.length_nil] <;> omega
        rw [if_neg tkr21, decide_eq_false tkr21]
        show AW V 0 0 (lpH h lq cq r.2.1 (l ++ r.2.2.map encX)) 27 [(0, .ref lq), (1, .int 4), (2, .int (b2i (!r.1))), (3, .int (nI i))] [.int 0]
        refine a_if_eq hb 59 dX1_expression_27 (by decide) (fun c27 => ?_) (fun c27 => absurd (by decide) c27)
        refine a_iload_n hb dX1_expression_59 rfl 2 rfl ?_
        exact a_ireturn (ty := .boolean) hb hz dX1_expression_60 hret (b2i_nb _) (by rw [hr]; exact Nat.le_of_ble_eq_true rfl) (by rw [hr]; exact Nat.le_of_ble_eq_true rfl) (⟨by rw [← h4, lpR_n tkr21], by rw [← h4, lpR_n tkr21]; rfl⟩)
  refine a_aload_n hb dX1_expression_0 rfl 0 rfl ?_
  refine a_iload_n hb dX1_expression_1 rfl 1 rfl ?_
  refine a_callV hb dX1_expression_2 (by rw [hg]; exact l_ter1 g h lq tq cq n t1 t2 t3 q0 q7 ne1 ne2 ne3 hn H hH hE p l hp hll) (by rw [ow]; exact clv_RX1_88) (lp_k (h := h) (lq := lq) (cq := cq) (p := p) (l := l) t1) (by decide) rfl rfl rfl (Nat.le_of_ble_eq_true rfl) (by rw [hr]; exact ⟨by decide, by decide⟩) (by rw [hr]; exact ⟨Nat.le_of_ble_eq_true rfl, Nat.le_of_ble_eq_true rfl⟩) ?_
  intro rv h' hq_
  rw [hq_.1, hq_.2]
  clear hq_ rv h'
  have gd1_ := pV_gH hE 1 p
  generalize eQ1 : pV (pF H 1) H p = q1_ at gd1_ ⊢
  have hp1 := gd1_.2 hp
  have hl1 := gdx gd1_ hll
  show AW V 0 0 (lpH h lq cq q1_.2.1 (l ++ q1_.2.2.map encX)) 5 [(0, .ref lq), (1, .int 4)] [.int (b2i (!q1_.1))]
  refine a_istore_n (L' := [(2, .int (b2i (!q1_.1))), (0, .ref lq), (1, .int 4)]) hb dX1_expression_5 rfl (by rw [hml]; decide) rfl ?_
  refine a_iconst (v := 0) hb dX1_expression_6 (by decide) ?_
  refine a_istore_n (L' := [(3, .int 0), (2, .int (b2i (!q1_.1))), (0, .ref lq), (1, .int 4)]) hb dX1_expression_7 rfl (by rw [hml]; decide) rfl ?_
  refine AW.sub (L' := [(0, .ref lq), (1, .int 4), (2, .int (b2i (!q1_.1))), (3, .int 0)]) [2, 3, 1, 0] rfl ?_
  exact loop n 0 q1_ (by omega) hp1 hl1 ((pE_x (gd_p (pV_gH hE 1)) hE hn eQ1).trans hR)
set_option maxRecDepth 100000 in
theorem l_fac2 (g : GG) (h : AH) (lq tq cq n : Nat) (t1 : hT h lq = (1, 0)) (t2 : hT h tq = (13, n)) (t3 : hT h cq = (14, n)) (q0 : hQ h lq 0 = some tq) (q7 : hQ h lq 7 = some cq) (ne1 : lq ≠ cq) (ne2 : tq ≠ lq) (ne3 : tq ≠ cq) (hn : n ≤ 120) (H : Nat → Int32) (hH : ∀ p, p < n → hI h tq p = bx (H p) ∧ oO (H p) 0 255 = false) (hE : ∀ p, n ≤ p → H p = -1) (p : Nat) (l : List Int32) (hp : p ≤ n) (hll : l.length ≤ p) : AM g 15 0 0 mX1_factor [.ref lq, .int 3] (lpH h lq cq p l) (fun rv h' => rv = some (.int (b2i (!(pF H 2 p).1))) ∧ h' = lpG h lq cq l (pF H 2 p)) := by
  refine AM.of [(0, .ref lq), (1, .int 3)] (by decide) (Nat.le_of_ble_eq_true rfl) rfl ?_
  intro V hV
  have hb : V.2.1.2.1 = cX1_factor := by subst hV; rfl
  have ow : V.2.1.1.cls = RX1 := by subst hV; rfl
  have hr : V.2.2.1 = aw_rm 15 0 0 := by subst hV; rfl
  have hz : V.2.2.2 = aw_Z V.1 (fun rv h' => rv = some (.int (b2i (!(pF H 2 p).1))) ∧ h' = lpG h lq cq l (pF H 2 p)) V.2.2.1 := by subst hV; rfl
  have hg : V.1 = g := by subst hV; rfl
  have hret : V.2.1.2.2.2 = (some .boolean) := by subst hV; rfl
  have hml : V.2.1.2.2.1 = 2 := by subst hV; rfl
  clear hV
  refine a_aload_n hb dX1_factor_0 rfl 0 rfl ?_
  refine a_bipush (v := 33) hb dX1_factor_1 (by decide) ?_
  refine a_callV hb dX1_factor_3 (by rw [hg]; exact l_next g h lq tq cq n t1 t2 t3 q0 q7 ne1 ne2 ne3 hn H hH hE p l hp 33 (by decide)) (by rw [ow]; exact clv_RX1_65) (lp_k (h := h) (lq := lq) (cq := cq) (p := p) (l := l) t1) (by decide) rfl rfl rfl (Nat.le_of_ble_eq_true rfl) (by rw [hr]; exact ⟨by decide, by decide⟩) (by rw [hr]; exact ⟨Nat.le_of_ble_eq_true rfl, Nat.le_of_ble_eq_true rfl⟩) ?_
  intro rv h' hq_
  rw [hq_.1, hq_.2]
  clear hq_ rv h'
  by_cases nx33 : H p = 33
  · rw [decide_eq_true nx33]
    show AW V 0 0 (lpH h lq cq p l) 6 [(0, .ref lq), (1, .int 3)] [.int 1]
    refine a_if_ne hb 23 dX1_factor_6 (by decide) (fun c6 => ?_) (fun c6 => absurd c6 (by decide))
    refine a_iload_n hb dX1_factor_23 rfl 1 rfl ?_
    refine a_iconst (v := 5) hb dX1_factor_24 (by decide) ?_
    refine a_icmp_lt hb 30 dX1_factor_25 (by decide) (fun c25 => ?_) (fun c25 => absurd (by decide) c25)
    refine a_aload_n hb dX1_factor_30 rfl 0 rfl ?_
    refine a_bipush (v := 33) hb dX1_factor_31 (by decide) ?_
    refine a_callV hb dX1_factor_33 (by rw [hg]; exact l_take g h lq tq cq n t1 t2 t3 q0 q7 ne1 ne2 ne3 hn H hH hE p l hp 33 (by decide)) (by rw [ow]; exact clv_RX1_43) (lp_k (h := h) (lq := lq) (cq := cq) (p := p) (l := l) t1) (by decide) rfl rfl rfl (Nat.le_of_ble_eq_true rfl) (by rw [hr]; exact ⟨by decide, by decide⟩) (by rw [hr]; exact ⟨Nat.le_of_ble_eq_true rfl, Nat.le_of_ble_eq_true rfl⟩) ?_
    intro rv h' hq_
    rw [hq_.1, hq_.2]
    clear hq_ rv h'
    have ltnx33 : p < n := H_c hE (by decide) nx33
    rw [if_pos nx33, decide_eq_true nx33]
    show AW V 0 0 (lpH h lq cq (p + 1) l) 36 [(0, .ref lq), (1, .int 3)] [.int 1]
    refine a_if_eq hb 64 dX1_factor_36 (by decide) (fun c36 => absurd c36 (by decide)) (fun c36 => ?_)
    refine a_aload_n hb dX1_factor_39 rfl 0 rfl ?_
    refine a_iload_n hb dX1_factor_40 rfl 1 rfl ?_
    refine a_iconst (v := 1) hb dX1_factor_41 (by decide) ?_
    refine a_iadd hb dX1_factor_42 ?_
    rw [show (3 : Int32) + 1 = 4 from by decide]
    show AW V 0 0 (lpH h lq cq (p + 1) l) 43 [(0, .ref lq), (1, .int 3)] [.int 4, .ref lq]
    refine a_callV hb dX1_factor_43 (by rw [hg]; exact l_fac1 g h lq tq cq n t1 t2 t3 q0 q7 ne1 ne2 ne3 hn H hH hE (p + 1) l ltnx33 (Nat.le_succ_of_le hll)) (by rw [ow]; exact clv_RX1_94) (lp_k (h := h) (lq := lq) (cq := cq) (p := p + 1) (l := l) t1) (by decide) rfl rfl rfl (Nat.le_of_ble_eq_true rfl) (by rw [hr]; exact ⟨by decide, by decide⟩) (by rw [hr]; exact ⟨Nat.le_of_ble_eq_true rfl, Nat.le_of_ble_eq_true rfl⟩) ?_
    intro rv h' hq_
    rw [hq_.1, hq_.2]
    clear hq_ rv h'
    have gd1_ := pF_gH hE 1 (p + 1)
    generalize eQ1 : pF H 1 (p + 1) = q1_ at gd1_ ⊢
    have hp1 := gd1_.2 ltnx33
    have hl1 := gdx gd1_ (Nat.le_succ_of_le hll)
    by_cases w1_ : q1_.1 = true
    · rw [w1_]
      show AW V 0 0 (lpH h lq cq q1_.2.1 (l ++ q1_.2.2.map encX)) 46 [(0, .ref lq), (1, .int 3)] [.int 0]
      refine a_if_eq hb 62 dX1_factor_46 (by decide) (fun c46 => ?_) (fun c46 => absurd (by decide) c46)
      refine a_iconst (v := 0) hb dX1_factor_62 (by decide) ?_
      exact a_ireturn (ty := .boolean) hb hz dX1_factor_63 hret (by first | rfl | (simp only [narrow]; done) | exact aw_nb _) (by rw [hr]; exact Nat.le_of_ble_eq_true rfl) (by rw [hr]; exact Nat.le_of_ble_eq_true rfl) (⟨by rw [pF_n nx33 eQ1, w1_]; rfl, by rw [pF_n nx33 eQ1]; exact lpG_w w1_⟩)
    have fw1_ : q1_.1 = false := by simpa using w1_
    rw [fw1_]
    show AW V 0 0 (lpH h lq cq q1_.2.1 (l ++ q1_.2.2.map encX)) 46 [(0, .ref lq), (1, .int 3)] [.int 1]
    refine a_if_eq hb 62 dX1_factor_46 (by decide) (fun c46 => absurd c46 (by decide)) (fun c46 => ?_)
    refine a_aload_n hb dX1_factor_49 rfl 0 rfl ?_
    refine a_bipush (v := (-3)) hb dX1_factor_50 (by decide) ?_
    refine a_callV hb dX1_factor_52 (by rw [hg]; exact l_emit g h lq tq cq n t1 t2 t3 q0 q7 ne1 ne2 ne3 hn H hH hE q1_.2.1 (l ++ q1_.2.2.map encX) hp1 (-3) (by have := gdx1 gd1_ hll; omega)) (by rw [ow]; exact clv_RX1_91) (lp_k (h := h) (lq := lq) (cq := cq) (p := q1_.2.1) (l := (l ++ q1_.2.2.map encX)) t1) (by decide) rfl rfl rfl (Nat.le_of_ble_eq_true rfl) (by rw [hr]; exact ⟨by decide, by decide⟩) (by rw [hr]; exact ⟨Nat.le_of_ble_eq_true rfl, Nat.le_of_ble_eq_true rfl⟩) ?_
    intro rv h' hq_
    rw [hq_.1, hq_.2]
    show AW V 0 0 (lpH h lq cq q1_.2.1 ((l ++ q1_.2.2.map encX) ++ [(-3)])) 55 [(0, .ref lq), (1, .int 3)] [.int 1]
    refine a_if_eq hb 62 dX1_factor_55 (by decide) (fun c55 => absurd c55 (by decide)) (fun c55 => ?_)
    refine a_iconst (v := 1) hb dX1_factor_58 (by decide) ?_
    refine a_goto hb 63 dX1_factor_59 (by decide) ?_
    exact a_ireturn (ty := .boolean) hb hz dX1_factor_63 hret (by first | rfl | (simp only [narrow]; done) | exact aw_nb _) (by rw [hr]; exact Nat.le_of_ble_eq_true rfl) (by rw [hr]; exact Nat.le_of_ble_eq_true rfl) (⟨by rw [pF_n nx33 eQ1, fw1_]; rfl, by rw [pF_n nx33 eQ1]; exact lpG_s (s := (1, 0, 0, 0)) fw1_⟩)
  rw [decide_eq_false nx33]
  show AW V 0 0 (lpH h lq cq p l) 6 [(0, .ref lq), (1, .int 3)] [.int 0]
  refine a_if_ne hb 23 dX1_factor_6 (by decide) (fun c6 => absurd c6 (by decide)) (fun c6 => ?_)
  refine a_aload_n hb dX1_factor_9 rfl 0 rfl ?_
  refine a_bipush (v := 40) hb dX1_factor_10 (by decide) ?_
  refine a_callV hb dX1_factor_12 (by rw [hg]; exact l_next g h lq tq cq n t1 t2 t3 q0 q7 ne1 ne2 ne3 hn H hH hE p l hp 40 (by decide)) (by rw [ow]; exact clv_RX1_65) (lp_k (h := h) (lq := lq) (cq := cq) (p := p) (l := l) t1) (by decide) rfl rfl rfl (Nat.le_of_ble_eq_true rfl) (by rw [hr]; exact ⟨by decide, by decide⟩) (by rw [hr]; exact ⟨Nat.le_of_ble_eq_true rfl, Nat.le_of_ble_eq_true rfl⟩) ?_
  intro rv h' hq_
  rw [hq_.1, hq_.2]
  clear hq_ rv h'
  by_cases nx40 : H p = 40
  · rw [decide_eq_true nx40]
    show AW V 0 0 (lpH h lq cq p l) 15 [(0, .ref lq), (1, .int 3)] [.int 1]
    refine a_if_ne hb 23 dX1_factor_15 (by decide) (fun c15 => ?_) (fun c15 => absurd c15 (by decide))
    refine a_iload_n hb dX1_factor_23 rfl 1 rfl ?_
    refine a_iconst (v := 5) hb dX1_factor_24 (by decide) ?_
    refine a_icmp_lt hb 30 dX1_factor_25 (by decide) (fun c25 => ?_) (fun c25 => absurd (by decide) c25)
    refine a_aload_n hb dX1_factor_30 rfl 0 rfl ?_
    refine a_bipush (v := 33) hb dX1_factor_31 (by decide) ?_
    refine a_callV hb dX1_factor_33 (by rw [hg]; exact l_take g h lq tq cq n t1 t2 t3 q0 q7 ne1 ne2 ne3 hn H hH hE p l hp 33 (by decide)) (by rw [ow]; exact clv_RX1_43) (lp_k (h := h) (lq := lq) (cq := cq) (p := p) (l := l) t1) (by decide) rfl rfl rfl (Nat.le_of_ble_eq_true rfl) (by rw [hr]; exact ⟨by decide, by decide⟩) (by rw [hr]; exact ⟨Nat.le_of_ble_eq_true rfl, Nat.le_of_ble_eq_true rfl⟩) ?_
    intro rv h' hq_
    rw [hq_.1, hq_.2]
    clear hq_ rv h'
    rw [if_neg nx33, decide_eq_false nx33]
    show AW V 0 0 (lpH h lq cq p l) 36 [(0, .ref lq), (1, .int 3)] [.int 0]
    refine a_if_eq hb 64 dX1_factor_36 (by decide) (fun c36 => ?_) (fun c36 => absurd (by decide) c36)
    refine a_aload_n hb dX1_factor_64 rfl 0 rfl ?_
    refine a_bipush (v := 40) hb dX1_factor_65 (by decide) ?_
    refine a_callV hb dX1_factor_67 (by rw [hg]; exact l_take g h lq tq cq n t1 t2 t3 q0 q7 ne1 ne2 ne3 hn H hH hE p l hp 40 (by decide)) (by rw [ow]; exact clv_RX1_43) (lp_k (h := h) (lq := lq) (cq := cq) (p := p) (l := l) t1) (by decide) rfl rfl rfl (Nat.le_of_ble_eq_true rfl) (by rw [hr]; exact ⟨by decide, by decide⟩) (by rw [hr]; exact ⟨Nat.le_of_ble_eq_true rfl, Nat.le_of_ble_eq_true rfl⟩) ?_
    intro rv h' hq_
    rw [hq_.1, hq_.2]
    clear hq_ rv h'
    have ltnx40 : p < n := H_c hE (by decide) nx40
    rw [if_pos nx40, decide_eq_true nx40]
    show AW V 0 0 (lpH h lq cq (p + 1) l) 70 [(0, .ref lq), (1, .int 3)] [.int 1]
    refine a_if_eq hb 96 dX1_factor_70 (by decide) (fun c70 => absurd c70 (by decide)) (fun c70 => ?_)
    refine a_aload_n hb dX1_factor_73 rfl 0 rfl ?_
    refine a_iload_n hb dX1_factor_74 rfl 1 rfl ?_
    refine a_iconst (v := 1) hb dX1_factor_75 (by decide) ?_
    refine a_iadd hb dX1_factor_76 ?_
    rw [show (3 : Int32) + 1 = 4 from by decide]
    show AW V 0 0 (lpH h lq cq (p + 1) l) 77 [(0, .ref lq), (1, .int 3)] [.int 4, .ref lq]
    refine a_callV hb dX1_factor_77 (by rw [hg]; exact l_exp1 g h lq tq cq n t1 t2 t3 q0 q7 ne1 ne2 ne3 hn H hH hE (p + 1) l ltnx40 (Nat.le_succ_of_le hll)) (by rw [ow]; exact clv_RX1_85) (lp_k (h := h) (lq := lq) (cq := cq) (p := p + 1) (l := l) t1) (by decide) rfl rfl rfl (Nat.le_of_ble_eq_true rfl) (by rw [hr]; exact ⟨by decide, by decide⟩) (by rw [hr]; exact ⟨Nat.le_of_ble_eq_true rfl, Nat.le_of_ble_eq_true rfl⟩) ?_
    intro rv h' hq_
    rw [hq_.1, hq_.2]
    clear hq_ rv h'
    have gd2_ := pE_gH hE 1 (p + 1)
    generalize eQ2 : pE (pF H 1) H (p + 1) = q2_ at gd2_ ⊢
    have hp2 := gd2_.2 ltnx40
    have hl2 := gdx gd2_ (Nat.le_succ_of_le hll)
    by_cases w2_ : q2_.1 = true
    · rw [w2_]
      show AW V 0 0 (lpH h lq cq q2_.2.1 (l ++ q2_.2.2.map encX)) 80 [(0, .ref lq), (1, .int 3)] [.int 0]
      refine a_if_eq hb 96 dX1_factor_80 (by decide) (fun c80 => ?_) (fun c80 => absurd (by decide) c80)
      refine a_iconst (v := 0) hb dX1_factor_96 (by decide) ?_
      exact a_ireturn (ty := .boolean) hb hz dX1_factor_97 hret (by first | rfl | (simp only [narrow]; done) | exact aw_nb _) (by rw [hr]; exact Nat.le_of_ble_eq_true rfl) (by rw [hr]; exact Nat.le_of_ble_eq_true rfl) (⟨by rw [pF_p nx33 nx40 eQ2, if_pos w2_, w2_]; rfl, by rw [pF_p nx33 nx40 eQ2, if_pos w2_]; rfl⟩)
    have fw2_ : q2_.1 = false := by simpa using w2_
    rw [fw2_]
    show AW V 0 0 (lpH h lq cq q2_.2.1 (l ++ q2_.2.2.map encX)) 80 [(0, .ref lq), (1, .int 3)] [.int 1]
    refine a_if_eq hb 96 dX1_factor_80 (by decide) (fun c80 => absurd c80 (by decide)) (fun c80 => ?_)
    refine a_aload_n hb dX1_factor_83 rfl 0 rfl ?_
    refine a_bipush (v := 41) hb dX1_factor_84 (by decide) ?_
    refine a_callV hb dX1_factor_86 (by rw [hg]; exact l_take g h lq tq cq n t1 t2 t3 q0 q7 ne1 ne2 ne3 hn H hH hE q2_.2.1 (l ++ q2_.2.2.map encX) hp2 41 (by decide)) (by rw [ow]; exact clv_RX1_43) (lp_k (h := h) (lq := lq) (cq := cq) (p := q2_.2.1) (l := (l ++ q2_.2.2.map encX)) t1) (by decide) rfl rfl rfl (Nat.le_of_ble_eq_true rfl) (by rw [hr]; exact ⟨by decide, by decide⟩) (by rw [hr]; exact ⟨Nat.le_of_ble_eq_true rfl, Nat.le_of_ble_eq_true rfl⟩) ?_
    intro rv h' hq_
    rw [hq_.1, hq_.2]
    clear hq_ rv h'
    by_cases tkq2_21 : H q2_.2.1 = 41
    · have lttkq2_21 : q2_.2.1 < n := H_c hE (by decide) tkq2_21
      rw [if_pos tkq2_21, decide_eq_true tkq2_21]
      show AW V 0 0 (lpH h lq cq (q2_.2.1 + 1) (l ++ q2_.2.2.map encX)) 89 [(0, .ref lq), (1, .int 3)] [.int 1]
      refine a_if_eq hb 96 dX1_factor_89 (by decide) (fun c89 => absurd c89 (by decide)) (fun c89 => ?_)
      refine a_iconst (v := 1) hb dX1_factor_92 (by decide) ?_
      refine a_goto hb 97 dX1_factor_93 (by decide) ?_
      exact a_ireturn (ty := .boolean) hb hz dX1_factor_97 hret (by first | rfl | (simp only [narrow]; done) | exact aw_nb _) (by rw [hr]; exact Nat.le_of_ble_eq_true rfl) (by rw [hr]; exact Nat.le_of_ble_eq_true rfl) (⟨by rw [pF_p nx33 nx40 eQ2, if_neg w2_, if_pos tkq2_21]; rfl, by rw [pF_p nx33 nx40 eQ2, if_neg w2_, if_pos tkq2_21]; rfl⟩)
    rw [if_neg tkq2_21, decide_eq_false tkq2_21]
    show AW V 0 0 (lpH h lq cq q2_.2.1 (l ++ q2_.2.2.map encX)) 89 [(0, .ref lq), (1, .int 3)] [.int 0]
    refine a_if_eq hb 96 dX1_factor_89 (by decide) (fun c89 => ?_) (fun c89 => absurd (by decide) c89)
    refine a_iconst (v := 0) hb dX1_factor_96 (by decide) ?_
    exact a_ireturn (ty := .boolean) hb hz dX1_factor_97 hret (by first | rfl | (simp only [narrow]; done) | exact aw_nb _) (by rw [hr]; exact Nat.le_of_ble_eq_true rfl) (by rw [hr]; exact Nat.le_of_ble_eq_true rfl) (⟨by rw [pF_p nx33 nx40 eQ2, if_neg w2_, if_neg tkq2_21]; rfl, by rw [pF_p nx33 nx40 eQ2, if_neg w2_, if_neg tkq2_21]; rfl⟩)
  rw [decide_eq_false nx40]
  show AW V 0 0 (lpH h lq cq p l) 15 [(0, .ref lq), (1, .int 3)] [.int 0]
  refine a_if_ne hb 23 dX1_factor_15 (by decide) (fun c15 => absurd c15 (by decide)) (fun c15 => ?_)
  refine a_aload_n hb dX1_factor_18 rfl 0 rfl ?_
  refine a_callV hb dX1_factor_19 (by rw [hg]; exact l_tst g h lq tq cq n t1 t2 t3 q0 q7 ne1 ne2 ne3 hn H hH hE p l hp hll) (by rw [ow]; exact clv_RX1_97) (lp_k (h := h) (lq := lq) (cq := cq) (p := p) (l := l) t1) (by decide) rfl rfl rfl (Nat.le_of_ble_eq_true rfl) (by rw [hr]; exact ⟨by decide, by decide⟩) (by rw [hr]; exact ⟨Nat.le_of_ble_eq_true rfl, Nat.le_of_ble_eq_true rfl⟩) ?_
  intro rv h' hq_
  rw [hq_.1, hq_.2]
  show AW V 0 0 (lpG h lq cq l (pT H p)) 22 [(0, .ref lq), (1, .int 3)] [.int (b2i (!(pT H p).1))]
  exact a_ireturn (ty := .boolean) hb hz dX1_factor_22 hret (b2i_nb _) (by rw [hr]; exact Nat.le_of_ble_eq_true rfl) (by rw [hr]; exact Nat.le_of_ble_eq_true rfl) (⟨by rw [pF_T nx33 nx40], by rw [pF_T nx33 nx40]⟩)
set_option maxRecDepth 100000 in
theorem l_ter2 (g : GG) (h : AH) (lq tq cq n : Nat) (t1 : hT h lq = (1, 0)) (t2 : hT h tq = (13, n)) (t3 : hT h cq = (14, n)) (q0 : hQ h lq 0 = some tq) (q7 : hQ h lq 7 = some cq) (ne1 : lq ≠ cq) (ne2 : tq ≠ lq) (ne3 : tq ≠ cq) (hn : n ≤ 120) (H : Nat → Int32) (hH : ∀ p, p < n → hI h tq p = bx (H p) ∧ oO (H p) 0 255 = false) (hE : ∀ p, n ≤ p → H p = -1) (p : Nat) (l : List Int32) (hp : p ≤ n) (hll : l.length ≤ p) : AM g 16 0 0 mX1_term [.ref lq, .int 3] (lpH h lq cq p l) (fun rv h' => rv = some (.int (b2i (!(pV (pF H 2) H p).1))) ∧ h' = lpG h lq cq l (pV (pF H 2) H p)) := by
  refine AM.of [(0, .ref lq), (1, .int 3)] (by decide) (Nat.le_of_ble_eq_true rfl) rfl ?_
  intro V hV
  have hb : V.2.1.2.1 = cX1_term := by subst hV; rfl
  have ow : V.2.1.1.cls = RX1 := by subst hV; rfl
  have hr : V.2.2.1 = aw_rm 16 0 0 := by subst hV; rfl
  have hz : V.2.2.2 = aw_Z V.1 (fun rv h' => rv = some (.int (b2i (!(pV (pF H 2) H p).1))) ∧ h' = lpG h lq cq l (pV (pF H 2) H p)) V.2.2.1 := by subst hV; rfl
  have hg : V.1 = g := by subst hV; rfl
  have hret : V.2.1.2.2.2 = (some .boolean) := by subst hV; rfl
  have hml : V.2.1.2.2.1 = 4 := by subst hV; rfl
  clear hV
  generalize hR : pV (pF H 2) H p = R at hz
  have loop : ∀ (k i : Nat) (r : PR), i + k = n → r.2.1 ≤ n → (l ++ r.2.2.map encX).length ≤ r.2.1 → lpR (pF H 2) H 38 (2, 0, 0, 0) k r = R → AW V 0 0 (lpG h lq cq l r) 8 [(0, .ref lq), (1, .int 3), (2, .int (b2i (!r.1))), (3, .int (nI i))] [] := by
    intro k
    induction k with
    | zero =>
      intro i r hi h1 h2 h4
      show AW V 0 0 (lpH h lq cq r.2.1 (l ++ r.2.2.map encX)) 8 [(0, .ref lq), (1, .int 3), (2, .int (b2i (!r.1))), (3, .int (nI i))] []
      refine a_iload_n hb dX1_term_8 rfl 3 rfl ?_
      refine a_aload_n hb dX1_term_9 rfl 0 rfl ?_
      refine a_getQ (q := tq) hb dX1_term_10 (by rw [ow]; exact fl_RX1_32_1) (lp_k (h := h) (lq := lq) (cq := cq) (p := r.2.1) (l := (l ++ r.2.2.map encX)) t1) (lp_q (h := h) (lq := lq) (cq := cq) (p := r.2.1) (l := (l ++ r.2.2.map encX)) q0) ?_
      refine a_alenI (v := (nI n)) hb dX1_term_13 (lp_k (h := h) (lq := lq) (cq := cq) (p := r.2.1) (l := (l ++ r.2.2.map encX)) t2) (by decide) rfl ?_
      refine a_icmp_ge hb 58 dX1_term_14 (by decide) (fun c14 => ?_) (fun c14 => absurd (nI_le (by omega) (by omega)) c14)
      refine a_iload_n hb dX1_term_58 rfl 2 rfl ?_
      exact a_ireturn (ty := .boolean) hb hz dX1_term_59 hret (b2i_nb _) (by rw [hr]; exact Nat.le_of_ble_eq_true rfl) (by rw [hr]; exact Nat.le_of_ble_eq_true rfl) (⟨by rw [← h4]; rfl, by rw [← h4]; rfl⟩)
    | succ k ih =>
      intro i r hi h1 h2 h4
      show AW V 0 0 (lpH h lq cq r.2.1 (l ++ r.2.2.map encX)) 8 [(0, .ref lq), (1, .int 3), (2, .int (b2i (!r.1))), (3, .int (nI i))] []
      refine a_iload_n hb dX1_term_8 rfl 3 rfl ?_
      refine a_aload_n hb dX1_term_9 rfl 0 rfl ?_
      refine a_getQ (q := tq) hb dX1_term_10 (by rw [ow]; exact fl_RX1_32_1) (lp_k (h := h) (lq := lq) (cq := cq) (p := r.2.1) (l := (l ++ r.2.2.map encX)) t1) (lp_q (h := h) (lq := lq) (cq := cq) (p := r.2.1) (l := (l ++ r.2.2.map encX)) q0) ?_
      refine a_alenI (v := (nI n)) hb dX1_term_13 (lp_k (h := h) (lq := lq) (cq := cq) (p := r.2.1) (l := (l ++ r.2.2.map encX)) t2) (by decide) rfl ?_
      refine a_icmp_ge hb 58 dX1_term_14 (by decide) (fun c14 => absurd c14 (nI_ge (by omega) (by omega))) (fun c14 => ?_)
      refine a_iload_n hb dX1_term_17 rfl 2 rfl ?_
      refine a_if_eq hb 58 dX1_term_18 (by decide) (fun c18 => ?_) (fun c18 => ?_)
      · simp [b2i_0] at c18
        have rt : r.1 = true := by simpa using c18
        refine a_iload_n hb dX1_term_58 rfl 2 rfl ?_
        exact a_ireturn (ty := .boolean) hb hz dX1_term_59 hret (b2i_nb _) (by rw [hr]; exact Nat.le_of_ble_eq_true rfl) (by rw [hr]; exact Nat.le_of_ble_eq_true rfl) (⟨by rw [← h4, lpR_w rt], by rw [← h4, lpR_w rt]; rfl⟩)
      · simp [b2i_0] at c18
        have rf : r.1 = false := by simpa using c18
        refine a_aload_n hb dX1_term_21 rfl 0 rfl ?_
        refine a_bipush (v := 38) hb dX1_term_22 (by decide) ?_
        refine a_callV hb dX1_term_24 (by rw [hg]; exact l_take g h lq tq cq n t1 t2 t3 q0 q7 ne1 ne2 ne3 hn H hH hE r.2.1 (l ++ r.2.2.map encX) h1 38 (by decide)) (by rw [ow]; exact clv_RX1_43) (lp_k (h := h) (lq := lq) (cq := cq) (p := r.2.1) (l := (l ++ r.2.2.map encX)) t1) (by decide) rfl rfl rfl (Nat.le_of_ble_eq_true rfl) (by rw [hr]; exact ⟨by decide, by decide⟩) (by rw [hr]; exact ⟨Nat.le_of_ble_eq_true rfl, Nat.le_of_ble_eq_true rfl⟩) ?_
        intro rv h' hq_
        rw [hq_.1, hq_.2]
        clear hq_ rv h'
        by_cases tkr21 : H r.2.1 = 38
        · have lttkr21 : r.2.1 < n := H_c hE (by decide) tkr21
          rw [if_pos tkr21, decide_eq_true tkr21]
          show AW V 0 0 (lpH h lq cq (r.2.1 + 1) (l ++ r.2.2.map encX)) 27 [(0, .ref lq), (1, .int 3), (2, .int (b2i (!r.1))), (3, .int (nI i))] [.int 1]
          refine a_if_eq hb 58 dX1_term_27 (by decide) (fun c27 => absurd c27 (by decide)) (fun c27 => ?_)
          refine a_aload_n hb dX1_term_30 rfl 0 rfl ?_
          refine a_iload_n hb dX1_term_31 rfl 1 rfl ?_
          refine a_callV hb dX1_term_32 (by rw [hg]; exact l_fac2 g h lq tq cq n t1 t2 t3 q0 q7 ne1 ne2 ne3 hn H hH hE (r.2.1 + 1) (l ++ r.2.2.map encX) lttkr21 (Nat.le_succ_of_le h2)) (by rw [ow]; exact clv_RX1_94) (lp_k (h := h) (lq := lq) (cq := cq) (p := r.2.1 + 1) (l := (l ++ r.2.2.map encX)) t1) (by decide) rfl rfl rfl (Nat.le_of_ble_eq_true rfl) (by rw [hr]; exact ⟨by decide, by decide⟩) (by rw [hr]; exact ⟨Nat.le_of_ble_eq_true rfl, Nat.le_of_ble_eq_true rfl⟩) ?_
          intro rv h' hq_
          rw [hq_.1, hq_.2]
          clear hq_ rv h'
          have gd1_ := pF_gH hE 2 (r.2.1 + 1)
          generalize eQ1 : pF H 2 (r.2.1 + 1) = q1_ at gd1_ ⊢
          have hp1 := gd1_.2 lttkr21
          have hl1 := gdx gd1_ (Nat.le_succ_of_le h2)
          by_cases w1_ : q1_.1 = true
          · rw [w1_]
            show AW V 0 0 (lpH h lq cq q1_.2.1 ((l ++ r.2.2.map encX) ++ q1_.2.2.map encX)) 35 [(0, .ref lq), (1, .int 3), (2, .int (b2i (!r.1))), (3, .int (nI i))] [.int 0]
            refine a_if_eq hb 50 dX1_term_35 (by decide) (fun c35 => ?_) (fun c35 => absurd (by decide) c35)
            refine a_iconst (v := 0) hb dX1_term_50 (by decide) ?_
            refine a_istore_n (L' := [(2, .int 0), (0, .ref lq), (1, .int 3), (3, .int (nI i))]) hb dX1_term_51 rfl (by rw [hml]; decide) rfl ?_
            refine a_iinc (v := ((nI i) + 1)) (L' := [(3, .int ((nI i) + 1)), (2, .int 0), (0, .ref lq), (1, .int 3)]) hb dX1_term_52 3 rfl rfl (by rw [hml]; decide) rfl ?_
            refine a_goto hb 8 dX1_term_55 (by decide) ?_
            have hq4 := @lpR_s (pF H 2) H 38 (2, 0, 0, 0) k r _ rf tkr21 eQ1
            rw [h4] at hq4
            refine AW.sub (L' := [(0, .ref lq), (1, .int 3), (2, .int 0), (3, .int ((nI i) + 1))]) [2, 3, 1, 0] rfl ?_
            refine AW.eq (ih (i + 1) (q1_.1, q1_.2.1, r.2.2 ++ q1_.2.2 ++ if q1_.1 = true then [] else [(2, 0, 0, 0)]) (by omega) hp1 ?_ hq4.symm) (lpG_2w w1_) rfl (by rw [nI_1]; show _ = [(0, _), (1, _), (2, Value.int (b2i (!q1_.1))), (3, _)]; rw [w1_]; rfl) rfl
            show (l ++ List.map encX (r.2.2 ++ q1_.2.2 ++ if q1_.1 = true then [] else [(2, 0, 0, 0)])).length ≤ q1_.2.1
            have g1 := gdx1 gd1_ h2
            rw [List.length_append] at g1 ⊢
            rw [List.length_append, List.length_map] at g1
            rw [List.length_map, List.length_append, List.length_append]
            rw [List.length_map] at g1
            split <;> simp only [List.length_cons, List.length_nil] <;> omega
          have fw1_ : q1_.1 = false := by simpa using w1_
          rw [fw1_]
          show AW V 0 0 (lpH h lq cq q1_.2.1 ((l ++ r.2.2.map encX) ++ q1_.2.2.map encX)) 35 [(0, .ref lq), (1, .int 3), (2, .int (b2i (!r.1))), (3, .int (nI i))] [.int 1]
          refine a_if_eq hb 50 dX1_term_35 (by decide) (fun c35 => absurd c35 (by decide)) (fun c35 => ?_)
          refine a_aload_n hb dX1_term_38 rfl 0 rfl ?_
          refine a_iconst (v := (-1)) hb dX1_term_39 (by decide) ?_
          refine a_callV hb dX1_term_40 (by rw [hg]; exact l_emit g h lq tq cq n t1 t2 t3 q0 q7 ne1 ne2 ne3 hn H hH hE q1_.2.1 ((l ++ r.2.2.map encX) ++ q1_.2.2.map encX) hp1 (-1) (by have := gdx1 gd1_ h2; omega)) (by rw [ow]; exact clv_RX1_91) (lp_k (h := h) (lq := lq) (cq := cq) (p := q1_.2.1) (l := ((l ++ r.2.2.map encX) ++ q1_.2.2.map encX)) t1) (by decide) rfl rfl rfl (Nat.le_of_ble_eq_true rfl) (by rw [hr]; exact ⟨by decide, by decide⟩) (by rw [hr]; exact ⟨Nat.le_of_ble_eq_true rfl, Nat.le_of_ble_eq_true rfl⟩) ?_
          intro rv h' hq_
          rw [hq_.1, hq_.2]
          show AW V 0 0 (lpH h lq cq q1_.2.1 (((l ++ r.2.2.map encX) ++ q1_.2.2.map encX) ++ [(-1)])) 43 [(0, .ref lq), (1, .int 3), (2, .int (b2i (!r.1))), (3, .int (nI i))] [.int 1]
          refine a_if_eq hb 50 dX1_term_43 (by decide) (fun c43 => absurd c43 (by decide)) (fun c43 => ?_)
          refine a_iconst (v := 1) hb dX1_term_46 (by decide) ?_
          refine a_goto hb 51 dX1_term_47 (by decide) ?_
          refine a_istore_n (L' := [(2, .int 1), (0, .ref lq), (1, .int 3), (3, .int (nI i))]) hb dX1_term_51 rfl (by rw [hml]; decide) rfl ?_
          refine a_iinc (v := ((nI i) + 1)) (L' := [(3, .int ((nI i) + 1)), (2, .int 1), (0, .ref lq), (1, .int 3)]) hb dX1_term_52 3 rfl rfl (by rw [hml]; decide) rfl ?_
          refine a_goto hb 8 dX1_term_55 (by decide) ?_
          have hq4 := @lpR_s (pF H 2) H 38 (2, 0, 0, 0) k r _ rf tkr21 eQ1
          rw [h4] at hq4
          refine AW.sub (L' := [(0, .ref lq), (1, .int 3), (2, .int 1), (3, .int ((nI i) + 1))]) [2, 3, 1, 0] rfl ?_
          refine AW.eq (ih (i + 1) (q1_.1, q1_.2.1, r.2.2 ++ q1_.2.2 ++ if q1_.1 = true then [] else [(2, 0, 0, 0)]) (by omega) hp1 ?_ hq4.symm) (lpG_2s (s := (2, 0, 0, 0)) fw1_) rfl (by rw [nI_1]; show _ = [(0, _), (1, _), (2, Value.int (b2i (!q1_.1))), (3, _)]; rw [fw1_]; rfl) rfl
          show (l ++ List.map encX (r.2.2 ++ q1_.2.2 ++ if q1_.1 = true then [] else [(2, 0, 0, 0)])).length ≤ q1_.2.1
          have g1 := gdx1 gd1_ h2
          rw [List.length_append] at g1 ⊢
          rw [List.length_append, List.length_map] at g1
          rw [List.length_map, List.length_append, List.length_append]
          rw [List.length_map] at g1
          split <;> simp only [List.length_cons, List.length_nil] <;> omega
        rw [if_neg tkr21, decide_eq_false tkr21]
        show AW V 0 0 (lpH h lq cq r.2.1 (l ++ r.2.2.map encX)) 27 [(0, .ref lq), (1, .int 3), (2, .int (b2i (!r.1))), (3, .int (nI i))] [.int 0]
        refine a_if_eq hb 58 dX1_term_27 (by decide) (fun c27 => ?_) (fun c27 => absurd (by decide) c27)
        refine a_iload_n hb dX1_term_58 rfl 2 rfl ?_
        exact a_ireturn (ty := .boolean) hb hz dX1_term_59 hret (b2i_nb _) (by rw [hr]; exact Nat.le_of_ble_eq_true rfl) (by rw [hr]; exact Nat.le_of_ble_eq_true rfl) (⟨by rw [← h4, lpR_n tkr21], by rw [← h4, lpR_n tkr21]; rfl⟩)
  refine a_aload_n hb dX1_term_0 rfl 0 rfl ?_
  refine a_iload_n hb dX1_term_1 rfl 1 rfl ?_
  refine a_callV hb dX1_term_2 (by rw [hg]; exact l_fac2 g h lq tq cq n t1 t2 t3 q0 q7 ne1 ne2 ne3 hn H hH hE p l hp hll) (by rw [ow]; exact clv_RX1_94) (lp_k (h := h) (lq := lq) (cq := cq) (p := p) (l := l) t1) (by decide) rfl rfl rfl (Nat.le_of_ble_eq_true rfl) (by rw [hr]; exact ⟨by decide, by decide⟩) (by rw [hr]; exact ⟨Nat.le_of_ble_eq_true rfl, Nat.le_of_ble_eq_true rfl⟩) ?_
  intro rv h' hq_
  rw [hq_.1, hq_.2]
  clear hq_ rv h'
  have gd1_ := pF_gH hE 2 p
  generalize eQ1 : pF H 2 p = q1_ at gd1_ ⊢
  have hp1 := gd1_.2 hp
  have hl1 := gdx gd1_ hll
  show AW V 0 0 (lpH h lq cq q1_.2.1 (l ++ q1_.2.2.map encX)) 5 [(0, .ref lq), (1, .int 3)] [.int (b2i (!q1_.1))]
  refine a_istore_n (L' := [(2, .int (b2i (!q1_.1))), (0, .ref lq), (1, .int 3)]) hb dX1_term_5 rfl (by rw [hml]; decide) rfl ?_
  refine a_iconst (v := 0) hb dX1_term_6 (by decide) ?_
  refine a_istore_n (L' := [(3, .int 0), (2, .int (b2i (!q1_.1))), (0, .ref lq), (1, .int 3)]) hb dX1_term_7 rfl (by rw [hml]; decide) rfl ?_
  refine AW.sub (L' := [(0, .ref lq), (1, .int 3), (2, .int (b2i (!q1_.1))), (3, .int 0)]) [2, 3, 1, 0] rfl ?_
  exact loop n 0 q1_ (by omega) hp1 hl1 ((pV_x (gd_p (pF_gH hE 2)) hE hn eQ1).trans hR)
set_option maxRecDepth 100000 in
theorem l_exp2 (g : GG) (h : AH) (lq tq cq n : Nat) (t1 : hT h lq = (1, 0)) (t2 : hT h tq = (13, n)) (t3 : hT h cq = (14, n)) (q0 : hQ h lq 0 = some tq) (q7 : hQ h lq 7 = some cq) (ne1 : lq ≠ cq) (ne2 : tq ≠ lq) (ne3 : tq ≠ cq) (hn : n ≤ 120) (H : Nat → Int32) (hH : ∀ p, p < n → hI h tq p = bx (H p) ∧ oO (H p) 0 255 = false) (hE : ∀ p, n ≤ p → H p = -1) (p : Nat) (l : List Int32) (hp : p ≤ n) (hll : l.length ≤ p) : AM g 17 0 0 mX1_expression [.ref lq, .int 3] (lpH h lq cq p l) (fun rv h' => rv = some (.int (b2i (!(pE (pF H 2) H p).1))) ∧ h' = lpG h lq cq l (pE (pF H 2) H p)) := by
  refine AM.of [(0, .ref lq), (1, .int 3)] (by decide) (Nat.le_of_ble_eq_true rfl) rfl ?_
  intro V hV
  have hb : V.2.1.2.1 = cX1_expression := by subst hV; rfl
  have ow : V.2.1.1.cls = RX1 := by subst hV; rfl
  have hr : V.2.2.1 = aw_rm 17 0 0 := by subst hV; rfl
  have hz : V.2.2.2 = aw_Z V.1 (fun rv h' => rv = some (.int (b2i (!(pE (pF H 2) H p).1))) ∧ h' = lpG h lq cq l (pE (pF H 2) H p)) V.2.2.1 := by subst hV; rfl
  have hg : V.1 = g := by subst hV; rfl
  have hret : V.2.1.2.2.2 = (some .boolean) := by subst hV; rfl
  have hml : V.2.1.2.2.1 = 4 := by subst hV; rfl
  clear hV
  generalize hR : pE (pF H 2) H p = R at hz
  have loop : ∀ (k i : Nat) (r : PR), i + k = n → r.2.1 ≤ n → (l ++ r.2.2.map encX).length ≤ r.2.1 → lpR (pV (pF H 2) H) H 124 (3, 0, 0, 0) k r = R → AW V 0 0 (lpG h lq cq l r) 8 [(0, .ref lq), (1, .int 3), (2, .int (b2i (!r.1))), (3, .int (nI i))] [] := by
    intro k
    induction k with
    | zero =>
      intro i r hi h1 h2 h4
      show AW V 0 0 (lpH h lq cq r.2.1 (l ++ r.2.2.map encX)) 8 [(0, .ref lq), (1, .int 3), (2, .int (b2i (!r.1))), (3, .int (nI i))] []
      refine a_iload_n hb dX1_expression_8 rfl 3 rfl ?_
      refine a_aload_n hb dX1_expression_9 rfl 0 rfl ?_
      refine a_getQ (q := tq) hb dX1_expression_10 (by rw [ow]; exact fl_RX1_32_1) (lp_k (h := h) (lq := lq) (cq := cq) (p := r.2.1) (l := (l ++ r.2.2.map encX)) t1) (lp_q (h := h) (lq := lq) (cq := cq) (p := r.2.1) (l := (l ++ r.2.2.map encX)) q0) ?_
      refine a_alenI (v := (nI n)) hb dX1_expression_13 (lp_k (h := h) (lq := lq) (cq := cq) (p := r.2.1) (l := (l ++ r.2.2.map encX)) t2) (by decide) rfl ?_
      refine a_icmp_ge hb 59 dX1_expression_14 (by decide) (fun c14 => ?_) (fun c14 => absurd (nI_le (by omega) (by omega)) c14)
      refine a_iload_n hb dX1_expression_59 rfl 2 rfl ?_
      exact a_ireturn (ty := .boolean) hb hz dX1_expression_60 hret (b2i_nb _) (by rw [hr]; exact Nat.le_of_ble_eq_true rfl) (by rw [hr]; exact Nat.le_of_ble_eq_true rfl) (⟨by rw [← h4]; rfl, by rw [← h4]; rfl⟩)
    | succ k ih =>
      intro i r hi h1 h2 h4
      show AW V 0 0 (lpH h lq cq r.2.1 (l ++ r.2.2.map encX)) 8 [(0, .ref lq), (1, .int 3), (2, .int (b2i (!r.1))), (3, .int (nI i))] []
      refine a_iload_n hb dX1_expression_8 rfl 3 rfl ?_
      refine a_aload_n hb dX1_expression_9 rfl 0 rfl ?_
      refine a_getQ (q := tq) hb dX1_expression_10 (by rw [ow]; exact fl_RX1_32_1) (lp_k (h := h) (lq := lq) (cq := cq) (p := r.2.1) (l := (l ++ r.2.2.map encX)) t1) (lp_q (h := h) (lq := lq) (cq := cq) (p := r.2.1) (l := (l ++ r.2.2.map encX)) q0) ?_
      refine a_alenI (v := (nI n)) hb dX1_expression_13 (lp_k (h := h) (lq := lq) (cq := cq) (p := r.2.1) (l := (l ++ r.2.2.map encX)) t2) (by decide) rfl ?_
      refine a_icmp_ge hb 59 dX1_expression_14 (by decide) (fun c14 => absurd c14 (nI_ge (by omega) (by omega))) (fun c14 => ?_)
      refine a_iload_n hb dX1_expression_17 rfl 2 rfl ?_
      refine a_if_eq hb 59 dX1_expression_18 (by decide) (fun c18 => ?_) (fun c18 => ?_)
      · simp [b2i_0] at c18
        have rt : r.1 = true := by simpa using c18
        refine a_iload_n hb dX1_expression_59 rfl 2 rfl ?_
        exact a_ireturn (ty := .boolean) hb hz dX1_expression_60 hret (b2i_nb _) (by rw [hr]; exact Nat.le_of_ble_eq_true rfl) (by rw [hr]; exact Nat.le_of_ble_eq_true rfl) (⟨by rw [← h4, lpR_w rt], by rw [← h4, lpR_w rt]; rfl⟩)
      · simp [b2i_0] at c18
        have rf : r.1 = false := by simpa using c18
        refine a_aload_n hb dX1_expression_21 rfl 0 rfl ?_
        refine a_bipush (v := 124) hb dX1_expression_22 (by decide) ?_
        refine a_callV hb dX1_expression_24 (by rw [hg]; exact l_take g h lq tq cq n t1 t2 t3 q0 q7 ne1 ne2 ne3 hn H hH hE r.2.1 (l ++ r.2.2.map encX) h1 124 (by decide)) (by rw [ow]; exact clv_RX1_43) (lp_k (h := h) (lq := lq) (cq := cq) (p := r.2.1) (l := (l ++ r.2.2.map encX)) t1) (by decide) rfl rfl rfl (Nat.le_of_ble_eq_true rfl) (by rw [hr]; exact ⟨by decide, by decide⟩) (by rw [hr]; exact ⟨Nat.le_of_ble_eq_true rfl, Nat.le_of_ble_eq_true rfl⟩) ?_
        intro rv h' hq_
        rw [hq_.1, hq_.2]
        clear hq_ rv h'
        by_cases tkr21 : H r.2.1 = 124
        · have lttkr21 : r.2.1 < n := H_c hE (by decide) tkr21
          rw [if_pos tkr21, decide_eq_true tkr21]
          show AW V 0 0 (lpH h lq cq (r.2.1 + 1) (l ++ r.2.2.map encX)) 27 [(0, .ref lq), (1, .int 3), (2, .int (b2i (!r.1))), (3, .int (nI i))] [.int 1]
          refine a_if_eq hb 59 dX1_expression_27 (by decide) (fun c27 => absurd c27 (by decide)) (fun c27 => ?_)
          refine a_aload_n hb dX1_expression_30 rfl 0 rfl ?_
          refine a_iload_n hb dX1_expression_31 rfl 1 rfl ?_
          refine a_callV hb dX1_expression_32 (by rw [hg]; exact l_ter2 g h lq tq cq n t1 t2 t3 q0 q7 ne1 ne2 ne3 hn H hH hE (r.2.1 + 1) (l ++ r.2.2.map encX) lttkr21 (Nat.le_succ_of_le h2)) (by rw [ow]; exact clv_RX1_88) (lp_k (h := h) (lq := lq) (cq := cq) (p := r.2.1 + 1) (l := (l ++ r.2.2.map encX)) t1) (by decide) rfl rfl rfl (Nat.le_of_ble_eq_true rfl) (by rw [hr]; exact ⟨by decide, by decide⟩) (by rw [hr]; exact ⟨Nat.le_of_ble_eq_true rfl, Nat.le_of_ble_eq_true rfl⟩) ?_
          intro rv h' hq_
          rw [hq_.1, hq_.2]
          clear hq_ rv h'
          have gd1_ := pV_gH hE 2 (r.2.1 + 1)
          generalize eQ1 : pV (pF H 2) H (r.2.1 + 1) = q1_ at gd1_ ⊢
          have hp1 := gd1_.2 lttkr21
          have hl1 := gdx gd1_ (Nat.le_succ_of_le h2)
          by_cases w1_ : q1_.1 = true
          · rw [w1_]
            show AW V 0 0 (lpH h lq cq q1_.2.1 ((l ++ r.2.2.map encX) ++ q1_.2.2.map encX)) 35 [(0, .ref lq), (1, .int 3), (2, .int (b2i (!r.1))), (3, .int (nI i))] [.int 0]
            refine a_if_eq hb 51 dX1_expression_35 (by decide) (fun c35 => ?_) (fun c35 => absurd (by decide) c35)
            refine a_iconst (v := 0) hb dX1_expression_51 (by decide) ?_
            refine a_istore_n (L' := [(2, .int 0), (0, .ref lq), (1, .int 3), (3, .int (nI i))]) hb dX1_expression_52 rfl (by rw [hml]; decide) rfl ?_
            refine a_iinc (v := ((nI i) + 1)) (L' := [(3, .int ((nI i) + 1)), (2, .int 0), (0, .ref lq), (1, .int 3)]) hb dX1_expression_53 3 rfl rfl (by rw [hml]; decide) rfl ?_
            refine a_goto hb 8 dX1_expression_56 (by decide) ?_
            have hq4 := @lpR_s (pV (pF H 2) H) H 124 (3, 0, 0, 0) k r _ rf tkr21 eQ1
            rw [h4] at hq4
            refine AW.sub (L' := [(0, .ref lq), (1, .int 3), (2, .int 0), (3, .int ((nI i) + 1))]) [2, 3, 1, 0] rfl ?_
            refine AW.eq (ih (i + 1) (q1_.1, q1_.2.1, r.2.2 ++ q1_.2.2 ++ if q1_.1 = true then [] else [(3, 0, 0, 0)]) (by omega) hp1 ?_ hq4.symm) (lpG_2w w1_) rfl (by rw [nI_1]; show _ = [(0, _), (1, _), (2, Value.int (b2i (!q1_.1))), (3, _)]; rw [w1_]; rfl) rfl
            show (l ++ List.map encX (r.2.2 ++ q1_.2.2 ++ if q1_.1 = true then [] else [(3, 0, 0, 0)])).length ≤ q1_.2.1
            have g1 := gdx1 gd1_ h2
            rw [List.length_append] at g1 ⊢
            rw [List.length_append, List.length_map] at g1
            rw [List.length_map, List.length_append, List.length_append]
            rw [List.length_map] at g1
            split <;> simp only [List.length_cons, List.length_nil] <;> omega
          have fw1_ : q1_.1 = false := by simpa using w1_
          rw [fw1_]
          show AW V 0 0 (lpH h lq cq q1_.2.1 ((l ++ r.2.2.map encX) ++ q1_.2.2.map encX)) 35 [(0, .ref lq), (1, .int 3), (2, .int (b2i (!r.1))), (3, .int (nI i))] [.int 1]
          refine a_if_eq hb 51 dX1_expression_35 (by decide) (fun c35 => absurd c35 (by decide)) (fun c35 => ?_)
          refine a_aload_n hb dX1_expression_38 rfl 0 rfl ?_
          refine a_bipush (v := (-2)) hb dX1_expression_39 (by decide) ?_
          refine a_callV hb dX1_expression_41 (by rw [hg]; exact l_emit g h lq tq cq n t1 t2 t3 q0 q7 ne1 ne2 ne3 hn H hH hE q1_.2.1 ((l ++ r.2.2.map encX) ++ q1_.2.2.map encX) hp1 (-2) (by have := gdx1 gd1_ h2; omega)) (by rw [ow]; exact clv_RX1_91) (lp_k (h := h) (lq := lq) (cq := cq) (p := q1_.2.1) (l := ((l ++ r.2.2.map encX) ++ q1_.2.2.map encX)) t1) (by decide) rfl rfl rfl (Nat.le_of_ble_eq_true rfl) (by rw [hr]; exact ⟨by decide, by decide⟩) (by rw [hr]; exact ⟨Nat.le_of_ble_eq_true rfl, Nat.le_of_ble_eq_true rfl⟩) ?_
          intro rv h' hq_
          rw [hq_.1, hq_.2]
          show AW V 0 0 (lpH h lq cq q1_.2.1 (((l ++ r.2.2.map encX) ++ q1_.2.2.map encX) ++ [(-2)])) 44 [(0, .ref lq), (1, .int 3), (2, .int (b2i (!r.1))), (3, .int (nI i))] [.int 1]
          refine a_if_eq hb 51 dX1_expression_44 (by decide) (fun c44 => absurd c44 (by decide)) (fun c44 => ?_)
          refine a_iconst (v := 1) hb dX1_expression_47 (by decide) ?_
          refine a_goto hb 52 dX1_expression_48 (by decide) ?_
          refine a_istore_n (L' := [(2, .int 1), (0, .ref lq), (1, .int 3), (3, .int (nI i))]) hb dX1_expression_52 rfl (by rw [hml]; decide) rfl ?_
          refine a_iinc (v := ((nI i) + 1)) (L' := [(3, .int ((nI i) + 1)), (2, .int 1), (0, .ref lq), (1, .int 3)]) hb dX1_expression_53 3 rfl rfl (by rw [hml]; decide) rfl ?_
          refine a_goto hb 8 dX1_expression_56 (by decide) ?_
          have hq4 := @lpR_s (pV (pF H 2) H) H 124 (3, 0, 0, 0) k r _ rf tkr21 eQ1
          rw [h4] at hq4
          refine AW.sub (L' := [(0, .ref lq), (1, .int 3), (2, .int 1), (3, .int ((nI i) + 1))]) [2, 3, 1, 0] rfl ?_
          refine AW.eq (ih (i + 1) (q1_.1, q1_.2.1, r.2.2 ++ q1_.2.2 ++ if q1_.1 = true then [] else [(3, 0, 0, 0)]) (by omega) hp1 ?_ hq4.symm) (lpG_2s (s := (3, 0, 0, 0)) fw1_) rfl (by rw [nI_1]; show _ = [(0, _), (1, _), (2, Value.int (b2i (!q1_.1))), (3, _)]; rw [fw1_]; rfl) rfl
          show (l ++ List.map encX (r.2.2 ++ q1_.2.2 ++ if q1_.1 = true then [] else [(3, 0, 0, 0)])).length ≤ q1_.2.1
          have g1 := gdx1 gd1_ h2
          rw [List.length_append] at g1 ⊢
          rw [List.length_append, List.length_map] at g1
          rw [List.length_map, List.length_append, List.length_append]
          rw [List.length_map] at g1
          split <;> simp only [List.length_cons, List.length_nil] <;> omega
        rw [if_neg tkr21, decide_eq_false tkr21]
        show AW V 0 0 (lpH h lq cq r.2.1 (l ++ r.2.2.map encX)) 27 [(0, .ref lq), (1, .int 3), (2, .int (b2i (!r.1))), (3, .int (nI i))] [.int 0]
        refine a_if_eq hb 59 dX1_expression_27 (by decide) (fun c27 => ?_) (fun c27 => absurd (by decide) c27)
        refine a_iload_n hb dX1_expression_59 rfl 2 rfl ?_
        exact a_ireturn (ty := .boolean) hb hz dX1_expression_60 hret (b2i_nb _) (by rw [hr]; exact Nat.le_of_ble_eq_true rfl) (by rw [hr]; exact Nat.le_of_ble_eq_true rfl) (⟨by rw [← h4, lpR_n tkr21], by rw [← h4, lpR_n tkr21]; rfl⟩)
  refine a_aload_n hb dX1_expression_0 rfl 0 rfl ?_
  refine a_iload_n hb dX1_expression_1 rfl 1 rfl ?_
  refine a_callV hb dX1_expression_2 (by rw [hg]; exact l_ter2 g h lq tq cq n t1 t2 t3 q0 q7 ne1 ne2 ne3 hn H hH hE p l hp hll) (by rw [ow]; exact clv_RX1_88) (lp_k (h := h) (lq := lq) (cq := cq) (p := p) (l := l) t1) (by decide) rfl rfl rfl (Nat.le_of_ble_eq_true rfl) (by rw [hr]; exact ⟨by decide, by decide⟩) (by rw [hr]; exact ⟨Nat.le_of_ble_eq_true rfl, Nat.le_of_ble_eq_true rfl⟩) ?_
  intro rv h' hq_
  rw [hq_.1, hq_.2]
  clear hq_ rv h'
  have gd1_ := pV_gH hE 2 p
  generalize eQ1 : pV (pF H 2) H p = q1_ at gd1_ ⊢
  have hp1 := gd1_.2 hp
  have hl1 := gdx gd1_ hll
  show AW V 0 0 (lpH h lq cq q1_.2.1 (l ++ q1_.2.2.map encX)) 5 [(0, .ref lq), (1, .int 3)] [.int (b2i (!q1_.1))]
  refine a_istore_n (L' := [(2, .int (b2i (!q1_.1))), (0, .ref lq), (1, .int 3)]) hb dX1_expression_5 rfl (by rw [hml]; decide) rfl ?_
  refine a_iconst (v := 0) hb dX1_expression_6 (by decide) ?_
  refine a_istore_n (L' := [(3, .int 0), (2, .int (b2i (!q1_.1))), (0, .ref lq), (1, .int 3)]) hb dX1_expression_7 rfl (by rw [hml]; decide) rfl ?_
  refine AW.sub (L' := [(0, .ref lq), (1, .int 3), (2, .int (b2i (!q1_.1))), (3, .int 0)]) [2, 3, 1, 0] rfl ?_
  exact loop n 0 q1_ (by omega) hp1 hl1 ((pE_x (gd_p (pV_gH hE 2)) hE hn eQ1).trans hR)
set_option maxRecDepth 100000 in
theorem l_fac3 (g : GG) (h : AH) (lq tq cq n : Nat) (t1 : hT h lq = (1, 0)) (t2 : hT h tq = (13, n)) (t3 : hT h cq = (14, n)) (q0 : hQ h lq 0 = some tq) (q7 : hQ h lq 7 = some cq) (ne1 : lq ≠ cq) (ne2 : tq ≠ lq) (ne3 : tq ≠ cq) (hn : n ≤ 120) (H : Nat → Int32) (hH : ∀ p, p < n → hI h tq p = bx (H p) ∧ oO (H p) 0 255 = false) (hE : ∀ p, n ≤ p → H p = -1) (p : Nat) (l : List Int32) (hp : p ≤ n) (hll : l.length ≤ p) : AM g 18 0 0 mX1_factor [.ref lq, .int 2] (lpH h lq cq p l) (fun rv h' => rv = some (.int (b2i (!(pF H 3 p).1))) ∧ h' = lpG h lq cq l (pF H 3 p)) := by
  refine AM.of [(0, .ref lq), (1, .int 2)] (by decide) (Nat.le_of_ble_eq_true rfl) rfl ?_
  intro V hV
  have hb : V.2.1.2.1 = cX1_factor := by subst hV; rfl
  have ow : V.2.1.1.cls = RX1 := by subst hV; rfl
  have hr : V.2.2.1 = aw_rm 18 0 0 := by subst hV; rfl
  have hz : V.2.2.2 = aw_Z V.1 (fun rv h' => rv = some (.int (b2i (!(pF H 3 p).1))) ∧ h' = lpG h lq cq l (pF H 3 p)) V.2.2.1 := by subst hV; rfl
  have hg : V.1 = g := by subst hV; rfl
  have hret : V.2.1.2.2.2 = (some .boolean) := by subst hV; rfl
  have hml : V.2.1.2.2.1 = 2 := by subst hV; rfl
  clear hV
  refine a_aload_n hb dX1_factor_0 rfl 0 rfl ?_
  refine a_bipush (v := 33) hb dX1_factor_1 (by decide) ?_
  refine a_callV hb dX1_factor_3 (by rw [hg]; exact l_next g h lq tq cq n t1 t2 t3 q0 q7 ne1 ne2 ne3 hn H hH hE p l hp 33 (by decide)) (by rw [ow]; exact clv_RX1_65) (lp_k (h := h) (lq := lq) (cq := cq) (p := p) (l := l) t1) (by decide) rfl rfl rfl (Nat.le_of_ble_eq_true rfl) (by rw [hr]; exact ⟨by decide, by decide⟩) (by rw [hr]; exact ⟨Nat.le_of_ble_eq_true rfl, Nat.le_of_ble_eq_true rfl⟩) ?_
  intro rv h' hq_
  rw [hq_.1, hq_.2]
  clear hq_ rv h'
  by_cases nx33 : H p = 33
  · rw [decide_eq_true nx33]
    show AW V 0 0 (lpH h lq cq p l) 6 [(0, .ref lq), (1, .int 2)] [.int 1]
    refine a_if_ne hb 23 dX1_factor_6 (by decide) (fun c6 => ?_) (fun c6 => absurd c6 (by decide))
    refine a_iload_n hb dX1_factor_23 rfl 1 rfl ?_
    refine a_iconst (v := 5) hb dX1_factor_24 (by decide) ?_
    refine a_icmp_lt hb 30 dX1_factor_25 (by decide) (fun c25 => ?_) (fun c25 => absurd (by decide) c25)
    refine a_aload_n hb dX1_factor_30 rfl 0 rfl ?_
    refine a_bipush (v := 33) hb dX1_factor_31 (by decide) ?_
    refine a_callV hb dX1_factor_33 (by rw [hg]; exact l_take g h lq tq cq n t1 t2 t3 q0 q7 ne1 ne2 ne3 hn H hH hE p l hp 33 (by decide)) (by rw [ow]; exact clv_RX1_43) (lp_k (h := h) (lq := lq) (cq := cq) (p := p) (l := l) t1) (by decide) rfl rfl rfl (Nat.le_of_ble_eq_true rfl) (by rw [hr]; exact ⟨by decide, by decide⟩) (by rw [hr]; exact ⟨Nat.le_of_ble_eq_true rfl, Nat.le_of_ble_eq_true rfl⟩) ?_
    intro rv h' hq_
    rw [hq_.1, hq_.2]
    clear hq_ rv h'
    have ltnx33 : p < n := H_c hE (by decide) nx33
    rw [if_pos nx33, decide_eq_true nx33]
    show AW V 0 0 (lpH h lq cq (p + 1) l) 36 [(0, .ref lq), (1, .int 2)] [.int 1]
    refine a_if_eq hb 64 dX1_factor_36 (by decide) (fun c36 => absurd c36 (by decide)) (fun c36 => ?_)
    refine a_aload_n hb dX1_factor_39 rfl 0 rfl ?_
    refine a_iload_n hb dX1_factor_40 rfl 1 rfl ?_
    refine a_iconst (v := 1) hb dX1_factor_41 (by decide) ?_
    refine a_iadd hb dX1_factor_42 ?_
    rw [show (2 : Int32) + 1 = 3 from by decide]
    show AW V 0 0 (lpH h lq cq (p + 1) l) 43 [(0, .ref lq), (1, .int 2)] [.int 3, .ref lq]
    refine a_callV hb dX1_factor_43 (by rw [hg]; exact l_fac2 g h lq tq cq n t1 t2 t3 q0 q7 ne1 ne2 ne3 hn H hH hE (p + 1) l ltnx33 (Nat.le_succ_of_le hll)) (by rw [ow]; exact clv_RX1_94) (lp_k (h := h) (lq := lq) (cq := cq) (p := p + 1) (l := l) t1) (by decide) rfl rfl rfl (Nat.le_of_ble_eq_true rfl) (by rw [hr]; exact ⟨by decide, by decide⟩) (by rw [hr]; exact ⟨Nat.le_of_ble_eq_true rfl, Nat.le_of_ble_eq_true rfl⟩) ?_
    intro rv h' hq_
    rw [hq_.1, hq_.2]
    clear hq_ rv h'
    have gd1_ := pF_gH hE 2 (p + 1)
    generalize eQ1 : pF H 2 (p + 1) = q1_ at gd1_ ⊢
    have hp1 := gd1_.2 ltnx33
    have hl1 := gdx gd1_ (Nat.le_succ_of_le hll)
    by_cases w1_ : q1_.1 = true
    · rw [w1_]
      show AW V 0 0 (lpH h lq cq q1_.2.1 (l ++ q1_.2.2.map encX)) 46 [(0, .ref lq), (1, .int 2)] [.int 0]
      refine a_if_eq hb 62 dX1_factor_46 (by decide) (fun c46 => ?_) (fun c46 => absurd (by decide) c46)
      refine a_iconst (v := 0) hb dX1_factor_62 (by decide) ?_
      exact a_ireturn (ty := .boolean) hb hz dX1_factor_63 hret (by first | rfl | (simp only [narrow]; done) | exact aw_nb _) (by rw [hr]; exact Nat.le_of_ble_eq_true rfl) (by rw [hr]; exact Nat.le_of_ble_eq_true rfl) (⟨by rw [pF_n nx33 eQ1, w1_]; rfl, by rw [pF_n nx33 eQ1]; exact lpG_w w1_⟩)
    have fw1_ : q1_.1 = false := by simpa using w1_
    rw [fw1_]
    show AW V 0 0 (lpH h lq cq q1_.2.1 (l ++ q1_.2.2.map encX)) 46 [(0, .ref lq), (1, .int 2)] [.int 1]
    refine a_if_eq hb 62 dX1_factor_46 (by decide) (fun c46 => absurd c46 (by decide)) (fun c46 => ?_)
    refine a_aload_n hb dX1_factor_49 rfl 0 rfl ?_
    refine a_bipush (v := (-3)) hb dX1_factor_50 (by decide) ?_
    refine a_callV hb dX1_factor_52 (by rw [hg]; exact l_emit g h lq tq cq n t1 t2 t3 q0 q7 ne1 ne2 ne3 hn H hH hE q1_.2.1 (l ++ q1_.2.2.map encX) hp1 (-3) (by have := gdx1 gd1_ hll; omega)) (by rw [ow]; exact clv_RX1_91) (lp_k (h := h) (lq := lq) (cq := cq) (p := q1_.2.1) (l := (l ++ q1_.2.2.map encX)) t1) (by decide) rfl rfl rfl (Nat.le_of_ble_eq_true rfl) (by rw [hr]; exact ⟨by decide, by decide⟩) (by rw [hr]; exact ⟨Nat.le_of_ble_eq_true rfl, Nat.le_of_ble_eq_true rfl⟩) ?_
    intro rv h' hq_
    rw [hq_.1, hq_.2]
    show AW V 0 0 (lpH h lq cq q1_.2.1 ((l ++ q1_.2.2.map encX) ++ [(-3)])) 55 [(0, .ref lq), (1, .int 2)] [.int 1]
    refine a_if_eq hb 62 dX1_factor_55 (by decide) (fun c55 => absurd c55 (by decide)) (fun c55 => ?_)
    refine a_iconst (v := 1) hb dX1_factor_58 (by decide) ?_
    refine a_goto hb 63 dX1_factor_59 (by decide) ?_
    exact a_ireturn (ty := .boolean) hb hz dX1_factor_63 hret (by first | rfl | (simp only [narrow]; done) | exact aw_nb _) (by rw [hr]; exact Nat.le_of_ble_eq_true rfl) (by rw [hr]; exact Nat.le_of_ble_eq_true rfl) (⟨by rw [pF_n nx33 eQ1, fw1_]; rfl, by rw [pF_n nx33 eQ1]; exact lpG_s (s := (1, 0, 0, 0)) fw1_⟩)
  rw [decide_eq_false nx33]
  show AW V 0 0 (lpH h lq cq p l) 6 [(0, .ref lq), (1, .int 2)] [.int 0]
  refine a_if_ne hb 23 dX1_factor_6 (by decide) (fun c6 => absurd c6 (by decide)) (fun c6 => ?_)
  refine a_aload_n hb dX1_factor_9 rfl 0 rfl ?_
  refine a_bipush (v := 40) hb dX1_factor_10 (by decide) ?_
  refine a_callV hb dX1_factor_12 (by rw [hg]; exact l_next g h lq tq cq n t1 t2 t3 q0 q7 ne1 ne2 ne3 hn H hH hE p l hp 40 (by decide)) (by rw [ow]; exact clv_RX1_65) (lp_k (h := h) (lq := lq) (cq := cq) (p := p) (l := l) t1) (by decide) rfl rfl rfl (Nat.le_of_ble_eq_true rfl) (by rw [hr]; exact ⟨by decide, by decide⟩) (by rw [hr]; exact ⟨Nat.le_of_ble_eq_true rfl, Nat.le_of_ble_eq_true rfl⟩) ?_
  intro rv h' hq_
  rw [hq_.1, hq_.2]
  clear hq_ rv h'
  by_cases nx40 : H p = 40
  · rw [decide_eq_true nx40]
    show AW V 0 0 (lpH h lq cq p l) 15 [(0, .ref lq), (1, .int 2)] [.int 1]
    refine a_if_ne hb 23 dX1_factor_15 (by decide) (fun c15 => ?_) (fun c15 => absurd c15 (by decide))
    refine a_iload_n hb dX1_factor_23 rfl 1 rfl ?_
    refine a_iconst (v := 5) hb dX1_factor_24 (by decide) ?_
    refine a_icmp_lt hb 30 dX1_factor_25 (by decide) (fun c25 => ?_) (fun c25 => absurd (by decide) c25)
    refine a_aload_n hb dX1_factor_30 rfl 0 rfl ?_
    refine a_bipush (v := 33) hb dX1_factor_31 (by decide) ?_
    refine a_callV hb dX1_factor_33 (by rw [hg]; exact l_take g h lq tq cq n t1 t2 t3 q0 q7 ne1 ne2 ne3 hn H hH hE p l hp 33 (by decide)) (by rw [ow]; exact clv_RX1_43) (lp_k (h := h) (lq := lq) (cq := cq) (p := p) (l := l) t1) (by decide) rfl rfl rfl (Nat.le_of_ble_eq_true rfl) (by rw [hr]; exact ⟨by decide, by decide⟩) (by rw [hr]; exact ⟨Nat.le_of_ble_eq_true rfl, Nat.le_of_ble_eq_true rfl⟩) ?_
    intro rv h' hq_
    rw [hq_.1, hq_.2]
    clear hq_ rv h'
    rw [if_neg nx33, decide_eq_false nx33]
    show AW V 0 0 (lpH h lq cq p l) 36 [(0, .ref lq), (1, .int 2)] [.int 0]
    refine a_if_eq hb 64 dX1_factor_36 (by decide) (fun c36 => ?_) (fun c36 => absurd (by decide) c36)
    refine a_aload_n hb dX1_factor_64 rfl 0 rfl ?_
    refine a_bipush (v := 40) hb dX1_factor_65 (by decide) ?_
    refine a_callV hb dX1_factor_67 (by rw [hg]; exact l_take g h lq tq cq n t1 t2 t3 q0 q7 ne1 ne2 ne3 hn H hH hE p l hp 40 (by decide)) (by rw [ow]; exact clv_RX1_43) (lp_k (h := h) (lq := lq) (cq := cq) (p := p) (l := l) t1) (by decide) rfl rfl rfl (Nat.le_of_ble_eq_true rfl) (by rw [hr]; exact ⟨by decide, by decide⟩) (by rw [hr]; exact ⟨Nat.le_of_ble_eq_true rfl, Nat.le_of_ble_eq_true rfl⟩) ?_
    intro rv h' hq_
    rw [hq_.1, hq_.2]
    clear hq_ rv h'
    have ltnx40 : p < n := H_c hE (by decide) nx40
    rw [if_pos nx40, decide_eq_true nx40]
    show AW V 0 0 (lpH h lq cq (p + 1) l) 70 [(0, .ref lq), (1, .int 2)] [.int 1]
    refine a_if_eq hb 96 dX1_factor_70 (by decide) (fun c70 => absurd c70 (by decide)) (fun c70 => ?_)
    refine a_aload_n hb dX1_factor_73 rfl 0 rfl ?_
    refine a_iload_n hb dX1_factor_74 rfl 1 rfl ?_
    refine a_iconst (v := 1) hb dX1_factor_75 (by decide) ?_
    refine a_iadd hb dX1_factor_76 ?_
    rw [show (2 : Int32) + 1 = 3 from by decide]
    show AW V 0 0 (lpH h lq cq (p + 1) l) 77 [(0, .ref lq), (1, .int 2)] [.int 3, .ref lq]
    refine a_callV hb dX1_factor_77 (by rw [hg]; exact l_exp2 g h lq tq cq n t1 t2 t3 q0 q7 ne1 ne2 ne3 hn H hH hE (p + 1) l ltnx40 (Nat.le_succ_of_le hll)) (by rw [ow]; exact clv_RX1_85) (lp_k (h := h) (lq := lq) (cq := cq) (p := p + 1) (l := l) t1) (by decide) rfl rfl rfl (Nat.le_of_ble_eq_true rfl) (by rw [hr]; exact ⟨by decide, by decide⟩) (by rw [hr]; exact ⟨Nat.le_of_ble_eq_true rfl, Nat.le_of_ble_eq_true rfl⟩) ?_
    intro rv h' hq_
    rw [hq_.1, hq_.2]
    clear hq_ rv h'
    have gd2_ := pE_gH hE 2 (p + 1)
    generalize eQ2 : pE (pF H 2) H (p + 1) = q2_ at gd2_ ⊢
    have hp2 := gd2_.2 ltnx40
    have hl2 := gdx gd2_ (Nat.le_succ_of_le hll)
    by_cases w2_ : q2_.1 = true
    · rw [w2_]
      show AW V 0 0 (lpH h lq cq q2_.2.1 (l ++ q2_.2.2.map encX)) 80 [(0, .ref lq), (1, .int 2)] [.int 0]
      refine a_if_eq hb 96 dX1_factor_80 (by decide) (fun c80 => ?_) (fun c80 => absurd (by decide) c80)
      refine a_iconst (v := 0) hb dX1_factor_96 (by decide) ?_
      exact a_ireturn (ty := .boolean) hb hz dX1_factor_97 hret (by first | rfl | (simp only [narrow]; done) | exact aw_nb _) (by rw [hr]; exact Nat.le_of_ble_eq_true rfl) (by rw [hr]; exact Nat.le_of_ble_eq_true rfl) (⟨by rw [pF_p nx33 nx40 eQ2, if_pos w2_, w2_]; rfl, by rw [pF_p nx33 nx40 eQ2, if_pos w2_]; rfl⟩)
    have fw2_ : q2_.1 = false := by simpa using w2_
    rw [fw2_]
    show AW V 0 0 (lpH h lq cq q2_.2.1 (l ++ q2_.2.2.map encX)) 80 [(0, .ref lq), (1, .int 2)] [.int 1]
    refine a_if_eq hb 96 dX1_factor_80 (by decide) (fun c80 => absurd c80 (by decide)) (fun c80 => ?_)
    refine a_aload_n hb dX1_factor_83 rfl 0 rfl ?_
    refine a_bipush (v := 41) hb dX1_factor_84 (by decide) ?_
    refine a_callV hb dX1_factor_86 (by rw [hg]; exact l_take g h lq tq cq n t1 t2 t3 q0 q7 ne1 ne2 ne3 hn H hH hE q2_.2.1 (l ++ q2_.2.2.map encX) hp2 41 (by decide)) (by rw [ow]; exact clv_RX1_43) (lp_k (h := h) (lq := lq) (cq := cq) (p := q2_.2.1) (l := (l ++ q2_.2.2.map encX)) t1) (by decide) rfl rfl rfl (Nat.le_of_ble_eq_true rfl) (by rw [hr]; exact ⟨by decide, by decide⟩) (by rw [hr]; exact ⟨Nat.le_of_ble_eq_true rfl, Nat.le_of_ble_eq_true rfl⟩) ?_
    intro rv h' hq_
    rw [hq_.1, hq_.2]
    clear hq_ rv h'
    by_cases tkq2_21 : H q2_.2.1 = 41
    · have lttkq2_21 : q2_.2.1 < n := H_c hE (by decide) tkq2_21
      rw [if_pos tkq2_21, decide_eq_true tkq2_21]
      show AW V 0 0 (lpH h lq cq (q2_.2.1 + 1) (l ++ q2_.2.2.map encX)) 89 [(0, .ref lq), (1, .int 2)] [.int 1]
      refine a_if_eq hb 96 dX1_factor_89 (by decide) (fun c89 => absurd c89 (by decide)) (fun c89 => ?_)
      refine a_iconst (v := 1) hb dX1_factor_92 (by decide) ?_
      refine a_goto hb 97 dX1_factor_93 (by decide) ?_
      exact a_ireturn (ty := .boolean) hb hz dX1_factor_97 hret (by first | rfl | (simp only [narrow]; done) | exact aw_nb _) (by rw [hr]; exact Nat.le_of_ble_eq_true rfl) (by rw [hr]; exact Nat.le_of_ble_eq_true rfl) (⟨by rw [pF_p nx33 nx40 eQ2, if_neg w2_, if_pos tkq2_21]; rfl, by rw [pF_p nx33 nx40 eQ2, if_neg w2_, if_pos tkq2_21]; rfl⟩)
    rw [if_neg tkq2_21, decide_eq_false tkq2_21]
    show AW V 0 0 (lpH h lq cq q2_.2.1 (l ++ q2_.2.2.map encX)) 89 [(0, .ref lq), (1, .int 2)] [.int 0]
    refine a_if_eq hb 96 dX1_factor_89 (by decide) (fun c89 => ?_) (fun c89 => absurd (by decide) c89)
    refine a_iconst (v := 0) hb dX1_factor_96 (by decide) ?_
    exact a_ireturn (ty := .boolean) hb hz dX1_factor_97 hret (by first | rfl | (simp only [narrow]; done) | exact aw_nb _) (by rw [hr]; exact Nat.le_of_ble_eq_true rfl) (by rw [hr]; exact Nat.le_of_ble_eq_true rfl) (⟨by rw [pF_p nx33 nx40 eQ2, if_neg w2_, if_neg tkq2_21]; rfl, by rw [pF_p nx33 nx40 eQ2, if_neg w2_, if_neg tkq2_21]; rfl⟩)
  rw [decide_eq_false nx40]
  show AW V 0 0 (lpH h lq cq p l) 15 [(0, .ref lq), (1, .int 2)] [.int 0]
  refine a_if_ne hb 23 dX1_factor_15 (by decide) (fun c15 => absurd c15 (by decide)) (fun c15 => ?_)
  refine a_aload_n hb dX1_factor_18 rfl 0 rfl ?_
  refine a_callV hb dX1_factor_19 (by rw [hg]; exact l_tst g h lq tq cq n t1 t2 t3 q0 q7 ne1 ne2 ne3 hn H hH hE p l hp hll) (by rw [ow]; exact clv_RX1_97) (lp_k (h := h) (lq := lq) (cq := cq) (p := p) (l := l) t1) (by decide) rfl rfl rfl (Nat.le_of_ble_eq_true rfl) (by rw [hr]; exact ⟨by decide, by decide⟩) (by rw [hr]; exact ⟨Nat.le_of_ble_eq_true rfl, Nat.le_of_ble_eq_true rfl⟩) ?_
  intro rv h' hq_
  rw [hq_.1, hq_.2]
  show AW V 0 0 (lpG h lq cq l (pT H p)) 22 [(0, .ref lq), (1, .int 2)] [.int (b2i (!(pT H p).1))]
  exact a_ireturn (ty := .boolean) hb hz dX1_factor_22 hret (b2i_nb _) (by rw [hr]; exact Nat.le_of_ble_eq_true rfl) (by rw [hr]; exact Nat.le_of_ble_eq_true rfl) (⟨by rw [pF_T nx33 nx40], by rw [pF_T nx33 nx40]⟩)
set_option maxRecDepth 100000 in
theorem l_ter3 (g : GG) (h : AH) (lq tq cq n : Nat) (t1 : hT h lq = (1, 0)) (t2 : hT h tq = (13, n)) (t3 : hT h cq = (14, n)) (q0 : hQ h lq 0 = some tq) (q7 : hQ h lq 7 = some cq) (ne1 : lq ≠ cq) (ne2 : tq ≠ lq) (ne3 : tq ≠ cq) (hn : n ≤ 120) (H : Nat → Int32) (hH : ∀ p, p < n → hI h tq p = bx (H p) ∧ oO (H p) 0 255 = false) (hE : ∀ p, n ≤ p → H p = -1) (p : Nat) (l : List Int32) (hp : p ≤ n) (hll : l.length ≤ p) : AM g 19 0 0 mX1_term [.ref lq, .int 2] (lpH h lq cq p l) (fun rv h' => rv = some (.int (b2i (!(pV (pF H 3) H p).1))) ∧ h' = lpG h lq cq l (pV (pF H 3) H p)) := by
  refine AM.of [(0, .ref lq), (1, .int 2)] (by decide) (Nat.le_of_ble_eq_true rfl) rfl ?_
  intro V hV
  have hb : V.2.1.2.1 = cX1_term := by subst hV; rfl
  have ow : V.2.1.1.cls = RX1 := by subst hV; rfl
  have hr : V.2.2.1 = aw_rm 19 0 0 := by subst hV; rfl
  have hz : V.2.2.2 = aw_Z V.1 (fun rv h' => rv = some (.int (b2i (!(pV (pF H 3) H p).1))) ∧ h' = lpG h lq cq l (pV (pF H 3) H p)) V.2.2.1 := by subst hV; rfl
  have hg : V.1 = g := by subst hV; rfl
  have hret : V.2.1.2.2.2 = (some .boolean) := by subst hV; rfl
  have hml : V.2.1.2.2.1 = 4 := by subst hV; rfl
  clear hV
  generalize hR : pV (pF H 3) H p = R at hz
  have loop : ∀ (k i : Nat) (r : PR), i + k = n → r.2.1 ≤ n → (l ++ r.2.2.map encX).length ≤ r.2.1 → lpR (pF H 3) H 38 (2, 0, 0, 0) k r = R → AW V 0 0 (lpG h lq cq l r) 8 [(0, .ref lq), (1, .int 2), (2, .int (b2i (!r.1))), (3, .int (nI i))] [] := by
    intro k
    induction k with
    | zero =>
      intro i r hi h1 h2 h4
      show AW V 0 0 (lpH h lq cq r.2.1 (l ++ r.2.2.map encX)) 8 [(0, .ref lq), (1, .int 2), (2, .int (b2i (!r.1))), (3, .int (nI i))] []
      refine a_iload_n hb dX1_term_8 rfl 3 rfl ?_
      refine a_aload_n hb dX1_term_9 rfl 0 rfl ?_
      refine a_getQ (q := tq) hb dX1_term_10 (by rw [ow]; exact fl_RX1_32_1) (lp_k (h := h) (lq := lq) (cq := cq) (p := r.2.1) (l := (l ++ r.2.2.map encX)) t1) (lp_q (h := h) (lq := lq) (cq := cq) (p := r.2.1) (l := (l ++ r.2.2.map encX)) q0) ?_
      refine a_alenI (v := (nI n)) hb dX1_term_13 (lp_k (h := h) (lq := lq) (cq := cq) (p := r.2.1) (l := (l ++ r.2.2.map encX)) t2) (by decide) rfl ?_
      refine a_icmp_ge hb 58 dX1_term_14 (by decide) (fun c14 => ?_) (fun c14 => absurd (nI_le (by omega) (by omega)) c14)
      refine a_iload_n hb dX1_term_58 rfl 2 rfl ?_
      exact a_ireturn (ty := .boolean) hb hz dX1_term_59 hret (b2i_nb _) (by rw [hr]; exact Nat.le_of_ble_eq_true rfl) (by rw [hr]; exact Nat.le_of_ble_eq_true rfl) (⟨by rw [← h4]; rfl, by rw [← h4]; rfl⟩)
    | succ k ih =>
      intro i r hi h1 h2 h4
      show AW V 0 0 (lpH h lq cq r.2.1 (l ++ r.2.2.map encX)) 8 [(0, .ref lq), (1, .int 2), (2, .int (b2i (!r.1))), (3, .int (nI i))] []
      refine a_iload_n hb dX1_term_8 rfl 3 rfl ?_
      refine a_aload_n hb dX1_term_9 rfl 0 rfl ?_
      refine a_getQ (q := tq) hb dX1_term_10 (by rw [ow]; exact fl_RX1_32_1) (lp_k (h := h) (lq := lq) (cq := cq) (p := r.2.1) (l := (l ++ r.2.2.map encX)) t1) (lp_q (h := h) (lq := lq) (cq := cq) (p := r.2.1) (l := (l ++ r.2.2.map encX)) q0) ?_
      refine a_alenI (v := (nI n)) hb dX1_term_13 (lp_k (h := h) (lq := lq) (cq := cq) (p := r.2.1) (l := (l ++ r.2.2.map encX)) t2) (by decide) rfl ?_
      refine a_icmp_ge hb 58 dX1_term_14 (by decide) (fun c14 => absurd c14 (nI_ge (by omega) (by omega))) (fun c14 => ?_)
      refine a_iload_n hb dX1_term_17 rfl 2 rfl ?_
      refine a_if_eq hb 58 dX1_term_18 (by decide) (fun c18 => ?_) (fun c18 => ?_)
      · simp [b2i_0] at c18
        have rt : r.1 = true := by simpa using c18
        refine a_iload_n hb dX1_term_58 rfl 2 rfl ?_
        exact a_ireturn (ty := .boolean) hb hz dX1_term_59 hret (b2i_nb _) (by rw [hr]; exact Nat.le_of_ble_eq_true rfl) (by rw [hr]; exact Nat.le_of_ble_eq_true rfl) (⟨by rw [← h4, lpR_w rt], by rw [← h4, lpR_w rt]; rfl⟩)
      · simp [b2i_0] at c18
        have rf : r.1 = false := by simpa using c18
        refine a_aload_n hb dX1_term_21 rfl 0 rfl ?_
        refine a_bipush (v := 38) hb dX1_term_22 (by decide) ?_
        refine a_callV hb dX1_term_24 (by rw [hg]; exact l_take g h lq tq cq n t1 t2 t3 q0 q7 ne1 ne2 ne3 hn H hH hE r.2.1 (l ++ r.2.2.map encX) h1 38 (by decide)) (by rw [ow]; exact clv_RX1_43) (lp_k (h := h) (lq := lq) (cq := cq) (p := r.2.1) (l := (l ++ r.2.2.map encX)) t1) (by decide) rfl rfl rfl (Nat.le_of_ble_eq_true rfl) (by rw [hr]; exact ⟨by decide, by decide⟩) (by rw [hr]; exact ⟨Nat.le_of_ble_eq_true rfl, Nat.le_of_ble_eq_true rfl⟩) ?_
        intro rv h' hq_
        rw [hq_.1, hq_.2]
        clear hq_ rv h'
        by_cases tkr21 : H r.2.1 = 38
        · have lttkr21 : r.2.1 < n := H_c hE (by decide) tkr21
          rw [if_pos tkr21, decide_eq_true tkr21]
          show AW V 0 0 (lpH h lq cq (r.2.1 + 1) (l ++ r.2.2.map encX)) 27 [(0, .ref lq), (1, .int 2), (2, .int (b2i (!r.1))), (3, .int (nI i))] [.int 1]
          refine a_if_eq hb 58 dX1_term_27 (by decide) (fun c27 => absurd c27 (by decide)) (fun c27 => ?_)
          refine a_aload_n hb dX1_term_30 rfl 0 rfl ?_
          refine a_iload_n hb dX1_term_31 rfl 1 rfl ?_
          refine a_callV hb dX1_term_32 (by rw [hg]; exact l_fac3 g h lq tq cq n t1 t2 t3 q0 q7 ne1 ne2 ne3 hn H hH hE (r.2.1 + 1) (l ++ r.2.2.map encX) lttkr21 (Nat.le_succ_of_le h2)) (by rw [ow]; exact clv_RX1_94) (lp_k (h := h) (lq := lq) (cq := cq) (p := r.2.1 + 1) (l := (l ++ r.2.2.map encX)) t1) (by decide) rfl rfl rfl (Nat.le_of_ble_eq_true rfl) (by rw [hr]; exact ⟨by decide, by decide⟩) (by rw [hr]; exact ⟨Nat.le_of_ble_eq_true rfl, Nat.le_of_ble_eq_true rfl⟩) ?_
          intro rv h' hq_
          rw [hq_.1, hq_.2]
          clear hq_ rv h'
          have gd1_ := pF_gH hE 3 (r.2.1 + 1)
          generalize eQ1 : pF H 3 (r.2.1 + 1) = q1_ at gd1_ ⊢
          have hp1 := gd1_.2 lttkr21
          have hl1 := gdx gd1_ (Nat.le_succ_of_le h2)
          by_cases w1_ : q1_.1 = true
          · rw [w1_]
            show AW V 0 0 (lpH h lq cq q1_.2.1 ((l ++ r.2.2.map encX) ++ q1_.2.2.map encX)) 35 [(0, .ref lq), (1, .int 2), (2, .int (b2i (!r.1))), (3, .int (nI i))] [.int 0]
            refine a_if_eq hb 50 dX1_term_35 (by decide) (fun c35 => ?_) (fun c35 => absurd (by decide) c35)
            refine a_iconst (v := 0) hb dX1_term_50 (by decide) ?_
            refine a_istore_n (L' := [(2, .int 0), (0, .ref lq), (1, .int 2), (3, .int (nI i))]) hb dX1_term_51 rfl (by rw [hml]; decide) rfl ?_
            refine a_iinc (v := ((nI i) + 1)) (L' := [(3, .int ((nI i) + 1)), (2, .int 0), (0, .ref lq), (1, .int 2)]) hb dX1_term_52 3 rfl rfl (by rw [hml]; decide) rfl ?_
            refine a_goto hb 8 dX1_term_55 (by decide) ?_
            have hq4 := @lpR_s (pF H 3) H 38 (2, 0, 0, 0) k r _ rf tkr21 eQ1
            rw [h4] at hq4
            refine AW.sub (L' := [(0, .ref lq), (1, .int 2), (2, .int 0), (3, .int ((nI i) + 1))]) [2, 3, 1, 0] rfl ?_
            refine AW.eq (ih (i + 1) (q1_.1, q1_.2.1, r.2.2 ++ q1_.2.2 ++ if q1_.1 = true then [] else [(2, 0, 0, 0)]) (by omega) hp1 ?_ hq4.symm) (lpG_2w w1_) rfl (by rw [nI_1]; show _ = [(0, _), (1, _), (2, Value.int (b2i (!q1_.1))), (3, _)]; rw [w1_]; rfl) rfl
            show (l ++ List.map encX (r.2.2 ++ q1_.2.2 ++ if q1_.1 = true then [] else [(2, 0, 0, 0)])).length ≤ q1_.2.1
            have g1 := gdx1 gd1_ h2
            rw [List.length_append] at g1 ⊢
            rw [List.length_append, List.length_map] at g1
            rw [List.length_map, List.length_append, List.length_append]
            rw [List.length_map] at g1
            split <;> simp only [List.length_cons, List.length_nil] <;> omega
          have fw1_ : q1_.1 = false := by simpa using w1_
          rw [fw1_]
          show AW V 0 0 (lpH h lq cq q1_.2.1 ((l ++ r.2.2.map encX) ++ q1_.2.2.map encX)) 35 [(0, .ref lq), (1, .int 2), (2, .int (b2i (!r.1))), (3, .int (nI i))] [.int 1]
          refine a_if_eq hb 50 dX1_term_35 (by decide) (fun c35 => absurd c35 (by decide)) (fun c35 => ?_)
          refine a_aload_n hb dX1_term_38 rfl 0 rfl ?_
          refine a_iconst (v := (-1)) hb dX1_term_39 (by decide) ?_
          refine a_callV hb dX1_term_40 (by rw [hg]; exact l_emit g h lq tq cq n t1 t2 t3 q0 q7 ne1 ne2 ne3 hn H hH hE q1_.2.1 ((l ++ r.2.2.map encX) ++ q1_.2.2.map encX) hp1 (-1) (by have := gdx1 gd1_ h2; omega)) (by rw [ow]; exact clv_RX1_91) (lp_k (h := h) (lq := lq) (cq := cq) (p := q1_.2.1) (l := ((l ++ r.2.2.map encX) ++ q1_.2.2.map encX)) t1) (by decide) rfl rfl rfl (Nat.le_of_ble_eq_true rfl) (by rw [hr]; exact ⟨by decide, by decide⟩) (by rw [hr]; exact ⟨Nat.le_of_ble_eq_true rfl, Nat.le_of_ble_eq_true rfl⟩) ?_
          intro rv h' hq_
          rw [hq_.1, hq_.2]
          show AW V 0 0 (lpH h lq cq q1_.2.1 (((l ++ r.2.2.map encX) ++ q1_.2.2.map encX) ++ [(-1)])) 43 [(0, .ref lq), (1, .int 2), (2, .int (b2i (!r.1))), (3, .int (nI i))] [.int 1]
          refine a_if_eq hb 50 dX1_term_43 (by decide) (fun c43 => absurd c43 (by decide)) (fun c43 => ?_)
          refine a_iconst (v := 1) hb dX1_term_46 (by decide) ?_
          refine a_goto hb 51 dX1_term_47 (by decide) ?_
          refine a_istore_n (L' := [(2, .int 1), (0, .ref lq), (1, .int 2), (3, .int (nI i))]) hb dX1_term_51 rfl (by rw [hml]; decide) rfl ?_
          refine a_iinc (v := ((nI i) + 1)) (L' := [(3, .int ((nI i) + 1)), (2, .int 1), (0, .ref lq), (1, .int 2)]) hb dX1_term_52 3 rfl rfl (by rw [hml]; decide) rfl ?_
          refine a_goto hb 8 dX1_term_55 (by decide) ?_
          have hq4 := @lpR_s (pF H 3) H 38 (2, 0, 0, 0) k r _ rf tkr21 eQ1
          rw [h4] at hq4
          refine AW.sub (L' := [(0, .ref lq), (1, .int 2), (2, .int 1), (3, .int ((nI i) + 1))]) [2, 3, 1, 0] rfl ?_
          refine AW.eq (ih (i + 1) (q1_.1, q1_.2.1, r.2.2 ++ q1_.2.2 ++ if q1_.1 = true then [] else [(2, 0, 0, 0)]) (by omega) hp1 ?_ hq4.symm) (lpG_2s (s := (2, 0, 0, 0)) fw1_) rfl (by rw [nI_1]; show _ = [(0, _), (1, _), (2, Value.int (b2i (!q1_.1))), (3, _)]; rw [fw1_]; rfl) rfl
          show (l ++ List.map encX (r.2.2 ++ q1_.2.2 ++ if q1_.1 = true then [] else [(2, 0, 0, 0)])).length ≤ q1_.2.1
          have g1 := gdx1 gd1_ h2
          rw [List.length_append] at g1 ⊢
          rw [List.length_append, List.length_map] at g1
          rw [List.length_map, List.length_append, List.length_append]
          rw [List.length_map] at g1
          split <;> simp only [List.length_cons, List.length_nil] <;> omega
        rw [if_neg tkr21, decide_eq_false tkr21]
        show AW V 0 0 (lpH h lq cq r.2.1 (l ++ r.2.2.map encX)) 27 [(0, .ref lq), (1, .int 2), (2, .int (b2i (!r.1))), (3, .int (nI i))] [.int 0]
        refine a_if_eq hb 58 dX1_term_27 (by decide) (fun c27 => ?_) (fun c27 => absurd (by decide) c27)
        refine a_iload_n hb dX1_term_58 rfl 2 rfl ?_
        exact a_ireturn (ty := .boolean) hb hz dX1_term_59 hret (b2i_nb _) (by rw [hr]; exact Nat.le_of_ble_eq_true rfl) (by rw [hr]; exact Nat.le_of_ble_eq_true rfl) (⟨by rw [← h4, lpR_n tkr21], by rw [← h4, lpR_n tkr21]; rfl⟩)
  refine a_aload_n hb dX1_term_0 rfl 0 rfl ?_
  refine a_iload_n hb dX1_term_1 rfl 1 rfl ?_
  refine a_callV hb dX1_term_2 (by rw [hg]; exact l_fac3 g h lq tq cq n t1 t2 t3 q0 q7 ne1 ne2 ne3 hn H hH hE p l hp hll) (by rw [ow]; exact clv_RX1_94) (lp_k (h := h) (lq := lq) (cq := cq) (p := p) (l := l) t1) (by decide) rfl rfl rfl (Nat.le_of_ble_eq_true rfl) (by rw [hr]; exact ⟨by decide, by decide⟩) (by rw [hr]; exact ⟨Nat.le_of_ble_eq_true rfl, Nat.le_of_ble_eq_true rfl⟩) ?_
  intro rv h' hq_
  rw [hq_.1, hq_.2]
  clear hq_ rv h'
  have gd1_ := pF_gH hE 3 p
  generalize eQ1 : pF H 3 p = q1_ at gd1_ ⊢
  have hp1 := gd1_.2 hp
  have hl1 := gdx gd1_ hll
  show AW V 0 0 (lpH h lq cq q1_.2.1 (l ++ q1_.2.2.map encX)) 5 [(0, .ref lq), (1, .int 2)] [.int (b2i (!q1_.1))]
  refine a_istore_n (L' := [(2, .int (b2i (!q1_.1))), (0, .ref lq), (1, .int 2)]) hb dX1_term_5 rfl (by rw [hml]; decide) rfl ?_
  refine a_iconst (v := 0) hb dX1_term_6 (by decide) ?_
  refine a_istore_n (L' := [(3, .int 0), (2, .int (b2i (!q1_.1))), (0, .ref lq), (1, .int 2)]) hb dX1_term_7 rfl (by rw [hml]; decide) rfl ?_
  refine AW.sub (L' := [(0, .ref lq), (1, .int 2), (2, .int (b2i (!q1_.1))), (3, .int 0)]) [2, 3, 1, 0] rfl ?_
  exact loop n 0 q1_ (by omega) hp1 hl1 ((pV_x (gd_p (pF_gH hE 3)) hE hn eQ1).trans hR)
set_option maxRecDepth 100000 in
theorem l_exp3 (g : GG) (h : AH) (lq tq cq n : Nat) (t1 : hT h lq = (1, 0)) (t2 : hT h tq = (13, n)) (t3 : hT h cq = (14, n)) (q0 : hQ h lq 0 = some tq) (q7 : hQ h lq 7 = some cq) (ne1 : lq ≠ cq) (ne2 : tq ≠ lq) (ne3 : tq ≠ cq) (hn : n ≤ 120) (H : Nat → Int32) (hH : ∀ p, p < n → hI h tq p = bx (H p) ∧ oO (H p) 0 255 = false) (hE : ∀ p, n ≤ p → H p = -1) (p : Nat) (l : List Int32) (hp : p ≤ n) (hll : l.length ≤ p) : AM g 20 0 0 mX1_expression [.ref lq, .int 2] (lpH h lq cq p l) (fun rv h' => rv = some (.int (b2i (!(pE (pF H 3) H p).1))) ∧ h' = lpG h lq cq l (pE (pF H 3) H p)) := by
  refine AM.of [(0, .ref lq), (1, .int 2)] (by decide) (Nat.le_of_ble_eq_true rfl) rfl ?_
  intro V hV
  have hb : V.2.1.2.1 = cX1_expression := by subst hV; rfl
  have ow : V.2.1.1.cls = RX1 := by subst hV; rfl
  have hr : V.2.2.1 = aw_rm 20 0 0 := by subst hV; rfl
  have hz : V.2.2.2 = aw_Z V.1 (fun rv h' => rv = some (.int (b2i (!(pE (pF H 3) H p).1))) ∧ h' = lpG h lq cq l (pE (pF H 3) H p)) V.2.2.1 := by subst hV; rfl
  have hg : V.1 = g := by subst hV; rfl
  have hret : V.2.1.2.2.2 = (some .boolean) := by subst hV; rfl
  have hml : V.2.1.2.2.1 = 4 := by subst hV; rfl
  clear hV
  generalize hR : pE (pF H 3) H p = R at hz
  have loop : ∀ (k i : Nat) (r : PR), i + k = n → r.2.1 ≤ n → (l ++ r.2.2.map encX).length ≤ r.2.1 → lpR (pV (pF H 3) H) H 124 (3, 0, 0, 0) k r = R → AW V 0 0 (lpG h lq cq l r) 8 [(0, .ref lq), (1, .int 2), (2, .int (b2i (!r.1))), (3, .int (nI i))] [] := by
    intro k
    induction k with
    | zero =>
      intro i r hi h1 h2 h4
      show AW V 0 0 (lpH h lq cq r.2.1 (l ++ r.2.2.map encX)) 8 [(0, .ref lq), (1, .int 2), (2, .int (b2i (!r.1))), (3, .int (nI i))] []
      refine a_iload_n hb dX1_expression_8 rfl 3 rfl ?_
      refine a_aload_n hb dX1_expression_9 rfl 0 rfl ?_
      refine a_getQ (q := tq) hb dX1_expression_10 (by rw [ow]; exact fl_RX1_32_1) (lp_k (h := h) (lq := lq) (cq := cq) (p := r.2.1) (l := (l ++ r.2.2.map encX)) t1) (lp_q (h := h) (lq := lq) (cq := cq) (p := r.2.1) (l := (l ++ r.2.2.map encX)) q0) ?_
      refine a_alenI (v := (nI n)) hb dX1_expression_13 (lp_k (h := h) (lq := lq) (cq := cq) (p := r.2.1) (l := (l ++ r.2.2.map encX)) t2) (by decide) rfl ?_
      refine a_icmp_ge hb 59 dX1_expression_14 (by decide) (fun c14 => ?_) (fun c14 => absurd (nI_le (by omega) (by omega)) c14)
      refine a_iload_n hb dX1_expression_59 rfl 2 rfl ?_
      exact a_ireturn (ty := .boolean) hb hz dX1_expression_60 hret (b2i_nb _) (by rw [hr]; exact Nat.le_of_ble_eq_true rfl) (by rw [hr]; exact Nat.le_of_ble_eq_true rfl) (⟨by rw [← h4]; rfl, by rw [← h4]; rfl⟩)
    | succ k ih =>
      intro i r hi h1 h2 h4
      show AW V 0 0 (lpH h lq cq r.2.1 (l ++ r.2.2.map encX)) 8 [(0, .ref lq), (1, .int 2), (2, .int (b2i (!r.1))), (3, .int (nI i))] []
      refine a_iload_n hb dX1_expression_8 rfl 3 rfl ?_
      refine a_aload_n hb dX1_expression_9 rfl 0 rfl ?_
      refine a_getQ (q := tq) hb dX1_expression_10 (by rw [ow]; exact fl_RX1_32_1) (lp_k (h := h) (lq := lq) (cq := cq) (p := r.2.1) (l := (l ++ r.2.2.map encX)) t1) (lp_q (h := h) (lq := lq) (cq := cq) (p := r.2.1) (l := (l ++ r.2.2.map encX)) q0) ?_
      refine a_alenI (v := (nI n)) hb dX1_expression_13 (lp_k (h := h) (lq := lq) (cq := cq) (p := r.2.1) (l := (l ++ r.2.2.map encX)) t2) (by decide) rfl ?_
      refine a_icmp_ge hb 59 dX1_expression_14 (by decide) (fun c14 => absurd c14 (nI_ge (by omega) (by omega))) (fun c14 => ?_)
      refine a_iload_n hb dX1_expression_17 rfl 2 rfl ?_
      refine a_if_eq hb 59 dX1_expression_18 (by decide) (fun c18 => ?_) (fun c18 => ?_)
      · simp [b2i_0] at c18
        have rt : r.1 = true := by simpa using c18
        refine a_iload_n hb dX1_expression_59 rfl 2 rfl ?_
        exact a_ireturn (ty := .boolean) hb hz dX1_expression_60 hret (b2i_nb _) (by rw [hr]; exact Nat.le_of_ble_eq_true rfl) (by rw [hr]; exact Nat.le_of_ble_eq_true rfl) (⟨by rw [← h4, lpR_w rt], by rw [← h4, lpR_w rt]; rfl⟩)
      · simp [b2i_0] at c18
        have rf : r.1 = false := by simpa using c18
        refine a_aload_n hb dX1_expression_21 rfl 0 rfl ?_
        refine a_bipush (v := 124) hb dX1_expression_22 (by decide) ?_
        refine a_callV hb dX1_expression_24 (by rw [hg]; exact l_take g h lq tq cq n t1 t2 t3 q0 q7 ne1 ne2 ne3 hn H hH hE r.2.1 (l ++ r.2.2.map encX) h1 124 (by decide)) (by rw [ow]; exact clv_RX1_43) (lp_k (h := h) (lq := lq) (cq := cq) (p := r.2.1) (l := (l ++ r.2.2.map encX)) t1) (by decide) rfl rfl rfl (Nat.le_of_ble_eq_true rfl) (by rw [hr]; exact ⟨by decide, by decide⟩) (by rw [hr]; exact ⟨Nat.le_of_ble_eq_true rfl, Nat.le_of_ble_eq_true rfl⟩) ?_
        intro rv h' hq_
        rw [hq_.1, hq_.2]
        clear hq_ rv h'
        by_cases tkr21 : H r.2.1 = 124
        · have lttkr21 : r.2.1 < n := H_c hE (by decide) tkr21
          rw [if_pos tkr21, decide_eq_true tkr21]
          show AW V 0 0 (lpH h lq cq (r.2.1 + 1) (l ++ r.2.2.map encX)) 27 [(0, .ref lq), (1, .int 2), (2, .int (b2i (!r.1))), (3, .int (nI i))] [.int 1]
          refine a_if_eq hb 59 dX1_expression_27 (by decide) (fun c27 => absurd c27 (by decide)) (fun c27 => ?_)
          refine a_aload_n hb dX1_expression_30 rfl 0 rfl ?_
          refine a_iload_n hb dX1_expression_31 rfl 1 rfl ?_
          refine a_callV hb dX1_expression_32 (by rw [hg]; exact l_ter3 g h lq tq cq n t1 t2 t3 q0 q7 ne1 ne2 ne3 hn H hH hE (r.2.1 + 1) (l ++ r.2.2.map encX) lttkr21 (Nat.le_succ_of_le h2)) (by rw [ow]; exact clv_RX1_88) (lp_k (h := h) (lq := lq) (cq := cq) (p := r.2.1 + 1) (l := (l ++ r.2.2.map encX)) t1) (by decide) rfl rfl rfl (Nat.le_of_ble_eq_true rfl) (by rw [hr]; exact ⟨by decide, by decide⟩) (by rw [hr]; exact ⟨Nat.le_of_ble_eq_true rfl, Nat.le_of_ble_eq_true rfl⟩) ?_
          intro rv h' hq_
          rw [hq_.1, hq_.2]
          clear hq_ rv h'
          have gd1_ := pV_gH hE 3 (r.2.1 + 1)
          generalize eQ1 : pV (pF H 3) H (r.2.1 + 1) = q1_ at gd1_ ⊢
          have hp1 := gd1_.2 lttkr21
          have hl1 := gdx gd1_ (Nat.le_succ_of_le h2)
          by_cases w1_ : q1_.1 = true
          · rw [w1_]
            show AW V 0 0 (lpH h lq cq q1_.2.1 ((l ++ r.2.2.map encX) ++ q1_.2.2.map encX)) 35 [(0, .ref lq), (1, .int 2), (2, .int (b2i (!r.1))), (3, .int (nI i))] [.int 0]
            refine a_if_eq hb 51 dX1_expression_35 (by decide) (fun c35 => ?_) (fun c35 => absurd (by decide) c35)
            refine a_iconst (v := 0) hb dX1_expression_51 (by decide) ?_
            refine a_istore_n (L' := [(2, .int 0), (0, .ref lq), (1, .int 2), (3, .int (nI i))]) hb dX1_expression_52 rfl (by rw [hml]; decide) rfl ?_
            refine a_iinc (v := ((nI i) + 1)) (L' := [(3, .int ((nI i) + 1)), (2, .int 0), (0, .ref lq), (1, .int 2)]) hb dX1_expression_53 3 rfl rfl (by rw [hml]; decide) rfl ?_
            refine a_goto hb 8 dX1_expression_56 (by decide) ?_
            have hq4 := @lpR_s (pV (pF H 3) H) H 124 (3, 0, 0, 0) k r _ rf tkr21 eQ1
            rw [h4] at hq4
            refine AW.sub (L' := [(0, .ref lq), (1, .int 2), (2, .int 0), (3, .int ((nI i) + 1))]) [2, 3, 1, 0] rfl ?_
            refine AW.eq (ih (i + 1) (q1_.1, q1_.2.1, r.2.2 ++ q1_.2.2 ++ if q1_.1 = true then [] else [(3, 0, 0, 0)]) (by omega) hp1 ?_ hq4.symm) (lpG_2w w1_) rfl (by rw [nI_1]; show _ = [(0, _), (1, _), (2, Value.int (b2i (!q1_.1))), (3, _)]; rw [w1_]; rfl) rfl
            show (l ++ List.map encX (r.2.2 ++ q1_.2.2 ++ if q1_.1 = true then [] else [(3, 0, 0, 0)])).length ≤ q1_.2.1
            have g1 := gdx1 gd1_ h2
            rw [List.length_append] at g1 ⊢
            rw [List.length_append, List.length_map] at g1
            rw [List.length_map, List.length_append, List.length_append]
            rw [List.length_map] at g1
            split <;> simp only [List.length_cons, List.length_nil] <;> omega
          have fw1_ : q1_.1 = false := by simpa using w1_
          rw [fw1_]
          show AW V 0 0 (lpH h lq cq q1_.2.1 ((l ++ r.2.2.map encX) ++ q1_.2.2.map encX)) 35 [(0, .ref lq), (1, .int 2), (2, .int (b2i (!r.1))), (3, .int (nI i))] [.int 1]
          refine a_if_eq hb 51 dX1_expression_35 (by decide) (fun c35 => absurd c35 (by decide)) (fun c35 => ?_)
          refine a_aload_n hb dX1_expression_38 rfl 0 rfl ?_
          refine a_bipush (v := (-2)) hb dX1_expression_39 (by decide) ?_
          refine a_callV hb dX1_expression_41 (by rw [hg]; exact l_emit g h lq tq cq n t1 t2 t3 q0 q7 ne1 ne2 ne3 hn H hH hE q1_.2.1 ((l ++ r.2.2.map encX) ++ q1_.2.2.map encX) hp1 (-2) (by have := gdx1 gd1_ h2; omega)) (by rw [ow]; exact clv_RX1_91) (lp_k (h := h) (lq := lq) (cq := cq) (p := q1_.2.1) (l := ((l ++ r.2.2.map encX) ++ q1_.2.2.map encX)) t1) (by decide) rfl rfl rfl (Nat.le_of_ble_eq_true rfl) (by rw [hr]; exact ⟨by decide, by decide⟩) (by rw [hr]; exact ⟨Nat.le_of_ble_eq_true rfl, Nat.le_of_ble_eq_true rfl⟩) ?_
          intro rv h' hq_
          rw [hq_.1, hq_.2]
          show AW V 0 0 (lpH h lq cq q1_.2.1 (((l ++ r.2.2.map encX) ++ q1_.2.2.map encX) ++ [(-2)])) 44 [(0, .ref lq), (1, .int 2), (2, .int (b2i (!r.1))), (3, .int (nI i))] [.int 1]
          refine a_if_eq hb 51 dX1_expression_44 (by decide) (fun c44 => absurd c44 (by decide)) (fun c44 => ?_)
          refine a_iconst (v := 1) hb dX1_expression_47 (by decide) ?_
          refine a_goto hb 52 dX1_expression_48 (by decide) ?_
          refine a_istore_n (L' := [(2, .int 1), (0, .ref lq), (1, .int 2), (3, .int (nI i))]) hb dX1_expression_52 rfl (by rw [hml]; decide) rfl ?_
          refine a_iinc (v := ((nI i) + 1)) (L' := [(3, .int ((nI i) + 1)), (2, .int 1), (0, .ref lq), (1, .int 2)]) hb dX1_expression_53 3 rfl rfl (by rw [hml]; decide) rfl ?_
          refine a_goto hb 8 dX1_expression_56 (by decide) ?_
          have hq4 := @lpR_s (pV (pF H 3) H) H 124 (3, 0, 0, 0) k r _ rf tkr21 eQ1
          rw [h4] at hq4
          refine AW.sub (L' := [(0, .ref lq), (1, .int 2), (2, .int 1), (3, .int ((nI i) + 1))]) [2, 3, 1, 0] rfl ?_
          refine AW.eq (ih (i + 1) (q1_.1, q1_.2.1, r.2.2 ++ q1_.2.2 ++ if q1_.1 = true then [] else [(3, 0, 0, 0)]) (by omega) hp1 ?_ hq4.symm) (lpG_2s (s := (3, 0, 0, 0)) fw1_) rfl (by rw [nI_1]; show _ = [(0, _), (1, _), (2, Value.int (b2i (!q1_.1))), (3, _)]; rw [fw1_]; rfl) rfl
          show (l ++ List.map encX (r.2.2 ++ q1_.2.2 ++ if q1_.1 = true then [] else [(3, 0, 0, 0)])).length ≤ q1_.2.1
          have g1 := gdx1 gd1_ h2
          rw [List.length_append] at g1 ⊢
          rw [List.length_append, List.length_map] at g1
          rw [List.length_map, List.length_append, List.length_append]
          rw [List.length_map] at g1
          split <;> simp only [List.length_cons, List.length_nil] <;> omega
        rw [if_neg tkr21, decide_eq_false tkr21]
        show AW V 0 0 (lpH h lq cq r.2.1 (l ++ r.2.2.map encX)) 27 [(0, .ref lq), (1, .int 2), (2, .int (b2i (!r.1))), (3, .int (nI i))] [.int 0]
        refine a_if_eq hb 59 dX1_expression_27 (by decide) (fun c27 => ?_) (fun c27 => absurd (by decide) c27)
        refine a_iload_n hb dX1_expression_59 rfl 2 rfl ?_
        exact a_ireturn (ty := .boolean) hb hz dX1_expression_60 hret (b2i_nb _) (by rw [hr]; exact Nat.le_of_ble_eq_true rfl) (by rw [hr]; exact Nat.le_of_ble_eq_true rfl) (⟨by rw [← h4, lpR_n tkr21], by rw [← h4, lpR_n tkr21]; rfl⟩)
  refine a_aload_n hb dX1_expression_0 rfl 0 rfl ?_
  refine a_iload_n hb dX1_expression_1 rfl 1 rfl ?_
  refine a_callV hb dX1_expression_2 (by rw [hg]; exact l_ter3 g h lq tq cq n t1 t2 t3 q0 q7 ne1 ne2 ne3 hn H hH hE p l hp hll) (by rw [ow]; exact clv_RX1_88) (lp_k (h := h) (lq := lq) (cq := cq) (p := p) (l := l) t1) (by decide) rfl rfl rfl (Nat.le_of_ble_eq_true rfl) (by rw [hr]; exact ⟨by decide, by decide⟩) (by rw [hr]; exact ⟨Nat.le_of_ble_eq_true rfl, Nat.le_of_ble_eq_true rfl⟩) ?_
  intro rv h' hq_
  rw [hq_.1, hq_.2]
  clear hq_ rv h'
  have gd1_ := pV_gH hE 3 p
  generalize eQ1 : pV (pF H 3) H p = q1_ at gd1_ ⊢
  have hp1 := gd1_.2 hp
  have hl1 := gdx gd1_ hll
  show AW V 0 0 (lpH h lq cq q1_.2.1 (l ++ q1_.2.2.map encX)) 5 [(0, .ref lq), (1, .int 2)] [.int (b2i (!q1_.1))]
  refine a_istore_n (L' := [(2, .int (b2i (!q1_.1))), (0, .ref lq), (1, .int 2)]) hb dX1_expression_5 rfl (by rw [hml]; decide) rfl ?_
  refine a_iconst (v := 0) hb dX1_expression_6 (by decide) ?_
  refine a_istore_n (L' := [(3, .int 0), (2, .int (b2i (!q1_.1))), (0, .ref lq), (1, .int 2)]) hb dX1_expression_7 rfl (by rw [hml]; decide) rfl ?_
  refine AW.sub (L' := [(0, .ref lq), (1, .int 2), (2, .int (b2i (!q1_.1))), (3, .int 0)]) [2, 3, 1, 0] rfl ?_
  exact loop n 0 q1_ (by omega) hp1 hl1 ((pE_x (gd_p (pV_gH hE 3)) hE hn eQ1).trans hR)
set_option maxRecDepth 100000 in
theorem l_fac4 (g : GG) (h : AH) (lq tq cq n : Nat) (t1 : hT h lq = (1, 0)) (t2 : hT h tq = (13, n)) (t3 : hT h cq = (14, n)) (q0 : hQ h lq 0 = some tq) (q7 : hQ h lq 7 = some cq) (ne1 : lq ≠ cq) (ne2 : tq ≠ lq) (ne3 : tq ≠ cq) (hn : n ≤ 120) (H : Nat → Int32) (hH : ∀ p, p < n → hI h tq p = bx (H p) ∧ oO (H p) 0 255 = false) (hE : ∀ p, n ≤ p → H p = -1) (p : Nat) (l : List Int32) (hp : p ≤ n) (hll : l.length ≤ p) : AM g 21 0 0 mX1_factor [.ref lq, .int 1] (lpH h lq cq p l) (fun rv h' => rv = some (.int (b2i (!(pF H 4 p).1))) ∧ h' = lpG h lq cq l (pF H 4 p)) := by
  refine AM.of [(0, .ref lq), (1, .int 1)] (by decide) (Nat.le_of_ble_eq_true rfl) rfl ?_
  intro V hV
  have hb : V.2.1.2.1 = cX1_factor := by subst hV; rfl
  have ow : V.2.1.1.cls = RX1 := by subst hV; rfl
  have hr : V.2.2.1 = aw_rm 21 0 0 := by subst hV; rfl
  have hz : V.2.2.2 = aw_Z V.1 (fun rv h' => rv = some (.int (b2i (!(pF H 4 p).1))) ∧ h' = lpG h lq cq l (pF H 4 p)) V.2.2.1 := by subst hV; rfl
  have hg : V.1 = g := by subst hV; rfl
  have hret : V.2.1.2.2.2 = (some .boolean) := by subst hV; rfl
  have hml : V.2.1.2.2.1 = 2 := by subst hV; rfl
  clear hV
  refine a_aload_n hb dX1_factor_0 rfl 0 rfl ?_
  refine a_bipush (v := 33) hb dX1_factor_1 (by decide) ?_
  refine a_callV hb dX1_factor_3 (by rw [hg]; exact l_next g h lq tq cq n t1 t2 t3 q0 q7 ne1 ne2 ne3 hn H hH hE p l hp 33 (by decide)) (by rw [ow]; exact clv_RX1_65) (lp_k (h := h) (lq := lq) (cq := cq) (p := p) (l := l) t1) (by decide) rfl rfl rfl (Nat.le_of_ble_eq_true rfl) (by rw [hr]; exact ⟨by decide, by decide⟩) (by rw [hr]; exact ⟨Nat.le_of_ble_eq_true rfl, Nat.le_of_ble_eq_true rfl⟩) ?_
  intro rv h' hq_
  rw [hq_.1, hq_.2]
  clear hq_ rv h'
  by_cases nx33 : H p = 33
  · rw [decide_eq_true nx33]
    show AW V 0 0 (lpH h lq cq p l) 6 [(0, .ref lq), (1, .int 1)] [.int 1]
    refine a_if_ne hb 23 dX1_factor_6 (by decide) (fun c6 => ?_) (fun c6 => absurd c6 (by decide))
    refine a_iload_n hb dX1_factor_23 rfl 1 rfl ?_
    refine a_iconst (v := 5) hb dX1_factor_24 (by decide) ?_
    refine a_icmp_lt hb 30 dX1_factor_25 (by decide) (fun c25 => ?_) (fun c25 => absurd (by decide) c25)
    refine a_aload_n hb dX1_factor_30 rfl 0 rfl ?_
    refine a_bipush (v := 33) hb dX1_factor_31 (by decide) ?_
    refine a_callV hb dX1_factor_33 (by rw [hg]; exact l_take g h lq tq cq n t1 t2 t3 q0 q7 ne1 ne2 ne3 hn H hH hE p l hp 33 (by decide)) (by rw [ow]; exact clv_RX1_43) (lp_k (h := h) (lq := lq) (cq := cq) (p := p) (l := l) t1) (by decide) rfl rfl rfl (Nat.le_of_ble_eq_true rfl) (by rw [hr]; exact ⟨by decide, by decide⟩) (by rw [hr]; exact ⟨Nat.le_of_ble_eq_true rfl, Nat.le_of_ble_eq_true rfl⟩) ?_
    intro rv h' hq_
    rw [hq_.1, hq_.2]
    clear hq_ rv h'
    have ltnx33 : p < n := H_c hE (by decide) nx33
    rw [if_pos nx33, decide_eq_true nx33]
    show AW V 0 0 (lpH h lq cq (p + 1) l) 36 [(0, .ref lq), (1, .int 1)] [.int 1]
    refine a_if_eq hb 64 dX1_factor_36 (by decide) (fun c36 => absurd c36 (by decide)) (fun c36 => ?_)
    refine a_aload_n hb dX1_factor_39 rfl 0 rfl ?_
    refine a_iload_n hb dX1_factor_40 rfl 1 rfl ?_
    refine a_iconst (v := 1) hb dX1_factor_41 (by decide) ?_
    refine a_iadd hb dX1_factor_42 ?_
    rw [show (1 : Int32) + 1 = 2 from by decide]
    show AW V 0 0 (lpH h lq cq (p + 1) l) 43 [(0, .ref lq), (1, .int 1)] [.int 2, .ref lq]
    refine a_callV hb dX1_factor_43 (by rw [hg]; exact l_fac3 g h lq tq cq n t1 t2 t3 q0 q7 ne1 ne2 ne3 hn H hH hE (p + 1) l ltnx33 (Nat.le_succ_of_le hll)) (by rw [ow]; exact clv_RX1_94) (lp_k (h := h) (lq := lq) (cq := cq) (p := p + 1) (l := l) t1) (by decide) rfl rfl rfl (Nat.le_of_ble_eq_true rfl) (by rw [hr]; exact ⟨by decide, by decide⟩) (by rw [hr]; exact ⟨Nat.le_of_ble_eq_true rfl, Nat.le_of_ble_eq_true rfl⟩) ?_
    intro rv h' hq_
    rw [hq_.1, hq_.2]
    clear hq_ rv h'
    have gd1_ := pF_gH hE 3 (p + 1)
    generalize eQ1 : pF H 3 (p + 1) = q1_ at gd1_ ⊢
    have hp1 := gd1_.2 ltnx33
    have hl1 := gdx gd1_ (Nat.le_succ_of_le hll)
    by_cases w1_ : q1_.1 = true
    · rw [w1_]
      show AW V 0 0 (lpH h lq cq q1_.2.1 (l ++ q1_.2.2.map encX)) 46 [(0, .ref lq), (1, .int 1)] [.int 0]
      refine a_if_eq hb 62 dX1_factor_46 (by decide) (fun c46 => ?_) (fun c46 => absurd (by decide) c46)
      refine a_iconst (v := 0) hb dX1_factor_62 (by decide) ?_
      exact a_ireturn (ty := .boolean) hb hz dX1_factor_63 hret (by first | rfl | (simp only [narrow]; done) | exact aw_nb _) (by rw [hr]; exact Nat.le_of_ble_eq_true rfl) (by rw [hr]; exact Nat.le_of_ble_eq_true rfl) (⟨by rw [pF_n nx33 eQ1, w1_]; rfl, by rw [pF_n nx33 eQ1]; exact lpG_w w1_⟩)
    have fw1_ : q1_.1 = false := by simpa using w1_
    rw [fw1_]
    show AW V 0 0 (lpH h lq cq q1_.2.1 (l ++ q1_.2.2.map encX)) 46 [(0, .ref lq), (1, .int 1)] [.int 1]
    refine a_if_eq hb 62 dX1_factor_46 (by decide) (fun c46 => absurd c46 (by decide)) (fun c46 => ?_)
    refine a_aload_n hb dX1_factor_49 rfl 0 rfl ?_
    refine a_bipush (v := (-3)) hb dX1_factor_50 (by decide) ?_
    refine a_callV hb dX1_factor_52 (by rw [hg]; exact l_emit g h lq tq cq n t1 t2 t3 q0 q7 ne1 ne2 ne3 hn H hH hE q1_.2.1 (l ++ q1_.2.2.map encX) hp1 (-3) (by have := gdx1 gd1_ hll; omega)) (by rw [ow]; exact clv_RX1_91) (lp_k (h := h) (lq := lq) (cq := cq) (p := q1_.2.1) (l := (l ++ q1_.2.2.map encX)) t1) (by decide) rfl rfl rfl (Nat.le_of_ble_eq_true rfl) (by rw [hr]; exact ⟨by decide, by decide⟩) (by rw [hr]; exact ⟨Nat.le_of_ble_eq_true rfl, Nat.le_of_ble_eq_true rfl⟩) ?_
    intro rv h' hq_
    rw [hq_.1, hq_.2]
    show AW V 0 0 (lpH h lq cq q1_.2.1 ((l ++ q1_.2.2.map encX) ++ [(-3)])) 55 [(0, .ref lq), (1, .int 1)] [.int 1]
    refine a_if_eq hb 62 dX1_factor_55 (by decide) (fun c55 => absurd c55 (by decide)) (fun c55 => ?_)
    refine a_iconst (v := 1) hb dX1_factor_58 (by decide) ?_
    refine a_goto hb 63 dX1_factor_59 (by decide) ?_
    exact a_ireturn (ty := .boolean) hb hz dX1_factor_63 hret (by first | rfl | (simp only [narrow]; done) | exact aw_nb _) (by rw [hr]; exact Nat.le_of_ble_eq_true rfl) (by rw [hr]; exact Nat.le_of_ble_eq_true rfl) (⟨by rw [pF_n nx33 eQ1, fw1_]; rfl, by rw [pF_n nx33 eQ1]; exact lpG_s (s := (1, 0, 0, 0)) fw1_⟩)
  rw [decide_eq_false nx33]
  show AW V 0 0 (lpH h lq cq p l) 6 [(0, .ref lq), (1, .int 1)] [.int 0]
  refine a_if_ne hb 23 dX1_factor_6 (by decide) (fun c6 => absurd c6 (by decide)) (fun c6 => ?_)
  refine a_aload_n hb dX1_factor_9 rfl 0 rfl ?_
  refine a_bipush (v := 40) hb dX1_factor_10 (by decide) ?_
  refine a_callV hb dX1_factor_12 (by rw [hg]; exact l_next g h lq tq cq n t1 t2 t3 q0 q7 ne1 ne2 ne3 hn H hH hE p l hp 40 (by decide)) (by rw [ow]; exact clv_RX1_65) (lp_k (h := h) (lq := lq) (cq := cq) (p := p) (l := l) t1) (by decide) rfl rfl rfl (Nat.le_of_ble_eq_true rfl) (by rw [hr]; exact ⟨by decide, by decide⟩) (by rw [hr]; exact ⟨Nat.le_of_ble_eq_true rfl, Nat.le_of_ble_eq_true rfl⟩) ?_
  intro rv h' hq_
  rw [hq_.1, hq_.2]
  clear hq_ rv h'
  by_cases nx40 : H p = 40
  · rw [decide_eq_true nx40]
    show AW V 0 0 (lpH h lq cq p l) 15 [(0, .ref lq), (1, .int 1)] [.int 1]
    refine a_if_ne hb 23 dX1_factor_15 (by decide) (fun c15 => ?_) (fun c15 => absurd c15 (by decide))
    refine a_iload_n hb dX1_factor_23 rfl 1 rfl ?_
    refine a_iconst (v := 5) hb dX1_factor_24 (by decide) ?_
    refine a_icmp_lt hb 30 dX1_factor_25 (by decide) (fun c25 => ?_) (fun c25 => absurd (by decide) c25)
    refine a_aload_n hb dX1_factor_30 rfl 0 rfl ?_
    refine a_bipush (v := 33) hb dX1_factor_31 (by decide) ?_
    refine a_callV hb dX1_factor_33 (by rw [hg]; exact l_take g h lq tq cq n t1 t2 t3 q0 q7 ne1 ne2 ne3 hn H hH hE p l hp 33 (by decide)) (by rw [ow]; exact clv_RX1_43) (lp_k (h := h) (lq := lq) (cq := cq) (p := p) (l := l) t1) (by decide) rfl rfl rfl (Nat.le_of_ble_eq_true rfl) (by rw [hr]; exact ⟨by decide, by decide⟩) (by rw [hr]; exact ⟨Nat.le_of_ble_eq_true rfl, Nat.le_of_ble_eq_true rfl⟩) ?_
    intro rv h' hq_
    rw [hq_.1, hq_.2]
    clear hq_ rv h'
    rw [if_neg nx33, decide_eq_false nx33]
    show AW V 0 0 (lpH h lq cq p l) 36 [(0, .ref lq), (1, .int 1)] [.int 0]
    refine a_if_eq hb 64 dX1_factor_36 (by decide) (fun c36 => ?_) (fun c36 => absurd (by decide) c36)
    refine a_aload_n hb dX1_factor_64 rfl 0 rfl ?_
    refine a_bipush (v := 40) hb dX1_factor_65 (by decide) ?_
    refine a_callV hb dX1_factor_67 (by rw [hg]; exact l_take g h lq tq cq n t1 t2 t3 q0 q7 ne1 ne2 ne3 hn H hH hE p l hp 40 (by decide)) (by rw [ow]; exact clv_RX1_43) (lp_k (h := h) (lq := lq) (cq := cq) (p := p) (l := l) t1) (by decide) rfl rfl rfl (Nat.le_of_ble_eq_true rfl) (by rw [hr]; exact ⟨by decide, by decide⟩) (by rw [hr]; exact ⟨Nat.le_of_ble_eq_true rfl, Nat.le_of_ble_eq_true rfl⟩) ?_
    intro rv h' hq_
    rw [hq_.1, hq_.2]
    clear hq_ rv h'
    have ltnx40 : p < n := H_c hE (by decide) nx40
    rw [if_pos nx40, decide_eq_true nx40]
    show AW V 0 0 (lpH h lq cq (p + 1) l) 70 [(0, .ref lq), (1, .int 1)] [.int 1]
    refine a_if_eq hb 96 dX1_factor_70 (by decide) (fun c70 => absurd c70 (by decide)) (fun c70 => ?_)
    refine a_aload_n hb dX1_factor_73 rfl 0 rfl ?_
    refine a_iload_n hb dX1_factor_74 rfl 1 rfl ?_
    refine a_iconst (v := 1) hb dX1_factor_75 (by decide) ?_
    refine a_iadd hb dX1_factor_76 ?_
    rw [show (1 : Int32) + 1 = 2 from by decide]
    show AW V 0 0 (lpH h lq cq (p + 1) l) 77 [(0, .ref lq), (1, .int 1)] [.int 2, .ref lq]
    refine a_callV hb dX1_factor_77 (by rw [hg]; exact l_exp3 g h lq tq cq n t1 t2 t3 q0 q7 ne1 ne2 ne3 hn H hH hE (p + 1) l ltnx40 (Nat.le_succ_of_le hll)) (by rw [ow]; exact clv_RX1_85) (lp_k (h := h) (lq := lq) (cq := cq) (p := p + 1) (l := l) t1) (by decide) rfl rfl rfl (Nat.le_of_ble_eq_true rfl) (by rw [hr]; exact ⟨by decide, by decide⟩) (by rw [hr]; exact ⟨Nat.le_of_ble_eq_true rfl, Nat.le_of_ble_eq_true rfl⟩) ?_
    intro rv h' hq_
    rw [hq_.1, hq_.2]
    clear hq_ rv h'
    have gd2_ := pE_gH hE 3 (p + 1)
    generalize eQ2 : pE (pF H 3) H (p + 1) = q2_ at gd2_ ⊢
    have hp2 := gd2_.2 ltnx40
    have hl2 := gdx gd2_ (Nat.le_succ_of_le hll)
    by_cases w2_ : q2_.1 = true
    · rw [w2_]
      show AW V 0 0 (lpH h lq cq q2_.2.1 (l ++ q2_.2.2.map encX)) 80 [(0, .ref lq), (1, .int 1)] [.int 0]
      refine a_if_eq hb 96 dX1_factor_80 (by decide) (fun c80 => ?_) (fun c80 => absurd (by decide) c80)
      refine a_iconst (v := 0) hb dX1_factor_96 (by decide) ?_
      exact a_ireturn (ty := .boolean) hb hz dX1_factor_97 hret (by first | rfl | (simp only [narrow]; done) | exact aw_nb _) (by rw [hr]; exact Nat.le_of_ble_eq_true rfl) (by rw [hr]; exact Nat.le_of_ble_eq_true rfl) (⟨by rw [pF_p nx33 nx40 eQ2, if_pos w2_, w2_]; rfl, by rw [pF_p nx33 nx40 eQ2, if_pos w2_]; rfl⟩)
    have fw2_ : q2_.1 = false := by simpa using w2_
    rw [fw2_]
    show AW V 0 0 (lpH h lq cq q2_.2.1 (l ++ q2_.2.2.map encX)) 80 [(0, .ref lq), (1, .int 1)] [.int 1]
    refine a_if_eq hb 96 dX1_factor_80 (by decide) (fun c80 => absurd c80 (by decide)) (fun c80 => ?_)
    refine a_aload_n hb dX1_factor_83 rfl 0 rfl ?_
    refine a_bipush (v := 41) hb dX1_factor_84 (by decide) ?_
    refine a_callV hb dX1_factor_86 (by rw [hg]; exact l_take g h lq tq cq n t1 t2 t3 q0 q7 ne1 ne2 ne3 hn H hH hE q2_.2.1 (l ++ q2_.2.2.map encX) hp2 41 (by decide)) (by rw [ow]; exact clv_RX1_43) (lp_k (h := h) (lq := lq) (cq := cq) (p := q2_.2.1) (l := (l ++ q2_.2.2.map encX)) t1) (by decide) rfl rfl rfl (Nat.le_of_ble_eq_true rfl) (by rw [hr]; exact ⟨by decide, by decide⟩) (by rw [hr]; exact ⟨Nat.le_of_ble_eq_true rfl, Nat.le_of_ble_eq_true rfl⟩) ?_
    intro rv h' hq_
    rw [hq_.1, hq_.2]
    clear hq_ rv h'
    by_cases tkq2_21 : H q2_.2.1 = 41
    · have lttkq2_21 : q2_.2.1 < n := H_c hE (by decide) tkq2_21
      rw [if_pos tkq2_21, decide_eq_true tkq2_21]
      show AW V 0 0 (lpH h lq cq (q2_.2.1 + 1) (l ++ q2_.2.2.map encX)) 89 [(0, .ref lq), (1, .int 1)] [.int 1]
      refine a_if_eq hb 96 dX1_factor_89 (by decide) (fun c89 => absurd c89 (by decide)) (fun c89 => ?_)
      refine a_iconst (v := 1) hb dX1_factor_92 (by decide) ?_
      refine a_goto hb 97 dX1_factor_93 (by decide) ?_
      exact a_ireturn (ty := .boolean) hb hz dX1_factor_97 hret (by first | rfl | (simp only [narrow]; done) | exact aw_nb _) (by rw [hr]; exact Nat.le_of_ble_eq_true rfl) (by rw [hr]; exact Nat.le_of_ble_eq_true rfl) (⟨by rw [pF_p nx33 nx40 eQ2, if_neg w2_, if_pos tkq2_21]; rfl, by rw [pF_p nx33 nx40 eQ2, if_neg w2_, if_pos tkq2_21]; rfl⟩)
    rw [if_neg tkq2_21, decide_eq_false tkq2_21]
    show AW V 0 0 (lpH h lq cq q2_.2.1 (l ++ q2_.2.2.map encX)) 89 [(0, .ref lq), (1, .int 1)] [.int 0]
    refine a_if_eq hb 96 dX1_factor_89 (by decide) (fun c89 => ?_) (fun c89 => absurd (by decide) c89)
    refine a_iconst (v := 0) hb dX1_factor_96 (by decide) ?_
    exact a_ireturn (ty := .boolean) hb hz dX1_factor_97 hret (by first | rfl | (simp only [narrow]; done) | exact aw_nb _) (by rw [hr]; exact Nat.le_of_ble_eq_true rfl) (by rw [hr]; exact Nat.le_of_ble_eq_true rfl) (⟨by rw [pF_p nx33 nx40 eQ2, if_neg w2_, if_neg tkq2_21]; rfl, by rw [pF_p nx33 nx40 eQ2, if_neg w2_, if_neg tkq2_21]; rfl⟩)
  rw [decide_eq_false nx40]
  show AW V 0 0 (lpH h lq cq p l) 15 [(0, .ref lq), (1, .int 1)] [.int 0]
  refine a_if_ne hb 23 dX1_factor_15 (by decide) (fun c15 => absurd c15 (by decide)) (fun c15 => ?_)
  refine a_aload_n hb dX1_factor_18 rfl 0 rfl ?_
  refine a_callV hb dX1_factor_19 (by rw [hg]; exact l_tst g h lq tq cq n t1 t2 t3 q0 q7 ne1 ne2 ne3 hn H hH hE p l hp hll) (by rw [ow]; exact clv_RX1_97) (lp_k (h := h) (lq := lq) (cq := cq) (p := p) (l := l) t1) (by decide) rfl rfl rfl (Nat.le_of_ble_eq_true rfl) (by rw [hr]; exact ⟨by decide, by decide⟩) (by rw [hr]; exact ⟨Nat.le_of_ble_eq_true rfl, Nat.le_of_ble_eq_true rfl⟩) ?_
  intro rv h' hq_
  rw [hq_.1, hq_.2]
  show AW V 0 0 (lpG h lq cq l (pT H p)) 22 [(0, .ref lq), (1, .int 1)] [.int (b2i (!(pT H p).1))]
  exact a_ireturn (ty := .boolean) hb hz dX1_factor_22 hret (b2i_nb _) (by rw [hr]; exact Nat.le_of_ble_eq_true rfl) (by rw [hr]; exact Nat.le_of_ble_eq_true rfl) (⟨by rw [pF_T nx33 nx40], by rw [pF_T nx33 nx40]⟩)
set_option maxRecDepth 100000 in
theorem l_ter4 (g : GG) (h : AH) (lq tq cq n : Nat) (t1 : hT h lq = (1, 0)) (t2 : hT h tq = (13, n)) (t3 : hT h cq = (14, n)) (q0 : hQ h lq 0 = some tq) (q7 : hQ h lq 7 = some cq) (ne1 : lq ≠ cq) (ne2 : tq ≠ lq) (ne3 : tq ≠ cq) (hn : n ≤ 120) (H : Nat → Int32) (hH : ∀ p, p < n → hI h tq p = bx (H p) ∧ oO (H p) 0 255 = false) (hE : ∀ p, n ≤ p → H p = -1) (p : Nat) (l : List Int32) (hp : p ≤ n) (hll : l.length ≤ p) : AM g 22 0 0 mX1_term [.ref lq, .int 1] (lpH h lq cq p l) (fun rv h' => rv = some (.int (b2i (!(pV (pF H 4) H p).1))) ∧ h' = lpG h lq cq l (pV (pF H 4) H p)) := by
  refine AM.of [(0, .ref lq), (1, .int 1)] (by decide) (Nat.le_of_ble_eq_true rfl) rfl ?_
  intro V hV
  have hb : V.2.1.2.1 = cX1_term := by subst hV; rfl
  have ow : V.2.1.1.cls = RX1 := by subst hV; rfl
  have hr : V.2.2.1 = aw_rm 22 0 0 := by subst hV; rfl
  have hz : V.2.2.2 = aw_Z V.1 (fun rv h' => rv = some (.int (b2i (!(pV (pF H 4) H p).1))) ∧ h' = lpG h lq cq l (pV (pF H 4) H p)) V.2.2.1 := by subst hV; rfl
  have hg : V.1 = g := by subst hV; rfl
  have hret : V.2.1.2.2.2 = (some .boolean) := by subst hV; rfl
  have hml : V.2.1.2.2.1 = 4 := by subst hV; rfl
  clear hV
  generalize hR : pV (pF H 4) H p = R at hz
  have loop : ∀ (k i : Nat) (r : PR), i + k = n → r.2.1 ≤ n → (l ++ r.2.2.map encX).length ≤ r.2.1 → lpR (pF H 4) H 38 (2, 0, 0, 0) k r = R → AW V 0 0 (lpG h lq cq l r) 8 [(0, .ref lq), (1, .int 1), (2, .int (b2i (!r.1))), (3, .int (nI i))] [] := by
    intro k
    induction k with
    | zero =>
      intro i r hi h1 h2 h4
      show AW V 0 0 (lpH h lq cq r.2.1 (l ++ r.2.2.map encX)) 8 [(0, .ref lq), (1, .int 1), (2, .int (b2i (!r.1))), (3, .int (nI i))] []
      refine a_iload_n hb dX1_term_8 rfl 3 rfl ?_
      refine a_aload_n hb dX1_term_9 rfl 0 rfl ?_
      refine a_getQ (q := tq) hb dX1_term_10 (by rw [ow]; exact fl_RX1_32_1) (lp_k (h := h) (lq := lq) (cq := cq) (p := r.2.1) (l := (l ++ r.2.2.map encX)) t1) (lp_q (h := h) (lq := lq) (cq := cq) (p := r.2.1) (l := (l ++ r.2.2.map encX)) q0) ?_
      refine a_alenI (v := (nI n)) hb dX1_term_13 (lp_k (h := h) (lq := lq) (cq := cq) (p := r.2.1) (l := (l ++ r.2.2.map encX)) t2) (by decide) rfl ?_
      refine a_icmp_ge hb 58 dX1_term_14 (by decide) (fun c14 => ?_) (fun c14 => absurd (nI_le (by omega) (by omega)) c14)
      refine a_iload_n hb dX1_term_58 rfl 2 rfl ?_
      exact a_ireturn (ty := .boolean) hb hz dX1_term_59 hret (b2i_nb _) (by rw [hr]; exact Nat.le_of_ble_eq_true rfl) (by rw [hr]; exact Nat.le_of_ble_eq_true rfl) (⟨by rw [← h4]; rfl, by rw [← h4]; rfl⟩)
    | succ k ih =>
      intro i r hi h1 h2 h4
      show AW V 0 0 (lpH h lq cq r.2.1 (l ++ r.2.2.map encX)) 8 [(0, .ref lq), (1, .int 1), (2, .int (b2i (!r.1))), (3, .int (nI i))] []
      refine a_iload_n hb dX1_term_8 rfl 3 rfl ?_
      refine a_aload_n hb dX1_term_9 rfl 0 rfl ?_
      refine a_getQ (q := tq) hb dX1_term_10 (by rw [ow]; exact fl_RX1_32_1) (lp_k (h := h) (lq := lq) (cq := cq) (p := r.2.1) (l := (l ++ r.2.2.map encX)) t1) (lp_q (h := h) (lq := lq) (cq := cq) (p := r.2.1) (l := (l ++ r.2.2.map encX)) q0) ?_
      refine a_alenI (v := (nI n)) hb dX1_term_13 (lp_k (h := h) (lq := lq) (cq := cq) (p := r.2.1) (l := (l ++ r.2.2.map encX)) t2) (by decide) rfl ?_
      refine a_icmp_ge hb 58 dX1_term_14 (by decide) (fun c14 => absurd c14 (nI_ge (by omega) (by omega))) (fun c14 => ?_)
      refine a_iload_n hb dX1_term_17 rfl 2 rfl ?_
      refine a_if_eq hb 58 dX1_term_18 (by decide) (fun c18 => ?_) (fun c18 => ?_)
      · simp [b2i_0] at c18
        have rt : r.1 = true := by simpa using c18
        refine a_iload_n hb dX1_term_58 rfl 2 rfl ?_
        exact a_ireturn (ty := .boolean) hb hz dX1_term_59 hret (b2i_nb _) (by rw [hr]; exact Nat.le_of_ble_eq_true rfl) (by rw [hr]; exact Nat.le_of_ble_eq_true rfl) (⟨by rw [← h4, lpR_w rt], by rw [← h4, lpR_w rt]; rfl⟩)
      · simp [b2i_0] at c18
        have rf : r.1 = false := by simpa using c18
        refine a_aload_n hb dX1_term_21 rfl 0 rfl ?_
        refine a_bipush (v := 38) hb dX1_term_22 (by decide) ?_
        refine a_callV hb dX1_term_24 (by rw [hg]; exact l_take g h lq tq cq n t1 t2 t3 q0 q7 ne1 ne2 ne3 hn H hH hE r.2.1 (l ++ r.2.2.map encX) h1 38 (by decide)) (by rw [ow]; exact clv_RX1_43) (lp_k (h := h) (lq := lq) (cq := cq) (p := r.2.1) (l := (l ++ r.2.2.map encX)) t1) (by decide) rfl rfl rfl (Nat.le_of_ble_eq_true rfl) (by rw [hr]; exact ⟨by decide, by decide⟩) (by rw [hr]; exact ⟨Nat.le_of_ble_eq_true rfl, Nat.le_of_ble_eq_true rfl⟩) ?_
        intro rv h' hq_
        rw [hq_.1, hq_.2]
        clear hq_ rv h'
        by_cases tkr21 : H r.2.1 = 38
        · have lttkr21 : r.2.1 < n := H_c hE (by decide) tkr21
          rw [if_pos tkr21, decide_eq_true tkr21]
          show AW V 0 0 (lpH h lq cq (r.2.1 + 1) (l ++ r.2.2.map encX)) 27 [(0, .ref lq), (1, .int 1), (2, .int (b2i (!r.1))), (3, .int (nI i))] [.int 1]
          refine a_if_eq hb 58 dX1_term_27 (by decide) (fun c27 => absurd c27 (by decide)) (fun c27 => ?_)
          refine a_aload_n hb dX1_term_30 rfl 0 rfl ?_
          refine a_iload_n hb dX1_term_31 rfl 1 rfl ?_
          refine a_callV hb dX1_term_32 (by rw [hg]; exact l_fac4 g h lq tq cq n t1 t2 t3 q0 q7 ne1 ne2 ne3 hn H hH hE (r.2.1 + 1) (l ++ r.2.2.map encX) lttkr21 (Nat.le_succ_of_le h2)) (by rw [ow]; exact clv_RX1_94) (lp_k (h := h) (lq := lq) (cq := cq) (p := r.2.1 + 1) (l := (l ++ r.2.2.map encX)) t1) (by decide) rfl rfl rfl (Nat.le_of_ble_eq_true rfl) (by rw [hr]; exact ⟨by decide, by decide⟩) (by rw [hr]; exact ⟨Nat.le_of_ble_eq_true rfl, Nat.le_of_ble_eq_true rfl⟩) ?_
          intro rv h' hq_
          rw [hq_.1, hq_.2]
          clear hq_ rv h'
          have gd1_ := pF_gH hE 4 (r.2.1 + 1)
          generalize eQ1 : pF H 4 (r.2.1 + 1) = q1_ at gd1_ ⊢
          have hp1 := gd1_.2 lttkr21
          have hl1 := gdx gd1_ (Nat.le_succ_of_le h2)
          by_cases w1_ : q1_.1 = true
          · rw [w1_]
            show AW V 0 0 (lpH h lq cq q1_.2.1 ((l ++ r.2.2.map encX) ++ q1_.2.2.map encX)) 35 [(0, .ref lq), (1, .int 1), (2, .int (b2i (!r.1))), (3, .int (nI i))] [.int 0]
            refine a_if_eq hb 50 dX1_term_35 (by decide) (fun c35 => ?_) (fun c35 => absurd (by decide) c35)
            refine a_iconst (v := 0) hb dX1_term_50 (by decide) ?_
            refine a_istore_n (L' := [(2, .int 0), (0, .ref lq), (1, .int 1), (3, .int (nI i))]) hb dX1_term_51 rfl (by rw [hml]; decide) rfl ?_
            refine a_iinc (v := ((nI i) + 1)) (L' := [(3, .int ((nI i) + 1)), (2, .int 0), (0, .ref lq), (1, .int 1)]) hb dX1_term_52 3 rfl rfl (by rw [hml]; decide) rfl ?_
            refine a_goto hb 8 dX1_term_55 (by decide) ?_
            have hq4 := @lpR_s (pF H 4) H 38 (2, 0, 0, 0) k r _ rf tkr21 eQ1
            rw [h4] at hq4
            refine AW.sub (L' := [(0, .ref lq), (1, .int 1), (2, .int 0), (3, .int ((nI i) + 1))]) [2, 3, 1, 0] rfl ?_
            refine AW.eq (ih (i + 1) (q1_.1, q1_.2.1, r.2.2 ++ q1_.2.2 ++ if q1_.1 = true then [] else [(2, 0, 0, 0)]) (by omega) hp1 ?_ hq4.symm) (lpG_2w w1_) rfl (by rw [nI_1]; show _ = [(0, _), (1, _), (2, Value.int (b2i (!q1_.1))), (3, _)]; rw [w1_]; rfl) rfl
            show (l ++ List.map encX (r.2.2 ++ q1_.2.2 ++ if q1_.1 = true then [] else [(2, 0, 0, 0)])).length ≤ q1_.2.1
            have g1 := gdx1 gd1_ h2
            rw [List.length_append] at g1 ⊢
            rw [List.length_append, List.length_map] at g1
            rw [List.length_map, List.length_append, List.length_append]
            rw [List.length_map] at g1
            split <;> simp only [List.length_cons, List.length_nil] <;> omega
          have fw1_ : q1_.1 = false := by simpa using w1_
          rw [fw1_]
          show AW V 0 0 (lpH h lq cq q1_.2.1 ((l ++ r.2.2.map encX) ++ q1_.2.2.map encX)) 35 [(0, .ref lq), (1, .int 1), (2, .int (b2i (!r.1))), (3, .int (nI i))] [.int 1]
          refine a_if_eq hb 50 dX1_term_35 (by decide) (fun c35 => absurd c35 (by decide)) (fun c35 => ?_)
          refine a_aload_n hb dX1_term_38 rfl 0 rfl ?_
          refine a_iconst (v := (-1)) hb dX1_term_39 (by decide) ?_
          refine a_callV hb dX1_term_40 (by rw [hg]; exact l_emit g h lq tq cq n t1 t2 t3 q0 q7 ne1 ne2 ne3 hn H hH hE q1_.2.1 ((l ++ r.2.2.map encX) ++ q1_.2.2.map encX) hp1 (-1) (by have := gdx1 gd1_ h2; omega)) (by rw [ow]; exact clv_RX1_91) (lp_k (h := h) (lq := lq) (cq := cq) (p := q1_.2.1) (l := ((l ++ r.2.2.map encX) ++ q1_.2.2.map encX)) t1) (by decide) rfl rfl rfl (Nat.le_of_ble_eq_true rfl) (by rw [hr]; exact ⟨by decide, by decide⟩) (by rw [hr]; exact ⟨Nat.le_of_ble_eq_true rfl, Nat.le_of_ble_eq_true rfl⟩) ?_
          intro rv h' hq_
          rw [hq_.1, hq_.2]
          show AW V 0 0 (lpH h lq cq q1_.2.1 (((l ++ r.2.2.map encX) ++ q1_.2.2.map encX) ++ [(-1)])) 43 [(0, .ref lq), (1, .int 1), (2, .int (b2i (!r.1))), (3, .int (nI i))] [.int 1]
          refine a_if_eq hb 50 dX1_term_43 (by decide) (fun c43 => absurd c43 (by decide)) (fun c43 => ?_)
          refine a_iconst (v := 1) hb dX1_term_46 (by decide) ?_
          refine a_goto hb 51 dX1_term_47 (by decide) ?_
          refine a_istore_n (L' := [(2, .int 1), (0, .ref lq), (1, .int 1), (3, .int (nI i))]) hb dX1_term_51 rfl (by rw [hml]; decide) rfl ?_
          refine a_iinc (v := ((nI i) + 1)) (L' := [(3, .int ((nI i) + 1)), (2, .int 1), (0, .ref lq), (1, .int 1)]) hb dX1_term_52 3 rfl rfl (by rw [hml]; decide) rfl ?_
          refine a_goto hb 8 dX1_term_55 (by decide) ?_
          have hq4 := @lpR_s (pF H 4) H 38 (2, 0, 0, 0) k r _ rf tkr21 eQ1
          rw [h4] at hq4
          refine AW.sub (L' := [(0, .ref lq), (1, .int 1), (2, .int 1), (3, .int ((nI i) + 1))]) [2, 3, 1, 0] rfl ?_
          refine AW.eq (ih (i + 1) (q1_.1, q1_.2.1, r.2.2 ++ q1_.2.2 ++ if q1_.1 = true then [] else [(2, 0, 0, 0)]) (by omega) hp1 ?_ hq4.symm) (lpG_2s (s := (2, 0, 0, 0)) fw1_) rfl (by rw [nI_1]; show _ = [(0, _), (1, _), (2, Value.int (b2i (!q1_.1))), (3, _)]; rw [fw1_]; rfl) rfl
          show (l ++ List.map encX (r.2.2 ++ q1_.2.2 ++ if q1_.1 = true then [] else [(2, 0, 0, 0)])).length ≤ q1_.2.1
          have g1 := gdx1 gd1_ h2
          rw [List.length_append] at g1 ⊢
          rw [List.length_append, List.length_map] at g1
          rw [List.length_map, List.length_append, List.length_append]
          rw [List.length_map] at g1
          split <;> simp only [List.length_cons, List.length_nil] <;> omega
        rw [if_neg tkr21, decide_eq_false tkr21]
        show AW V 0 0 (lpH h lq cq r.2.1 (l ++ r.2.2.map encX)) 27 [(0, .ref lq), (1, .int 1), (2, .int (b2i (!r.1))), (3, .int (nI i))] [.int 0]
        refine a_if_eq hb 58 dX1_term_27 (by decide) (fun c27 => ?_) (fun c27 => absurd (by decide) c27)
        refine a_iload_n hb dX1_term_58 rfl 2 rfl ?_
        exact a_ireturn (ty := .boolean) hb hz dX1_term_59 hret (b2i_nb _) (by rw [hr]; exact Nat.le_of_ble_eq_true rfl) (by rw [hr]; exact Nat.le_of_ble_eq_true rfl) (⟨by rw [← h4, lpR_n tkr21], by rw [← h4, lpR_n tkr21]; rfl⟩)
  refine a_aload_n hb dX1_term_0 rfl 0 rfl ?_
  refine a_iload_n hb dX1_term_1 rfl 1 rfl ?_
  refine a_callV hb dX1_term_2 (by rw [hg]; exact l_fac4 g h lq tq cq n t1 t2 t3 q0 q7 ne1 ne2 ne3 hn H hH hE p l hp hll) (by rw [ow]; exact clv_RX1_94) (lp_k (h := h) (lq := lq) (cq := cq) (p := p) (l := l) t1) (by decide) rfl rfl rfl (Nat.le_of_ble_eq_true rfl) (by rw [hr]; exact ⟨by decide, by decide⟩) (by rw [hr]; exact ⟨Nat.le_of_ble_eq_true rfl, Nat.le_of_ble_eq_true rfl⟩) ?_
  intro rv h' hq_
  rw [hq_.1, hq_.2]
  clear hq_ rv h'
  have gd1_ := pF_gH hE 4 p
  generalize eQ1 : pF H 4 p = q1_ at gd1_ ⊢
  have hp1 := gd1_.2 hp
  have hl1 := gdx gd1_ hll
  show AW V 0 0 (lpH h lq cq q1_.2.1 (l ++ q1_.2.2.map encX)) 5 [(0, .ref lq), (1, .int 1)] [.int (b2i (!q1_.1))]
  refine a_istore_n (L' := [(2, .int (b2i (!q1_.1))), (0, .ref lq), (1, .int 1)]) hb dX1_term_5 rfl (by rw [hml]; decide) rfl ?_
  refine a_iconst (v := 0) hb dX1_term_6 (by decide) ?_
  refine a_istore_n (L' := [(3, .int 0), (2, .int (b2i (!q1_.1))), (0, .ref lq), (1, .int 1)]) hb dX1_term_7 rfl (by rw [hml]; decide) rfl ?_
  refine AW.sub (L' := [(0, .ref lq), (1, .int 1), (2, .int (b2i (!q1_.1))), (3, .int 0)]) [2, 3, 1, 0] rfl ?_
  exact loop n 0 q1_ (by omega) hp1 hl1 ((pV_x (gd_p (pF_gH hE 4)) hE hn eQ1).trans hR)
set_option maxRecDepth 100000 in
theorem l_exp4 (g : GG) (h : AH) (lq tq cq n : Nat) (t1 : hT h lq = (1, 0)) (t2 : hT h tq = (13, n)) (t3 : hT h cq = (14, n)) (q0 : hQ h lq 0 = some tq) (q7 : hQ h lq 7 = some cq) (ne1 : lq ≠ cq) (ne2 : tq ≠ lq) (ne3 : tq ≠ cq) (hn : n ≤ 120) (H : Nat → Int32) (hH : ∀ p, p < n → hI h tq p = bx (H p) ∧ oO (H p) 0 255 = false) (hE : ∀ p, n ≤ p → H p = -1) (p : Nat) (l : List Int32) (hp : p ≤ n) (hll : l.length ≤ p) : AM g 23 0 0 mX1_expression [.ref lq, .int 1] (lpH h lq cq p l) (fun rv h' => rv = some (.int (b2i (!(pE (pF H 4) H p).1))) ∧ h' = lpG h lq cq l (pE (pF H 4) H p)) := by
  refine AM.of [(0, .ref lq), (1, .int 1)] (by decide) (Nat.le_of_ble_eq_true rfl) rfl ?_
  intro V hV
  have hb : V.2.1.2.1 = cX1_expression := by subst hV; rfl
  have ow : V.2.1.1.cls = RX1 := by subst hV; rfl
  have hr : V.2.2.1 = aw_rm 23 0 0 := by subst hV; rfl
  have hz : V.2.2.2 = aw_Z V.1 (fun rv h' => rv = some (.int (b2i (!(pE (pF H 4) H p).1))) ∧ h' = lpG h lq cq l (pE (pF H 4) H p)) V.2.2.1 := by subst hV; rfl
  have hg : V.1 = g := by subst hV; rfl
  have hret : V.2.1.2.2.2 = (some .boolean) := by subst hV; rfl
  have hml : V.2.1.2.2.1 = 4 := by subst hV; rfl
  clear hV
  generalize hR : pE (pF H 4) H p = R at hz
  have loop : ∀ (k i : Nat) (r : PR), i + k = n → r.2.1 ≤ n → (l ++ r.2.2.map encX).length ≤ r.2.1 → lpR (pV (pF H 4) H) H 124 (3, 0, 0, 0) k r = R → AW V 0 0 (lpG h lq cq l r) 8 [(0, .ref lq), (1, .int 1), (2, .int (b2i (!r.1))), (3, .int (nI i))] [] := by
    intro k
    induction k with
    | zero =>
      intro i r hi h1 h2 h4
      show AW V 0 0 (lpH h lq cq r.2.1 (l ++ r.2.2.map encX)) 8 [(0, .ref lq), (1, .int 1), (2, .int (b2i (!r.1))), (3, .int (nI i))] []
      refine a_iload_n hb dX1_expression_8 rfl 3 rfl ?_
      refine a_aload_n hb dX1_expression_9 rfl 0 rfl ?_
      refine a_getQ (q := tq) hb dX1_expression_10 (by rw [ow]; exact fl_RX1_32_1) (lp_k (h := h) (lq := lq) (cq := cq) (p := r.2.1) (l := (l ++ r.2.2.map encX)) t1) (lp_q (h := h) (lq := lq) (cq := cq) (p := r.2.1) (l := (l ++ r.2.2.map encX)) q0) ?_
      refine a_alenI (v := (nI n)) hb dX1_expression_13 (lp_k (h := h) (lq := lq) (cq := cq) (p := r.2.1) (l := (l ++ r.2.2.map encX)) t2) (by decide) rfl ?_
      refine a_icmp_ge hb 59 dX1_expression_14 (by decide) (fun c14 => ?_) (fun c14 => absurd (nI_le (by omega) (by omega)) c14)
      refine a_iload_n hb dX1_expression_59 rfl 2 rfl ?_
      exact a_ireturn (ty := .boolean) hb hz dX1_expression_60 hret (b2i_nb _) (by rw [hr]; exact Nat.le_of_ble_eq_true rfl) (by rw [hr]; exact Nat.le_of_ble_eq_true rfl) (⟨by rw [← h4]; rfl, by rw [← h4]; rfl⟩)
    | succ k ih =>
      intro i r hi h1 h2 h4
      show AW V 0 0 (lpH h lq cq r.2.1 (l ++ r.2.2.map encX)) 8 [(0, .ref lq), (1, .int 1), (2, .int (b2i (!r.1))), (3, .int (nI i))] []
      refine a_iload_n hb dX1_expression_8 rfl 3 rfl ?_
      refine a_aload_n hb dX1_expression_9 rfl 0 rfl ?_
      refine a_getQ (q := tq) hb dX1_expression_10 (by rw [ow]; exact fl_RX1_32_1) (lp_k (h := h) (lq := lq) (cq := cq) (p := r.2.1) (l := (l ++ r.2.2.map encX)) t1) (lp_q (h := h) (lq := lq) (cq := cq) (p := r.2.1) (l := (l ++ r.2.2.map encX)) q0) ?_
      refine a_alenI (v := (nI n)) hb dX1_expression_13 (lp_k (h := h) (lq := lq) (cq := cq) (p := r.2.1) (l := (l ++ r.2.2.map encX)) t2) (by decide) rfl ?_
      refine a_icmp_ge hb 59 dX1_expression_14 (by decide) (fun c14 => absurd c14 (nI_ge (by omega) (by omega))) (fun c14 => ?_)
      refine a_iload_n hb dX1_expression_17 rfl 2 rfl ?_
      refine a_if_eq hb 59 dX1_expression_18 (by decide) (fun c18 => ?_) (fun c18 => ?_)
      · simp [b2i_0] at c18
        have rt : r.1 = true := by simpa using c18
        refine a_iload_n hb dX1_expression_59 rfl 2 rfl ?_
        exact a_ireturn (ty := .boolean) hb hz dX1_expression_60 hret (b2i_nb _) (by rw [hr]; exact Nat.le_of_ble_eq_true rfl) (by rw [hr]; exact Nat.le_of_ble_eq_true rfl) (⟨by rw [← h4, lpR_w rt], by rw [← h4, lpR_w rt]; rfl⟩)
      · simp [b2i_0] at c18
        have rf : r.1 = false := by simpa using c18
        refine a_aload_n hb dX1_expression_21 rfl 0 rfl ?_
        refine a_bipush (v := 124) hb dX1_expression_22 (by decide) ?_
        refine a_callV hb dX1_expression_24 (by rw [hg]; exact l_take g h lq tq cq n t1 t2 t3 q0 q7 ne1 ne2 ne3 hn H hH hE r.2.1 (l ++ r.2.2.map encX) h1 124 (by decide)) (by rw [ow]; exact clv_RX1_43) (lp_k (h := h) (lq := lq) (cq := cq) (p := r.2.1) (l := (l ++ r.2.2.map encX)) t1) (by decide) rfl rfl rfl (Nat.le_of_ble_eq_true rfl) (by rw [hr]; exact ⟨by decide, by decide⟩) (by rw [hr]; exact ⟨Nat.le_of_ble_eq_true rfl, Nat.le_of_ble_eq_true rfl⟩) ?_
        intro rv h' hq_
        rw [hq_.1, hq_.2]
        clear hq_ rv h'
        by_cases tkr21 : H r.2.1 = 124
        · have lttkr21 : r.2.1 < n := H_c hE (by decide) tkr21
          rw [if_pos tkr21, decide_eq_true tkr21]
          show AW V 0 0 (lpH h lq cq (r.2.1 + 1) (l ++ r.2.2.map encX)) 27 [(0, .ref lq), (1, .int 1), (2, .int (b2i (!r.1))), (3, .int (nI i))] [.int 1]
          refine a_if_eq hb 59 dX1_expression_27 (by decide) (fun c27 => absurd c27 (by decide)) (fun c27 => ?_)
          refine a_aload_n hb dX1_expression_30 rfl 0 rfl ?_
          refine a_iload_n hb dX1_expression_31 rfl 1 rfl ?_
          refine a_callV hb dX1_expression_32 (by rw [hg]; exact l_ter4 g h lq tq cq n t1 t2 t3 q0 q7 ne1 ne2 ne3 hn H hH hE (r.2.1 + 1) (l ++ r.2.2.map encX) lttkr21 (Nat.le_succ_of_le h2)) (by rw [ow]; exact clv_RX1_88) (lp_k (h := h) (lq := lq) (cq := cq) (p := r.2.1 + 1) (l := (l ++ r.2.2.map encX)) t1) (by decide) rfl rfl rfl (Nat.le_of_ble_eq_true rfl) (by rw [hr]; exact ⟨by decide, by decide⟩) (by rw [hr]; exact ⟨Nat.le_of_ble_eq_true rfl, Nat.le_of_ble_eq_true rfl⟩) ?_
          intro rv h' hq_
          rw [hq_.1, hq_.2]
          clear hq_ rv h'
          have gd1_ := pV_gH hE 4 (r.2.1 + 1)
          generalize eQ1 : pV (pF H 4) H (r.2.1 + 1) = q1_ at gd1_ ⊢
          have hp1 := gd1_.2 lttkr21
          have hl1 := gdx gd1_ (Nat.le_succ_of_le h2)
          by_cases w1_ : q1_.1 = true
          · rw [w1_]
            show AW V 0 0 (lpH h lq cq q1_.2.1 ((l ++ r.2.2.map encX) ++ q1_.2.2.map encX)) 35 [(0, .ref lq), (1, .int 1), (2, .int (b2i (!r.1))), (3, .int (nI i))] [.int 0]
            refine a_if_eq hb 51 dX1_expression_35 (by decide) (fun c35 => ?_) (fun c35 => absurd (by decide) c35)
            refine a_iconst (v := 0) hb dX1_expression_51 (by decide) ?_
            refine a_istore_n (L' := [(2, .int 0), (0, .ref lq), (1, .int 1), (3, .int (nI i))]) hb dX1_expression_52 rfl (by rw [hml]; decide) rfl ?_
            refine a_iinc (v := ((nI i) + 1)) (L' := [(3, .int ((nI i) + 1)), (2, .int 0), (0, .ref lq), (1, .int 1)]) hb dX1_expression_53 3 rfl rfl (by rw [hml]; decide) rfl ?_
            refine a_goto hb 8 dX1_expression_56 (by decide) ?_
            have hq4 := @lpR_s (pV (pF H 4) H) H 124 (3, 0, 0, 0) k r _ rf tkr21 eQ1
            rw [h4] at hq4
            refine AW.sub (L' := [(0, .ref lq), (1, .int 1), (2, .int 0), (3, .int ((nI i) + 1))]) [2, 3, 1, 0] rfl ?_
            refine AW.eq (ih (i + 1) (q1_.1, q1_.2.1, r.2.2 ++ q1_.2.2 ++ if q1_.1 = true then [] else [(3, 0, 0, 0)]) (by omega) hp1 ?_ hq4.symm) (lpG_2w w1_) rfl (by rw [nI_1]; show _ = [(0, _), (1, _), (2, Value.int (b2i (!q1_.1))), (3, _)]; rw [w1_]; rfl) rfl
            show (l ++ List.map encX (r.2.2 ++ q1_.2.2 ++ if q1_.1 = true then [] else [(3, 0, 0, 0)])).length ≤ q1_.2.1
            have g1 := gdx1 gd1_ h2
            rw [List.length_append] at g1 ⊢
            rw [List.length_append, List.length_map] at g1
            rw [List.length_map, List.length_append, List.length_append]
            rw [List.length_map] at g1
            split <;> simp only [List.length_cons, List.length_nil] <;> omega
          have fw1_ : q1_.1 = false := by simpa using w1_
          rw [fw1_]
          show AW V 0 0 (lpH h lq cq q1_.2.1 ((l ++ r.2.2.map encX) ++ q1_.2.2.map encX)) 35 [(0, .ref lq), (1, .int 1), (2, .int (b2i (!r.1))), (3, .int (nI i))] [.int 1]
          refine a_if_eq hb 51 dX1_expression_35 (by decide) (fun c35 => absurd c35 (by decide)) (fun c35 => ?_)
          refine a_aload_n hb dX1_expression_38 rfl 0 rfl ?_
          refine a_bipush (v := (-2)) hb dX1_expression_39 (by decide) ?_
          refine a_callV hb dX1_expression_41 (by rw [hg]; exact l_emit g h lq tq cq n t1 t2 t3 q0 q7 ne1 ne2 ne3 hn H hH hE q1_.2.1 ((l ++ r.2.2.map encX) ++ q1_.2.2.map encX) hp1 (-2) (by have := gdx1 gd1_ h2; omega)) (by rw [ow]; exact clv_RX1_91) (lp_k (h := h) (lq := lq) (cq := cq) (p := q1_.2.1) (l := ((l ++ r.2.2.map encX) ++ q1_.2.2.map encX)) t1) (by decide) rfl rfl rfl (Nat.le_of_ble_eq_true rfl) (by rw [hr]; exact ⟨by decide, by decide⟩) (by rw [hr]; exact ⟨Nat.le_of_ble_eq_true rfl, Nat.le_of_ble_eq_true rfl⟩) ?_
          intro rv h' hq_
          rw [hq_.1, hq_.2]
          show AW V 0 0 (lpH h lq cq q1_.2.1 (((l ++ r.2.2.map encX) ++ q1_.2.2.map encX) ++ [(-2)])) 44 [(0, .ref lq), (1, .int 1), (2, .int (b2i (!r.1))), (3, .int (nI i))] [.int 1]
          refine a_if_eq hb 51 dX1_expression_44 (by decide) (fun c44 => absurd c44 (by decide)) (fun c44 => ?_)
          refine a_iconst (v := 1) hb dX1_expression_47 (by decide) ?_
          refine a_goto hb 52 dX1_expression_48 (by decide) ?_
          refine a_istore_n (L' := [(2, .int 1), (0, .ref lq), (1, .int 1), (3, .int (nI i))]) hb dX1_expression_52 rfl (by rw [hml]; decide) rfl ?_
          refine a_iinc (v := ((nI i) + 1)) (L' := [(3, .int ((nI i) + 1)), (2, .int 1), (0, .ref lq), (1, .int 1)]) hb dX1_expression_53 3 rfl rfl (by rw [hml]; decide) rfl ?_
          refine a_goto hb 8 dX1_expression_56 (by decide) ?_
          have hq4 := @lpR_s (pV (pF H 4) H) H 124 (3, 0, 0, 0) k r _ rf tkr21 eQ1
          rw [h4] at hq4
          refine AW.sub (L' := [(0, .ref lq), (1, .int 1), (2, .int 1), (3, .int ((nI i) + 1))]) [2, 3, 1, 0] rfl ?_
          refine AW.eq (ih (i + 1) (q1_.1, q1_.2.1, r.2.2 ++ q1_.2.2 ++ if q1_.1 = true then [] else [(3, 0, 0, 0)]) (by omega) hp1 ?_ hq4.symm) (lpG_2s (s := (3, 0, 0, 0)) fw1_) rfl (by rw [nI_1]; show _ = [(0, _), (1, _), (2, Value.int (b2i (!q1_.1))), (3, _)]; rw [fw1_]; rfl) rfl
          show (l ++ List.map encX (r.2.2 ++ q1_.2.2 ++ if q1_.1 = true then [] else [(3, 0, 0, 0)])).length ≤ q1_.2.1
          have g1 := gdx1 gd1_ h2
          rw [List.length_append] at g1 ⊢
          rw [List.length_append, List.length_map] at g1
          rw [List.length_map, List.length_append, List.length_append]
          rw [List.length_map] at g1
          split <;> simp only [List.length_cons, List.length_nil] <;> omega
        rw [if_neg tkr21, decide_eq_false tkr21]
        show AW V 0 0 (lpH h lq cq r.2.1 (l ++ r.2.2.map encX)) 27 [(0, .ref lq), (1, .int 1), (2, .int (b2i (!r.1))), (3, .int (nI i))] [.int 0]
        refine a_if_eq hb 59 dX1_expression_27 (by decide) (fun c27 => ?_) (fun c27 => absurd (by decide) c27)
        refine a_iload_n hb dX1_expression_59 rfl 2 rfl ?_
        exact a_ireturn (ty := .boolean) hb hz dX1_expression_60 hret (b2i_nb _) (by rw [hr]; exact Nat.le_of_ble_eq_true rfl) (by rw [hr]; exact Nat.le_of_ble_eq_true rfl) (⟨by rw [← h4, lpR_n tkr21], by rw [← h4, lpR_n tkr21]; rfl⟩)
  refine a_aload_n hb dX1_expression_0 rfl 0 rfl ?_
  refine a_iload_n hb dX1_expression_1 rfl 1 rfl ?_
  refine a_callV hb dX1_expression_2 (by rw [hg]; exact l_ter4 g h lq tq cq n t1 t2 t3 q0 q7 ne1 ne2 ne3 hn H hH hE p l hp hll) (by rw [ow]; exact clv_RX1_88) (lp_k (h := h) (lq := lq) (cq := cq) (p := p) (l := l) t1) (by decide) rfl rfl rfl (Nat.le_of_ble_eq_true rfl) (by rw [hr]; exact ⟨by decide, by decide⟩) (by rw [hr]; exact ⟨Nat.le_of_ble_eq_true rfl, Nat.le_of_ble_eq_true rfl⟩) ?_
  intro rv h' hq_
  rw [hq_.1, hq_.2]
  clear hq_ rv h'
  have gd1_ := pV_gH hE 4 p
  generalize eQ1 : pV (pF H 4) H p = q1_ at gd1_ ⊢
  have hp1 := gd1_.2 hp
  have hl1 := gdx gd1_ hll
  show AW V 0 0 (lpH h lq cq q1_.2.1 (l ++ q1_.2.2.map encX)) 5 [(0, .ref lq), (1, .int 1)] [.int (b2i (!q1_.1))]
  refine a_istore_n (L' := [(2, .int (b2i (!q1_.1))), (0, .ref lq), (1, .int 1)]) hb dX1_expression_5 rfl (by rw [hml]; decide) rfl ?_
  refine a_iconst (v := 0) hb dX1_expression_6 (by decide) ?_
  refine a_istore_n (L' := [(3, .int 0), (2, .int (b2i (!q1_.1))), (0, .ref lq), (1, .int 1)]) hb dX1_expression_7 rfl (by rw [hml]; decide) rfl ?_
  refine AW.sub (L' := [(0, .ref lq), (1, .int 1), (2, .int (b2i (!q1_.1))), (3, .int 0)]) [2, 3, 1, 0] rfl ?_
  exact loop n 0 q1_ (by omega) hp1 hl1 ((pE_x (gd_p (pV_gH hE 4)) hE hn eQ1).trans hR)
set_option maxRecDepth 100000 in
theorem l_fac5 (g : GG) (h : AH) (lq tq cq n : Nat) (t1 : hT h lq = (1, 0)) (t2 : hT h tq = (13, n)) (t3 : hT h cq = (14, n)) (q0 : hQ h lq 0 = some tq) (q7 : hQ h lq 7 = some cq) (ne1 : lq ≠ cq) (ne2 : tq ≠ lq) (ne3 : tq ≠ cq) (hn : n ≤ 120) (H : Nat → Int32) (hH : ∀ p, p < n → hI h tq p = bx (H p) ∧ oO (H p) 0 255 = false) (hE : ∀ p, n ≤ p → H p = -1) (p : Nat) (l : List Int32) (hp : p ≤ n) (hll : l.length ≤ p) : AM g 24 0 0 mX1_factor [.ref lq, .int 0] (lpH h lq cq p l) (fun rv h' => rv = some (.int (b2i (!(pF H 5 p).1))) ∧ h' = lpG h lq cq l (pF H 5 p)) := by
  refine AM.of [(0, .ref lq), (1, .int 0)] (by decide) (Nat.le_of_ble_eq_true rfl) rfl ?_
  intro V hV
  have hb : V.2.1.2.1 = cX1_factor := by subst hV; rfl
  have ow : V.2.1.1.cls = RX1 := by subst hV; rfl
  have hr : V.2.2.1 = aw_rm 24 0 0 := by subst hV; rfl
  have hz : V.2.2.2 = aw_Z V.1 (fun rv h' => rv = some (.int (b2i (!(pF H 5 p).1))) ∧ h' = lpG h lq cq l (pF H 5 p)) V.2.2.1 := by subst hV; rfl
  have hg : V.1 = g := by subst hV; rfl
  have hret : V.2.1.2.2.2 = (some .boolean) := by subst hV; rfl
  have hml : V.2.1.2.2.1 = 2 := by subst hV; rfl
  clear hV
  refine a_aload_n hb dX1_factor_0 rfl 0 rfl ?_
  refine a_bipush (v := 33) hb dX1_factor_1 (by decide) ?_
  refine a_callV hb dX1_factor_3 (by rw [hg]; exact l_next g h lq tq cq n t1 t2 t3 q0 q7 ne1 ne2 ne3 hn H hH hE p l hp 33 (by decide)) (by rw [ow]; exact clv_RX1_65) (lp_k (h := h) (lq := lq) (cq := cq) (p := p) (l := l) t1) (by decide) rfl rfl rfl (Nat.le_of_ble_eq_true rfl) (by rw [hr]; exact ⟨by decide, by decide⟩) (by rw [hr]; exact ⟨Nat.le_of_ble_eq_true rfl, Nat.le_of_ble_eq_true rfl⟩) ?_
  intro rv h' hq_
  rw [hq_.1, hq_.2]
  clear hq_ rv h'
  by_cases nx33 : H p = 33
  · rw [decide_eq_true nx33]
    show AW V 0 0 (lpH h lq cq p l) 6 [(0, .ref lq), (1, .int 0)] [.int 1]
    refine a_if_ne hb 23 dX1_factor_6 (by decide) (fun c6 => ?_) (fun c6 => absurd c6 (by decide))
    refine a_iload_n hb dX1_factor_23 rfl 1 rfl ?_
    refine a_iconst (v := 5) hb dX1_factor_24 (by decide) ?_
    refine a_icmp_lt hb 30 dX1_factor_25 (by decide) (fun c25 => ?_) (fun c25 => absurd (by decide) c25)
    refine a_aload_n hb dX1_factor_30 rfl 0 rfl ?_
    refine a_bipush (v := 33) hb dX1_factor_31 (by decide) ?_
    refine a_callV hb dX1_factor_33 (by rw [hg]; exact l_take g h lq tq cq n t1 t2 t3 q0 q7 ne1 ne2 ne3 hn H hH hE p l hp 33 (by decide)) (by rw [ow]; exact clv_RX1_43) (lp_k (h := h) (lq := lq) (cq := cq) (p := p) (l := l) t1) (by decide) rfl rfl rfl (Nat.le_of_ble_eq_true rfl) (by rw [hr]; exact ⟨by decide, by decide⟩) (by rw [hr]; exact ⟨Nat.le_of_ble_eq_true rfl, Nat.le_of_ble_eq_true rfl⟩) ?_
    intro rv h' hq_
    rw [hq_.1, hq_.2]
    clear hq_ rv h'
    have ltnx33 : p < n := H_c hE (by decide) nx33
    rw [if_pos nx33, decide_eq_true nx33]
    show AW V 0 0 (lpH h lq cq (p + 1) l) 36 [(0, .ref lq), (1, .int 0)] [.int 1]
    refine a_if_eq hb 64 dX1_factor_36 (by decide) (fun c36 => absurd c36 (by decide)) (fun c36 => ?_)
    refine a_aload_n hb dX1_factor_39 rfl 0 rfl ?_
    refine a_iload_n hb dX1_factor_40 rfl 1 rfl ?_
    refine a_iconst (v := 1) hb dX1_factor_41 (by decide) ?_
    refine a_iadd hb dX1_factor_42 ?_
    rw [show (0 : Int32) + 1 = 1 from by decide]
    show AW V 0 0 (lpH h lq cq (p + 1) l) 43 [(0, .ref lq), (1, .int 0)] [.int 1, .ref lq]
    refine a_callV hb dX1_factor_43 (by rw [hg]; exact l_fac4 g h lq tq cq n t1 t2 t3 q0 q7 ne1 ne2 ne3 hn H hH hE (p + 1) l ltnx33 (Nat.le_succ_of_le hll)) (by rw [ow]; exact clv_RX1_94) (lp_k (h := h) (lq := lq) (cq := cq) (p := p + 1) (l := l) t1) (by decide) rfl rfl rfl (Nat.le_of_ble_eq_true rfl) (by rw [hr]; exact ⟨by decide, by decide⟩) (by rw [hr]; exact ⟨Nat.le_of_ble_eq_true rfl, Nat.le_of_ble_eq_true rfl⟩) ?_
    intro rv h' hq_
    rw [hq_.1, hq_.2]
    clear hq_ rv h'
    have gd1_ := pF_gH hE 4 (p + 1)
    generalize eQ1 : pF H 4 (p + 1) = q1_ at gd1_ ⊢
    have hp1 := gd1_.2 ltnx33
    have hl1 := gdx gd1_ (Nat.le_succ_of_le hll)
    by_cases w1_ : q1_.1 = true
    · rw [w1_]
      show AW V 0 0 (lpH h lq cq q1_.2.1 (l ++ q1_.2.2.map encX)) 46 [(0, .ref lq), (1, .int 0)] [.int 0]
      refine a_if_eq hb 62 dX1_factor_46 (by decide) (fun c46 => ?_) (fun c46 => absurd (by decide) c46)
      refine a_iconst (v := 0) hb dX1_factor_62 (by decide) ?_
      exact a_ireturn (ty := .boolean) hb hz dX1_factor_63 hret (by first | rfl | (simp only [narrow]; done) | exact aw_nb _) (by rw [hr]; exact Nat.le_of_ble_eq_true rfl) (by rw [hr]; exact Nat.le_of_ble_eq_true rfl) (⟨by rw [pF_n nx33 eQ1, w1_]; rfl, by rw [pF_n nx33 eQ1]; exact lpG_w w1_⟩)
    have fw1_ : q1_.1 = false := by simpa using w1_
    rw [fw1_]
    show AW V 0 0 (lpH h lq cq q1_.2.1 (l ++ q1_.2.2.map encX)) 46 [(0, .ref lq), (1, .int 0)] [.int 1]
    refine a_if_eq hb 62 dX1_factor_46 (by decide) (fun c46 => absurd c46 (by decide)) (fun c46 => ?_)
    refine a_aload_n hb dX1_factor_49 rfl 0 rfl ?_
    refine a_bipush (v := (-3)) hb dX1_factor_50 (by decide) ?_
    refine a_callV hb dX1_factor_52 (by rw [hg]; exact l_emit g h lq tq cq n t1 t2 t3 q0 q7 ne1 ne2 ne3 hn H hH hE q1_.2.1 (l ++ q1_.2.2.map encX) hp1 (-3) (by have := gdx1 gd1_ hll; omega)) (by rw [ow]; exact clv_RX1_91) (lp_k (h := h) (lq := lq) (cq := cq) (p := q1_.2.1) (l := (l ++ q1_.2.2.map encX)) t1) (by decide) rfl rfl rfl (Nat.le_of_ble_eq_true rfl) (by rw [hr]; exact ⟨by decide, by decide⟩) (by rw [hr]; exact ⟨Nat.le_of_ble_eq_true rfl, Nat.le_of_ble_eq_true rfl⟩) ?_
    intro rv h' hq_
    rw [hq_.1, hq_.2]
    show AW V 0 0 (lpH h lq cq q1_.2.1 ((l ++ q1_.2.2.map encX) ++ [(-3)])) 55 [(0, .ref lq), (1, .int 0)] [.int 1]
    refine a_if_eq hb 62 dX1_factor_55 (by decide) (fun c55 => absurd c55 (by decide)) (fun c55 => ?_)
    refine a_iconst (v := 1) hb dX1_factor_58 (by decide) ?_
    refine a_goto hb 63 dX1_factor_59 (by decide) ?_
    exact a_ireturn (ty := .boolean) hb hz dX1_factor_63 hret (by first | rfl | (simp only [narrow]; done) | exact aw_nb _) (by rw [hr]; exact Nat.le_of_ble_eq_true rfl) (by rw [hr]; exact Nat.le_of_ble_eq_true rfl) (⟨by rw [pF_n nx33 eQ1, fw1_]; rfl, by rw [pF_n nx33 eQ1]; exact lpG_s (s := (1, 0, 0, 0)) fw1_⟩)
  rw [decide_eq_false nx33]
  show AW V 0 0 (lpH h lq cq p l) 6 [(0, .ref lq), (1, .int 0)] [.int 0]
  refine a_if_ne hb 23 dX1_factor_6 (by decide) (fun c6 => absurd c6 (by decide)) (fun c6 => ?_)
  refine a_aload_n hb dX1_factor_9 rfl 0 rfl ?_
  refine a_bipush (v := 40) hb dX1_factor_10 (by decide) ?_
  refine a_callV hb dX1_factor_12 (by rw [hg]; exact l_next g h lq tq cq n t1 t2 t3 q0 q7 ne1 ne2 ne3 hn H hH hE p l hp 40 (by decide)) (by rw [ow]; exact clv_RX1_65) (lp_k (h := h) (lq := lq) (cq := cq) (p := p) (l := l) t1) (by decide) rfl rfl rfl (Nat.le_of_ble_eq_true rfl) (by rw [hr]; exact ⟨by decide, by decide⟩) (by rw [hr]; exact ⟨Nat.le_of_ble_eq_true rfl, Nat.le_of_ble_eq_true rfl⟩) ?_
  intro rv h' hq_
  rw [hq_.1, hq_.2]
  clear hq_ rv h'
  by_cases nx40 : H p = 40
  · rw [decide_eq_true nx40]
    show AW V 0 0 (lpH h lq cq p l) 15 [(0, .ref lq), (1, .int 0)] [.int 1]
    refine a_if_ne hb 23 dX1_factor_15 (by decide) (fun c15 => ?_) (fun c15 => absurd c15 (by decide))
    refine a_iload_n hb dX1_factor_23 rfl 1 rfl ?_
    refine a_iconst (v := 5) hb dX1_factor_24 (by decide) ?_
    refine a_icmp_lt hb 30 dX1_factor_25 (by decide) (fun c25 => ?_) (fun c25 => absurd (by decide) c25)
    refine a_aload_n hb dX1_factor_30 rfl 0 rfl ?_
    refine a_bipush (v := 33) hb dX1_factor_31 (by decide) ?_
    refine a_callV hb dX1_factor_33 (by rw [hg]; exact l_take g h lq tq cq n t1 t2 t3 q0 q7 ne1 ne2 ne3 hn H hH hE p l hp 33 (by decide)) (by rw [ow]; exact clv_RX1_43) (lp_k (h := h) (lq := lq) (cq := cq) (p := p) (l := l) t1) (by decide) rfl rfl rfl (Nat.le_of_ble_eq_true rfl) (by rw [hr]; exact ⟨by decide, by decide⟩) (by rw [hr]; exact ⟨Nat.le_of_ble_eq_true rfl, Nat.le_of_ble_eq_true rfl⟩) ?_
    intro rv h' hq_
    rw [hq_.1, hq_.2]
    clear hq_ rv h'
    rw [if_neg nx33, decide_eq_false nx33]
    show AW V 0 0 (lpH h lq cq p l) 36 [(0, .ref lq), (1, .int 0)] [.int 0]
    refine a_if_eq hb 64 dX1_factor_36 (by decide) (fun c36 => ?_) (fun c36 => absurd (by decide) c36)
    refine a_aload_n hb dX1_factor_64 rfl 0 rfl ?_
    refine a_bipush (v := 40) hb dX1_factor_65 (by decide) ?_
    refine a_callV hb dX1_factor_67 (by rw [hg]; exact l_take g h lq tq cq n t1 t2 t3 q0 q7 ne1 ne2 ne3 hn H hH hE p l hp 40 (by decide)) (by rw [ow]; exact clv_RX1_43) (lp_k (h := h) (lq := lq) (cq := cq) (p := p) (l := l) t1) (by decide) rfl rfl rfl (Nat.le_of_ble_eq_true rfl) (by rw [hr]; exact ⟨by decide, by decide⟩) (by rw [hr]; exact ⟨Nat.le_of_ble_eq_true rfl, Nat.le_of_ble_eq_true rfl⟩) ?_
    intro rv h' hq_
    rw [hq_.1, hq_.2]
    clear hq_ rv h'
    have ltnx40 : p < n := H_c hE (by decide) nx40
    rw [if_pos nx40, decide_eq_true nx40]
    show AW V 0 0 (lpH h lq cq (p + 1) l) 70 [(0, .ref lq), (1, .int 0)] [.int 1]
    refine a_if_eq hb 96 dX1_factor_70 (by decide) (fun c70 => absurd c70 (by decide)) (fun c70 => ?_)
    refine a_aload_n hb dX1_factor_73 rfl 0 rfl ?_
    refine a_iload_n hb dX1_factor_74 rfl 1 rfl ?_
    refine a_iconst (v := 1) hb dX1_factor_75 (by decide) ?_
    refine a_iadd hb dX1_factor_76 ?_
    rw [show (0 : Int32) + 1 = 1 from by decide]
    show AW V 0 0 (lpH h lq cq (p + 1) l) 77 [(0, .ref lq), (1, .int 0)] [.int 1, .ref lq]
    refine a_callV hb dX1_factor_77 (by rw [hg]; exact l_exp4 g h lq tq cq n t1 t2 t3 q0 q7 ne1 ne2 ne3 hn H hH hE (p + 1) l ltnx40 (Nat.le_succ_of_le hll)) (by rw [ow]; exact clv_RX1_85) (lp_k (h := h) (lq := lq) (cq := cq) (p := p + 1) (l := l) t1) (by decide) rfl rfl rfl (Nat.le_of_ble_eq_true rfl) (by rw [hr]; exact ⟨by decide, by decide⟩) (by rw [hr]; exact ⟨Nat.le_of_ble_eq_true rfl, Nat.le_of_ble_eq_true rfl⟩) ?_
    intro rv h' hq_
    rw [hq_.1, hq_.2]
    clear hq_ rv h'
    have gd2_ := pE_gH hE 4 (p + 1)
    generalize eQ2 : pE (pF H 4) H (p + 1) = q2_ at gd2_ ⊢
    have hp2 := gd2_.2 ltnx40
    have hl2 := gdx gd2_ (Nat.le_succ_of_le hll)
    by_cases w2_ : q2_.1 = true
    · rw [w2_]
      show AW V 0 0 (lpH h lq cq q2_.2.1 (l ++ q2_.2.2.map encX)) 80 [(0, .ref lq), (1, .int 0)] [.int 0]
      refine a_if_eq hb 96 dX1_factor_80 (by decide) (fun c80 => ?_) (fun c80 => absurd (by decide) c80)
      refine a_iconst (v := 0) hb dX1_factor_96 (by decide) ?_
      exact a_ireturn (ty := .boolean) hb hz dX1_factor_97 hret (by first | rfl | (simp only [narrow]; done) | exact aw_nb _) (by rw [hr]; exact Nat.le_of_ble_eq_true rfl) (by rw [hr]; exact Nat.le_of_ble_eq_true rfl) (⟨by rw [pF_p nx33 nx40 eQ2, if_pos w2_, w2_]; rfl, by rw [pF_p nx33 nx40 eQ2, if_pos w2_]; rfl⟩)
    have fw2_ : q2_.1 = false := by simpa using w2_
    rw [fw2_]
    show AW V 0 0 (lpH h lq cq q2_.2.1 (l ++ q2_.2.2.map encX)) 80 [(0, .ref lq), (1, .int 0)] [.int 1]
    refine a_if_eq hb 96 dX1_factor_80 (by decide) (fun c80 => absurd c80 (by decide)) (fun c80 => ?_)
    refine a_aload_n hb dX1_factor_83 rfl 0 rfl ?_
    refine a_bipush (v := 41) hb dX1_factor_84 (by decide) ?_
    refine a_callV hb dX1_factor_86 (by rw [hg]; exact l_take g h lq tq cq n t1 t2 t3 q0 q7 ne1 ne2 ne3 hn H hH hE q2_.2.1 (l ++ q2_.2.2.map encX) hp2 41 (by decide)) (by rw [ow]; exact clv_RX1_43) (lp_k (h := h) (lq := lq) (cq := cq) (p := q2_.2.1) (l := (l ++ q2_.2.2.map encX)) t1) (by decide) rfl rfl rfl (Nat.le_of_ble_eq_true rfl) (by rw [hr]; exact ⟨by decide, by decide⟩) (by rw [hr]; exact ⟨Nat.le_of_ble_eq_true rfl, Nat.le_of_ble_eq_true rfl⟩) ?_
    intro rv h' hq_
    rw [hq_.1, hq_.2]
    clear hq_ rv h'
    by_cases tkq2_21 : H q2_.2.1 = 41
    · have lttkq2_21 : q2_.2.1 < n := H_c hE (by decide) tkq2_21
      rw [if_pos tkq2_21, decide_eq_true tkq2_21]
      show AW V 0 0 (lpH h lq cq (q2_.2.1 + 1) (l ++ q2_.2.2.map encX)) 89 [(0, .ref lq), (1, .int 0)] [.int 1]
      refine a_if_eq hb 96 dX1_factor_89 (by decide) (fun c89 => absurd c89 (by decide)) (fun c89 => ?_)
      refine a_iconst (v := 1) hb dX1_factor_92 (by decide) ?_
      refine a_goto hb 97 dX1_factor_93 (by decide) ?_
      exact a_ireturn (ty := .boolean) hb hz dX1_factor_97 hret (by first | rfl | (simp only [narrow]; done) | exact aw_nb _) (by rw [hr]; exact Nat.le_of_ble_eq_true rfl) (by rw [hr]; exact Nat.le_of_ble_eq_true rfl) (⟨by rw [pF_p nx33 nx40 eQ2, if_neg w2_, if_pos tkq2_21]; rfl, by rw [pF_p nx33 nx40 eQ2, if_neg w2_, if_pos tkq2_21]; rfl⟩)
    rw [if_neg tkq2_21, decide_eq_false tkq2_21]
    show AW V 0 0 (lpH h lq cq q2_.2.1 (l ++ q2_.2.2.map encX)) 89 [(0, .ref lq), (1, .int 0)] [.int 0]
    refine a_if_eq hb 96 dX1_factor_89 (by decide) (fun c89 => ?_) (fun c89 => absurd (by decide) c89)
    refine a_iconst (v := 0) hb dX1_factor_96 (by decide) ?_
    exact a_ireturn (ty := .boolean) hb hz dX1_factor_97 hret (by first | rfl | (simp only [narrow]; done) | exact aw_nb _) (by rw [hr]; exact Nat.le_of_ble_eq_true rfl) (by rw [hr]; exact Nat.le_of_ble_eq_true rfl) (⟨by rw [pF_p nx33 nx40 eQ2, if_neg w2_, if_neg tkq2_21]; rfl, by rw [pF_p nx33 nx40 eQ2, if_neg w2_, if_neg tkq2_21]; rfl⟩)
  rw [decide_eq_false nx40]
  show AW V 0 0 (lpH h lq cq p l) 15 [(0, .ref lq), (1, .int 0)] [.int 0]
  refine a_if_ne hb 23 dX1_factor_15 (by decide) (fun c15 => absurd c15 (by decide)) (fun c15 => ?_)
  refine a_aload_n hb dX1_factor_18 rfl 0 rfl ?_
  refine a_callV hb dX1_factor_19 (by rw [hg]; exact l_tst g h lq tq cq n t1 t2 t3 q0 q7 ne1 ne2 ne3 hn H hH hE p l hp hll) (by rw [ow]; exact clv_RX1_97) (lp_k (h := h) (lq := lq) (cq := cq) (p := p) (l := l) t1) (by decide) rfl rfl rfl (Nat.le_of_ble_eq_true rfl) (by rw [hr]; exact ⟨by decide, by decide⟩) (by rw [hr]; exact ⟨Nat.le_of_ble_eq_true rfl, Nat.le_of_ble_eq_true rfl⟩) ?_
  intro rv h' hq_
  rw [hq_.1, hq_.2]
  show AW V 0 0 (lpG h lq cq l (pT H p)) 22 [(0, .ref lq), (1, .int 0)] [.int (b2i (!(pT H p).1))]
  exact a_ireturn (ty := .boolean) hb hz dX1_factor_22 hret (b2i_nb _) (by rw [hr]; exact Nat.le_of_ble_eq_true rfl) (by rw [hr]; exact Nat.le_of_ble_eq_true rfl) (⟨by rw [pF_T nx33 nx40], by rw [pF_T nx33 nx40]⟩)
set_option maxRecDepth 100000 in
theorem l_ter5 (g : GG) (h : AH) (lq tq cq n : Nat) (t1 : hT h lq = (1, 0)) (t2 : hT h tq = (13, n)) (t3 : hT h cq = (14, n)) (q0 : hQ h lq 0 = some tq) (q7 : hQ h lq 7 = some cq) (ne1 : lq ≠ cq) (ne2 : tq ≠ lq) (ne3 : tq ≠ cq) (hn : n ≤ 120) (H : Nat → Int32) (hH : ∀ p, p < n → hI h tq p = bx (H p) ∧ oO (H p) 0 255 = false) (hE : ∀ p, n ≤ p → H p = -1) (p : Nat) (l : List Int32) (hp : p ≤ n) (hll : l.length ≤ p) : AM g 25 0 0 mX1_term [.ref lq, .int 0] (lpH h lq cq p l) (fun rv h' => rv = some (.int (b2i (!(pV (pF H 5) H p).1))) ∧ h' = lpG h lq cq l (pV (pF H 5) H p)) := by
  refine AM.of [(0, .ref lq), (1, .int 0)] (by decide) (Nat.le_of_ble_eq_true rfl) rfl ?_
  intro V hV
  have hb : V.2.1.2.1 = cX1_term := by subst hV; rfl
  have ow : V.2.1.1.cls = RX1 := by subst hV; rfl
  have hr : V.2.2.1 = aw_rm 25 0 0 := by subst hV; rfl
  have hz : V.2.2.2 = aw_Z V.1 (fun rv h' => rv = some (.int (b2i (!(pV (pF H 5) H p).1))) ∧ h' = lpG h lq cq l (pV (pF H 5) H p)) V.2.2.1 := by subst hV; rfl
  have hg : V.1 = g := by subst hV; rfl
  have hret : V.2.1.2.2.2 = (some .boolean) := by subst hV; rfl
  have hml : V.2.1.2.2.1 = 4 := by subst hV; rfl
  clear hV
  generalize hR : pV (pF H 5) H p = R at hz
  have loop : ∀ (k i : Nat) (r : PR), i + k = n → r.2.1 ≤ n → (l ++ r.2.2.map encX).length ≤ r.2.1 → lpR (pF H 5) H 38 (2, 0, 0, 0) k r = R → AW V 0 0 (lpG h lq cq l r) 8 [(0, .ref lq), (1, .int 0), (2, .int (b2i (!r.1))), (3, .int (nI i))] [] := by
    intro k
    induction k with
    | zero =>
      intro i r hi h1 h2 h4
      show AW V 0 0 (lpH h lq cq r.2.1 (l ++ r.2.2.map encX)) 8 [(0, .ref lq), (1, .int 0), (2, .int (b2i (!r.1))), (3, .int (nI i))] []
      refine a_iload_n hb dX1_term_8 rfl 3 rfl ?_
      refine a_aload_n hb dX1_term_9 rfl 0 rfl ?_
      refine a_getQ (q := tq) hb dX1_term_10 (by rw [ow]; exact fl_RX1_32_1) (lp_k (h := h) (lq := lq) (cq := cq) (p := r.2.1) (l := (l ++ r.2.2.map encX)) t1) (lp_q (h := h) (lq := lq) (cq := cq) (p := r.2.1) (l := (l ++ r.2.2.map encX)) q0) ?_
      refine a_alenI (v := (nI n)) hb dX1_term_13 (lp_k (h := h) (lq := lq) (cq := cq) (p := r.2.1) (l := (l ++ r.2.2.map encX)) t2) (by decide) rfl ?_
      refine a_icmp_ge hb 58 dX1_term_14 (by decide) (fun c14 => ?_) (fun c14 => absurd (nI_le (by omega) (by omega)) c14)
      refine a_iload_n hb dX1_term_58 rfl 2 rfl ?_
      exact a_ireturn (ty := .boolean) hb hz dX1_term_59 hret (b2i_nb _) (by rw [hr]; exact Nat.le_of_ble_eq_true rfl) (by rw [hr]; exact Nat.le_of_ble_eq_true rfl) (⟨by rw [← h4]; rfl, by rw [← h4]; rfl⟩)
    | succ k ih =>
      intro i r hi h1 h2 h4
      show AW V 0 0 (lpH h lq cq r.2.1 (l ++ r.2.2.map encX)) 8 [(0, .ref lq), (1, .int 0), (2, .int (b2i (!r.1))), (3, .int (nI i))] []
      refine a_iload_n hb dX1_term_8 rfl 3 rfl ?_
      refine a_aload_n hb dX1_term_9 rfl 0 rfl ?_
      refine a_getQ (q := tq) hb dX1_term_10 (by rw [ow]; exact fl_RX1_32_1) (lp_k (h := h) (lq := lq) (cq := cq) (p := r.2.1) (l := (l ++ r.2.2.map encX)) t1) (lp_q (h := h) (lq := lq) (cq := cq) (p := r.2.1) (l := (l ++ r.2.2.map encX)) q0) ?_
      refine a_alenI (v := (nI n)) hb dX1_term_13 (lp_k (h := h) (lq := lq) (cq := cq) (p := r.2.1) (l := (l ++ r.2.2.map encX)) t2) (by decide) rfl ?_
      refine a_icmp_ge hb 58 dX1_term_14 (by decide) (fun c14 => absurd c14 (nI_ge (by omega) (by omega))) (fun c14 => ?_)
      refine a_iload_n hb dX1_term_17 rfl 2 rfl ?_
      refine a_if_eq hb 58 dX1_term_18 (by decide) (fun c18 => ?_) (fun c18 => ?_)
      · simp [b2i_0] at c18
        have rt : r.1 = true := by simpa using c18
        refine a_iload_n hb dX1_term_58 rfl 2 rfl ?_
        exact a_ireturn (ty := .boolean) hb hz dX1_term_59 hret (b2i_nb _) (by rw [hr]; exact Nat.le_of_ble_eq_true rfl) (by rw [hr]; exact Nat.le_of_ble_eq_true rfl) (⟨by rw [← h4, lpR_w rt], by rw [← h4, lpR_w rt]; rfl⟩)
      · simp [b2i_0] at c18
        have rf : r.1 = false := by simpa using c18
        refine a_aload_n hb dX1_term_21 rfl 0 rfl ?_
        refine a_bipush (v := 38) hb dX1_term_22 (by decide) ?_
        refine a_callV hb dX1_term_24 (by rw [hg]; exact l_take g h lq tq cq n t1 t2 t3 q0 q7 ne1 ne2 ne3 hn H hH hE r.2.1 (l ++ r.2.2.map encX) h1 38 (by decide)) (by rw [ow]; exact clv_RX1_43) (lp_k (h := h) (lq := lq) (cq := cq) (p := r.2.1) (l := (l ++ r.2.2.map encX)) t1) (by decide) rfl rfl rfl (Nat.le_of_ble_eq_true rfl) (by rw [hr]; exact ⟨by decide, by decide⟩) (by rw [hr]; exact ⟨Nat.le_of_ble_eq_true rfl, Nat.le_of_ble_eq_true rfl⟩) ?_
        intro rv h' hq_
        rw [hq_.1, hq_.2]
        clear hq_ rv h'
        by_cases tkr21 : H r.2.1 = 38
        · have lttkr21 : r.2.1 < n := H_c hE (by decide) tkr21
          rw [if_pos tkr21, decide_eq_true tkr21]
          show AW V 0 0 (lpH h lq cq (r.2.1 + 1) (l ++ r.2.2.map encX)) 27 [(0, .ref lq), (1, .int 0), (2, .int (b2i (!r.1))), (3, .int (nI i))] [.int 1]
          refine a_if_eq hb 58 dX1_term_27 (by decide) (fun c27 => absurd c27 (by decide)) (fun c27 => ?_)
          refine a_aload_n hb dX1_term_30 rfl 0 rfl ?_
          refine a_iload_n hb dX1_term_31 rfl 1 rfl ?_
          refine a_callV hb dX1_term_32 (by rw [hg]; exact l_fac5 g h lq tq cq n t1 t2 t3 q0 q7 ne1 ne2 ne3 hn H hH hE (r.2.1 + 1) (l ++ r.2.2.map encX) lttkr21 (Nat.le_succ_of_le h2)) (by rw [ow]; exact clv_RX1_94) (lp_k (h := h) (lq := lq) (cq := cq) (p := r.2.1 + 1) (l := (l ++ r.2.2.map encX)) t1) (by decide) rfl rfl rfl (Nat.le_of_ble_eq_true rfl) (by rw [hr]; exact ⟨by decide, by decide⟩) (by rw [hr]; exact ⟨Nat.le_of_ble_eq_true rfl, Nat.le_of_ble_eq_true rfl⟩) ?_
          intro rv h' hq_
          rw [hq_.1, hq_.2]
          clear hq_ rv h'
          have gd1_ := pF_gH hE 5 (r.2.1 + 1)
          generalize eQ1 : pF H 5 (r.2.1 + 1) = q1_ at gd1_ ⊢
          have hp1 := gd1_.2 lttkr21
          have hl1 := gdx gd1_ (Nat.le_succ_of_le h2)
          by_cases w1_ : q1_.1 = true
          · rw [w1_]
            show AW V 0 0 (lpH h lq cq q1_.2.1 ((l ++ r.2.2.map encX) ++ q1_.2.2.map encX)) 35 [(0, .ref lq), (1, .int 0), (2, .int (b2i (!r.1))), (3, .int (nI i))] [.int 0]
            refine a_if_eq hb 50 dX1_term_35 (by decide) (fun c35 => ?_) (fun c35 => absurd (by decide) c35)
            refine a_iconst (v := 0) hb dX1_term_50 (by decide) ?_
            refine a_istore_n (L' := [(2, .int 0), (0, .ref lq), (1, .int 0), (3, .int (nI i))]) hb dX1_term_51 rfl (by rw [hml]; decide) rfl ?_
            refine a_iinc (v := ((nI i) + 1)) (L' := [(3, .int ((nI i) + 1)), (2, .int 0), (0, .ref lq), (1, .int 0)]) hb dX1_term_52 3 rfl rfl (by rw [hml]; decide) rfl ?_
            refine a_goto hb 8 dX1_term_55 (by decide) ?_
            have hq4 := @lpR_s (pF H 5) H 38 (2, 0, 0, 0) k r _ rf tkr21 eQ1
            rw [h4] at hq4
            refine AW.sub (L' := [(0, .ref lq), (1, .int 0), (2, .int 0), (3, .int ((nI i) + 1))]) [2, 3, 1, 0] rfl ?_
            refine AW.eq (ih (i + 1) (q1_.1, q1_.2.1, r.2.2 ++ q1_.2.2 ++ if q1_.1 = true then [] else [(2, 0, 0, 0)]) (by omega) hp1 ?_ hq4.symm) (lpG_2w w1_) rfl (by rw [nI_1]; show _ = [(0, _), (1, _), (2, Value.int (b2i (!q1_.1))), (3, _)]; rw [w1_]; rfl) rfl
            show (l ++ List.map encX (r.2.2 ++ q1_.2.2 ++ if q1_.1 = true then [] else [(2, 0, 0, 0)])).length ≤ q1_.2.1
            have g1 := gdx1 gd1_ h2
            rw [List.length_append] at g1 ⊢
            rw [List.length_append, List.length_map] at g1
            rw [List.length_map, List.length_append, List.length_append]
            rw [List.length_map] at g1
            split <;> simp only [List.length_cons, List.length_nil] <;> omega
          have fw1_ : q1_.1 = false := by simpa using w1_
          rw [fw1_]
          show AW V 0 0 (lpH h lq cq q1_.2.1 ((l ++ r.2.2.map encX) ++ q1_.2.2.map encX)) 35 [(0, .ref lq), (1, .int 0), (2, .int (b2i (!r.1))), (3, .int (nI i))] [.int 1]
          refine a_if_eq hb 50 dX1_term_35 (by decide) (fun c35 => absurd c35 (by decide)) (fun c35 => ?_)
          refine a_aload_n hb dX1_term_38 rfl 0 rfl ?_
          refine a_iconst (v := (-1)) hb dX1_term_39 (by decide) ?_
          refine a_callV hb dX1_term_40 (by rw [hg]; exact l_emit g h lq tq cq n t1 t2 t3 q0 q7 ne1 ne2 ne3 hn H hH hE q1_.2.1 ((l ++ r.2.2.map encX) ++ q1_.2.2.map encX) hp1 (-1) (by have := gdx1 gd1_ h2; omega)) (by rw [ow]; exact clv_RX1_91) (lp_k (h := h) (lq := lq) (cq := cq) (p := q1_.2.1) (l := ((l ++ r.2.2.map encX) ++ q1_.2.2.map encX)) t1) (by decide) rfl rfl rfl (Nat.le_of_ble_eq_true rfl) (by rw [hr]; exact ⟨by decide, by decide⟩) (by rw [hr]; exact ⟨Nat.le_of_ble_eq_true rfl, Nat.le_of_ble_eq_true rfl⟩) ?_
          intro rv h' hq_
          rw [hq_.1, hq_.2]
          show AW V 0 0 (lpH h lq cq q1_.2.1 (((l ++ r.2.2.map encX) ++ q1_.2.2.map encX) ++ [(-1)])) 43 [(0, .ref lq), (1, .int 0), (2, .int (b2i (!r.1))), (3, .int (nI i))] [.int 1]
          refine a_if_eq hb 50 dX1_term_43 (by decide) (fun c43 => absurd c43 (by decide)) (fun c43 => ?_)
          refine a_iconst (v := 1) hb dX1_term_46 (by decide) ?_
          refine a_goto hb 51 dX1_term_47 (by decide) ?_
          refine a_istore_n (L' := [(2, .int 1), (0, .ref lq), (1, .int 0), (3, .int (nI i))]) hb dX1_term_51 rfl (by rw [hml]; decide) rfl ?_
          refine a_iinc (v := ((nI i) + 1)) (L' := [(3, .int ((nI i) + 1)), (2, .int 1), (0, .ref lq), (1, .int 0)]) hb dX1_term_52 3 rfl rfl (by rw [hml]; decide) rfl ?_
          refine a_goto hb 8 dX1_term_55 (by decide) ?_
          have hq4 := @lpR_s (pF H 5) H 38 (2, 0, 0, 0) k r _ rf tkr21 eQ1
          rw [h4] at hq4
          refine AW.sub (L' := [(0, .ref lq), (1, .int 0), (2, .int 1), (3, .int ((nI i) + 1))]) [2, 3, 1, 0] rfl ?_
          refine AW.eq (ih (i + 1) (q1_.1, q1_.2.1, r.2.2 ++ q1_.2.2 ++ if q1_.1 = true then [] else [(2, 0, 0, 0)]) (by omega) hp1 ?_ hq4.symm) (lpG_2s (s := (2, 0, 0, 0)) fw1_) rfl (by rw [nI_1]; show _ = [(0, _), (1, _), (2, Value.int (b2i (!q1_.1))), (3, _)]; rw [fw1_]; rfl) rfl
          show (l ++ List.map encX (r.2.2 ++ q1_.2.2 ++ if q1_.1 = true then [] else [(2, 0, 0, 0)])).length ≤ q1_.2.1
          have g1 := gdx1 gd1_ h2
          rw [List.length_append] at g1 ⊢
          rw [List.length_append, List.length_map] at g1
          rw [List.length_map, List.length_append, List.length_append]
          rw [List.length_map] at g1
          split <;> simp only [List.length_cons, List.length_nil] <;> omega
        rw [if_neg tkr21, decide_eq_false tkr21]
        show AW V 0 0 (lpH h lq cq r.2.1 (l ++ r.2.2.map encX)) 27 [(0, .ref lq), (1, .int 0), (2, .int (b2i (!r.1))), (3, .int (nI i))] [.int 0]
        refine a_if_eq hb 58 dX1_term_27 (by decide) (fun c27 => ?_) (fun c27 => absurd (by decide) c27)
        refine a_iload_n hb dX1_term_58 rfl 2 rfl ?_
        exact a_ireturn (ty := .boolean) hb hz dX1_term_59 hret (b2i_nb _) (by rw [hr]; exact Nat.le_of_ble_eq_true rfl) (by rw [hr]; exact Nat.le_of_ble_eq_true rfl) (⟨by rw [← h4, lpR_n tkr21], by rw [← h4, lpR_n tkr21]; rfl⟩)
  refine a_aload_n hb dX1_term_0 rfl 0 rfl ?_
  refine a_iload_n hb dX1_term_1 rfl 1 rfl ?_
  refine a_callV hb dX1_term_2 (by rw [hg]; exact l_fac5 g h lq tq cq n t1 t2 t3 q0 q7 ne1 ne2 ne3 hn H hH hE p l hp hll) (by rw [ow]; exact clv_RX1_94) (lp_k (h := h) (lq := lq) (cq := cq) (p := p) (l := l) t1) (by decide) rfl rfl rfl (Nat.le_of_ble_eq_true rfl) (by rw [hr]; exact ⟨by decide, by decide⟩) (by rw [hr]; exact ⟨Nat.le_of_ble_eq_true rfl, Nat.le_of_ble_eq_true rfl⟩) ?_
  intro rv h' hq_
  rw [hq_.1, hq_.2]
  clear hq_ rv h'
  have gd1_ := pF_gH hE 5 p
  generalize eQ1 : pF H 5 p = q1_ at gd1_ ⊢
  have hp1 := gd1_.2 hp
  have hl1 := gdx gd1_ hll
  show AW V 0 0 (lpH h lq cq q1_.2.1 (l ++ q1_.2.2.map encX)) 5 [(0, .ref lq), (1, .int 0)] [.int (b2i (!q1_.1))]
  refine a_istore_n (L' := [(2, .int (b2i (!q1_.1))), (0, .ref lq), (1, .int 0)]) hb dX1_term_5 rfl (by rw [hml]; decide) rfl ?_
  refine a_iconst (v := 0) hb dX1_term_6 (by decide) ?_
  refine a_istore_n (L' := [(3, .int 0), (2, .int (b2i (!q1_.1))), (0, .ref lq), (1, .int 0)]) hb dX1_term_7 rfl (by rw [hml]; decide) rfl ?_
  refine AW.sub (L' := [(0, .ref lq), (1, .int 0), (2, .int (b2i (!q1_.1))), (3, .int 0)]) [2, 3, 1, 0] rfl ?_
  exact loop n 0 q1_ (by omega) hp1 hl1 ((pV_x (gd_p (pF_gH hE 5)) hE hn eQ1).trans hR)
set_option maxRecDepth 100000 in
theorem l_exp5 (g : GG) (h : AH) (lq tq cq n : Nat) (t1 : hT h lq = (1, 0)) (t2 : hT h tq = (13, n)) (t3 : hT h cq = (14, n)) (q0 : hQ h lq 0 = some tq) (q7 : hQ h lq 7 = some cq) (ne1 : lq ≠ cq) (ne2 : tq ≠ lq) (ne3 : tq ≠ cq) (hn : n ≤ 120) (H : Nat → Int32) (hH : ∀ p, p < n → hI h tq p = bx (H p) ∧ oO (H p) 0 255 = false) (hE : ∀ p, n ≤ p → H p = -1) (p : Nat) (l : List Int32) (hp : p ≤ n) (hll : l.length ≤ p) : AM g 26 0 0 mX1_expression [.ref lq, .int 0] (lpH h lq cq p l) (fun rv h' => rv = some (.int (b2i (!(pE (pF H 5) H p).1))) ∧ h' = lpG h lq cq l (pE (pF H 5) H p)) := by
  refine AM.of [(0, .ref lq), (1, .int 0)] (by decide) (Nat.le_of_ble_eq_true rfl) rfl ?_
  intro V hV
  have hb : V.2.1.2.1 = cX1_expression := by subst hV; rfl
  have ow : V.2.1.1.cls = RX1 := by subst hV; rfl
  have hr : V.2.2.1 = aw_rm 26 0 0 := by subst hV; rfl
  have hz : V.2.2.2 = aw_Z V.1 (fun rv h' => rv = some (.int (b2i (!(pE (pF H 5) H p).1))) ∧ h' = lpG h lq cq l (pE (pF H 5) H p)) V.2.2.1 := by subst hV; rfl
  have hg : V.1 = g := by subst hV; rfl
  have hret : V.2.1.2.2.2 = (some .boolean) := by subst hV; rfl
  have hml : V.2.1.2.2.1 = 4 := by subst hV; rfl
  clear hV
  generalize hR : pE (pF H 5) H p = R at hz
  have loop : ∀ (k i : Nat) (r : PR), i + k = n → r.2.1 ≤ n → (l ++ r.2.2.map encX).length ≤ r.2.1 → lpR (pV (pF H 5) H) H 124 (3, 0, 0, 0) k r = R → AW V 0 0 (lpG h lq cq l r) 8 [(0, .ref lq), (1, .int 0), (2, .int (b2i (!r.1))), (3, .int (nI i))] [] := by
    intro k
    induction k with
    | zero =>
      intro i r hi h1 h2 h4
      show AW V 0 0 (lpH h lq cq r.2.1 (l ++ r.2.2.map encX)) 8 [(0, .ref lq), (1, .int 0), (2, .int (b2i (!r.1))), (3, .int (nI i))] []
      refine a_iload_n hb dX1_expression_8 rfl 3 rfl ?_
      refine a_aload_n hb dX1_expression_9 rfl 0 rfl ?_
      refine a_getQ (q := tq) hb dX1_expression_10 (by rw [ow]; exact fl_RX1_32_1) (lp_k (h := h) (lq := lq) (cq := cq) (p := r.2.1) (l := (l ++ r.2.2.map encX)) t1) (lp_q (h := h) (lq := lq) (cq := cq) (p := r.2.1) (l := (l ++ r.2.2.map encX)) q0) ?_
      refine a_alenI (v := (nI n)) hb dX1_expression_13 (lp_k (h := h) (lq := lq) (cq := cq) (p := r.2.1) (l := (l ++ r.2.2.map encX)) t2) (by decide) rfl ?_
      refine a_icmp_ge hb 59 dX1_expression_14 (by decide) (fun c14 => ?_) (fun c14 => absurd (nI_le (by omega) (by omega)) c14)
      refine a_iload_n hb dX1_expression_59 rfl 2 rfl ?_
      exact a_ireturn (ty := .boolean) hb hz dX1_expression_60 hret (b2i_nb _) (by rw [hr]; exact Nat.le_of_ble_eq_true rfl) (by rw [hr]; exact Nat.le_of_ble_eq_true rfl) (⟨by rw [← h4]; rfl, by rw [← h4]; rfl⟩)
    | succ k ih =>
      intro i r hi h1 h2 h4
      show AW V 0 0 (lpH h lq cq r.2.1 (l ++ r.2.2.map encX)) 8 [(0, .ref lq), (1, .int 0), (2, .int (b2i (!r.1))), (3, .int (nI i))] []
      refine a_iload_n hb dX1_expression_8 rfl 3 rfl ?_
      refine a_aload_n hb dX1_expression_9 rfl 0 rfl ?_
      refine a_getQ (q := tq) hb dX1_expression_10 (by rw [ow]; exact fl_RX1_32_1) (lp_k (h := h) (lq := lq) (cq := cq) (p := r.2.1) (l := (l ++ r.2.2.map encX)) t1) (lp_q (h := h) (lq := lq) (cq := cq) (p := r.2.1) (l := (l ++ r.2.2.map encX)) q0) ?_
      refine a_alenI (v := (nI n)) hb dX1_expression_13 (lp_k (h := h) (lq := lq) (cq := cq) (p := r.2.1) (l := (l ++ r.2.2.map encX)) t2) (by decide) rfl ?_
      refine a_icmp_ge hb 59 dX1_expression_14 (by decide) (fun c14 => absurd c14 (nI_ge (by omega) (by omega))) (fun c14 => ?_)
      refine a_iload_n hb dX1_expression_17 rfl 2 rfl ?_
      refine a_if_eq hb 59 dX1_expression_18 (by decide) (fun c18 => ?_) (fun c18 => ?_)
      · simp [b2i_0] at c18
        have rt : r.1 = true := by simpa using c18
        refine a_iload_n hb dX1_expression_59 rfl 2 rfl ?_
        exact a_ireturn (ty := .boolean) hb hz dX1_expression_60 hret (b2i_nb _) (by rw [hr]; exact Nat.le_of_ble_eq_true rfl) (by rw [hr]; exact Nat.le_of_ble_eq_true rfl) (⟨by rw [← h4, lpR_w rt], by rw [← h4, lpR_w rt]; rfl⟩)
      · simp [b2i_0] at c18
        have rf : r.1 = false := by simpa using c18
        refine a_aload_n hb dX1_expression_21 rfl 0 rfl ?_
        refine a_bipush (v := 124) hb dX1_expression_22 (by decide) ?_
        refine a_callV hb dX1_expression_24 (by rw [hg]; exact l_take g h lq tq cq n t1 t2 t3 q0 q7 ne1 ne2 ne3 hn H hH hE r.2.1 (l ++ r.2.2.map encX) h1 124 (by decide)) (by rw [ow]; exact clv_RX1_43) (lp_k (h := h) (lq := lq) (cq := cq) (p := r.2.1) (l := (l ++ r.2.2.map encX)) t1) (by decide) rfl rfl rfl (Nat.le_of_ble_eq_true rfl) (by rw [hr]; exact ⟨by decide, by decide⟩) (by rw [hr]; exact ⟨Nat.le_of_ble_eq_true rfl, Nat.le_of_ble_eq_true rfl⟩) ?_
        intro rv h' hq_
        rw [hq_.1, hq_.2]
        clear hq_ rv h'
        by_cases tkr21 : H r.2.1 = 124
        · have lttkr21 : r.2.1 < n := H_c hE (by decide) tkr21
          rw [if_pos tkr21, decide_eq_true tkr21]
          show AW V 0 0 (lpH h lq cq (r.2.1 + 1) (l ++ r.2.2.map encX)) 27 [(0, .ref lq), (1, .int 0), (2, .int (b2i (!r.1))), (3, .int (nI i))] [.int 1]
          refine a_if_eq hb 59 dX1_expression_27 (by decide) (fun c27 => absurd c27 (by decide)) (fun c27 => ?_)
          refine a_aload_n hb dX1_expression_30 rfl 0 rfl ?_
          refine a_iload_n hb dX1_expression_31 rfl 1 rfl ?_
          refine a_callV hb dX1_expression_32 (by rw [hg]; exact l_ter5 g h lq tq cq n t1 t2 t3 q0 q7 ne1 ne2 ne3 hn H hH hE (r.2.1 + 1) (l ++ r.2.2.map encX) lttkr21 (Nat.le_succ_of_le h2)) (by rw [ow]; exact clv_RX1_88) (lp_k (h := h) (lq := lq) (cq := cq) (p := r.2.1 + 1) (l := (l ++ r.2.2.map encX)) t1) (by decide) rfl rfl rfl (Nat.le_of_ble_eq_true rfl) (by rw [hr]; exact ⟨by decide, by decide⟩) (by rw [hr]; exact ⟨Nat.le_of_ble_eq_true rfl, Nat.le_of_ble_eq_true rfl⟩) ?_
          intro rv h' hq_
          rw [hq_.1, hq_.2]
          clear hq_ rv h'
          have gd1_ := pV_gH hE 5 (r.2.1 + 1)
          generalize eQ1 : pV (pF H 5) H (r.2.1 + 1) = q1_ at gd1_ ⊢
          have hp1 := gd1_.2 lttkr21
          have hl1 := gdx gd1_ (Nat.le_succ_of_le h2)
          by_cases w1_ : q1_.1 = true
          · rw [w1_]
            show AW V 0 0 (lpH h lq cq q1_.2.1 ((l ++ r.2.2.map encX) ++ q1_.2.2.map encX)) 35 [(0, .ref lq), (1, .int 0), (2, .int (b2i (!r.1))), (3, .int (nI i))] [.int 0]
            refine a_if_eq hb 51 dX1_expression_35 (by decide) (fun c35 => ?_) (fun c35 => absurd (by decide) c35)
            refine a_iconst (v := 0) hb dX1_expression_51 (by decide) ?_
            refine a_istore_n (L' := [(2, .int 0), (0, .ref lq), (1, .int 0), (3, .int (nI i))]) hb dX1_expression_52 rfl (by rw [hml]; decide) rfl ?_
            refine a_iinc (v := ((nI i) + 1)) (L' := [(3, .int ((nI i) + 1)), (2, .int 0), (0, .ref lq), (1, .int 0)]) hb dX1_expression_53 3 rfl rfl (by rw [hml]; decide) rfl ?_
            refine a_goto hb 8 dX1_expression_56 (by decide) ?_
            have hq4 := @lpR_s (pV (pF H 5) H) H 124 (3, 0, 0, 0) k r _ rf tkr21 eQ1
            rw [h4] at hq4
            refine AW.sub (L' := [(0, .ref lq), (1, .int 0), (2, .int 0), (3, .int ((nI i) + 1))]) [2, 3, 1, 0] rfl ?_
            refine AW.eq (ih (i + 1) (q1_.1, q1_.2.1, r.2.2 ++ q1_.2.2 ++ if q1_.1 = true then [] else [(3, 0, 0, 0)]) (by omega) hp1 ?_ hq4.symm) (lpG_2w w1_) rfl (by rw [nI_1]; show _ = [(0, _), (1, _), (2, Value.int (b2i (!q1_.1))), (3, _)]; rw [w1_]; rfl) rfl
            show (l ++ List.map encX (r.2.2 ++ q1_.2.2 ++ if q1_.1 = true then [] else [(3, 0, 0, 0)])).length ≤ q1_.2.1
            have g1 := gdx1 gd1_ h2
            rw [List.length_append] at g1 ⊢
            rw [List.length_append, List.length_map] at g1
            rw [List.length_map, List.length_append, List.length_append]
            rw [List.length_map] at g1
            split <;> simp only [List.length_cons, List.length_nil] <;> omega
          have fw1_ : q1_.1 = false := by simpa using w1_
          rw [fw1_]
          show AW V 0 0 (lpH h lq cq q1_.2.1 ((l ++ r.2.2.map encX) ++ q1_.2.2.map encX)) 35 [(0, .ref lq), (1, .int 0), (2, .int (b2i (!r.1))), (3, .int (nI i))] [.int 1]
          refine a_if_eq hb 51 dX1_expression_35 (by decide) (fun c35 => absurd c35 (by decide)) (fun c35 => ?_)
          refine a_aload_n hb dX1_expression_38 rfl 0 rfl ?_
          refine a_bipush (v := (-2)) hb dX1_expression_39 (by decide) ?_
          refine a_callV hb dX1_expression_41 (by rw [hg]; exact l_emit g h lq tq cq n t1 t2 t3 q0 q7 ne1 ne2 ne3 hn H hH hE q1_.2.1 ((l ++ r.2.2.map encX) ++ q1_.2.2.map encX) hp1 (-2) (by have := gdx1 gd1_ h2; omega)) (by rw [ow]; exact clv_RX1_91) (lp_k (h := h) (lq := lq) (cq := cq) (p := q1_.2.1) (l := ((l ++ r.2.2.map encX) ++ q1_.2.2.map encX)) t1) (by decide) rfl rfl rfl (Nat.le_of_ble_eq_true rfl) (by rw [hr]; exact ⟨by decide, by decide⟩) (by rw [hr]; exact ⟨Nat.le_of_ble_eq_true rfl, Nat.le_of_ble_eq_true rfl⟩) ?_
          intro rv h' hq_
          rw [hq_.1, hq_.2]
          show AW V 0 0 (lpH h lq cq q1_.2.1 (((l ++ r.2.2.map encX) ++ q1_.2.2.map encX) ++ [(-2)])) 44 [(0, .ref lq), (1, .int 0), (2, .int (b2i (!r.1))), (3, .int (nI i))] [.int 1]
          refine a_if_eq hb 51 dX1_expression_44 (by decide) (fun c44 => absurd c44 (by decide)) (fun c44 => ?_)
          refine a_iconst (v := 1) hb dX1_expression_47 (by decide) ?_
          refine a_goto hb 52 dX1_expression_48 (by decide) ?_
          refine a_istore_n (L' := [(2, .int 1), (0, .ref lq), (1, .int 0), (3, .int (nI i))]) hb dX1_expression_52 rfl (by rw [hml]; decide) rfl ?_
          refine a_iinc (v := ((nI i) + 1)) (L' := [(3, .int ((nI i) + 1)), (2, .int 1), (0, .ref lq), (1, .int 0)]) hb dX1_expression_53 3 rfl rfl (by rw [hml]; decide) rfl ?_
          refine a_goto hb 8 dX1_expression_56 (by decide) ?_
          have hq4 := @lpR_s (pV (pF H 5) H) H 124 (3, 0, 0, 0) k r _ rf tkr21 eQ1
          rw [h4] at hq4
          refine AW.sub (L' := [(0, .ref lq), (1, .int 0), (2, .int 1), (3, .int ((nI i) + 1))]) [2, 3, 1, 0] rfl ?_
          refine AW.eq (ih (i + 1) (q1_.1, q1_.2.1, r.2.2 ++ q1_.2.2 ++ if q1_.1 = true then [] else [(3, 0, 0, 0)]) (by omega) hp1 ?_ hq4.symm) (lpG_2s (s := (3, 0, 0, 0)) fw1_) rfl (by rw [nI_1]; show _ = [(0, _), (1, _), (2, Value.int (b2i (!q1_.1))), (3, _)]; rw [fw1_]; rfl) rfl
          show (l ++ List.map encX (r.2.2 ++ q1_.2.2 ++ if q1_.1 = true then [] else [(3, 0, 0, 0)])).length ≤ q1_.2.1
          have g1 := gdx1 gd1_ h2
          rw [List.length_append] at g1 ⊢
          rw [List.length_append, List.length_map] at g1
          rw [List.length_map, List.length_append, List.length_append]
          rw [List.length_map] at g1
          split <;> simp only [List.length_cons, List.length_nil] <;> omega
        rw [if_neg tkr21, decide_eq_false tkr21]
        show AW V 0 0 (lpH h lq cq r.2.1 (l ++ r.2.2.map encX)) 27 [(0, .ref lq), (1, .int 0), (2, .int (b2i (!r.1))), (3, .int (nI i))] [.int 0]
        refine a_if_eq hb 59 dX1_expression_27 (by decide) (fun c27 => ?_) (fun c27 => absurd (by decide) c27)
        refine a_iload_n hb dX1_expression_59 rfl 2 rfl ?_
        exact a_ireturn (ty := .boolean) hb hz dX1_expression_60 hret (b2i_nb _) (by rw [hr]; exact Nat.le_of_ble_eq_true rfl) (by rw [hr]; exact Nat.le_of_ble_eq_true rfl) (⟨by rw [← h4, lpR_n tkr21], by rw [← h4, lpR_n tkr21]; rfl⟩)
  refine a_aload_n hb dX1_expression_0 rfl 0 rfl ?_
  refine a_iload_n hb dX1_expression_1 rfl 1 rfl ?_
  refine a_callV hb dX1_expression_2 (by rw [hg]; exact l_ter5 g h lq tq cq n t1 t2 t3 q0 q7 ne1 ne2 ne3 hn H hH hE p l hp hll) (by rw [ow]; exact clv_RX1_88) (lp_k (h := h) (lq := lq) (cq := cq) (p := p) (l := l) t1) (by decide) rfl rfl rfl (Nat.le_of_ble_eq_true rfl) (by rw [hr]; exact ⟨by decide, by decide⟩) (by rw [hr]; exact ⟨Nat.le_of_ble_eq_true rfl, Nat.le_of_ble_eq_true rfl⟩) ?_
  intro rv h' hq_
  rw [hq_.1, hq_.2]
  clear hq_ rv h'
  have gd1_ := pV_gH hE 5 p
  generalize eQ1 : pV (pF H 5) H p = q1_ at gd1_ ⊢
  have hp1 := gd1_.2 hp
  have hl1 := gdx gd1_ hll
  show AW V 0 0 (lpH h lq cq q1_.2.1 (l ++ q1_.2.2.map encX)) 5 [(0, .ref lq), (1, .int 0)] [.int (b2i (!q1_.1))]
  refine a_istore_n (L' := [(2, .int (b2i (!q1_.1))), (0, .ref lq), (1, .int 0)]) hb dX1_expression_5 rfl (by rw [hml]; decide) rfl ?_
  refine a_iconst (v := 0) hb dX1_expression_6 (by decide) ?_
  refine a_istore_n (L' := [(3, .int 0), (2, .int (b2i (!q1_.1))), (0, .ref lq), (1, .int 0)]) hb dX1_expression_7 rfl (by rw [hml]; decide) rfl ?_
  refine AW.sub (L' := [(0, .ref lq), (1, .int 0), (2, .int (b2i (!q1_.1))), (3, .int 0)]) [2, 3, 1, 0] rfl ?_
  exact loop n 0 q1_ (by omega) hp1 hl1 ((pE_x (gd_p (pV_gH hE 5)) hE hn eQ1).trans hR)
