/-! ===== the class reads a law: a clause ===== -/
theorem lp_6 {h : AH} {lq cq p k : Nat} {l : List Int32} (e : lq ≠ cq) (k1 : k ≠ 1) (k8 : k ≠ 8) : hI (lpH h lq cq p l) lq k = hI h lq k := by rw [lp_l e, upd_n k8, upd_n k1]
theorem spS_gH {H : Nat → Int32} {n p : Nat} (hE : ∀ p, n ≤ p → H p = -1) {w : List Int32} (hw : ∀ c ∈ w, c ≠ -1) : p ≤ (spS H w false p).2 ∧ (p ≤ n → (spS H w false p).2 ≤ n) := by
  have := spS_g (tx := H) (n := n) w false p hw
  rw [← hr_e hE] at this
  exact this
section MC
variable {H : Nat → Int32} {wd : List Int32} {p : Nat} {q : PR}
theorem mc_1 (h : (spS H wd false p).1 = true) : (mcS H wd p).1 = true ∧ (mcS H wd p).2.1 = (spS H wd false p).2 := by
  simp [mcS, mcE, mcC, mcB, mcA, soP, muP, fgP, h]
theorem mc_2 (h : (spS H wd false p).1 = false) (hn : (pN H (spS H wd false p).2).1 = true) : (mcS H wd p).1 = true ∧ (mcS H wd p).2.1 = (pN H (spS H wd false p).2).2.1 := by
  simp [mcS, mcE, mcC, mcB, mcA, soP, muP, fgP, h, hn]
theorem mc_3 (h : (spS H wd false p).1 = false) (hn : (pN H (spS H wd false p).2).1 = false) (ht : ¬ H (pN H (spS H wd false p).2).2.1 = 32) : (mcS H wd p).1 = true ∧ (mcS H wd p).2.1 = (pN H (spS H wd false p).2).2.1 := by
  simp [mcS, mcE, mcC, mcB, mcA, soP, muP, fgP, h, hn, ht]
theorem mc_4 (h : (spS H wd false p).1 = false) (hn : (pN H (spS H wd false p).2).1 = false) (ht : H (pN H (spS H wd false p).2).2.1 = 32) (e : pE (pF H 5) H ((pN H (spS H wd false p).2).2.1 + 1) = q) : mcS H wd p = (q.1, q.2.1, q.2.2, (pN H (spS H wd false p).2).2.2) := by
  subst e
  simp [mcS, mcE, mcC, mcB, mcA, soP, muP, fgP, h, hn, ht]
theorem mo_1 (h : (spS H wdM false p).1 = true) : moS H p = (true, (spS H wdM false p).2, 0) := by simp [moS, fgP, h]
theorem mo_2 (h : (spS H wdM false p).1 = false) : moS H p = pN H (spS H wdM false p).2 := by simp [moS, fgP, h]
end MC
set_option maxRecDepth 100000 in
theorem l_most (g : GG) (h : AH) (lq tq cq n : Nat) (t1 : hT h lq = (1, 0)) (t2 : hT h tq = (13, n)) (t3 : hT h cq = (14, n)) (q0 : hQ h lq 0 = some tq) (q7 : hQ h lq 7 = some cq) (ne1 : lq ≠ cq) (ne2 : tq ≠ lq) (ne3 : tq ≠ cq) (hn : n ≤ 120) (H : Nat → Int32) (hH : ∀ p, p < n → hI h tq p = bx (H p) ∧ oO (H p) 0 255 = false) (hE : ∀ p, n ≤ p → H p = -1) (p : Nat) (l : List Int32) (hp : p ≤ n) : AM g 3 0 0 mX1_mostNumber [.ref lq] (lpH h lq cq p l) (fun rv h' => rv = some (.int (b2i (!(pN H p).1))) ∧ h' = lpH (if (pN H p).1 = true then h else setI h lq 3 (nI (pN H p).2.2)) lq cq (pN H p).2.1 l) := by
  refine AM.of [(0, .ref lq)] (by decide) (Nat.le_of_ble_eq_true rfl) rfl ?_
  intro V hV
  have hb : V.2.1.2.1 = cX1_mostNumber := by subst hV; rfl
  have ow : V.2.1.1.cls = RX1 := by subst hV; rfl
  have hr : V.2.2.1 = aw_rm 3 0 0 := by subst hV; rfl
  have hz : V.2.2.2 = aw_Z V.1 (fun rv h' => rv = some (.int (b2i (!(pN H p).1))) ∧ h' = lpH (if (pN H p).1 = true then h else setI h lq 3 (nI (pN H p).2.2)) lq cq (pN H p).2.1 l) V.2.2.1 := by subst hV; rfl
  have hg : V.1 = g := by subst hV; rfl
  have hret : V.2.1.2.2.2 = (some .boolean) := by subst hV; rfl
  have hml : V.2.1.2.2.1 = 2 := by subst hV; rfl
  clear hV
  refine a_aload_n hb dX1_mostNumber_0 rfl 0 rfl ?_
  refine a_callV hb dX1_mostNumber_1 (by rw [hg]; exact l_number g h lq tq cq n t1 t2 t3 q0 q7 ne1 ne2 ne3 hn H hH hE p l hp) (by rw [ow]; exact clv_RX1_81) (lp_k (h := h) (lq := lq) (cq := cq) (p := p) (l := l) t1) (by decide) rfl rfl rfl (Nat.le_of_ble_eq_true rfl) (by rw [hr]; exact ⟨by decide, by decide⟩) (by rw [hr]; exact ⟨Nat.le_of_ble_eq_true rfl, Nat.le_of_ble_eq_true rfl⟩) ?_
  intro rv h' hq_
  rw [hq_.1, hq_.2, nuS_p]
  clear hq_ rv h'
  have gN := pN_gH (p := p) hE
  have hpN := gN.2.1 hp
  by_cases tn : (pN H p).1 = true
  · rw [if_pos tn]
    show AW V 0 0 (lpH h lq cq ((pN H p).2.1) l) 4 [(0, .ref lq)] [.int (-1)]
    refine a_istore_n (L' := [(1, .int (-1)), (0, .ref lq)]) hb dX1_mostNumber_4 rfl (by rw [hml]; decide) rfl ?_
    refine a_iload_n hb dX1_mostNumber_5 rfl 0 rfl ?_
    refine a_if_ge hb 11 dX1_mostNumber_6 (by decide) (fun c6 => absurd c6 (by decide)) (fun c6 => ?_)
    refine a_iconst (v := 0) hb dX1_mostNumber_9 (by decide) ?_
    exact a_ireturn (ty := .boolean) hb hz dX1_mostNumber_10 hret (by first | rfl | (simp only [narrow]; done) | exact aw_nb _) (by rw [hr]; exact Nat.le_of_ble_eq_true rfl) (by rw [hr]; exact Nat.le_of_ble_eq_true rfl) (⟨by rw [tn]; rfl, by rw [if_pos tn]⟩)
  rw [if_neg tn]
  have tf : (pN H p).1 = false := by simpa using tn
  show AW V 0 0 (lpH h lq cq ((pN H p).2.1) l) 4 [(0, .ref lq)] [.int (nI (pN H p).2.2)]
  refine a_istore_n (L' := [(1, .int (nI (pN H p).2.2)), (0, .ref lq)]) hb dX1_mostNumber_4 rfl (by rw [hml]; decide) rfl ?_
  refine a_iload_n hb dX1_mostNumber_5 rfl 0 rfl ?_
  refine a_if_ge hb 11 dX1_mostNumber_6 (by decide) (fun c6 => ?_) (fun c6 => absurd (Int32.not_lt.mp (nI_pos (by have := gN.2.2.1; omega))) c6)
  refine a_aload_n hb dX1_mostNumber_11 rfl 1 rfl ?_
  refine a_iload_n hb dX1_mostNumber_12 rfl 0 rfl ?_
  refine a_putI (fty := .int) hb dX1_mostNumber_13 (by rw [ow]; exact fp_RX1_13_1) (Or.inr (fun C T N hq => by cases hq; rfl)) (lp_k (h := h) (lq := lq) (cq := cq) (p := (pN H p).2.1) (l := l) t1) rfl rfl ?_
  rw [lp_o ne1 (by decide) (by decide)]
  show AW V 0 0 (lpH (setI h lq 3 (nI (pN H p).2.2)) lq cq ((pN H p).2.1) l) 16 [(1, .int (nI (pN H p).2.2)), (0, .ref lq)] []
  refine a_iconst (v := 1) hb dX1_mostNumber_16 (by decide) ?_
  exact a_ireturn (ty := .boolean) hb hz dX1_mostNumber_17 hret (by first | rfl | (simp only [narrow]; done) | exact aw_nb _) (by rw [hr]; exact Nat.le_of_ble_eq_true rfl) (by rw [hr]; exact Nat.le_of_ble_eq_true rfl) (⟨by rw [tf]; rfl, by rw [if_neg tn]⟩)
set_option maxRecDepth 100000 in
theorem l_clx (g : GG) (h : AH) (lq tq cq n : Nat) (t1 : hT h lq = (1, 0)) (t2 : hT h tq = (13, n)) (t3 : hT h cq = (14, n)) (q0 : hQ h lq 0 = some tq) (q7 : hQ h lq 7 = some cq) (ne1 : lq ≠ cq) (ne2 : tq ≠ lq) (ne3 : tq ≠ cq) (hn : n ≤ 120) (H : Nat → Int32) (hH : ∀ p, p < n → hI h tq p = bx (H p) ∧ oO (H p) 0 255 = false) (hE : ∀ p, n ≤ p → H p = -1) (p : Nat) (l : List Int32) (hp : p ≤ n) (wq eq k : Nat) (hk : k < 8) (t4 : hT h wq = (14, 8)) (t5 : hT h eq = (14, 8)) (q4 : hQ h lq 4 = some wq) (q5 : hQ h lq 5 = some eq) (d1 : wq ≠ lq) (d3 : wq ≠ cq) (d4 : eq ≠ lq) (d6 : eq ≠ cq) (d7 : eq ≠ wq) (h6 : hI h lq 6 = nI k) (hll : l.length ≤ p) : AM g 28 0 0 mX1_clause [.ref lq] (lpH h lq cq p l) (fun rv h' => (H p = 109 ∧ rv = some (.int (b2i (!(moS H p).1))) ∧ h' = lpH (if (moS H p).1 = true then h else setI h lq 3 (nI (moS H p).2.2)) lq cq (moS H p).2.1 l) ∨ (¬ H p = 109 ∧ ∃ b wd, (b = true ∧ wd = wdE ∧ H p = 101 ∨ b = false ∧ wd = wdD ∧ ¬ H p = 101) ∧ (((mcS H wd p).1 = true ∧ rv = some (.int 0) ∧ ∃ l', h' = lpH h lq cq (mcS H wd p).2.1 l') ∨ ((mcS H wd p).1 = false ∧ rv = some (.int 1) ∧ h' = lpH (setI (setI (setI h wq k (wgC (b, (mcS H wd p).2.2.2, []))) eq k (nI (l ++ (mcS H wd p).2.2.1.map encX).length)) lq 6 (nI k + 1)) lq cq (mcS H wd p).2.1 (l ++ (mcS H wd p).2.2.1.map encX))))) := by
  refine AM.of [(0, .ref lq)] (by decide) (Nat.le_of_ble_eq_true rfl) rfl ?_
  intro V hV
  have hb : V.2.1.2.1 = cX1_clause := by subst hV; rfl
  have ow : V.2.1.1.cls = RX1 := by subst hV; rfl
  have hr : V.2.2.1 = aw_rm 28 0 0 := by subst hV; rfl
  have hz : V.2.2.2 = aw_Z V.1 (fun rv h' => (H p = 109 ∧ rv = some (.int (b2i (!(moS H p).1))) ∧ h' = lpH (if (moS H p).1 = true then h else setI h lq 3 (nI (moS H p).2.2)) lq cq (moS H p).2.1 l) ∨ (¬ H p = 109 ∧ ∃ b wd, (b = true ∧ wd = wdE ∧ H p = 101 ∨ b = false ∧ wd = wdD ∧ ¬ H p = 101) ∧ (((mcS H wd p).1 = true ∧ rv = some (.int 0) ∧ ∃ l', h' = lpH h lq cq (mcS H wd p).2.1 l') ∨ ((mcS H wd p).1 = false ∧ rv = some (.int 1) ∧ h' = lpH (setI (setI (setI h wq k (wgC (b, (mcS H wd p).2.2.2, []))) eq k (nI (l ++ (mcS H wd p).2.2.1.map encX).length)) lq 6 (nI k + 1)) lq cq (mcS H wd p).2.1 (l ++ (mcS H wd p).2.2.1.map encX))))) V.2.2.1 := by subst hV; rfl
  have hg : V.1 = g := by subst hV; rfl
  have hret : V.2.1.2.2.2 = (some .boolean) := by subst hV; rfl
  have hml : V.2.1.2.2.1 = 3 := by subst hV; rfl
  clear hV
  refine a_aload_n hb dX1_clause_0 rfl 0 rfl ?_
  refine a_bipush (v := 109) hb dX1_clause_1 (by decide) ?_
  refine a_callV hb dX1_clause_3 (by rw [hg]; exact l_next g h lq tq cq n t1 t2 t3 q0 q7 ne1 ne2 ne3 hn H hH hE p l hp 109 (by decide)) (by rw [ow]; exact clv_RX1_65) (lp_k (h := h) (lq := lq) (cq := cq) (p := p) (l := l) t1) (by decide) rfl rfl rfl (Nat.le_of_ble_eq_true rfl) (by rw [hr]; exact ⟨by decide, by decide⟩) (by rw [hr]; exact ⟨Nat.le_of_ble_eq_true rfl, Nat.le_of_ble_eq_true rfl⟩) ?_
  intro rv h' hq_
  rw [hq_.1, hq_.2]
  clear hq_ rv h'
  by_cases nx109 : H p = 109
  · rw [decide_eq_true nx109]
    show AW V 0 0 (lpH h lq cq p l) 6 [(0, .ref lq)] [.int 1]
    refine a_if_eq hb 31 dX1_clause_6 (by decide) (fun c6 => absurd c6 (by decide)) (fun c6 => ?_)
    refine a_aload_n hb dX1_clause_9 rfl 0 rfl ?_
    refine a_ldcS (i := 2) hb dX1_clause_10 (by rw [ow]; exact List.mem_of_getElem? (i := 2) rfl) ?_
    refine a_callV hb dX1_clause_12 (l_word2 V.1 h lq tq cq n t1 t2 t3 q0 q7 ne1 ne2 ne3 hn H hH hE p l hp) (by rw [ow]; exact clv_RX1_70) (lp_k (h := h) (lq := lq) (cq := cq) (p := p) (l := l) t1) (by decide) rfl rfl rfl (Nat.le_of_ble_eq_true rfl) (by rw [hr]; exact ⟨by decide, by decide⟩) (by rw [hr]; exact ⟨Nat.le_of_ble_eq_true rfl, Nat.le_of_ble_eq_true rfl⟩) ?_
    intro rv h' hq_
    rw [hq_.1, hq_.2]
    clear hq_ rv h'
    have gS := spS_gH (p := p) hE (w := wdM) (by decide)
    have hpS := gS.2 hp
    by_cases wwdM : (spS H wdM false p).1 = true
    · rw [wwdM]
      show AW V 0 0 (lpH h lq cq ((spS H wdM false p).2) l) 15 [(0, .ref lq)] [.int 0]
      refine a_if_eq hb 29 dX1_clause_15 (by decide) (fun c15 => ?_) (fun c15 => absurd (by decide) c15)
      refine a_iconst (v := 0) hb dX1_clause_29 (by decide) ?_
      exact a_ireturn (ty := .boolean) hb hz dX1_clause_30 hret (by first | rfl | (simp only [narrow]; done) | exact aw_nb _) (by rw [hr]; exact Nat.le_of_ble_eq_true rfl) (by rw [hr]; exact Nat.le_of_ble_eq_true rfl) ((Or.inl ⟨nx109, by rw [mo_1 wwdM]; rfl, by rw [mo_1 wwdM]; rfl⟩))
    have fwwdM : (spS H wdM false p).1 = false := by simpa using wwdM
    rw [fwwdM]
    show AW V 0 0 (lpH h lq cq ((spS H wdM false p).2) l) 15 [(0, .ref lq)] [.int 1]
    refine a_if_eq hb 29 dX1_clause_15 (by decide) (fun c15 => absurd c15 (by decide)) (fun c15 => ?_)
    refine a_aload_n hb dX1_clause_18 rfl 0 rfl ?_
    refine a_callV hb dX1_clause_19 (by rw [hg]; exact l_most g h lq tq cq n t1 t2 t3 q0 q7 ne1 ne2 ne3 hn H hH hE ((spS H wdM false p).2) l hpS) (by rw [ow]; exact clv_RX1_74) (lp_k (h := h) (lq := lq) (cq := cq) (p := (spS H wdM false p).2) (l := l) t1) (by decide) rfl rfl rfl (Nat.le_of_ble_eq_true rfl) (by rw [hr]; exact ⟨by decide, by decide⟩) (by rw [hr]; exact ⟨Nat.le_of_ble_eq_true rfl, Nat.le_of_ble_eq_true rfl⟩) ?_
    intro rv h' hq_
    rw [hq_.1, hq_.2]
    clear hq_ rv h'
    by_cases tm : (pN H ((spS H wdM false p).2)).1 = true
    · rw [tm, if_pos rfl]
      show AW V 0 0 (lpH h lq cq ((pN H ((spS H wdM false p).2)).2.1) l) 22 [(0, .ref lq)] [.int 0]
      refine a_if_eq hb 29 dX1_clause_22 (by decide) (fun c22 => ?_) (fun c22 => absurd (by decide) c22)
      refine a_iconst (v := 0) hb dX1_clause_29 (by decide) ?_
      exact a_ireturn (ty := .boolean) hb hz dX1_clause_30 hret (by first | rfl | (simp only [narrow]; done) | exact aw_nb _) (by rw [hr]; exact Nat.le_of_ble_eq_true rfl) (by rw [hr]; exact Nat.le_of_ble_eq_true rfl) ((Or.inl ⟨nx109, by rw [mo_2 fwwdM, tm]; rfl, by rw [mo_2 fwwdM, if_pos tm]⟩))
    have ftm : (pN H ((spS H wdM false p).2)).1 = false := by simpa using tm
    rw [ftm, if_neg (by decide)]
    show AW V 0 0 (lpH (setI h lq 3 (nI (pN H ((spS H wdM false p).2)).2.2)) lq cq ((pN H ((spS H wdM false p).2)).2.1) l) 22 [(0, .ref lq)] [.int 1]
    refine a_if_eq hb 29 dX1_clause_22 (by decide) (fun c22 => absurd c22 (by decide)) (fun c22 => ?_)
    refine a_iconst (v := 1) hb dX1_clause_25 (by decide) ?_
    refine a_goto hb 30 dX1_clause_26 (by decide) ?_
    exact a_ireturn (ty := .boolean) hb hz dX1_clause_30 hret (by first | rfl | (simp only [narrow]; done) | exact aw_nb _) (by rw [hr]; exact Nat.le_of_ble_eq_true rfl) (by rw [hr]; exact Nat.le_of_ble_eq_true rfl) ((Or.inl ⟨nx109, by rw [mo_2 fwwdM, ftm]; rfl, by rw [mo_2 fwwdM, if_neg tm]⟩))
  rw [decide_eq_false nx109]
  show AW V 0 0 (lpH h lq cq p l) 6 [(0, .ref lq)] [.int 0]
  refine a_if_eq hb 31 dX1_clause_6 (by decide) (fun c6 => ?_) (fun c6 => absurd (by decide) c6)
  refine a_aload_n hb dX1_clause_31 rfl 0 rfl ?_
  refine a_bipush (v := 101) hb dX1_clause_32 (by decide) ?_
  refine a_callV hb dX1_clause_34 (by rw [hg]; exact l_next g h lq tq cq n t1 t2 t3 q0 q7 ne1 ne2 ne3 hn H hH hE p l hp 101 (by decide)) (by rw [ow]; exact clv_RX1_65) (lp_k (h := h) (lq := lq) (cq := cq) (p := p) (l := l) t1) (by decide) rfl rfl rfl (Nat.le_of_ble_eq_true rfl) (by rw [hr]; exact ⟨by decide, by decide⟩) (by rw [hr]; exact ⟨Nat.le_of_ble_eq_true rfl, Nat.le_of_ble_eq_true rfl⟩) ?_
  intro rv h' hq_
  rw [hq_.1, hq_.2]
  clear hq_ rv h'
  by_cases nx101 : H p = 101
  · rw [decide_eq_true nx101]
    show AW V 0 0 (lpH h lq cq p l) 37 [(0, .ref lq)] [.int 1]
    refine a_istore_n (L' := [(1, .int 1), (0, .ref lq)]) hb dX1_clause_37 rfl (by rw [hml]; decide) rfl ?_
    refine a_aload_n hb dX1_clause_38 rfl 1 rfl ?_
    refine a_iload_n hb dX1_clause_39 rfl 0 rfl ?_
    refine a_if_eq hb 48 dX1_clause_40 (by decide) (fun c40 => absurd c40 (by decide)) (fun c40 => ?_)
    refine a_ldcS (i := 3) hb dX1_clause_43 (by rw [ow]; exact List.mem_of_getElem? (i := 3) rfl) ?_
    refine a_goto hb 50 dX1_clause_45 (by decide) ?_
    refine a_callV hb dX1_clause_50 (l_word3 V.1 h lq tq cq n t1 t2 t3 q0 q7 ne1 ne2 ne3 hn H hH hE p l hp) (by rw [ow]; exact clv_RX1_70) (lp_k (h := h) (lq := lq) (cq := cq) (p := p) (l := l) t1) (by decide) rfl rfl rfl (Nat.le_of_ble_eq_true rfl) (by rw [hr]; exact ⟨by decide, by decide⟩) (by rw [hr]; exact ⟨Nat.le_of_ble_eq_true rfl, Nat.le_of_ble_eq_true rfl⟩) ?_
    intro rv h' hq_
    rw [hq_.1, hq_.2]
    clear hq_ rv h'
    have gS := spS_gH (p := p) hE (w := wdE) (by decide)
    have hpS := gS.2 hp
    by_cases wwdE : (spS H wdE false p).1 = true
    · rw [wwdE]
      show AW V 0 0 (lpH h lq cq ((spS H wdE false p).2) l) 53 [(1, .int 1), (0, .ref lq)] [.int 0]
      refine a_if_ne hb 58 dX1_clause_53 (by decide) (fun c53 => absurd c53 (by decide)) (fun c53 => ?_)
      refine a_iconst (v := 0) hb dX1_clause_56 (by decide) ?_
      exact a_ireturn (ty := .boolean) hb hz dX1_clause_57 hret (by first | rfl | (simp only [narrow]; done) | exact aw_nb _) (by rw [hr]; exact Nat.le_of_ble_eq_true rfl) (by rw [hr]; exact Nat.le_of_ble_eq_true rfl) ((Or.inr ⟨nx109, true, wdE, Or.inl ⟨rfl, rfl, nx101⟩, Or.inl ⟨(mc_1 wwdE).1, rfl, _, by rw [(mc_1 wwdE).2]⟩⟩))
    have fwwdE : (spS H wdE false p).1 = false := by simpa using wwdE
    rw [fwwdE]
    show AW V 0 0 (lpH h lq cq ((spS H wdE false p).2) l) 53 [(1, .int 1), (0, .ref lq)] [.int 1]
    refine a_if_ne hb 58 dX1_clause_53 (by decide) (fun c53 => ?_) (fun c53 => absurd c53 (by decide))
    refine a_aload_n hb dX1_clause_58 rfl 1 rfl ?_
    refine a_callV hb dX1_clause_59 (by rw [hg]; exact l_number g h lq tq cq n t1 t2 t3 q0 q7 ne1 ne2 ne3 hn H hH hE ((spS H wdE false p).2) l hpS) (by rw [ow]; exact clv_RX1_81) (lp_k (h := h) (lq := lq) (cq := cq) (p := (spS H wdE false p).2) (l := l) t1) (by decide) rfl rfl rfl (Nat.le_of_ble_eq_true rfl) (by rw [hr]; exact ⟨by decide, by decide⟩) (by rw [hr]; exact ⟨Nat.le_of_ble_eq_true rfl, Nat.le_of_ble_eq_true rfl⟩) ?_
    intro rv h' hq_
    rw [hq_.1, hq_.2, nuS_p]
    clear hq_ rv h'
    have gN := pN_gH (p := (spS H wdE false p).2) hE
    have hpN := gN.2.1 hpS
    by_cases tn : (pN H ((spS H wdE false p).2)).1 = true
    · rw [if_pos tn]
      show AW V 0 0 (lpH h lq cq ((pN H ((spS H wdE false p).2)).2.1) l) 62 [(1, .int 1), (0, .ref lq)] [.int (-1)]
      refine a_istore_n (L' := [(2, .int (-1)), (1, .int 1), (0, .ref lq)]) hb dX1_clause_62 rfl (by rw [hml]; decide) rfl ?_
      refine a_iload_n hb dX1_clause_63 rfl 0 rfl ?_
      refine a_if_lt hb 93 dX1_clause_64 (by decide) (fun c64 => ?_) (fun c64 => absurd (by decide) c64)
      refine a_iconst (v := 0) hb dX1_clause_93 (by decide) ?_
      exact a_ireturn (ty := .boolean) hb hz dX1_clause_94 hret (by first | rfl | (simp only [narrow]; done) | exact aw_nb _) (by rw [hr]; exact Nat.le_of_ble_eq_true rfl) (by rw [hr]; exact Nat.le_of_ble_eq_true rfl) ((Or.inr ⟨nx109, true, wdE, Or.inl ⟨rfl, rfl, nx101⟩, Or.inl ⟨(mc_2 fwwdE tn).1, rfl, _, by rw [(mc_2 fwwdE tn).2]⟩⟩))
    rw [if_neg tn]
    have tf : (pN H ((spS H wdE false p).2)).1 = false := by simpa using tn
    show AW V 0 0 (lpH h lq cq ((pN H ((spS H wdE false p).2)).2.1) l) 62 [(1, .int 1), (0, .ref lq)] [.int (nI (pN H ((spS H wdE false p).2)).2.2)]
    refine a_istore_n (L' := [(2, .int (nI (pN H ((spS H wdE false p).2)).2.2)), (1, .int 1), (0, .ref lq)]) hb dX1_clause_62 rfl (by rw [hml]; decide) rfl ?_
    refine a_iload_n hb dX1_clause_63 rfl 0 rfl ?_
    refine a_if_lt hb 93 dX1_clause_64 (by decide) (fun c64 => absurd c64 (nI_pos (by have := gN.2.2.1; omega))) (fun c64 => ?_)
    refine a_aload_n hb dX1_clause_67 rfl 2 rfl ?_
    refine a_bipush (v := 32) hb dX1_clause_68 (by decide) ?_
    refine a_callV hb dX1_clause_70 (by rw [hg]; exact l_take g h lq tq cq n t1 t2 t3 q0 q7 ne1 ne2 ne3 hn H hH hE ((pN H ((spS H wdE false p).2)).2.1) l hpN 32 (by decide)) (by rw [ow]; exact clv_RX1_43) (lp_k (h := h) (lq := lq) (cq := cq) (p := (pN H ((spS H wdE false p).2)).2.1) (l := l) t1) (by decide) rfl rfl rfl (Nat.le_of_ble_eq_true rfl) (by rw [hr]; exact ⟨by decide, by decide⟩) (by rw [hr]; exact ⟨Nat.le_of_ble_eq_true rfl, Nat.le_of_ble_eq_true rfl⟩) ?_
    intro rv h' hq_
    rw [hq_.1, hq_.2]
    clear hq_ rv h'
    by_cases tkpNHspSHwdEfalsep221 : H ((pN H ((spS H wdE false p).2)).2.1) = 32
    · have lttkpNHspSHwdEfalsep221 : (pN H ((spS H wdE false p).2)).2.1 < n := H_c hE (by decide) tkpNHspSHwdEfalsep221
      rw [if_pos tkpNHspSHwdEfalsep221, decide_eq_true tkpNHspSHwdEfalsep221]
      show AW V 0 0 (lpH h lq cq ((pN H ((spS H wdE false p).2)).2.1 + 1) l) 73 [(2, .int (nI (pN H ((spS H wdE false p).2)).2.2)), (1, .int 1), (0, .ref lq)] [.int 1]
      refine a_if_eq hb 93 dX1_clause_73 (by decide) (fun c73 => absurd c73 (by decide)) (fun c73 => ?_)
      refine a_aload_n hb dX1_clause_76 rfl 2 rfl ?_
      refine a_iconst (v := 0) hb dX1_clause_77 (by decide) ?_
      refine a_callV hb dX1_clause_78 (by rw [hg]; exact l_exp5 g h lq tq cq n t1 t2 t3 q0 q7 ne1 ne2 ne3 hn H hH hE ((pN H ((spS H wdE false p).2)).2.1 + 1) l lttkpNHspSHwdEfalsep221 (Nat.le_succ_of_le (show l.length ≤ _ from by omega))) (by rw [ow]; exact clv_RX1_85) (lp_k (h := h) (lq := lq) (cq := cq) (p := (pN H ((spS H wdE false p).2)).2.1 + 1) (l := l) t1) (by decide) rfl rfl rfl (Nat.le_of_ble_eq_true rfl) (by rw [hr]; exact ⟨by decide, by decide⟩) (by rw [hr]; exact ⟨Nat.le_of_ble_eq_true rfl, Nat.le_of_ble_eq_true rfl⟩) ?_
      intro rv h' hq_
      rw [hq_.1, hq_.2]
      clear hq_ rv h'
      have gd1_ := pE_gH hE 5 ((pN H ((spS H wdE false p).2)).2.1 + 1)
      generalize eQ1 : pE (pF H 5) H ((pN H ((spS H wdE false p).2)).2.1 + 1) = q1_ at gd1_ ⊢
      have hp1 := gd1_.2 lttkpNHspSHwdEfalsep221
      have hl1 := gdx gd1_ (Nat.le_succ_of_le (show l.length ≤ _ from by omega))
      by_cases w1_ : q1_.1 = true
      · rw [w1_]
        show AW V 0 0 (lpH h lq cq q1_.2.1 (l ++ q1_.2.2.map encX)) 81 [(2, .int (nI (pN H ((spS H wdE false p).2)).2.2)), (1, .int 1), (0, .ref lq)] [.int 0]
        refine a_if_eq hb 93 dX1_clause_81 (by decide) (fun c81 => ?_) (fun c81 => absurd (by decide) c81)
        refine a_iconst (v := 0) hb dX1_clause_93 (by decide) ?_
        exact a_ireturn (ty := .boolean) hb hz dX1_clause_94 hret (by first | rfl | (simp only [narrow]; done) | exact aw_nb _) (by rw [hr]; exact Nat.le_of_ble_eq_true rfl) (by rw [hr]; exact Nat.le_of_ble_eq_true rfl) ((Or.inr ⟨nx109, true, wdE, Or.inl ⟨rfl, rfl, nx101⟩, Or.inl ⟨by rw [mc_4 fwwdE tf tkpNHspSHwdEfalsep221 eQ1]; exact w1_, rfl, _, by rw [mc_4 fwwdE tf tkpNHspSHwdEfalsep221 eQ1]⟩⟩))
      have fw1_ : q1_.1 = false := by simpa using w1_
      rw [fw1_]
      show AW V 0 0 (lpH h lq cq q1_.2.1 (l ++ q1_.2.2.map encX)) 81 [(2, .int (nI (pN H ((spS H wdE false p).2)).2.2)), (1, .int 1), (0, .ref lq)] [.int 1]
      refine a_if_eq hb 93 dX1_clause_81 (by decide) (fun c81 => absurd c81 (by decide)) (fun c81 => ?_)
      refine a_aload_n hb dX1_clause_84 rfl 2 rfl ?_
      refine a_getI hb dX1_clause_85 (by rw [ow]; exact fl_RX1_23_1) (lp_k (h := h) (lq := lq) (cq := cq) (p := q1_.2.1) (l := (l ++ q1_.2.2.map encX)) t1) ?_
      rw [lp_6 ne1 (by decide) (by decide), h6]
      show AW V 0 0 (lpH h lq cq q1_.2.1 (l ++ q1_.2.2.map encX)) 88 [(2, .int (nI (pN H ((spS H wdE false p).2)).2.2)), (1, .int 1), (0, .ref lq)] [.int (nI k)]
      refine a_bipush (v := 8) hb dX1_clause_88 (by decide) ?_
      refine a_icmp_lt hb 95 dX1_clause_90 (by decide) (fun c90 => ?_) (fun c90 => absurd ((nI_ltI (b := 8) (by omega) (by decide)).mpr hk) c90)
      refine a_aload_n hb dX1_clause_95 rfl 2 rfl ?_
      refine a_getQ (q := wq) hb dX1_clause_96 (by rw [ow]; exact fl_RX1_16_1) (lp_k (h := h) (lq := lq) (cq := cq) (p := q1_.2.1) (l := (l ++ q1_.2.2.map encX)) t1) (lp_q (h := h) (lq := lq) (cq := cq) (p := q1_.2.1) (l := (l ++ q1_.2.2.map encX)) q4) ?_
      refine a_aload_n hb dX1_clause_99 rfl 2 rfl ?_
      refine a_getI hb dX1_clause_100 (by rw [ow]; exact fl_RX1_23_1) (lp_k (h := h) (lq := lq) (cq := cq) (p := q1_.2.1) (l := (l ++ q1_.2.2.map encX)) t1) ?_
      rw [lp_6 ne1 (by decide) (by decide), h6]
      show AW V 0 0 (lpH h lq cq q1_.2.1 (l ++ q1_.2.2.map encX)) 103 [(2, .int (nI (pN H ((spS H wdE false p).2)).2.2)), (1, .int 1), (0, .ref lq)] [.int (nI k), .ref wq]
      refine a_iload_n hb dX1_clause_103 rfl 1 rfl ?_
      refine a_if_eq hb 112 dX1_clause_104 (by decide) (fun c104 => absurd c104 (by decide)) (fun c104 => ?_)
      refine a_iload_n hb dX1_clause_107 rfl 0 rfl ?_
      refine a_ineg hb dX1_clause_108 ?_
      refine a_goto hb 113 dX1_clause_109 (by decide) ?_
      refine b_iast (j := k) hb dX1_clause_113 (lp_k (h := h) (lq := lq) (cq := cq) (p := q1_.2.1) (l := (l ++ q1_.2.2.map encX)) t4) (IX.n (by omega)) (by omega) ?_
      rw [lp_a ne1 d1 d3]
      show AW V 0 0 (lpH (setI h wq k (-(nI (pN H ((spS H wdE false p).2)).2.2))) lq cq q1_.2.1 (l ++ q1_.2.2.map encX)) 114 [(2, .int (nI (pN H ((spS H wdE false p).2)).2.2)), (1, .int 1), (0, .ref lq)] []
      have h6wq : hI (setI h wq k (-(nI (pN H ((spS H wdE false p).2)).2.2))) lq 6 = nI k := by rw [hI_setI_n (Ne.symm d1)]; exact h6
      refine a_aload_n hb dX1_clause_114 rfl 2 rfl ?_
      refine a_getQ (q := eq) hb dX1_clause_115 (by rw [ow]; exact fl_RX1_20_1) (lp_k (h := (setI h wq k (-(nI (pN H ((spS H wdE false p).2)).2.2)))) (lq := lq) (cq := cq) (p := q1_.2.1) (l := (l ++ q1_.2.2.map encX)) t1) (lp_q (h := (setI h wq k (-(nI (pN H ((spS H wdE false p).2)).2.2)))) (lq := lq) (cq := cq) (p := q1_.2.1) (l := (l ++ q1_.2.2.map encX)) q5) ?_
      refine a_aload_n hb dX1_clause_118 rfl 2 rfl ?_
      refine a_getI hb dX1_clause_119 (by rw [ow]; exact fl_RX1_23_1) (lp_k (h := (setI h wq k (-(nI (pN H ((spS H wdE false p).2)).2.2)))) (lq := lq) (cq := cq) (p := q1_.2.1) (l := (l ++ q1_.2.2.map encX)) t1) ?_
      rw [lp_6 ne1 (by decide) (by decide), h6wq]
      show AW V 0 0 (lpH (setI h wq k (-(nI (pN H ((spS H wdE false p).2)).2.2))) lq cq q1_.2.1 (l ++ q1_.2.2.map encX)) 122 [(2, .int (nI (pN H ((spS H wdE false p).2)).2.2)), (1, .int 1), (0, .ref lq)] [.int (nI k), .ref eq]
      refine a_aload_n hb dX1_clause_122 rfl 2 rfl ?_
      refine a_getI hb dX1_clause_123 (by rw [ow]; exact fl_RX1_26_1) (lp_k (h := (setI h wq k (-(nI (pN H ((spS H wdE false p).2)).2.2)))) (lq := lq) (cq := cq) (p := q1_.2.1) (l := (l ++ q1_.2.2.map encX)) t1) ?_
      rw [lp_8 ne1]
      show AW V 0 0 (lpH (setI h wq k (-(nI (pN H ((spS H wdE false p).2)).2.2))) lq cq q1_.2.1 (l ++ q1_.2.2.map encX)) 126 [(2, .int (nI (pN H ((spS H wdE false p).2)).2.2)), (1, .int 1), (0, .ref lq)] [.int (nI (l ++ q1_.2.2.map encX).length), .int (nI k), .ref eq]
      refine b_iast (j := k) hb dX1_clause_126 (lp_k (h := (setI h wq k (-(nI (pN H ((spS H wdE false p).2)).2.2)))) (lq := lq) (cq := cq) (p := q1_.2.1) (l := (l ++ q1_.2.2.map encX)) t5) (IX.n (by omega)) (by omega) ?_
      rw [lp_a ne1 d4 d6]
      show AW V 0 0 (lpH (setI (setI h wq k (-(nI (pN H ((spS H wdE false p).2)).2.2))) eq k (nI (l ++ q1_.2.2.map encX).length)) lq cq q1_.2.1 (l ++ q1_.2.2.map encX)) 127 [(2, .int (nI (pN H ((spS H wdE false p).2)).2.2)), (1, .int 1), (0, .ref lq)] []
      have h6eq : hI (setI (setI h wq k (-(nI (pN H ((spS H wdE false p).2)).2.2))) eq k (nI (l ++ q1_.2.2.map encX).length)) lq 6 = nI k := by rw [hI_setI_n (Ne.symm d4)]; exact h6wq
      refine a_aload_n hb dX1_clause_127 rfl 2 rfl ?_
      refine a_dup hb dX1_clause_128 rfl ?_
      refine a_getI hb dX1_clause_129 (by rw [ow]; exact fl_RX1_23_1) (lp_k (h := (setI (setI h wq k (-(nI (pN H ((spS H wdE false p).2)).2.2))) eq k (nI (l ++ q1_.2.2.map encX).length))) (lq := lq) (cq := cq) (p := q1_.2.1) (l := (l ++ q1_.2.2.map encX)) t1) ?_
      rw [lp_6 ne1 (by decide) (by decide), h6eq]
      show AW V 0 0 (lpH (setI (setI h wq k (-(nI (pN H ((spS H wdE false p).2)).2.2))) eq k (nI (l ++ q1_.2.2.map encX).length)) lq cq q1_.2.1 (l ++ q1_.2.2.map encX)) 132 [(2, .int (nI (pN H ((spS H wdE false p).2)).2.2)), (1, .int 1), (0, .ref lq)] [.int (nI k), .ref lq]
      refine a_iconst (v := 1) hb dX1_clause_132 (by decide) ?_
      refine a_iadd hb dX1_clause_133 ?_
      refine a_putI (fty := .int) hb dX1_clause_134 (by rw [ow]; exact fp_RX1_23_1) (Or.inr (fun C T N hq => by cases hq; rfl)) (lp_k (h := (setI (setI h wq k (-(nI (pN H ((spS H wdE false p).2)).2.2))) eq k (nI (l ++ q1_.2.2.map encX).length))) (lq := lq) (cq := cq) (p := q1_.2.1) (l := (l ++ q1_.2.2.map encX)) t1) rfl rfl ?_
      rw [lp_o ne1 (by decide) (by decide)]
      show AW V 0 0 (lpH (setI (setI (setI h wq k (-(nI (pN H ((spS H wdE false p).2)).2.2))) eq k (nI (l ++ q1_.2.2.map encX).length)) lq 6 ((nI k) + 1)) lq cq q1_.2.1 (l ++ q1_.2.2.map encX)) 137 [(2, .int (nI (pN H ((spS H wdE false p).2)).2.2)), (1, .int 1), (0, .ref lq)] []
      refine a_iconst (v := 1) hb dX1_clause_137 (by decide) ?_
      exact a_ireturn (ty := .boolean) hb hz dX1_clause_138 hret (by first | rfl | (simp only [narrow]; done) | exact aw_nb _) (by rw [hr]; exact Nat.le_of_ble_eq_true rfl) (by rw [hr]; exact Nat.le_of_ble_eq_true rfl) ((Or.inr ⟨nx109, true, wdE, Or.inl ⟨rfl, rfl, nx101⟩, Or.inr ⟨by rw [mc_4 fwwdE tf tkpNHspSHwdEfalsep221 eQ1]; exact fw1_, rfl, by rw [mc_4 fwwdE tf tkpNHspSHwdEfalsep221 eQ1]; rfl⟩⟩))
    rw [if_neg tkpNHspSHwdEfalsep221, decide_eq_false tkpNHspSHwdEfalsep221]
    show AW V 0 0 (lpH h lq cq ((pN H ((spS H wdE false p).2)).2.1) l) 73 [(2, .int (nI (pN H ((spS H wdE false p).2)).2.2)), (1, .int 1), (0, .ref lq)] [.int 0]
    refine a_if_eq hb 93 dX1_clause_73 (by decide) (fun c73 => ?_) (fun c73 => absurd (by decide) c73)
    refine a_iconst (v := 0) hb dX1_clause_93 (by decide) ?_
    exact a_ireturn (ty := .boolean) hb hz dX1_clause_94 hret (by first | rfl | (simp only [narrow]; done) | exact aw_nb _) (by rw [hr]; exact Nat.le_of_ble_eq_true rfl) (by rw [hr]; exact Nat.le_of_ble_eq_true rfl) ((Or.inr ⟨nx109, true, wdE, Or.inl ⟨rfl, rfl, nx101⟩, Or.inl ⟨(mc_3 fwwdE tf tkpNHspSHwdEfalsep221).1, rfl, _, by rw [(mc_3 fwwdE tf tkpNHspSHwdEfalsep221).2]⟩⟩))
  rw [decide_eq_false nx101]
  show AW V 0 0 (lpH h lq cq p l) 37 [(0, .ref lq)] [.int 0]
  refine a_istore_n (L' := [(1, .int 0), (0, .ref lq)]) hb dX1_clause_37 rfl (by rw [hml]; decide) rfl ?_
  refine a_aload_n hb dX1_clause_38 rfl 1 rfl ?_
  refine a_iload_n hb dX1_clause_39 rfl 0 rfl ?_
  refine a_if_eq hb 48 dX1_clause_40 (by decide) (fun c40 => ?_) (fun c40 => absurd (by decide) c40)
  refine a_ldcS (i := 4) hb dX1_clause_48 (by rw [ow]; exact List.mem_of_getElem? (i := 4) rfl) ?_
  refine a_callV hb dX1_clause_50 (l_word4 V.1 h lq tq cq n t1 t2 t3 q0 q7 ne1 ne2 ne3 hn H hH hE p l hp) (by rw [ow]; exact clv_RX1_70) (lp_k (h := h) (lq := lq) (cq := cq) (p := p) (l := l) t1) (by decide) rfl rfl rfl (Nat.le_of_ble_eq_true rfl) (by rw [hr]; exact ⟨by decide, by decide⟩) (by rw [hr]; exact ⟨Nat.le_of_ble_eq_true rfl, Nat.le_of_ble_eq_true rfl⟩) ?_
  intro rv h' hq_
  rw [hq_.1, hq_.2]
  clear hq_ rv h'
  have gS := spS_gH (p := p) hE (w := wdD) (by decide)
  have hpS := gS.2 hp
  by_cases wwdD : (spS H wdD false p).1 = true
  · rw [wwdD]
    show AW V 0 0 (lpH h lq cq ((spS H wdD false p).2) l) 53 [(1, .int 0), (0, .ref lq)] [.int 0]
    refine a_if_ne hb 58 dX1_clause_53 (by decide) (fun c53 => absurd c53 (by decide)) (fun c53 => ?_)
    refine a_iconst (v := 0) hb dX1_clause_56 (by decide) ?_
    exact a_ireturn (ty := .boolean) hb hz dX1_clause_57 hret (by first | rfl | (simp only [narrow]; done) | exact aw_nb _) (by rw [hr]; exact Nat.le_of_ble_eq_true rfl) (by rw [hr]; exact Nat.le_of_ble_eq_true rfl) ((Or.inr ⟨nx109, false, wdD, Or.inr ⟨rfl, rfl, nx101⟩, Or.inl ⟨(mc_1 wwdD).1, rfl, _, by rw [(mc_1 wwdD).2]⟩⟩))
  have fwwdD : (spS H wdD false p).1 = false := by simpa using wwdD
  rw [fwwdD]
  show AW V 0 0 (lpH h lq cq ((spS H wdD false p).2) l) 53 [(1, .int 0), (0, .ref lq)] [.int 1]
  refine a_if_ne hb 58 dX1_clause_53 (by decide) (fun c53 => ?_) (fun c53 => absurd c53 (by decide))
  refine a_aload_n hb dX1_clause_58 rfl 1 rfl ?_
  refine a_callV hb dX1_clause_59 (by rw [hg]; exact l_number g h lq tq cq n t1 t2 t3 q0 q7 ne1 ne2 ne3 hn H hH hE ((spS H wdD false p).2) l hpS) (by rw [ow]; exact clv_RX1_81) (lp_k (h := h) (lq := lq) (cq := cq) (p := (spS H wdD false p).2) (l := l) t1) (by decide) rfl rfl rfl (Nat.le_of_ble_eq_true rfl) (by rw [hr]; exact ⟨by decide, by decide⟩) (by rw [hr]; exact ⟨Nat.le_of_ble_eq_true rfl, Nat.le_of_ble_eq_true rfl⟩) ?_
  intro rv h' hq_
  rw [hq_.1, hq_.2, nuS_p]
  clear hq_ rv h'
  have gN := pN_gH (p := (spS H wdD false p).2) hE
  have hpN := gN.2.1 hpS
  by_cases tn : (pN H ((spS H wdD false p).2)).1 = true
  · rw [if_pos tn]
    show AW V 0 0 (lpH h lq cq ((pN H ((spS H wdD false p).2)).2.1) l) 62 [(1, .int 0), (0, .ref lq)] [.int (-1)]
    refine a_istore_n (L' := [(2, .int (-1)), (1, .int 0), (0, .ref lq)]) hb dX1_clause_62 rfl (by rw [hml]; decide) rfl ?_
    refine a_iload_n hb dX1_clause_63 rfl 0 rfl ?_
    refine a_if_lt hb 93 dX1_clause_64 (by decide) (fun c64 => ?_) (fun c64 => absurd (by decide) c64)
    refine a_iconst (v := 0) hb dX1_clause_93 (by decide) ?_
    exact a_ireturn (ty := .boolean) hb hz dX1_clause_94 hret (by first | rfl | (simp only [narrow]; done) | exact aw_nb _) (by rw [hr]; exact Nat.le_of_ble_eq_true rfl) (by rw [hr]; exact Nat.le_of_ble_eq_true rfl) ((Or.inr ⟨nx109, false, wdD, Or.inr ⟨rfl, rfl, nx101⟩, Or.inl ⟨(mc_2 fwwdD tn).1, rfl, _, by rw [(mc_2 fwwdD tn).2]⟩⟩))
  rw [if_neg tn]
  have tf : (pN H ((spS H wdD false p).2)).1 = false := by simpa using tn
  show AW V 0 0 (lpH h lq cq ((pN H ((spS H wdD false p).2)).2.1) l) 62 [(1, .int 0), (0, .ref lq)] [.int (nI (pN H ((spS H wdD false p).2)).2.2)]
  refine a_istore_n (L' := [(2, .int (nI (pN H ((spS H wdD false p).2)).2.2)), (1, .int 0), (0, .ref lq)]) hb dX1_clause_62 rfl (by rw [hml]; decide) rfl ?_
  refine a_iload_n hb dX1_clause_63 rfl 0 rfl ?_
  refine a_if_lt hb 93 dX1_clause_64 (by decide) (fun c64 => absurd c64 (nI_pos (by have := gN.2.2.1; omega))) (fun c64 => ?_)
  refine a_aload_n hb dX1_clause_67 rfl 2 rfl ?_
  refine a_bipush (v := 32) hb dX1_clause_68 (by decide) ?_
  refine a_callV hb dX1_clause_70 (by rw [hg]; exact l_take g h lq tq cq n t1 t2 t3 q0 q7 ne1 ne2 ne3 hn H hH hE ((pN H ((spS H wdD false p).2)).2.1) l hpN 32 (by decide)) (by rw [ow]; exact clv_RX1_43) (lp_k (h := h) (lq := lq) (cq := cq) (p := (pN H ((spS H wdD false p).2)).2.1) (l := l) t1) (by decide) rfl rfl rfl (Nat.le_of_ble_eq_true rfl) (by rw [hr]; exact ⟨by decide, by decide⟩) (by rw [hr]; exact ⟨Nat.le_of_ble_eq_true rfl, Nat.le_of_ble_eq_true rfl⟩) ?_
  intro rv h' hq_
  rw [hq_.1, hq_.2]
  clear hq_ rv h'
  by_cases tkpNHspSHwdDfalsep221 : H ((pN H ((spS H wdD false p).2)).2.1) = 32
  · have lttkpNHspSHwdDfalsep221 : (pN H ((spS H wdD false p).2)).2.1 < n := H_c hE (by decide) tkpNHspSHwdDfalsep221
    rw [if_pos tkpNHspSHwdDfalsep221, decide_eq_true tkpNHspSHwdDfalsep221]
    show AW V 0 0 (lpH h lq cq ((pN H ((spS H wdD false p).2)).2.1 + 1) l) 73 [(2, .int (nI (pN H ((spS H wdD false p).2)).2.2)), (1, .int 0), (0, .ref lq)] [.int 1]
    refine a_if_eq hb 93 dX1_clause_73 (by decide) (fun c73 => absurd c73 (by decide)) (fun c73 => ?_)
    refine a_aload_n hb dX1_clause_76 rfl 2 rfl ?_
    refine a_iconst (v := 0) hb dX1_clause_77 (by decide) ?_
    refine a_callV hb dX1_clause_78 (by rw [hg]; exact l_exp5 g h lq tq cq n t1 t2 t3 q0 q7 ne1 ne2 ne3 hn H hH hE ((pN H ((spS H wdD false p).2)).2.1 + 1) l lttkpNHspSHwdDfalsep221 (Nat.le_succ_of_le (show l.length ≤ _ from by omega))) (by rw [ow]; exact clv_RX1_85) (lp_k (h := h) (lq := lq) (cq := cq) (p := (pN H ((spS H wdD false p).2)).2.1 + 1) (l := l) t1) (by decide) rfl rfl rfl (Nat.le_of_ble_eq_true rfl) (by rw [hr]; exact ⟨by decide, by decide⟩) (by rw [hr]; exact ⟨Nat.le_of_ble_eq_true rfl, Nat.le_of_ble_eq_true rfl⟩) ?_
    intro rv h' hq_
    rw [hq_.1, hq_.2]
    clear hq_ rv h'
    have gd2_ := pE_gH hE 5 ((pN H ((spS H wdD false p).2)).2.1 + 1)
    generalize eQ2 : pE (pF H 5) H ((pN H ((spS H wdD false p).2)).2.1 + 1) = q2_ at gd2_ ⊢
    have hp2 := gd2_.2 lttkpNHspSHwdDfalsep221
    have hl2 := gdx gd2_ (Nat.le_succ_of_le (show l.length ≤ _ from by omega))
    by_cases w2_ : q2_.1 = true
    · rw [w2_]
      show AW V 0 0 (lpH h lq cq q2_.2.1 (l ++ q2_.2.2.map encX)) 81 [(2, .int (nI (pN H ((spS H wdD false p).2)).2.2)), (1, .int 0), (0, .ref lq)] [.int 0]
      refine a_if_eq hb 93 dX1_clause_81 (by decide) (fun c81 => ?_) (fun c81 => absurd (by decide) c81)
      refine a_iconst (v := 0) hb dX1_clause_93 (by decide) ?_
      exact a_ireturn (ty := .boolean) hb hz dX1_clause_94 hret (by first | rfl | (simp only [narrow]; done) | exact aw_nb _) (by rw [hr]; exact Nat.le_of_ble_eq_true rfl) (by rw [hr]; exact Nat.le_of_ble_eq_true rfl) ((Or.inr ⟨nx109, false, wdD, Or.inr ⟨rfl, rfl, nx101⟩, Or.inl ⟨by rw [mc_4 fwwdD tf tkpNHspSHwdDfalsep221 eQ2]; exact w2_, rfl, _, by rw [mc_4 fwwdD tf tkpNHspSHwdDfalsep221 eQ2]⟩⟩))
    have fw2_ : q2_.1 = false := by simpa using w2_
    rw [fw2_]
    show AW V 0 0 (lpH h lq cq q2_.2.1 (l ++ q2_.2.2.map encX)) 81 [(2, .int (nI (pN H ((spS H wdD false p).2)).2.2)), (1, .int 0), (0, .ref lq)] [.int 1]
    refine a_if_eq hb 93 dX1_clause_81 (by decide) (fun c81 => absurd c81 (by decide)) (fun c81 => ?_)
    refine a_aload_n hb dX1_clause_84 rfl 2 rfl ?_
    refine a_getI hb dX1_clause_85 (by rw [ow]; exact fl_RX1_23_1) (lp_k (h := h) (lq := lq) (cq := cq) (p := q2_.2.1) (l := (l ++ q2_.2.2.map encX)) t1) ?_
    rw [lp_6 ne1 (by decide) (by decide), h6]
    show AW V 0 0 (lpH h lq cq q2_.2.1 (l ++ q2_.2.2.map encX)) 88 [(2, .int (nI (pN H ((spS H wdD false p).2)).2.2)), (1, .int 0), (0, .ref lq)] [.int (nI k)]
    refine a_bipush (v := 8) hb dX1_clause_88 (by decide) ?_
    refine a_icmp_lt hb 95 dX1_clause_90 (by decide) (fun c90 => ?_) (fun c90 => absurd ((nI_ltI (b := 8) (by omega) (by decide)).mpr hk) c90)
    refine a_aload_n hb dX1_clause_95 rfl 2 rfl ?_
    refine a_getQ (q := wq) hb dX1_clause_96 (by rw [ow]; exact fl_RX1_16_1) (lp_k (h := h) (lq := lq) (cq := cq) (p := q2_.2.1) (l := (l ++ q2_.2.2.map encX)) t1) (lp_q (h := h) (lq := lq) (cq := cq) (p := q2_.2.1) (l := (l ++ q2_.2.2.map encX)) q4) ?_
    refine a_aload_n hb dX1_clause_99 rfl 2 rfl ?_
    refine a_getI hb dX1_clause_100 (by rw [ow]; exact fl_RX1_23_1) (lp_k (h := h) (lq := lq) (cq := cq) (p := q2_.2.1) (l := (l ++ q2_.2.2.map encX)) t1) ?_
    rw [lp_6 ne1 (by decide) (by decide), h6]
    show AW V 0 0 (lpH h lq cq q2_.2.1 (l ++ q2_.2.2.map encX)) 103 [(2, .int (nI (pN H ((spS H wdD false p).2)).2.2)), (1, .int 0), (0, .ref lq)] [.int (nI k), .ref wq]
    refine a_iload_n hb dX1_clause_103 rfl 1 rfl ?_
    refine a_if_eq hb 112 dX1_clause_104 (by decide) (fun c104 => ?_) (fun c104 => absurd (by decide) c104)
    refine a_iload_n hb dX1_clause_112 rfl 0 rfl ?_
    refine b_iast (j := k) hb dX1_clause_113 (lp_k (h := h) (lq := lq) (cq := cq) (p := q2_.2.1) (l := (l ++ q2_.2.2.map encX)) t4) (IX.n (by omega)) (by omega) ?_
    rw [lp_a ne1 d1 d3]
    show AW V 0 0 (lpH (setI h wq k (nI (pN H ((spS H wdD false p).2)).2.2)) lq cq q2_.2.1 (l ++ q2_.2.2.map encX)) 114 [(2, .int (nI (pN H ((spS H wdD false p).2)).2.2)), (1, .int 0), (0, .ref lq)] []
    have h6wq : hI (setI h wq k (nI (pN H ((spS H wdD false p).2)).2.2)) lq 6 = nI k := by rw [hI_setI_n (Ne.symm d1)]; exact h6
    refine a_aload_n hb dX1_clause_114 rfl 2 rfl ?_
    refine a_getQ (q := eq) hb dX1_clause_115 (by rw [ow]; exact fl_RX1_20_1) (lp_k (h := (setI h wq k (nI (pN H ((spS H wdD false p).2)).2.2))) (lq := lq) (cq := cq) (p := q2_.2.1) (l := (l ++ q2_.2.2.map encX)) t1) (lp_q (h := (setI h wq k (nI (pN H ((spS H wdD false p).2)).2.2))) (lq := lq) (cq := cq) (p := q2_.2.1) (l := (l ++ q2_.2.2.map encX)) q5) ?_
    refine a_aload_n hb dX1_clause_118 rfl 2 rfl ?_
    refine a_getI hb dX1_clause_119 (by rw [ow]; exact fl_RX1_23_1) (lp_k (h := (setI h wq k (nI (pN H ((spS H wdD false p).2)).2.2))) (lq := lq) (cq := cq) (p := q2_.2.1) (l := (l ++ q2_.2.2.map encX)) t1) ?_
    rw [lp_6 ne1 (by decide) (by decide), h6wq]
    show AW V 0 0 (lpH (setI h wq k (nI (pN H ((spS H wdD false p).2)).2.2)) lq cq q2_.2.1 (l ++ q2_.2.2.map encX)) 122 [(2, .int (nI (pN H ((spS H wdD false p).2)).2.2)), (1, .int 0), (0, .ref lq)] [.int (nI k), .ref eq]
    refine a_aload_n hb dX1_clause_122 rfl 2 rfl ?_
    refine a_getI hb dX1_clause_123 (by rw [ow]; exact fl_RX1_26_1) (lp_k (h := (setI h wq k (nI (pN H ((spS H wdD false p).2)).2.2))) (lq := lq) (cq := cq) (p := q2_.2.1) (l := (l ++ q2_.2.2.map encX)) t1) ?_
    rw [lp_8 ne1]
    show AW V 0 0 (lpH (setI h wq k (nI (pN H ((spS H wdD false p).2)).2.2)) lq cq q2_.2.1 (l ++ q2_.2.2.map encX)) 126 [(2, .int (nI (pN H ((spS H wdD false p).2)).2.2)), (1, .int 0), (0, .ref lq)] [.int (nI (l ++ q2_.2.2.map encX).length), .int (nI k), .ref eq]
    refine b_iast (j := k) hb dX1_clause_126 (lp_k (h := (setI h wq k (nI (pN H ((spS H wdD false p).2)).2.2))) (lq := lq) (cq := cq) (p := q2_.2.1) (l := (l ++ q2_.2.2.map encX)) t5) (IX.n (by omega)) (by omega) ?_
    rw [lp_a ne1 d4 d6]
    show AW V 0 0 (lpH (setI (setI h wq k (nI (pN H ((spS H wdD false p).2)).2.2)) eq k (nI (l ++ q2_.2.2.map encX).length)) lq cq q2_.2.1 (l ++ q2_.2.2.map encX)) 127 [(2, .int (nI (pN H ((spS H wdD false p).2)).2.2)), (1, .int 0), (0, .ref lq)] []
    have h6eq : hI (setI (setI h wq k (nI (pN H ((spS H wdD false p).2)).2.2)) eq k (nI (l ++ q2_.2.2.map encX).length)) lq 6 = nI k := by rw [hI_setI_n (Ne.symm d4)]; exact h6wq
    refine a_aload_n hb dX1_clause_127 rfl 2 rfl ?_
    refine a_dup hb dX1_clause_128 rfl ?_
    refine a_getI hb dX1_clause_129 (by rw [ow]; exact fl_RX1_23_1) (lp_k (h := (setI (setI h wq k (nI (pN H ((spS H wdD false p).2)).2.2)) eq k (nI (l ++ q2_.2.2.map encX).length))) (lq := lq) (cq := cq) (p := q2_.2.1) (l := (l ++ q2_.2.2.map encX)) t1) ?_
    rw [lp_6 ne1 (by decide) (by decide), h6eq]
    show AW V 0 0 (lpH (setI (setI h wq k (nI (pN H ((spS H wdD false p).2)).2.2)) eq k (nI (l ++ q2_.2.2.map encX).length)) lq cq q2_.2.1 (l ++ q2_.2.2.map encX)) 132 [(2, .int (nI (pN H ((spS H wdD false p).2)).2.2)), (1, .int 0), (0, .ref lq)] [.int (nI k), .ref lq]
    refine a_iconst (v := 1) hb dX1_clause_132 (by decide) ?_
    refine a_iadd hb dX1_clause_133 ?_
    refine a_putI (fty := .int) hb dX1_clause_134 (by rw [ow]; exact fp_RX1_23_1) (Or.inr (fun C T N hq => by cases hq; rfl)) (lp_k (h := (setI (setI h wq k (nI (pN H ((spS H wdD false p).2)).2.2)) eq k (nI (l ++ q2_.2.2.map encX).length))) (lq := lq) (cq := cq) (p := q2_.2.1) (l := (l ++ q2_.2.2.map encX)) t1) rfl rfl ?_
    rw [lp_o ne1 (by decide) (by decide)]
    show AW V 0 0 (lpH (setI (setI (setI h wq k (nI (pN H ((spS H wdD false p).2)).2.2)) eq k (nI (l ++ q2_.2.2.map encX).length)) lq 6 ((nI k) + 1)) lq cq q2_.2.1 (l ++ q2_.2.2.map encX)) 137 [(2, .int (nI (pN H ((spS H wdD false p).2)).2.2)), (1, .int 0), (0, .ref lq)] []
    refine a_iconst (v := 1) hb dX1_clause_137 (by decide) ?_
    exact a_ireturn (ty := .boolean) hb hz dX1_clause_138 hret (by first | rfl | (simp only [narrow]; done) | exact aw_nb _) (by rw [hr]; exact Nat.le_of_ble_eq_true rfl) (by rw [hr]; exact Nat.le_of_ble_eq_true rfl) ((Or.inr ⟨nx109, false, wdD, Or.inr ⟨rfl, rfl, nx101⟩, Or.inr ⟨by rw [mc_4 fwwdD tf tkpNHspSHwdDfalsep221 eQ2]; exact fw2_, rfl, by rw [mc_4 fwwdD tf tkpNHspSHwdDfalsep221 eQ2]; rfl⟩⟩))
  rw [if_neg tkpNHspSHwdDfalsep221, decide_eq_false tkpNHspSHwdDfalsep221]
  show AW V 0 0 (lpH h lq cq ((pN H ((spS H wdD false p).2)).2.1) l) 73 [(2, .int (nI (pN H ((spS H wdD false p).2)).2.2)), (1, .int 0), (0, .ref lq)] [.int 0]
  refine a_if_eq hb 93 dX1_clause_73 (by decide) (fun c73 => ?_) (fun c73 => absurd (by decide) c73)
  refine a_iconst (v := 0) hb dX1_clause_93 (by decide) ?_
  exact a_ireturn (ty := .boolean) hb hz dX1_clause_94 hret (by first | rfl | (simp only [narrow]; done) | exact aw_nb _) (by rw [hr]; exact Nat.le_of_ble_eq_true rfl) (by rw [hr]; exact Nat.le_of_ble_eq_true rfl) ((Or.inr ⟨nx109, false, wdD, Or.inr ⟨rfl, rfl, nx101⟩, Or.inl ⟨(mc_3 fwwdD tf tkpNHspSHwdDfalsep221).1, rfl, _, by rw [(mc_3 fwwdD tf tkpNHspSHwdDfalsep221).2]⟩⟩))
