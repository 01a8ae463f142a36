/-! ===== the class reads a law: a test ===== -/
/-- the heap a reading leaves -/
def lpG (h : AH) (lq cq : Nat) (l : List Int32) (r : PR) : AH := lpH h lq cq r.2.1 (l ++ r.2.2.map encX)
theorem lpG_0 {h : AH} {lq cq q : Nat} {l : List Int32} {w : Bool} : lpG h lq cq l (w, q, []) = lpH h lq cq q l := by
  show lpH h lq cq q (l ++ []) = _
  rw [List.append_nil]
theorem pT_5 {H : Nat → Int32} {p : Nat} (h : ix5 (H p) = 5) : pT H p = (true, p, []) := by rw [pT, if_pos h]
theorem pT_3 {H : Nat → Int32} {p : Nat} (h : ¬ ix5 (H p) = 5) (h3 : ix3 (H (p + 1)) = 3) : pT H p = (true, p + 1, []) := by rw [pT, if_neg h, if_pos h3]
theorem pT_n {H : Nat → Int32} {p : Nat} (h : ¬ ix5 (H p) = 5) (h3 : ¬ ix3 (H (p + 1)) = 3) (hn : (pN H (p + 2)).1 = true) : pT H p = (true, (pN H (p + 2)).2.1, []) := by rw [pT, if_neg h, if_neg h3, hn, if_pos rfl]
theorem pT_k {H : Nat → Int32} {p : Nat} (h : ¬ ix5 (H p) = 5) (h3 : ¬ ix3 (H (p + 1)) = 3) (hn : (pN H (p + 2)).1 = false) : pT H p = (false, (pN H (p + 2)).2.1, [(0, ix5 (H p), ix3 (H (p + 1)), (pN H (p + 2)).2.2)]) := by rw [pT, if_neg h, if_neg h3, hn, if_neg (by decide)]
theorem tst_e {a b c : Nat} : (nI a * 3 + nI b) * 1000 + nI c = encX (0, a, b, c) := by
  rw [encX_t rfl, show (3 : Int32) = nI 3 from rfl, show (1000 : Int32) = nI 1000 from rfl, pk_mul, nI_add, pk_mul, nI_add]
theorem hr_e {H : Nat → Int32} {n : Nat} (hE : ∀ p, n ≤ p → H p = -1) : H = hrT H n := by
  funext p
  unfold hrT
  split
  · rfl
  · exact hE p (by omega)
theorem H_5 {H : Nat → Int32} {n p : Nat} (hE : ∀ p, n ≤ p → H p = -1) (h : ¬ ix5 (H p) = 5) : p < n := Nat.lt_of_not_le (fun z => h (by rw [hE p z]; decide))
theorem H_3 {H : Nat → Int32} {n p : Nat} (hE : ∀ p, n ≤ p → H p = -1) (h : ¬ ix3 (H p) = 3) : p < n := Nat.lt_of_not_le (fun z => h (by rw [hE p z]; decide))
theorem pN_gH {H : Nat → Int32} {n p : Nat} (hE : ∀ p, n ≤ p → H p = -1) : p ≤ (pN H p).2.1 ∧ (p ≤ n → (pN H p).2.1 ≤ n) ∧ (pN H p).2.2 ≤ 999 ∧ ((pN H p).1 = false → p + 1 ≤ (pN H p).2.1) := by
  have := pN_g (tx := H) (n := n) (p := p)
  rw [← hr_e hE] at this
  exact this
set_option maxRecDepth 100000 in
theorem l_tst (g : GG) (h : AH) (lq tq cq n : Nat) (t1 : hT h lq = (1, 0)) (t2 : hT h tq = (13, n)) (t3 : hT h cq = (14, n)) (q0 : hQ h lq 0 = some tq) (q7 : hQ h lq 7 = some cq) (ne1 : lq ≠ cq) (ne2 : tq ≠ lq) (ne3 : tq ≠ cq) (hn : n ≤ 120) (H : Nat → Int32) (hH : ∀ p, p < n → hI h tq p = bx (H p) ∧ oO (H p) 0 255 = false) (hE : ∀ p, n ≤ p → H p = -1) (p : Nat) (l : List Int32) (hp : p ≤ n) (hll : l.length ≤ p) : AM g 7 0 0 mX1_test [.ref lq] (lpH h lq cq p l) (fun rv h' => rv = some (.int (b2i (!(pT H p).1))) ∧ h' = lpG h lq cq l (pT H p)) := by
  refine AM.of [(0, .ref lq)] (by decide) (Nat.le_of_ble_eq_true rfl) rfl ?_
  intro V hV
  have hb : V.2.1.2.1 = cX1_test := by subst hV; rfl
  have ow : V.2.1.1.cls = RX1 := by subst hV; rfl
  have hr : V.2.2.1 = aw_rm 7 0 0 := by subst hV; rfl
  have hz : V.2.2.2 = aw_Z V.1 (fun rv h' => rv = some (.int (b2i (!(pT H p).1))) ∧ h' = lpG h lq cq l (pT H p)) V.2.2.1 := by subst hV; rfl
  have hg : V.1 = g := by subst hV; rfl
  have hret : V.2.1.2.2.2 = (some .boolean) := by subst hV; rfl
  have hml : V.2.1.2.2.1 = 4 := by subst hV; rfl
  clear hV
  refine a_aload_n hb dX1_test_0 rfl 0 rfl ?_
  refine a_ldcS (i := 0) hb dX1_test_1 (by rw [ow]; exact List.mem_of_getElem? (i := 0) rfl) ?_
  refine a_callV hb dX1_test_3 (l_oneOf0 V.1 h lq tq cq n t1 t2 t3 q0 q7 ne1 ne2 ne3 hn H hH hE p l hp) (by rw [ow]; exact clv_RX1_102) (lp_k (h := h) (lq := lq) (cq := cq) (p := p) (l := l) t1) (by decide) rfl rfl rfl (Nat.le_of_ble_eq_true rfl) (by rw [hr]; exact ⟨by decide, by decide⟩) (by rw [hr]; exact ⟨Nat.le_of_ble_eq_true rfl, Nat.le_of_ble_eq_true rfl⟩) ?_
  intro rv h' hq_
  rw [hq_.1, hq_.2]
  by_cases o5 : ix5 (H p) = 5
  · rw [if_pos o5, if_pos o5]
    show AW V 0 0 (lpH h lq cq p l) 6 [(0, .ref lq)] [.int (-1)]
    refine a_istore_n (L' := [(1, .int (-1)), (0, .ref lq)]) hb dX1_test_6 rfl (by rw [hml]; decide) rfl ?_
    refine a_iload_n hb dX1_test_7 rfl 0 rfl ?_
    refine a_if_ge hb 15 dX1_test_8 (by decide) (fun c8 => absurd c8 (by decide)) (fun c8 => ?_)
    refine a_iconst (v := (-1)) hb dX1_test_11 (by decide) ?_
    refine a_goto hb 21 dX1_test_12 (by decide) ?_
    refine a_istore_n (L' := [(2, .int (-1)), (1, .int (-1)), (0, .ref lq)]) hb dX1_test_21 rfl (by rw [hml]; decide) rfl ?_
    refine a_iload_n hb dX1_test_22 rfl 0 rfl ?_
    refine a_if_ge hb 30 dX1_test_23 (by decide) (fun c23 => absurd c23 (by decide)) (fun c23 => ?_)
    refine a_iconst (v := (-1)) hb dX1_test_26 (by decide) ?_
    refine a_goto hb 34 dX1_test_27 (by decide) ?_
    refine a_istore_n (L' := [(3, .int (-1)), (2, .int (-1)), (1, .int (-1)), (0, .ref lq)]) hb dX1_test_34 rfl (by rw [hml]; decide) rfl ?_
    refine a_iload_n hb dX1_test_35 rfl 0 rfl ?_
    refine a_if_lt hb 61 dX1_test_36 (by decide) (fun c36 => ?_) (fun c36 => absurd (by decide) c36)
    refine a_iconst (v := 0) hb dX1_test_61 (by decide) ?_
    exact a_ireturn (ty := .boolean) hb hz dX1_test_62 hret (by first | rfl | (simp only [narrow]; done) | exact aw_nb _) (by rw [hr]; exact Nat.le_of_ble_eq_true rfl) (by rw [hr]; exact Nat.le_of_ble_eq_true rfl) (⟨by rw [pT_5 o5]; rfl, by rw [pT_5 o5, lpG_0]⟩)
  have lto5 := H_5 hE o5
  rw [if_neg o5, if_neg o5]
  show AW V 0 0 (lpH h lq cq (p + 1) l) 6 [(0, .ref lq)] [.int (nI (ix5 (H p)))]
  refine a_istore_n (L' := [(1, .int (nI (ix5 (H p)))), (0, .ref lq)]) hb dX1_test_6 rfl (by rw [hml]; decide) rfl ?_
  refine a_iload_n hb dX1_test_7 rfl 0 rfl ?_
  refine a_if_ge hb 15 dX1_test_8 (by decide) (fun c8 => ?_) (fun c8 => absurd (Int32.not_lt.mp (nI_pos (by have := @ix5_le (H p); omega))) c8)
  refine a_aload_n hb dX1_test_15 rfl 1 rfl ?_
  refine a_ldcS (i := 1) hb dX1_test_16 (by rw [ow]; exact List.mem_of_getElem? (i := 1) rfl) ?_
  refine a_callV hb dX1_test_18 (l_oneOf1 V.1 h lq tq cq n t1 t2 t3 q0 q7 ne1 ne2 ne3 hn H hH hE (p + 1) l (by omega)) (by rw [ow]; exact clv_RX1_102) (lp_k (h := h) (lq := lq) (cq := cq) (p := p + 1) (l := l) t1) (by decide) rfl rfl rfl (Nat.le_of_ble_eq_true rfl) (by rw [hr]; exact ⟨by decide, by decide⟩) (by rw [hr]; exact ⟨Nat.le_of_ble_eq_true rfl, Nat.le_of_ble_eq_true rfl⟩) ?_
  intro rv h' hq_
  rw [hq_.1, hq_.2]
  by_cases o3 : ix3 (H (p + 1)) = 3
  · rw [if_pos o3, if_pos o3]
    show AW V 0 0 (lpH h lq cq (p + 1) l) 21 [(1, .int (nI (ix5 (H p)))), (0, .ref lq)] [.int (-1)]
    refine a_istore_n (L' := [(2, .int (-1)), (1, .int (nI (ix5 (H p)))), (0, .ref lq)]) hb dX1_test_21 rfl (by rw [hml]; decide) rfl ?_
    refine a_iload_n hb dX1_test_22 rfl 0 rfl ?_
    refine a_if_ge hb 30 dX1_test_23 (by decide) (fun c23 => absurd c23 (by decide)) (fun c23 => ?_)
    refine a_iconst (v := (-1)) hb dX1_test_26 (by decide) ?_
    refine a_goto hb 34 dX1_test_27 (by decide) ?_
    refine a_istore_n (L' := [(3, .int (-1)), (2, .int (-1)), (1, .int (nI (ix5 (H p)))), (0, .ref lq)]) hb dX1_test_34 rfl (by rw [hml]; decide) rfl ?_
    refine a_iload_n hb dX1_test_35 rfl 0 rfl ?_
    refine a_if_lt hb 61 dX1_test_36 (by decide) (fun c36 => ?_) (fun c36 => absurd (by decide) c36)
    refine a_iconst (v := 0) hb dX1_test_61 (by decide) ?_
    exact a_ireturn (ty := .boolean) hb hz dX1_test_62 hret (by first | rfl | (simp only [narrow]; done) | exact aw_nb _) (by rw [hr]; exact Nat.le_of_ble_eq_true rfl) (by rw [hr]; exact Nat.le_of_ble_eq_true rfl) (⟨by rw [pT_3 o5 o3]; rfl, by rw [pT_3 o5 o3, lpG_0]⟩)
  have lto3 := H_3 hE o3
  rw [if_neg o3, if_neg o3]
  show AW V 0 0 (lpH h lq cq (p + 2) l) 21 [(1, .int (nI (ix5 (H p)))), (0, .ref lq)] [.int (nI (ix3 (H (p + 1))))]
  refine a_istore_n (L' := [(2, .int (nI (ix3 (H (p + 1))))), (1, .int (nI (ix5 (H p)))), (0, .ref lq)]) hb dX1_test_21 rfl (by rw [hml]; decide) rfl ?_
  refine a_iload_n hb dX1_test_22 rfl 0 rfl ?_
  refine a_if_ge hb 30 dX1_test_23 (by decide) (fun c23 => ?_) (fun c23 => absurd (Int32.not_lt.mp (nI_pos (by have := @ix3_le (H (p + 1)); omega))) c23)
  refine a_aload_n hb dX1_test_30 rfl 2 rfl ?_
  refine a_callV hb dX1_test_31 (by rw [hg]; exact l_number g h lq tq cq n t1 t2 t3 q0 q7 ne1 ne2 ne3 hn H hH hE (p + 2) l (by omega)) (by rw [ow]; exact clv_RX1_81) (lp_k (h := h) (lq := lq) (cq := cq) (p := p + 2) (l := l) t1) (by decide) rfl rfl rfl (Nat.le_of_ble_eq_true rfl) (by rw [hr]; exact ⟨by decide, by decide⟩) (by rw [hr]; exact ⟨Nat.le_of_ble_eq_true rfl, Nat.le_of_ble_eq_true rfl⟩) ?_
  intro rv h' hq_
  rw [hq_.1, hq_.2, nuS_p]
  have gN := pN_gH (p := p + 2) hE
  by_cases tn : (pN H (p + 2)).1 = true
  · rw [if_pos tn]
    show AW V 0 0 (lpH h lq cq ((pN H (p + 2)).2.1) l) 34 [(2, .int (nI (ix3 (H (p + 1))))), (1, .int (nI (ix5 (H p)))), (0, .ref lq)] [.int (-1)]
    refine a_istore_n (L' := [(3, .int (-1)), (2, .int (nI (ix3 (H (p + 1))))), (1, .int (nI (ix5 (H p)))), (0, .ref lq)]) hb dX1_test_34 rfl (by rw [hml]; decide) rfl ?_
    refine a_iload_n hb dX1_test_35 rfl 0 rfl ?_
    refine a_if_lt hb 61 dX1_test_36 (by decide) (fun c36 => ?_) (fun c36 => absurd (by decide) c36)
    refine a_iconst (v := 0) hb dX1_test_61 (by decide) ?_
    exact a_ireturn (ty := .boolean) hb hz dX1_test_62 hret (by first | rfl | (simp only [narrow]; done) | exact aw_nb _) (by rw [hr]; exact Nat.le_of_ble_eq_true rfl) (by rw [hr]; exact Nat.le_of_ble_eq_true rfl) (⟨by rw [pT_n o5 o3 tn]; rfl, by rw [pT_n o5 o3 tn, lpG_0]⟩)
  rw [if_neg tn]
  have tf : (pN H (p + 2)).1 = false := by simpa using tn
  show AW V 0 0 (lpH h lq cq ((pN H (p + 2)).2.1) l) 34 [(2, .int (nI (ix3 (H (p + 1))))), (1, .int (nI (ix5 (H p)))), (0, .ref lq)] [.int (nI (pN H (p + 2)).2.2)]
  refine a_istore_n (L' := [(3, .int (nI (pN H (p + 2)).2.2)), (2, .int (nI (ix3 (H (p + 1))))), (1, .int (nI (ix5 (H p)))), (0, .ref lq)]) hb dX1_test_34 rfl (by rw [hml]; decide) rfl ?_
  refine a_iload_n hb dX1_test_35 rfl 0 rfl ?_
  refine a_if_lt hb 61 dX1_test_36 (by decide) (fun c36 => absurd c36 (nI_pos (by have := gN.2.2.1; omega))) (fun c36 => ?_)
  refine a_aload_n hb dX1_test_39 rfl 3 rfl ?_
  refine a_iload_n hb dX1_test_40 rfl 2 rfl ?_
  refine a_iconst (v := 3) hb dX1_test_41 (by decide) ?_
  refine a_imul hb dX1_test_42 ?_
  refine a_iload_n hb dX1_test_43 rfl 1 rfl ?_
  refine a_iadd hb dX1_test_44 ?_
  refine a_sipush (v := 1000) hb dX1_test_45 (by decide) ?_
  refine a_imul hb dX1_test_48 ?_
  refine a_iload_n hb dX1_test_49 rfl 0 rfl ?_
  refine a_iadd hb dX1_test_50 ?_
  rw [tst_e]
  show AW V 0 0 (lpH h lq cq ((pN H (p + 2)).2.1) l) 51 [(3, .int (nI (pN H (p + 2)).2.2)), (2, .int (nI (ix3 (H (p + 1))))), (1, .int (nI (ix5 (H p)))), (0, .ref lq)] [.int (encX (0, ix5 (H p), ix3 (H (p + 1)), (pN H (p + 2)).2.2)), .ref lq]
  refine a_callV hb dX1_test_51 (by rw [hg]; exact l_emit g h lq tq cq n t1 t2 t3 q0 q7 ne1 ne2 ne3 hn H hH hE ((pN H (p + 2)).2.1) l (gN.2.1 (by omega)) (encX (0, ix5 (H p), ix3 (H (p + 1)), (pN H (p + 2)).2.2)) (by have := gN.2.2.2 tf; have := gN.2.1 (by omega); omega)) (by rw [ow]; exact clv_RX1_91) (lp_k (h := h) (lq := lq) (cq := cq) (p := (pN H (p + 2)).2.1) (l := l) t1) (by decide) rfl rfl rfl (Nat.le_of_ble_eq_true rfl) (by rw [hr]; exact ⟨by decide, by decide⟩) (by rw [hr]; exact ⟨Nat.le_of_ble_eq_true rfl, Nat.le_of_ble_eq_true rfl⟩) ?_
  intro rv h' hq_
  rw [hq_.1, hq_.2]
  show AW V 0 0 (lpH h lq cq ((pN H (p + 2)).2.1) (l ++ [(encX (0, ix5 (H p), ix3 (H (p + 1)), (pN H (p + 2)).2.2))])) 54 [(3, .int (nI (pN H (p + 2)).2.2)), (2, .int (nI (ix3 (H (p + 1))))), (1, .int (nI (ix5 (H p)))), (0, .ref lq)] [.int 1]
  refine a_if_eq hb 61 dX1_test_54 (by decide) (fun c54 => absurd c54 (by decide)) (fun c54 => ?_)
  refine a_iconst (v := 1) hb dX1_test_57 (by decide) ?_
  refine a_goto hb 62 dX1_test_58 (by decide) ?_
  exact a_ireturn (ty := .boolean) hb hz dX1_test_62 hret (by first | rfl | (simp only [narrow]; done) | exact aw_nb _) (by rw [hr]; exact Nat.le_of_ble_eq_true rfl) (by rw [hr]; exact Nat.le_of_ble_eq_true rfl) (⟨by rw [pT_k o5 o3 tf]; rfl, by rw [pT_k o5 o3 tf]; rfl⟩)
