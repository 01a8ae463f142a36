/-! ===== the class reads a law: a number ===== -/
theorem bx_n1 {c : Int32} (hc : oO c 0 255 = false) (h : bx c - 48 < 0) : isD c = false := by
  cases e : isD c with
  | false => rfl
  | true =>
    rw [bx_d hc e, Int32.lt_iff_toInt_lt, nI_toInt (by have := (dvD_i e).2; omega), show (0 : Int32).toInt = 0 from by decide] at h
    omega
theorem bx_n2 {c : Int32} (hc : oO c 0 255 = false) (h : 9 < bx c - 48) : isD c = false := by
  cases e : isD c with
  | false => rfl
  | true =>
    have := (dvD_i e).2
    rw [bx_d hc e, Int32.lt_iff_toInt_lt, nI_toInt (by omega), show (9 : Int32).toInt = 9 from by decide] at h
    omega
/-- the class's number: what it stands at, the place -/
def nuS (H : Nat → Int32) : Nat → Int32 → Nat → Int32 × Nat
  | 0, v, p => (v, p)
  | k + 1, v, p => if v = 0 then (v, p) else if isD (H p) = true then nuS H k ((if 0 < v then v else 0) * 10 + (bx (H p) - 48)) (p + 1) else (v, p)
theorem nuS_z {H : Nat → Int32} {k : Nat} {v : Int32} {p : Nat} (h : v = 0) : nuS H (k + 1) v p = (v, p) := by rw [nuS, if_pos h]
theorem nuS_n {H : Nat → Int32} {k : Nat} {v : Int32} {p : Nat} (h : isD (H p) = false) : nuS H (k + 1) v p = (v, p) := by rw [nuS, h]; split <;> rfl
theorem nuS_s {H : Nat → Int32} {k : Nat} {v : Int32} {p : Nat} (h1 : ¬ v = 0) (h : isD (H p) = true) : nuS H (k + 1) v p = nuS H k ((if 0 < v then v else 0) * 10 + (bx (H p) - 48)) (p + 1) := by rw [nuS, if_neg h1, if_pos h]
set_option maxRecDepth 100000 in
theorem l_number (g : GG) (h : AH) (lq tq cq n : Nat) (t1 : hT h lq = (1, 0)) (t2 : hT h tq = (13, n)) (t3 : hT h cq = (14, n)) (q0 : hQ h lq 0 = some tq) (q7 : hQ h lq 7 = some cq) (ne1 : lq ≠ cq) (ne2 : tq ≠ lq) (ne3 : tq ≠ cq) (hn : n ≤ 120) (H : Nat → Int32) (hH : ∀ p, p < n → hI h tq p = bx (H p) ∧ oO (H p) 0 255 = false) (hE : ∀ p, n ≤ p → H p = -1) (p : Nat) (l : List Int32) (hp : p ≤ n) : AM g 2 0 0 mX1_number [.ref lq] (lpH h lq cq p l) (fun rv h' => rv = some (.int (nuS H 3 (-1) p).1) ∧ h' = lpH h lq cq (nuS H 3 (-1) p).2 l) := by
  refine AM.of [(0, .ref lq)] (by decide) (Nat.le_of_ble_eq_true rfl) rfl ?_
  intro V hV
  have hb : V.2.1.2.1 = cX1_number := by subst hV; rfl
  have ow : V.2.1.1.cls = RX1 := by subst hV; rfl
  have hr : V.2.2.1 = aw_rm 2 0 0 := by subst hV; rfl
  have hz : V.2.2.2 = aw_Z V.1 (fun rv h' => rv = some (.int (nuS H 3 (-1) p).1) ∧ h' = lpH h lq cq (nuS H 3 (-1) p).2 l) V.2.2.1 := by subst hV; rfl
  have hg : V.1 = g := by subst hV; rfl
  have hret : V.2.1.2.2.2 = (some .int) := by subst hV; rfl
  have hml : V.2.1.2.2.1 = 4 := by subst hV; rfl
  clear hV
  refine a_iconst (v := (-1)) hb dX1_number_0 (by decide) ?_
  refine a_istore_n (L' := [(1, .int (-1)), (0, .ref lq)]) hb dX1_number_1 rfl (by rw [hml]; decide) rfl ?_
  refine a_iconst (v := 0) hb dX1_number_2 (by decide) ?_
  refine a_istore_n (L' := [(2, .int 0), (1, .int (-1)), (0, .ref lq)]) hb dX1_number_3 rfl (by rw [hml]; decide) rfl ?_
  have loop : ∀ (k i : Nat) (v : Int32) (q : Nat) (hq : q ≤ n) (ee : nuS H k v q = nuS H 3 (-1) p), i + k = 3 → AW V 0 0 (lpH h lq cq q l) 4 [(0, .ref lq), (1, .int v), (2, .int (nI i))] [] := by
    intro k
    induction k with
    | zero =>
      intro i v q hq ee hi
      refine a_iload_n hb dX1_number_4 rfl 2 rfl ?_
      refine a_iconst (v := 3) hb dX1_number_5 (by decide) ?_
      refine a_icmp_ge hb 77 dX1_number_6 (by decide) (fun c6 => ?_) (fun c6 => absurd (nI_le (b := i) (a := 3) (by omega) (by omega)) c6)
      refine a_iload_n hb dX1_number_77 rfl 1 rfl ?_
      exact a_ireturn (ty := .int) hb hz dX1_number_78 hret rfl (by rw [hr]; exact Nat.le_of_ble_eq_true rfl) (by rw [hr]; exact Nat.le_of_ble_eq_true rfl) (⟨by rw [← ee]; rfl, by rw [← ee]; rfl⟩)
    | succ k ih =>
      intro i v q hq ee hi
      refine a_iload_n hb dX1_number_4 rfl 2 rfl ?_
      refine a_iconst (v := 3) hb dX1_number_5 (by decide) ?_
      refine a_icmp_ge hb 77 dX1_number_6 (by decide) (fun c6 => absurd c6 (nI_ge (b := 3) (a := i) (by omega) (by omega))) (fun c6 => ?_)
      refine a_iload_n hb dX1_number_9 rfl 1 rfl ?_
      refine a_if_eq hb 77 dX1_number_10 (by decide) (fun c10 => ?_) (fun c10 => ?_)
      · refine a_iload_n hb dX1_number_77 rfl 1 rfl ?_
        exact a_ireturn (ty := .int) hb hz dX1_number_78 hret rfl (by rw [hr]; exact Nat.le_of_ble_eq_true rfl) (by rw [hr]; exact Nat.le_of_ble_eq_true rfl) (⟨by rw [← ee, nuS_z c10], by rw [← ee, nuS_z c10]⟩)
      · refine a_aload_n hb dX1_number_13 rfl 0 rfl ?_
        refine a_getI hb dX1_number_14 (by rw [ow]; exact fl_RX1_7_1) (lp_k (h := h) (lq := lq) (cq := cq) (p := q) (l := l) t1) ?_
        rw [lp_1 ne1]
        show AW V 0 0 (lpH h lq cq q l) 17 [(0, .ref lq), (1, .int v), (2, .int (nI i))] [.int (nI q)]
        refine a_aload_n hb dX1_number_17 rfl 0 rfl ?_
        refine a_getQ (q := tq) hb dX1_number_18 (by rw [ow]; exact fl_RX1_32_1) (lp_k (h := h) (lq := lq) (cq := cq) (p := q) (l := l) t1) (lp_q (h := h) (lq := lq) (cq := cq) (p := q) (l := l) q0) ?_
        refine a_alenI (v := (nI n)) hb dX1_number_21 (lp_k (h := h) (lq := lq) (cq := cq) (p := q) (l := l) t2) (by decide) rfl ?_
        refine a_icmp_ge hb 77 dX1_number_22 (by decide) (fun c22 => ?_) (fun c22 => ?_)
        · have hge : n ≤ q := (nI_leI (by omega) (by omega)).mp c22
          have hd : isD (H q) = false := by rw [hE q hge]; decide
          refine a_iload_n hb dX1_number_77 rfl 1 rfl ?_
          exact a_ireturn (ty := .int) hb hz dX1_number_78 hret rfl (by rw [hr]; exact Nat.le_of_ble_eq_true rfl) (by rw [hr]; exact Nat.le_of_ble_eq_true rfl) (⟨by rw [← ee, nuS_n hd], by rw [← ee, nuS_n hd]⟩)
        · have hlt : q < n := Nat.lt_of_not_le (fun z => c22 (nI_le z (by omega)))
          have hx := (hH q hlt).2
          refine a_aload_n hb dX1_number_25 rfl 0 rfl ?_
          refine a_getQ (q := tq) hb dX1_number_26 (by rw [ow]; exact fl_RX1_32_1) (lp_k (h := h) (lq := lq) (cq := cq) (p := q) (l := l) t1) (lp_q (h := h) (lq := lq) (cq := cq) (p := q) (l := l) q0) ?_
          refine a_aload_n hb dX1_number_29 rfl 0 rfl ?_
          refine a_getI hb dX1_number_30 (by rw [ow]; exact fl_RX1_7_1) (lp_k (h := h) (lq := lq) (cq := cq) (p := q) (l := l) t1) ?_
          rw [lp_1 ne1]
          show AW V 0 0 (lpH h lq cq q l) 33 [(0, .ref lq), (1, .int v), (2, .int (nI i))] [.int (nI q), .ref tq]
          refine b_bald (j := q) hb dX1_number_33 (lp_k (h := h) (lq := lq) (cq := cq) (p := q) (l := l) t2) (IX.n (by omega)) (by omega) ?_
          rw [lp_n ne2 ne3, (hH q (by omega)).1]
          show AW V 0 0 (lpH h lq cq q l) 34 [(0, .ref lq), (1, .int v), (2, .int (nI i))] [.int (bx (H q))]
          refine a_bipush (v := 48) hb dX1_number_34 (by decide) ?_
          refine a_isub hb dX1_number_36 ?_
          refine a_istore_n (L' := [(3, .int ((bx (H q)) - 48)), (0, .ref lq), (1, .int v), (2, .int (nI i))]) hb dX1_number_37 rfl (by rw [hml]; decide) rfl ?_
          refine a_iload_n hb dX1_number_38 rfl 0 rfl ?_
          refine a_if_lt hb 48 dX1_number_39 (by decide) (fun c39 => ?_) (fun c39 => ?_)
          · have hd := bx_n1 hx c39
            refine a_iload_n hb dX1_number_48 rfl 2 rfl ?_
            exact a_ireturn (ty := .int) hb hz dX1_number_49 hret rfl (by rw [hr]; exact Nat.le_of_ble_eq_true rfl) (by rw [hr]; exact Nat.le_of_ble_eq_true rfl) (⟨by rw [← ee, nuS_n hd], by rw [← ee, nuS_n hd]⟩)
          · refine a_iload_n hb dX1_number_42 rfl 0 rfl ?_
            refine a_bipush (v := 9) hb dX1_number_43 (by decide) ?_
            refine a_icmp_le hb 50 dX1_number_45 (by decide) (fun c45 => ?_) (fun c45 => ?_)
            · have hd : isD (H q) = true := bx_nd hx c39 (Int32.not_lt.mpr c45)
              refine a_iconst (v := 0) hb dX1_number_50 (by decide) ?_
              refine a_iload_n hb dX1_number_51 rfl 2 rfl ?_
              refine a_mmax hb dX1_number_52 (by rw [ow]; exact kw_489) kw_490 kw_94 kw_491 (by rw [hr]; exact ⟨by decide, Nat.le_of_ble_eq_true rfl⟩) (by rw [hr]; exact ⟨Nat.le_of_ble_eq_true rfl, Nat.le_of_ble_eq_true rfl⟩) ?_
              refine a_bipush (v := 10) hb dX1_number_55 (by decide) ?_
              refine a_imul hb dX1_number_57 ?_
              refine a_iload_n hb dX1_number_58 rfl 0 rfl ?_
              refine a_iadd hb dX1_number_59 ?_
              refine a_istore_n (L' := [(1, .int (((if 0 < v then v else 0) * 10) + ((bx (H q)) - 48))), (3, .int ((bx (H q)) - 48)), (0, .ref lq), (2, .int (nI i))]) hb dX1_number_60 rfl (by rw [hml]; decide) rfl ?_
              refine a_aload_n hb dX1_number_61 rfl 2 rfl ?_
              refine a_dup hb dX1_number_62 rfl ?_
              refine a_getI hb dX1_number_63 (by rw [ow]; exact fl_RX1_7_1) (lp_k (h := h) (lq := lq) (cq := cq) (p := q) (l := l) t1) ?_
              rw [lp_1 ne1]
              show AW V 0 0 (lpH h lq cq q l) 66 [(1, .int (((if 0 < v then v else 0) * 10) + ((bx (H q)) - 48))), (3, .int ((bx (H q)) - 48)), (0, .ref lq), (2, .int (nI i))] [.int (nI q), .ref lq]
              refine a_iconst (v := 1) hb dX1_number_66 (by decide) ?_
              refine a_iadd hb dX1_number_67 ?_
              refine a_putI (fty := .int) hb dX1_number_68 (by rw [ow]; exact fp_RX1_7_1) (Or.inr (fun C T N hq => by cases hq; rfl)) (lp_k (h := h) (lq := lq) (cq := cq) (p := q) (l := l) t1) rfl rfl ?_
              rw [lp_p ne1 (q := q + 1) (by rw [nI_1])]
              show AW V 0 0 (lpH h lq cq (q + 1) l) 71 [(1, .int (((if 0 < v then v else 0) * 10) + ((bx (H q)) - 48))), (3, .int ((bx (H q)) - 48)), (0, .ref lq), (2, .int (nI i))] []
              refine a_iinc (v := ((nI i) + 1)) (L' := [(2, .int ((nI i) + 1)), (1, .int (((if 0 < v then v else 0) * 10) + ((bx (H q)) - 48))), (3, .int ((bx (H q)) - 48)), (0, .ref lq)]) hb dX1_number_71 3 rfl rfl (by rw [hml]; decide) rfl ?_
              refine a_goto hb 4 dX1_number_74 (by decide) ?_
              refine AW.sub (L' := [(0, .ref lq), (1, .int (((if 0 < v then v else 0) * 10) + ((bx (H q)) - 48))), (2, .int ((nI i) + 1))]) [3, 1, 0] rfl ?_
              exact AW.eq (ih (i + 1) (((if 0 < v then v else 0) * 10) + ((bx (H q)) - 48)) (q + 1) (by omega) ((nuS_s c10 hd).symm.trans ee) (by omega)) rfl rfl (by rw [nI_1]) rfl
            · have hd := bx_n2 hx (Int32.not_le.mp c45)
              refine a_iload_n hb dX1_number_48 rfl 2 rfl ?_
              exact a_ireturn (ty := .int) hb hz dX1_number_49 hret rfl (by rw [hr]; exact Nat.le_of_ble_eq_true rfl) (by rw [hr]; exact Nat.le_of_ble_eq_true rfl) (⟨by rw [← ee, nuS_n hd], by rw [← ee, nuS_n hd]⟩)
  refine AW.sub (L' := [(0, .ref lq), (1, .int (-1)), (2, .int 0)]) [2, 1, 0] rfl ?_
  exact AW.eq (loop 3 0 (-1) p hp rfl (by omega)) rfl rfl (rfl) rfl
