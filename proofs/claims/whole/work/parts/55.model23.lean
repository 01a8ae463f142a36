/-! ===== the model is fed ===== -/
def byM (w : Int64) (k : Nat) : Int32 := ((w >>> ((8 * nI k).toInt64 &&& 63)) &&& 255).toInt32
def fdB (w : Int64) : Nat → List Int32
  | 0 => []
  | k + 1 => byM w k :: fdB w k
theorem fdB_l {w : Int64} : ∀ k, (fdB w k).length = k
  | 0 => rfl
  | k + 1 => congrArg (· + 1) (fdB_l k)
def fdR (S : Nat → Int32) (tn : Nat) (l : List Int32) : Nat → Int32 := upd (wrL S (10 + tn) l) 4 (nI (tn + l.length))
def spFeed (S : Nat → Int32) (tn : Nat) (w : Int64) (n : Int32) : Int32 × (Nat → Int32) :=
  if oO n 1 8 then (-2, S) else if 120 < S 4 + n then (-4, S) else (nI (tn + n.toNatClampNeg), fdR S tn (fdB w n.toNatClampNeg))
theorem fdR_e {S : Nat → Int32} {tn : Nat} {l : List Int32} {x : Int32} : upd (upd (fdR S tn l) (10 + (tn + l.length)) x) 4 (nI (tn + l.length) + 1) = fdR S tn (l ++ [x]) := by
  unfold fdR
  rw [wrL_app, List.length_append, nI_1, show 10 + (tn + l.length) = 10 + tn + l.length by omega]
  funext j
  by_cases e1 : j = 4
  · subst e1; rw [upd_s]; show _ = upd _ 4 _ 4; rw [upd_s]; rfl
  · rw [upd_n e1]
    show _ = upd _ 4 _ j
    rw [upd_n e1]
    by_cases e2 : j = 10 + tn + l.length
    · subst e2; rw [upd_s]; show x = upd _ _ x _; rw [upd_s]
    · rw [upd_n e2, upd_n e1]; show _ = upd _ _ x _; rw [upd_n e2]
theorem fdR_4 {S : Nat → Int32} {tn : Nat} {l : List Int32} : fdR S tn l 4 = nI (tn + l.length) := upd_s
theorem fdR_0 {S : Nat → Int32} {tn : Nat} (h : S 4 = nI tn) : fdR S tn [] = S := by
  unfold fdR
  funext j
  by_cases e : j = 4
  · subst e; rw [upd_s, h]; rfl
  · rw [upd_n e]; rfl
theorem fd_n {n : Int32} (h : oO n 1 8 = false) : ∃ k : Nat, n = nI k ∧ 1 ≤ k ∧ k ≤ 8 := by
  simp only [oO, Bool.or_eq_false_iff, decide_eq_false_iff_not, Int32.not_lt] at h
  have a1 := Int32.le_iff_toInt_le.mp h.1
  have a2 := Int32.le_iff_toInt_le.mp h.2
  rw [show (1 : Int32).toInt = 1 from by decide] at a1
  rw [show (8 : Int32).toInt = 8 from by decide] at a2
  have h0 : ¬ n < 0 := fun q => by
    have := Int32.lt_iff_toInt_lt.mp q
    rw [show (0 : Int32).toInt = 0 from by decide] at this
    omega
  obtain ⟨k, hk, e⟩ := nI_of h0
  subst e
  rw [nI_toInt hk] at a1 a2
  exact ⟨k, rfl, by omega, by omega⟩
set_option maxRecDepth 100000 in
theorem m_feed (g : GG) (h : AH) (B : Nat) (hL : LY h B) (tn : Nat) (htn : hI h (B + 52) 4 = nI tn) (ltn : tn ≤ 120) (x : Int64) (n : Int32) : AM g 3 0 0 mX12_feed [.ref (B + 51), .long x, .int n] h (fun rv h' => rv = some (.int (spFeed (hI h (B + 52)) tn x n).1) ∧ h' = setR h (B + 52) (spFeed (hI h (B + 52)) tn x n).2) := by
  refine AM.of [(0, .ref (B + 51)), (1, .long x), (3, .int n)] (by decide) (Nat.le_of_ble_eq_true rfl) rfl ?_
  intro V hV
  have hb : V.2.1.2.1 = cX12_feed := by subst hV; rfl
  have ow : V.2.1.1.cls = RX12 := by subst hV; rfl
  have hr : V.2.2.1 = aw_rm 3 0 0 := by subst hV; rfl
  have hz : V.2.2.2 = aw_Z V.1 (fun rv h' => rv = some (.int (spFeed (hI h (B + 52)) tn x n).1) ∧ h' = setR h (B + 52) (spFeed (hI h (B + 52)) tn x n).2) V.2.2.1 := by subst hV; rfl
  have hg : V.1 = g := by subst hV; rfl
  have hret : V.2.1.2.2.2 = (some .int) := by subst hV; rfl
  have hml : V.2.1.2.2.1 = 5 := by subst hV; rfl
  clear hV
  refine a_iload_n hb dX12_feed_0 rfl 2 rfl ?_
  refine a_iconst (v := 1) hb dX12_feed_1 (by decide) ?_
  refine a_bipush (v := 8) hb dX12_feed_2 (by decide) ?_
  refine a_callS hb dX12_feed_4 (by rw [hg]; exact w_in g h n 1 8) (by rw [ow]; exact cls_RX12_48) rfl rfl (Nat.le_of_ble_eq_true rfl) (by rw [hr]; exact ⟨by decide, by decide⟩) (by rw [hr]; exact ⟨Nat.le_of_ble_eq_true rfl, Nat.le_of_ble_eq_true rfl⟩) ?_
  intro rv h' hq_
  rw [hq_.1, hq_.2]
  show AW V 0 0 h 7 [(0, .ref (B + 51)), (1, .long x), (3, .int n)] [.int (b2i (!oO n 1 8))]
  refine a_if_ne hb 13 dX12_feed_7 (by decide) (fun c7 => ?_) (fun c7 => ?_)
  · simp [b2i_0] at c7
    refine a_aload_n hb dX12_feed_13 rfl 0 rfl ?_
    refine a_getQ (q := (B + 52)) hb dX12_feed_14 (by rw [ow]; exact fl_RX12_9_12) (hL.1 51 (by decide)) (hL.2.1 (51, 1, 52) (by decide)) ?_
    refine a_iconst (v := 4) hb dX12_feed_17 (by decide) ?_
    refine b_iald (j := 4) hb dX12_feed_18 (hL.1 52 (by decide)) ⟨by decide, by decide⟩ (by decide) ?_
    rw [htn]
    show AW V 0 0 h 19 [(0, .ref (B + 51)), (1, .long x), (3, .int n)] [.int (nI tn)]
    refine a_iload_n hb dX12_feed_19 rfl 2 rfl ?_
    refine a_iadd hb dX12_feed_20 ?_
    refine a_bipush (v := 120) hb dX12_feed_21 (by decide) ?_
    refine a_icmp_le hb 29 dX12_feed_23 (by decide) (fun c23 => ?_) (fun c23 => ?_)
    · refine a_iload_n hb dX12_feed_29 rfl 2 rfl ?_
      refine a_iconst (v := 1) hb dX12_feed_30 (by decide) ?_
      refine a_isub hb dX12_feed_31 ?_
      refine a_istore (L' := [(4, .int (n - 1)), (0, .ref (B + 51)), (1, .long x), (3, .int n)]) hb dX12_feed_32 (by rw [hml]; decide) rfl ?_
      obtain ⟨k, rfl, hk1, hk8⟩ := fd_n (by simpa using c7)
      have hle : tn + k ≤ 120 := by rw [nI_add] at c23; exact (nI_leI (a := tn + k) (b := 120) (by omega) (by decide)).mp c23
      have hsp : spFeed (hI h (B + 52)) tn x (nI k) = (nI (tn + k), fdR (hI h (B + 52)) tn (fdB x k)) := by rw [spFeed, if_neg (by simp [c7]), htn, if_neg (Int32.not_lt.mpr c23), nI_clamp (by omega)]
      have loop : ∀ (m : Nat) (l : List Int32), l.length + m = k → l ++ fdB x m = fdB x k → AW V 0 0 (setR h (B + 52) (fdR (hI h (B + 52)) tn l)) 34 [(0, .ref (B + 51)), (1, .long x), (3, .int (nI k)), (4, .int (nI m - 1))] [] := by
        intro m
        induction m with
        | zero =>
          intro l hl hb_
          have hLl : LY (setR h (B + 52) (fdR (hI h (B + 52)) tn l)) B := LY.R hL
          have hkl : tn + l.length = tn + k := by omega
          have hbl : l = fdB x k := by rw [← hb_]; show l = l ++ []; rw [List.append_nil]
          refine a_iload hb dX12_feed_34 3 rfl ?_
          refine a_if_lt hb 81 dX12_feed_36 (by decide) (fun c36_2 => ?_) (fun c36_2 => absurd (by decide) c36_2)
          refine a_aload_n hb dX12_feed_81 rfl 0 rfl ?_
          refine a_getQ (q := (B + 52)) hb dX12_feed_82 (by rw [ow]; exact fl_RX12_9_12) (hLl.1 51 (by decide)) (hLl.2.1 (51, 1, 52) (by decide)) ?_
          refine a_iconst (v := 4) hb dX12_feed_85 (by decide) ?_
          refine b_iald (j := 4) hb dX12_feed_86 (hLl.1 52 (by decide)) ⟨by decide, by decide⟩ (by decide) ?_
          rw [hI_R, fdR_4]
          show AW V 0 0 (setR h (B + 52) (fdR (hI h (B + 52)) tn l)) 87 [(0, .ref (B + 51)), (1, .long x), (3, .int (nI k)), (4, .int (nI 0 - 1))] [.int (nI (tn + l.length))]
          exact a_ireturn (ty := .int) hb hz dX12_feed_87 hret rfl (by rw [hr]; exact Nat.le_of_ble_eq_true rfl) (by rw [hr]; exact Nat.le_of_ble_eq_true rfl) (⟨by rw [hsp, hkl], by rw [hsp, hbl]⟩)
        | succ m ih =>
          intro l hl hb_
          have hLl : LY (setR h (B + 52) (fdR (hI h (B + 52)) tn l)) B := LY.R hL
          have em : nI (m + 1) - 1 = nI m := by rw [← nI_1, Int32.add_sub_cancel]
          rw [em]
          have ltl : 10 + (tn + l.length) < 938 := by omega
          refine a_iload hb dX12_feed_34 3 rfl ?_
          refine a_if_lt hb 81 dX12_feed_36 (by decide) (fun c36_2 => absurd c36_2 (nI_pos (by omega))) (fun c36_2 => ?_)
          refine a_aload_n hb dX12_feed_39 rfl 0 rfl ?_
          refine a_getQ (q := (B + 52)) hb dX12_feed_40 (by rw [ow]; exact fl_RX12_9_12) (hLl.1 51 (by decide)) (hLl.2.1 (51, 1, 52) (by decide)) ?_
          refine a_bipush (v := 10) hb dX12_feed_43 (by decide) ?_
          refine a_aload_n hb dX12_feed_45 rfl 0 rfl ?_
          refine a_getQ (q := (B + 52)) hb dX12_feed_46 (by rw [ow]; exact fl_RX12_9_12) (hLl.1 51 (by decide)) (hLl.2.1 (51, 1, 52) (by decide)) ?_
          refine a_iconst (v := 4) hb dX12_feed_49 (by decide) ?_
          refine b_iald (j := 4) hb dX12_feed_50 (hLl.1 52 (by decide)) ⟨by decide, by decide⟩ (by decide) ?_
          rw [hI_R, fdR_4]
          show AW V 0 0 (setR h (B + 52) (fdR (hI h (B + 52)) tn l)) 51 [(0, .ref (B + 51)), (1, .long x), (3, .int (nI k)), (4, .int (nI m))] [.int (nI (tn + l.length)), .int 10, .ref (B + 52)]
          refine a_iadd hb dX12_feed_51 ?_
          refine a_lload_n hb dX12_feed_52 rfl 1 rfl ?_
          refine a_bipush (v := 8) hb dX12_feed_53 (by decide) ?_
          refine a_iload hb dX12_feed_55 3 rfl ?_
          refine a_imul hb dX12_feed_57 ?_
          refine a_lshr hb dX12_feed_58 rfl ?_
          refine a_ldc2 (v := 255) hb dX12_feed_59 (by rw [ow]; exact kw_1134) ?_
          refine a_land hb dX12_feed_62 ?_
          refine a_l2i hb dX12_feed_63 rfl ?_
          refine b_iast (j := (10 + (tn + l.length))) hb dX12_feed_64 (hLl.1 52 (by decide)) (IX.add ⟨by decide, by decide⟩ (IX.n (by omega)) (by omega)) (by omega) ?_
          rw [setI_R, hI_R, setR_R]
          show AW V 0 0 (setR h (B + 52) (upd (fdR (hI h (B + 52)) tn l) (10 + (tn + l.length)) (byM x m))) 65 [(0, .ref (B + 51)), (1, .long x), (3, .int (nI k)), (4, .int (nI m))] []
          refine a_aload_n hb dX12_feed_65 rfl 0 rfl ?_
          refine a_getQ (q := (B + 52)) hb dX12_feed_66 (by rw [ow]; exact fl_RX12_9_12) (hLl.1 51 (by decide)) (hLl.2.1 (51, 1, 52) (by decide)) ?_
          refine a_iconst (v := 4) hb dX12_feed_69 (by decide) ?_
          refine a_dup2_11 hb dX12_feed_70 rfl rfl ?_
          refine b_iald (j := 4) hb dX12_feed_71 (hLl.1 52 (by decide)) ⟨by decide, by decide⟩ (by decide) ?_
          rw [hI_R, upd_n (by omega), fdR_4]
          show AW V 0 0 (setR h (B + 52) (upd (fdR (hI h (B + 52)) tn l) (10 + (tn + l.length)) (byM x m))) 72 [(0, .ref (B + 51)), (1, .long x), (3, .int (nI k)), (4, .int (nI m))] [.int (nI (tn + l.length)), .int 4, .ref (B + 52)]
          refine a_iconst (v := 1) hb dX12_feed_72 (by decide) ?_
          refine a_iadd hb dX12_feed_73 ?_
          refine b_iast (j := 4) hb dX12_feed_74 (hLl.1 52 (by decide)) ⟨by decide, by decide⟩ (by decide) ?_
          rw [setI_R, hI_R, setR_R, fdR_e]
          show AW V 0 0 (setR h (B + 52) (fdR (hI h (B + 52)) tn (l ++ [byM x m]))) 75 [(0, .ref (B + 51)), (1, .long x), (3, .int (nI k)), (4, .int (nI m))] []
          refine a_iinc (v := ((nI m) + (-1))) (L' := [(4, .int ((nI m) + (-1))), (0, .ref (B + 51)), (1, .long x), (3, .int (nI k))]) hb dX12_feed_75 3 rfl rfl (by rw [hml]; decide) rfl ?_
          refine a_goto hb 34 dX12_feed_78 (by decide) ?_
          refine AW.sub (L' := [(0, .ref (B + 51)), (1, .long x), (3, .int (nI k)), (4, .int ((nI m) + (-1)))]) [1, 2, 3, 0] rfl ?_
          exact AW.eq (ih (l ++ [byM x m]) (by rw [List.length_append, List.length_singleton]; omega) (by rw [← hb_, List.append_assoc]; rfl)) rfl rfl (by rw [Int32.sub_eq_add_neg]) rfl
      refine AW.sub (L' := [(0, .ref (B + 51)), (1, .long x), (3, .int (nI k)), (4, .int (nI k - 1))]) [1, 2, 3, 0] rfl ?_
      exact AW.eq (loop k [] (by simp) rfl) (by rw [fdR_0 htn, setR_id]) rfl rfl rfl
    · refine a_bipush (v := (-4)) hb dX12_feed_26 (by decide) ?_
      exact a_ireturn (ty := .int) hb hz dX12_feed_28 hret rfl (by rw [hr]; exact Nat.le_of_ble_eq_true rfl) (by rw [hr]; exact Nat.le_of_ble_eq_true rfl) (⟨by rw [spFeed, if_neg (by simp [c7]), htn, if_pos (Int32.not_le.mp c23)], by rw [spFeed, if_neg (by simp [c7]), htn, if_pos (Int32.not_le.mp c23)]; exact setR_id.symm⟩)
  · simp [b2i_0] at c7
    refine a_bipush (v := (-2)) hb dX12_feed_10 (by decide) ?_
    exact a_ireturn (ty := .int) hb hz dX12_feed_12 hret rfl (by rw [hr]; exact Nat.le_of_ble_eq_true rfl) (by rw [hr]; exact Nat.le_of_ble_eq_true rfl) (⟨by simp [spFeed, c7], by simp [spFeed, c7, setR_id]⟩)
