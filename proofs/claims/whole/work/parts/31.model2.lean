/-! ===== the model's works ===== -/
def gv (S : Nat → Int32) (w : Nat) : Int32 := if S (203 + w) < S (188 + w) then S (203 + w) else S (188 + w)
def cst (S : Nat → Int32) : Nat → Int32
  | 0 => 0
  | w + 1 => cst S w + gv S w * S (193 + w)
def mdW (S : Nat → Int32) (but t : Int32) (w : Nat) : Int32 := if nI w = but then 0 else if oO t (S (198 + w) + S (178 + w)) (S (198 + w) + S (178 + w) + gv S w - 1) then 0 else S (183 + w)
def mdB (S : Nat → Int32) (but t : Int32) : Nat → Int32
  | 0 => 0
  | w + 1 => mdB S but t w + mdW S but t w
set_option maxRecDepth 100000 in
theorem m_givesFor (g : GG) (h : AH) (B : Nat) (hL : LY h B) (w : Nat) (hw : w < 5) : AM g 1 0 0 mX12_givesFor [.ref (B + 51), .int (nI w)] h (fun rv h' => rv = some (.int (gv (hI h (B + 52)) w)) ∧ h' = h) := by
  refine AM.of [(0, .ref (B + 51)), (1, .int (nI w))] (by decide) (Nat.le_of_ble_eq_true rfl) rfl ?_
  intro V hV
  have hb : V.2.1.2.1 = cX12_givesFor := by subst hV; rfl
  have ow : V.2.1.1.cls = RX12 := by subst hV; rfl
  have hr : V.2.2.1 = aw_rm 1 0 0 := by subst hV; rfl
  have hz : V.2.2.2 = aw_Z V.1 (fun rv h' => rv = some (.int (gv (hI h (B + 52)) w)) ∧ h' = h) V.2.2.1 := by subst hV; rfl
  have hg : V.1 = g := by subst hV; rfl
  have hret : V.2.1.2.2.2 = (some .int) := by subst hV; rfl
  have hml : V.2.1.2.2.1 = 2 := by subst hV; rfl
  clear hV
  refine a_aload_n hb dX12_givesFor_0 rfl 0 rfl ?_
  refine a_getQ (q := (B + 52)) hb dX12_givesFor_1 (by rw [ow]; exact fl_RX12_9_12) (hL.1 51 (by decide)) (hL.2.1 (51, 1, 52) (by decide)) ?_
  refine a_sipush (v := 203) hb dX12_givesFor_4 (by decide) ?_
  refine a_iload_n hb dX12_givesFor_7 rfl 1 rfl ?_
  refine a_iadd hb dX12_givesFor_8 ?_
  refine b_iald (j := (203 + w)) hb dX12_givesFor_9 (hL.1 52 (by decide)) (IX.add ⟨by decide, by decide⟩ (IX.n (by omega)) (by omega)) (by omega) ?_
  refine a_aload_n hb dX12_givesFor_10 rfl 0 rfl ?_
  refine a_getQ (q := (B + 52)) hb dX12_givesFor_11 (by rw [ow]; exact fl_RX12_9_12) (hL.1 51 (by decide)) (hL.2.1 (51, 1, 52) (by decide)) ?_
  refine a_sipush (v := 188) hb dX12_givesFor_14 (by decide) ?_
  refine a_iload_n hb dX12_givesFor_17 rfl 1 rfl ?_
  refine a_iadd hb dX12_givesFor_18 ?_
  refine b_iald (j := (188 + w)) hb dX12_givesFor_19 (hL.1 52 (by decide)) (IX.add ⟨by decide, by decide⟩ (IX.n (by omega)) (by omega)) (by omega) ?_
  refine a_icmp_ge hb 36 dX12_givesFor_20 (by decide) (fun c20 => ?_) (fun c20 => ?_)
  · have c20' := Int32.not_lt.mpr c20
    refine a_aload_n hb dX12_givesFor_36 rfl 0 rfl ?_
    refine a_getQ (q := (B + 52)) hb dX12_givesFor_37 (by rw [ow]; exact fl_RX12_9_12) (hL.1 51 (by decide)) (hL.2.1 (51, 1, 52) (by decide)) ?_
    refine a_sipush (v := 188) hb dX12_givesFor_40 (by decide) ?_
    refine a_iload_n hb dX12_givesFor_43 rfl 1 rfl ?_
    refine a_iadd hb dX12_givesFor_44 ?_
    refine b_iald (j := (188 + w)) hb dX12_givesFor_45 (hL.1 52 (by decide)) (IX.add ⟨by decide, by decide⟩ (IX.n (by omega)) (by omega)) (by omega) ?_
    exact a_ireturn (ty := .int) hb hz dX12_givesFor_46 hret rfl (by rw [hr]; exact Nat.le_of_ble_eq_true rfl) (by rw [hr]; exact Nat.le_of_ble_eq_true rfl) (⟨by simp [gv, *], rfl⟩)
  · have c20' := Int32.not_le.mp c20
    refine a_aload_n hb dX12_givesFor_23 rfl 0 rfl ?_
    refine a_getQ (q := (B + 52)) hb dX12_givesFor_24 (by rw [ow]; exact fl_RX12_9_12) (hL.1 51 (by decide)) (hL.2.1 (51, 1, 52) (by decide)) ?_
    refine a_sipush (v := 203) hb dX12_givesFor_27 (by decide) ?_
    refine a_iload_n hb dX12_givesFor_30 rfl 1 rfl ?_
    refine a_iadd hb dX12_givesFor_31 ?_
    refine b_iald (j := (203 + w)) hb dX12_givesFor_32 (hL.1 52 (by decide)) (IX.add ⟨by decide, by decide⟩ (IX.n (by omega)) (by omega)) (by omega) ?_
    refine a_goto hb 46 dX12_givesFor_33 (by decide) ?_
    exact a_ireturn (ty := .int) hb hz dX12_givesFor_46 hret rfl (by rw [hr]; exact Nat.le_of_ble_eq_true rfl) (by rw [hr]; exact Nat.le_of_ble_eq_true rfl) (⟨by simp [gv, *], rfl⟩)
set_option maxRecDepth 100000 in
theorem m_costs (g : GG) (h : AH) (B : Nat) (hL : LY h B) (n : Nat) (hn : IX (hI h (B + 52) 1) n) (ln : n ≤ 5) : AM g 2 0 0 mX12_costs [.ref (B + 51)] h (fun rv h' => rv = some (.int (cst (hI h (B + 52)) n)) ∧ h' = h) := by
  refine AM.of [(0, .ref (B + 51))] (by decide) (Nat.le_of_ble_eq_true rfl) rfl ?_
  intro V hV
  have hb : V.2.1.2.1 = cX12_costs := by subst hV; rfl
  have ow : V.2.1.1.cls = RX12 := by subst hV; rfl
  have hr : V.2.2.1 = aw_rm 2 0 0 := by subst hV; rfl
  have hz : V.2.2.2 = aw_Z V.1 (fun rv h' => rv = some (.int (cst (hI h (B + 52)) n)) ∧ h' = h) V.2.2.1 := by subst hV; rfl
  have hg : V.1 = g := by subst hV; rfl
  have hret : V.2.1.2.2.2 = (some .int) := by subst hV; rfl
  have hml : V.2.1.2.2.1 = 3 := by subst hV; rfl
  clear hV
  have loop : ∀ (k i : Nat), i + k = n → AW V 0 0 h 4 [(0, .ref (B + 51)), (1, .int (cst (hI h (B + 52)) i)), (2, .int (nI i))] [] := by
    intro k
    induction k with
    | zero =>
      intro i hi
      refine a_iload_n hb dX12_costs_4 rfl 2 rfl ?_
      refine a_aload_n hb dX12_costs_5 rfl 0 rfl ?_
      refine a_getQ (q := (B + 52)) hb dX12_costs_6 (by rw [ow]; exact fl_RX12_9_12) (hL.1 51 (by decide)) (hL.2.1 (51, 1, 52) (by decide)) ?_
      refine a_iconst (v := 1) hb dX12_costs_9 (by decide) ?_
      refine b_iald (j := 1) hb dX12_costs_10 (hL.1 52 (by decide)) ⟨by decide, by decide⟩ (by decide) ?_
      refine a_icmp_ge hb 39 dX12_costs_11 (by decide) (fun c11 => ?_) (fun c11 => absurd (by rw [hn.eq.1]; exact nI_le (by omega) (by omega)) c11)
      refine a_iload_n hb dX12_costs_39 rfl 1 rfl ?_
      exact a_ireturn (ty := .int) hb hz dX12_costs_40 hret rfl (by rw [hr]; exact Nat.le_of_ble_eq_true rfl) (by rw [hr]; exact Nat.le_of_ble_eq_true rfl) (⟨by rw [show n = i by omega], rfl⟩)
    | succ k ih =>
      intro i hi
      refine a_iload_n hb dX12_costs_4 rfl 2 rfl ?_
      refine a_aload_n hb dX12_costs_5 rfl 0 rfl ?_
      refine a_getQ (q := (B + 52)) hb dX12_costs_6 (by rw [ow]; exact fl_RX12_9_12) (hL.1 51 (by decide)) (hL.2.1 (51, 1, 52) (by decide)) ?_
      refine a_iconst (v := 1) hb dX12_costs_9 (by decide) ?_
      refine b_iald (j := 1) hb dX12_costs_10 (hL.1 52 (by decide)) ⟨by decide, by decide⟩ (by decide) ?_
      refine a_icmp_ge hb 39 dX12_costs_11 (by decide) (fun c11 => absurd c11 (by rw [hn.eq.1]; exact nI_ge (by omega) (by omega))) (fun c11 => ?_)
      refine a_iload_n hb dX12_costs_14 rfl 1 rfl ?_
      refine a_aload_n hb dX12_costs_15 rfl 0 rfl ?_
      refine a_iload_n hb dX12_costs_16 rfl 2 rfl ?_
      refine a_callV hb dX12_costs_17 (by rw [hg]; exact m_givesFor g h B hL i (by omega)) (by rw [ow]; exact clv_RX12_163) (hL.1 51 (by decide)) (by decide) rfl rfl rfl (Nat.le_of_ble_eq_true rfl) (by rw [hr]; exact ⟨by decide, by decide⟩) (by rw [hr]; exact ⟨Nat.le_of_ble_eq_true rfl, Nat.le_of_ble_eq_true rfl⟩) ?_
      intro rv h' hp
      rw [hp.1, hp.2]
      show AW V 0 0 h 20 [(0, .ref (B + 51)), (1, .int (cst (hI h (B + 52)) i)), (2, .int (nI i))] [.int (gv (hI h (B + 52)) i), .int (cst (hI h (B + 52)) i)]
      refine a_aload_n hb dX12_costs_20 rfl 0 rfl ?_
      refine a_getQ (q := (B + 52)) hb dX12_costs_21 (by rw [ow]; exact fl_RX12_9_12) (hL.1 51 (by decide)) (hL.2.1 (51, 1, 52) (by decide)) ?_
      refine a_sipush (v := 193) hb dX12_costs_24 (by decide) ?_
      refine a_iload_n hb dX12_costs_27 rfl 2 rfl ?_
      refine a_iadd hb dX12_costs_28 ?_
      refine b_iald (j := (193 + i)) hb dX12_costs_29 (hL.1 52 (by decide)) (IX.add ⟨by decide, by decide⟩ (IX.n (by omega)) (by omega)) (by omega) ?_
      refine a_imul hb dX12_costs_30 ?_
      refine a_iadd hb dX12_costs_31 ?_
      refine a_istore_n (L' := [(1, .int ((cst (hI h (B + 52)) i) + ((gv (hI h (B + 52)) i) * (hI h (B + 52) (193 + i))))), (0, .ref (B + 51)), (2, .int (nI i))]) hb dX12_costs_32 rfl (by rw [hml]; decide) rfl ?_
      refine a_iinc (v := ((nI i) + 1)) (L' := [(2, .int ((nI i) + 1)), (1, .int ((cst (hI h (B + 52)) i) + ((gv (hI h (B + 52)) i) * (hI h (B + 52) (193 + i))))), (0, .ref (B + 51))]) hb dX12_costs_33 2 rfl rfl (by rw [hml]; decide) rfl ?_
      refine a_goto hb 4 dX12_costs_36 (by decide) ?_
      refine AW.sub (L' := [(0, .ref (B + 51)), (1, .int ((cst (hI h (B + 52)) i) + ((gv (hI h (B + 52)) i) * (hI h (B + 52) (193 + i))))), (2, .int ((nI i) + 1))]) [2, 1, 0] rfl ?_
      exact AW.eq (ih (i + 1) (by omega)) rfl rfl (by simp only [nI_1]; rfl) rfl
  refine a_iconst (v := 0) hb dX12_costs_0 (by decide) ?_
  refine a_istore_n (L' := [(1, .int 0), (0, .ref (B + 51))]) hb dX12_costs_1 rfl (by rw [hml]; decide) rfl ?_
  refine a_iconst (v := 0) hb dX12_costs_2 (by decide) ?_
  refine a_istore_n (L' := [(2, .int 0), (1, .int 0), (0, .ref (B + 51))]) hb dX12_costs_3 rfl (by rw [hml]; decide) rfl ?_
  refine AW.sub (L' := [(0, .ref (B + 51)), (1, .int 0), (2, .int 0)]) [2, 1, 0] rfl ?_
  exact AW.eq (loop n 0 (by omega)) rfl rfl (rfl) rfl
set_option maxRecDepth 100000 in
theorem m_madeBut (g : GG) (h : AH) (B : Nat) (hL : LY h B) (n : Nat) (hn : IX (hI h (B + 52) 1) n) (ln : n ≤ 5) (b t : Int32) : AM g 2 0 0 mX12_madeBut [.ref (B + 51), .int b, .int t] h (fun rv h' => rv = some (.int (mdB (hI h (B + 52)) b t n)) ∧ h' = h) := by
  refine AM.of [(0, .ref (B + 51)), (1, .int b), (2, .int t)] (by decide) (Nat.le_of_ble_eq_true rfl) rfl ?_
  intro V hV
  have hb : V.2.1.2.1 = cX12_madeBut := by subst hV; rfl
  have ow : V.2.1.1.cls = RX12 := by subst hV; rfl
  have hr : V.2.2.1 = aw_rm 2 0 0 := by subst hV; rfl
  have hz : V.2.2.2 = aw_Z V.1 (fun rv h' => rv = some (.int (mdB (hI h (B + 52)) b t n)) ∧ h' = h) V.2.2.1 := by subst hV; rfl
  have hg : V.1 = g := by subst hV; rfl
  have hret : V.2.1.2.2.2 = (some .int) := by subst hV; rfl
  have hml : V.2.1.2.2.1 = 6 := by subst hV; rfl
  clear hV
  have loop : ∀ (k i : Nat), i + k = n → AW V 0 0 h 5 [(0, .ref (B + 51)), (1, .int b), (2, .int t), (3, .int (mdB (hI h (B + 52)) b t i)), (4, .int (nI i))] [] := by
    intro k
    induction k with
    | zero =>
      intro i hi
      refine a_iload hb dX12_madeBut_5 4 rfl ?_
      refine a_aload_n hb dX12_madeBut_7 rfl 0 rfl ?_
      refine a_getQ (q := (B + 52)) hb dX12_madeBut_8 (by rw [ow]; exact fl_RX12_9_12) (hL.1 51 (by decide)) (hL.2.1 (51, 1, 52) (by decide)) ?_
      refine a_iconst (v := 1) hb dX12_madeBut_11 (by decide) ?_
      refine b_iald (j := 1) hb dX12_madeBut_12 (hL.1 52 (by decide)) ⟨by decide, by decide⟩ (by decide) ?_
      refine a_icmp_ge hb 91 dX12_madeBut_13 (by decide) (fun c13 => ?_) (fun c13 => absurd (by rw [hn.eq.1]; exact nI_le (by omega) (by omega)) c13)
      refine a_iload_n hb dX12_madeBut_91 rfl 3 rfl ?_
      exact a_ireturn (ty := .int) hb hz dX12_madeBut_92 hret rfl (by rw [hr]; exact Nat.le_of_ble_eq_true rfl) (by rw [hr]; exact Nat.le_of_ble_eq_true rfl) (⟨by rw [show n = i by omega], rfl⟩)
    | succ k ih =>
      intro i hi
      refine a_iload hb dX12_madeBut_5 4 rfl ?_
      refine a_aload_n hb dX12_madeBut_7 rfl 0 rfl ?_
      refine a_getQ (q := (B + 52)) hb dX12_madeBut_8 (by rw [ow]; exact fl_RX12_9_12) (hL.1 51 (by decide)) (hL.2.1 (51, 1, 52) (by decide)) ?_
      refine a_iconst (v := 1) hb dX12_madeBut_11 (by decide) ?_
      refine b_iald (j := 1) hb dX12_madeBut_12 (hL.1 52 (by decide)) ⟨by decide, by decide⟩ (by decide) ?_
      refine a_icmp_ge hb 91 dX12_madeBut_13 (by decide) (fun c13 => absurd c13 (by rw [hn.eq.1]; exact nI_ge (by omega) (by omega))) (fun c13 => ?_)
      refine a_aload_n hb dX12_madeBut_16 rfl 0 rfl ?_
      refine a_getQ (q := (B + 52)) hb dX12_madeBut_17 (by rw [ow]; exact fl_RX12_9_12) (hL.1 51 (by decide)) (hL.2.1 (51, 1, 52) (by decide)) ?_
      refine a_sipush (v := 198) hb dX12_madeBut_20 (by decide) ?_
      refine a_iload hb dX12_madeBut_23 4 rfl ?_
      refine a_iadd hb dX12_madeBut_25 ?_
      refine b_iald (j := (198 + i)) hb dX12_madeBut_26 (hL.1 52 (by decide)) (IX.add ⟨by decide, by decide⟩ (IX.n (by omega)) (by omega)) (by omega) ?_
      refine a_aload_n hb dX12_madeBut_27 rfl 0 rfl ?_
      refine a_getQ (q := (B + 52)) hb dX12_madeBut_28 (by rw [ow]; exact fl_RX12_9_12) (hL.1 51 (by decide)) (hL.2.1 (51, 1, 52) (by decide)) ?_
      refine a_sipush (v := 178) hb dX12_madeBut_31 (by decide) ?_
      refine a_iload hb dX12_madeBut_34 4 rfl ?_
      refine a_iadd hb dX12_madeBut_36 ?_
      refine b_iald (j := (178 + i)) hb dX12_madeBut_37 (hL.1 52 (by decide)) (IX.add ⟨by decide, by decide⟩ (IX.n (by omega)) (by omega)) (by omega) ?_
      refine a_iadd hb dX12_madeBut_38 ?_
      refine a_istore (L' := [(5, .int ((hI h (B + 52) (198 + i)) + (hI h (B + 52) (178 + i)))), (0, .ref (B + 51)), (1, .int b), (2, .int t), (3, .int (mdB (hI h (B + 52)) b t i)), (4, .int (nI i))]) hb dX12_madeBut_39 (by rw [hml]; decide) rfl ?_
      refine a_iload_n hb dX12_madeBut_41 rfl 4 rfl ?_
      refine a_iload hb dX12_madeBut_42 5 rfl ?_
      refine a_iload_n hb dX12_madeBut_44 rfl 2 rfl ?_
      refine a_icmp_eq hb 82 dX12_madeBut_45 (by decide) (fun c45 => ?_) (fun c45 => ?_)
      · refine a_iconst (v := 0) hb dX12_madeBut_82 (by decide) ?_
        refine a_iadd hb dX12_madeBut_83 ?_
        refine a_istore_n (L' := [(3, .int ((mdB (hI h (B + 52)) b t i) + 0)), (5, .int ((hI h (B + 52) (198 + i)) + (hI h (B + 52) (178 + i)))), (0, .ref (B + 51)), (1, .int b), (2, .int t), (4, .int (nI i))]) hb dX12_madeBut_84 rfl (by rw [hml]; decide) rfl ?_
        refine a_iinc (v := ((nI i) + 1)) (L' := [(4, .int ((nI i) + 1)), (3, .int ((mdB (hI h (B + 52)) b t i) + 0)), (5, .int ((hI h (B + 52) (198 + i)) + (hI h (B + 52) (178 + i)))), (0, .ref (B + 51)), (1, .int b), (2, .int t)]) hb dX12_madeBut_85 5 rfl rfl (by rw [hml]; decide) rfl ?_
        refine a_goto hb 5 dX12_madeBut_88 (by decide) ?_
        refine AW.sub (L' := [(0, .ref (B + 51)), (1, .int b), (2, .int t), (3, .int ((mdB (hI h (B + 52)) b t i) + 0)), (4, .int ((nI i) + 1))]) [3, 4, 5, 1, 0] rfl ?_
        exact AW.eq (ih (i + 1) (by omega)) rfl rfl (by rw [nI_1]; simp [mdB, mdW, *]) rfl
      · refine a_iload_n hb dX12_madeBut_48 rfl 3 rfl ?_
        refine a_iload hb dX12_madeBut_49 0 rfl ?_
        refine a_iload hb dX12_madeBut_51 0 rfl ?_
        refine a_aload_n hb dX12_madeBut_53 rfl 1 rfl ?_
        refine a_iload hb dX12_madeBut_54 5 rfl ?_
        refine a_callV hb dX12_madeBut_56 (by rw [hg]; exact m_givesFor g h B hL i (by omega)) (by rw [ow]; exact clv_RX12_163) (hL.1 51 (by decide)) (by decide) rfl rfl rfl (Nat.le_of_ble_eq_true rfl) (by rw [hr]; exact ⟨by decide, by decide⟩) (by rw [hr]; exact ⟨Nat.le_of_ble_eq_true rfl, Nat.le_of_ble_eq_true rfl⟩) ?_
        intro rv h' hp
        rw [hp.1, hp.2]
        show AW V 0 0 h 59 [(5, .int ((hI h (B + 52) (198 + i)) + (hI h (B + 52) (178 + i)))), (0, .ref (B + 51)), (1, .int b), (2, .int t), (3, .int (mdB (hI h (B + 52)) b t i)), (4, .int (nI i))] [.int (gv (hI h (B + 52)) i), .int ((hI h (B + 52) (198 + i)) + (hI h (B + 52) (178 + i))), .int ((hI h (B + 52) (198 + i)) + (hI h (B + 52) (178 + i))), .int t, .int (mdB (hI h (B + 52)) b t i)]
        refine a_iadd hb dX12_madeBut_59 ?_
        refine a_iconst (v := 1) hb dX12_madeBut_60 (by decide) ?_
        refine a_isub hb dX12_madeBut_61 ?_
        refine a_callS hb dX12_madeBut_62 (by rw [hg]; exact w_in g h t ((hI h (B + 52) (198 + i)) + (hI h (B + 52) (178 + i))) ((((hI h (B + 52) (198 + i)) + (hI h (B + 52) (178 + i))) + (gv (hI h (B + 52)) i)) - 1)) (by rw [ow]; exact cls_RX12_48) rfl rfl (Nat.le_of_ble_eq_true rfl) (by rw [hr]; exact ⟨by decide, by decide⟩) (by rw [hr]; exact ⟨Nat.le_of_ble_eq_true rfl, Nat.le_of_ble_eq_true rfl⟩) ?_
        intro rv h' hp
        rw [hp.1, hp.2]
        show AW V 0 0 h 65 [(5, .int ((hI h (B + 52) (198 + i)) + (hI h (B + 52) (178 + i)))), (0, .ref (B + 51)), (1, .int b), (2, .int t), (3, .int (mdB (hI h (B + 52)) b t i)), (4, .int (nI i))] [.int (b2i (!oO t ((hI h (B + 52) (198 + i)) + (hI h (B + 52) (178 + i))) ((((hI h (B + 52) (198 + i)) + (hI h (B + 52) (178 + i))) + (gv (hI h (B + 52)) i)) - 1))), .int (mdB (hI h (B + 52)) b t i)]
        refine a_if_eq hb 82 dX12_madeBut_65 (by decide) (fun c65 => ?_) (fun c65 => ?_)
        · simp [b2i_0] at c65
          refine a_iconst (v := 0) hb dX12_madeBut_82 (by decide) ?_
          refine a_iadd hb dX12_madeBut_83 ?_
          refine a_istore_n (L' := [(3, .int ((mdB (hI h (B + 52)) b t i) + 0)), (5, .int ((hI h (B + 52) (198 + i)) + (hI h (B + 52) (178 + i)))), (0, .ref (B + 51)), (1, .int b), (2, .int t), (4, .int (nI i))]) hb dX12_madeBut_84 rfl (by rw [hml]; decide) rfl ?_
          refine a_iinc (v := ((nI i) + 1)) (L' := [(4, .int ((nI i) + 1)), (3, .int ((mdB (hI h (B + 52)) b t i) + 0)), (5, .int ((hI h (B + 52) (198 + i)) + (hI h (B + 52) (178 + i)))), (0, .ref (B + 51)), (1, .int b), (2, .int t)]) hb dX12_madeBut_85 5 rfl rfl (by rw [hml]; decide) rfl ?_
          refine a_goto hb 5 dX12_madeBut_88 (by decide) ?_
          refine AW.sub (L' := [(0, .ref (B + 51)), (1, .int b), (2, .int t), (3, .int ((mdB (hI h (B + 52)) b t i) + 0)), (4, .int ((nI i) + 1))]) [3, 4, 5, 1, 0] rfl ?_
          exact AW.eq (ih (i + 1) (by omega)) rfl rfl (by rw [nI_1]; simp [mdB, mdW, *]) rfl
        · simp [b2i_0] at c65
          refine a_aload_n hb dX12_madeBut_68 rfl 1 rfl ?_
          refine a_getQ (q := (B + 52)) hb dX12_madeBut_69 (by rw [ow]; exact fl_RX12_9_12) (hL.1 51 (by decide)) (hL.2.1 (51, 1, 52) (by decide)) ?_
          refine a_sipush (v := 183) hb dX12_madeBut_72 (by decide) ?_
          refine a_iload hb dX12_madeBut_75 5 rfl ?_
          refine a_iadd hb dX12_madeBut_77 ?_
          refine b_iald (j := (183 + i)) hb dX12_madeBut_78 (hL.1 52 (by decide)) (IX.add ⟨by decide, by decide⟩ (IX.n (by omega)) (by omega)) (by omega) ?_
          refine a_goto hb 83 dX12_madeBut_79 (by decide) ?_
          refine a_iadd hb dX12_madeBut_83 ?_
          refine a_istore_n (L' := [(3, .int ((mdB (hI h (B + 52)) b t i) + (hI h (B + 52) (183 + i)))), (5, .int ((hI h (B + 52) (198 + i)) + (hI h (B + 52) (178 + i)))), (0, .ref (B + 51)), (1, .int b), (2, .int t), (4, .int (nI i))]) hb dX12_madeBut_84 rfl (by rw [hml]; decide) rfl ?_
          refine a_iinc (v := ((nI i) + 1)) (L' := [(4, .int ((nI i) + 1)), (3, .int ((mdB (hI h (B + 52)) b t i) + (hI h (B + 52) (183 + i)))), (5, .int ((hI h (B + 52) (198 + i)) + (hI h (B + 52) (178 + i)))), (0, .ref (B + 51)), (1, .int b), (2, .int t)]) hb dX12_madeBut_85 5 rfl rfl (by rw [hml]; decide) rfl ?_
          refine a_goto hb 5 dX12_madeBut_88 (by decide) ?_
          refine AW.sub (L' := [(0, .ref (B + 51)), (1, .int b), (2, .int t), (3, .int ((mdB (hI h (B + 52)) b t i) + (hI h (B + 52) (183 + i)))), (4, .int ((nI i) + 1))]) [3, 4, 5, 1, 0] rfl ?_
          exact AW.eq (ih (i + 1) (by omega)) rfl rfl (by rw [nI_1]; simp [mdB, mdW, *]) rfl
  refine a_iconst (v := 0) hb dX12_madeBut_0 (by decide) ?_
  refine a_istore_n (L' := [(3, .int 0), (0, .ref (B + 51)), (1, .int b), (2, .int t)]) hb dX12_madeBut_1 rfl (by rw [hml]; decide) rfl ?_
  refine a_iconst (v := 0) hb dX12_madeBut_2 (by decide) ?_
  refine a_istore (L' := [(4, .int 0), (3, .int 0), (0, .ref (B + 51)), (1, .int b), (2, .int t)]) hb dX12_madeBut_3 (by rw [hml]; decide) rfl ?_
  refine AW.sub (L' := [(0, .ref (B + 51)), (1, .int b), (2, .int t), (3, .int 0), (4, .int 0)]) [2, 3, 4, 1, 0] rfl ?_
  exact AW.eq (loop n 0 (by omega)) rfl rfl (rfl) rfl
set_option maxRecDepth 100000 in
theorem m_made (g : GG) (h : AH) (B : Nat) (hL : LY h B) (n : Nat) (hn : IX (hI h (B + 52) 1) n) (ln : n ≤ 5) (t : Int32) : AM g 3 0 0 mX12_made [.ref (B + 51), .int t] h (fun rv h' => rv = some (.int (if oO t 0 39 then -2 else mdB (hI h (B + 52)) (-1) t n)) ∧ h' = h) := by
  refine AM.of [(0, .ref (B + 51)), (1, .int t)] (by decide) (Nat.le_of_ble_eq_true rfl) rfl ?_
  intro V hV
  have hb : V.2.1.2.1 = cX12_made := by subst hV; rfl
  have ow : V.2.1.1.cls = RX12 := by subst hV; rfl
  have hr : V.2.2.1 = aw_rm 3 0 0 := by subst hV; rfl
  have hz : V.2.2.2 = aw_Z V.1 (fun rv h' => rv = some (.int (if oO t 0 39 then -2 else mdB (hI h (B + 52)) (-1) t n)) ∧ h' = h) V.2.2.1 := by subst hV; rfl
  have hg : V.1 = g := by subst hV; rfl
  have hret : V.2.1.2.2.2 = (some .int) := by subst hV; rfl
  have hml : V.2.1.2.2.1 = 2 := by subst hV; rfl
  clear hV
  refine a_iload_n hb dX12_made_0 rfl 1 rfl ?_
  refine a_callS hb dX12_made_1 (by rw [hg]; exact w_isTick g h t) (by rw [ow]; exact cls_RX12_52) rfl rfl (Nat.le_of_ble_eq_true rfl) (by rw [hr]; exact ⟨by decide, by decide⟩) (by rw [hr]; exact ⟨Nat.le_of_ble_eq_true rfl, Nat.le_of_ble_eq_true rfl⟩) ?_
  intro rv h' hp
  rw [hp.1, hp.2]
  show AW V 0 0 h 4 [(0, .ref (B + 51)), (1, .int t)] [.int (b2i (!oO t 0 39))]
  refine a_if_eq hb 16 dX12_made_4 (by decide) (fun c4 => ?_) (fun c4 => ?_)
  · simp [b2i_0] at c4
    refine a_bipush (v := (-2)) hb dX12_made_16 (by decide) ?_
    exact a_ireturn (ty := .int) hb hz dX12_made_18 hret rfl (by rw [hr]; exact Nat.le_of_ble_eq_true rfl) (by rw [hr]; exact Nat.le_of_ble_eq_true rfl) (⟨by simp [*], rfl⟩)
  · simp [b2i_0] at c4
    refine a_aload_n hb dX12_made_7 rfl 0 rfl ?_
    refine a_iconst (v := (-1)) hb dX12_made_8 (by decide) ?_
    refine a_iload_n hb dX12_made_9 rfl 1 rfl ?_
    refine a_callV hb dX12_made_10 (by rw [hg]; exact m_madeBut g h B hL n hn ln (-1) t) (by rw [ow]; exact clv_RX12_166) (hL.1 51 (by decide)) (by decide) rfl rfl rfl (Nat.le_of_ble_eq_true rfl) (by rw [hr]; exact ⟨by decide, by decide⟩) (by rw [hr]; exact ⟨Nat.le_of_ble_eq_true rfl, Nat.le_of_ble_eq_true rfl⟩) ?_
    intro rv h' hp
    rw [hp.1, hp.2]
    show AW V 0 0 h 13 [(0, .ref (B + 51)), (1, .int t)] [.int (mdB (hI h (B + 52)) (-1) t n)]
    refine a_goto hb 18 dX12_made_13 (by decide) ?_
    exact a_ireturn (ty := .int) hb hz dX12_made_18 hret rfl (by rw [hr]; exact Nat.le_of_ble_eq_true rfl) (by rw [hr]; exact Nat.le_of_ble_eq_true rfl) (⟨by simp [*], rfl⟩)
