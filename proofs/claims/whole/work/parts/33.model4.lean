/-! ===== the model's image, undo, feed; its rows ===== -/
def cpyI (f g : Nat → Int32) (i : Nat) : Nat → Int32 := fun j => if j < i then f j else g j
theorem cpyI_s {f g : Nat → Int32} {i : Nat} : upd (cpyI f g i) i (f i) = cpyI f g (i + 1) := by
  funext j
  by_cases e : j = i
  · subst e; simp [upd, cpyI]
  · have : (j < i + 1) = (j < i) := by apply propext; omega
    simp [upd, cpyI, e, this]
theorem cpyI_0 {f g : Nat → Int32} : cpyI f g 0 = g := by funext j; simp [cpyI]
theorem setR_idn {h : AH} {a : Nat} {f : Nat → Int32} (e : f = hI h a) : setR h a f = h := by rw [e]; exact setR_id
set_option maxRecDepth 100000 in
theorem m_image (g : GG) (h : AH) (B : Nat) (hL : LY h B) : AM g 1 0 0 mX12_image [.ref (B + 51)] h (fun rv h' => rv = some (.int (hI h (B + 52) 0)) ∧ h' = setI (setR h (B + 53) (cpyI (hI h (B + 52)) (hI h (B + 53)) 938)) (B + 51) 3 1) := by
  refine AM.of [(0, .ref (B + 51))] (by decide) (Nat.le_of_ble_eq_true rfl) rfl ?_
  intro V hV
  have hb : V.2.1.2.1 = cX12_image := by subst hV; rfl
  have ow : V.2.1.1.cls = RX12 := by subst hV; rfl
  have hr : V.2.2.1 = aw_rm 1 0 0 := by subst hV; rfl
  have hz : V.2.2.2 = aw_Z V.1 (fun rv h' => rv = some (.int (hI h (B + 52) 0)) ∧ h' = setI (setR h (B + 53) (cpyI (hI h (B + 52)) (hI h (B + 53)) 938)) (B + 51) 3 1) V.2.2.1 := by subst hV; rfl
  have hg : V.1 = g := by subst hV; rfl
  have hret : V.2.1.2.2.2 = (some .int) := by subst hV; rfl
  have hml : V.2.1.2.2.1 = 2 := by subst hV; rfl
  clear hV
  have loop : ∀ (k i : Nat), i + k = 938 → AW V 0 0 (setR h (B + 53) (cpyI (hI h (B + 52)) (hI h (B + 53)) i)) 2 [(0, .ref (B + 51)), (1, .int (nI i))] [] := by
    intro k
    induction k with
    | zero =>
      intro i hi
      refine a_iload_n hb dX12_image_2 rfl 1 rfl ?_
      refine a_sipush (v := 938) hb dX12_image_3 (by decide) ?_
      refine a_icmp_ge hb 27 dX12_image_6 (by decide) (fun c6 => ?_) (fun c6 => absurd (by exact nI_le (b := i) (a := 938) (by omega) (by omega)) c6)
      refine a_aload_n hb dX12_image_27 rfl 0 rfl ?_
      refine a_iconst (v := 1) hb dX12_image_28 (by decide) ?_
      refine a_putI (fty := .boolean) hb dX12_image_29 (by rw [ow]; exact fp_RX12_271_12) (Or.inr (fun C T N hq => by cases hq; rfl)) (hL.1 51 (by decide)) rfl rfl ?_
      refine a_aload_n hb dX12_image_32 rfl 0 rfl ?_
      refine a_getQ (q := (B + 52)) hb dX12_image_33 (by rw [ow]; exact fl_RX12_9_12) (hL.1 51 (by decide)) (hL.2.1 (51, 1, 52) (by decide)) ?_
      refine a_iconst (v := 0) hb dX12_image_36 (by decide) ?_
      refine b_iald (j := 0) hb dX12_image_37 (hL.1 52 (by decide)) ⟨by decide, by decide⟩ (by decide) ?_
      exact a_ireturn (ty := .int) hb hz dX12_image_38 hret rfl (by rw [hr]; exact Nat.le_of_ble_eq_true rfl) (by rw [hr]; exact Nat.le_of_ble_eq_true rfl) (⟨congrArg (fun x => some (Value.int x)) (by show u2 _ _ _ _ _ _ = _; rw [u2_a (by omega), hI_Rn (by omega)]), by rw [show i = 938 by omega]⟩)
    | succ k ih =>
      intro i hi
      refine a_iload_n hb dX12_image_2 rfl 1 rfl ?_
      refine a_sipush (v := 938) hb dX12_image_3 (by decide) ?_
      refine a_icmp_ge hb 27 dX12_image_6 (by decide) (fun c6 => absurd c6 (by exact nI_ge (b := 938) (a := i) (by omega) (by omega))) (fun c6 => ?_)
      refine a_aload_n hb dX12_image_9 rfl 0 rfl ?_
      refine a_getQ (q := (B + 53)) hb dX12_image_10 (by rw [ow]; exact fl_RX12_15_12) (hL.1 51 (by decide)) (hL.2.1 (51, 2, 53) (by decide)) ?_
      refine a_iload_n hb dX12_image_13 rfl 1 rfl ?_
      refine a_aload_n hb dX12_image_14 rfl 0 rfl ?_
      refine a_getQ (q := (B + 52)) hb dX12_image_15 (by rw [ow]; exact fl_RX12_9_12) (hL.1 51 (by decide)) (hL.2.1 (51, 1, 52) (by decide)) ?_
      refine a_iload_n hb dX12_image_18 rfl 1 rfl ?_
      refine b_iald (j := i) hb dX12_image_19 (hL.1 52 (by decide)) (IX.n (by omega)) (by omega) ?_
      refine b_iast (j := i) hb dX12_image_20 (hL.1 53 (by decide)) (IX.n (by omega)) (by omega) ?_
      refine a_iinc (v := ((nI i) + 1)) (L' := [(1, .int ((nI i) + 1)), (0, .ref (B + 51))]) hb dX12_image_21 1 rfl rfl (by rw [hml]; decide) rfl ?_
      refine a_goto hb 2 dX12_image_24 (by decide) ?_
      refine AW.sub (L' := [(0, .ref (B + 51)), (1, .int ((nI i) + 1))]) [1, 0] rfl ?_
      exact AW.eq (ih (i + 1) (by omega)) (by rw [setI_R, hI_R, setR_R, hI_Rn (by omega), cpyI_s]) rfl (by rw [nI_1]) rfl
  refine a_iconst (v := 0) hb dX12_image_0 (by decide) ?_
  refine a_istore_n (L' := [(1, .int 0), (0, .ref (B + 51))]) hb dX12_image_1 rfl (by rw [hml]; decide) rfl ?_
  refine AW.sub (L' := [(0, .ref (B + 51)), (1, .int 0)]) [1, 0] rfl ?_
  exact AW.eq (loop 938 0 (by omega)) (by rw [cpyI_0, setR_id]) rfl (rfl) rfl
set_option maxRecDepth 100000 in
theorem m_undo (g : GG) (h : AH) (B : Nat) (hL : LY h B) : AM g 1 0 0 mX12_undo [.ref (B + 51)] h (fun rv h' => if hI h (B + 51) 3 = 0 then rv = some (.int (-3)) ∧ h' = h else rv = some (.int (hI h (B + 53) 0)) ∧ h' = setR h (B + 52) (cpyI (hI h (B + 53)) (hI h (B + 52)) 938)) := by
  refine AM.of [(0, .ref (B + 51))] (by decide) (Nat.le_of_ble_eq_true rfl) rfl ?_
  intro V hV
  have hb : V.2.1.2.1 = cX12_undo := by subst hV; rfl
  have ow : V.2.1.1.cls = RX12 := by subst hV; rfl
  have hr : V.2.2.1 = aw_rm 1 0 0 := by subst hV; rfl
  have hz : V.2.2.2 = aw_Z V.1 (fun rv h' => if hI h (B + 51) 3 = 0 then rv = some (.int (-3)) ∧ h' = h else rv = some (.int (hI h (B + 53) 0)) ∧ h' = setR h (B + 52) (cpyI (hI h (B + 53)) (hI h (B + 52)) 938)) V.2.2.1 := by subst hV; rfl
  have hg : V.1 = g := by subst hV; rfl
  have hret : V.2.1.2.2.2 = (some .int) := by subst hV; rfl
  have hml : V.2.1.2.2.1 = 2 := by subst hV; rfl
  clear hV
  have key : ∀ c4 : ¬ hI h (B + 51) 3 = 0, ∀ (k i : Nat), i + k = 938 → AW V 0 0 (setR h (B + 52) (cpyI (hI h (B + 53)) (hI h (B + 52)) i)) 12 [(0, .ref (B + 51)), (1, .int (nI i))] [] := by
    intro c4
    have loop : ∀ (k i : Nat), i + k = 938 → AW V 0 0 (setR h (B + 52) (cpyI (hI h (B + 53)) (hI h (B + 52)) i)) 12 [(0, .ref (B + 51)), (1, .int (nI i))] [] := by
      intro k
      induction k with
      | zero =>
        intro i hi
        refine a_iload_n hb dX12_undo_12 rfl 1 rfl ?_
        refine a_sipush (v := 938) hb dX12_undo_13 (by decide) ?_
        refine a_icmp_ge hb 37 dX12_undo_16 (by decide) (fun c16 => ?_) (fun c16 => absurd (by exact nI_le (b := i) (a := 938) (by omega) (by omega)) c16)
        refine a_aload_n hb dX12_undo_37 rfl 0 rfl ?_
        refine a_getQ (q := (B + 52)) hb dX12_undo_38 (by rw [ow]; exact fl_RX12_9_12) (hL.1 51 (by decide)) (hL.2.1 (51, 1, 52) (by decide)) ?_
        refine a_iconst (v := 0) hb dX12_undo_41 (by decide) ?_
        refine b_iald (j := 0) hb dX12_undo_42 (hL.1 52 (by decide)) ⟨by decide, by decide⟩ (by decide) ?_
        exact a_ireturn (ty := .int) hb hz dX12_undo_43 hret rfl (by rw [hr]; exact Nat.le_of_ble_eq_true rfl) (by rw [hr]; exact Nat.le_of_ble_eq_true rfl) (by rw [if_neg c4]; exact ⟨congrArg (fun x => some (Value.int x)) (by rw [hI_R, show i = 938 by omega]; rfl), by rw [show i = 938 by omega]⟩)
      | succ k ih =>
        intro i hi
        refine a_iload_n hb dX12_undo_12 rfl 1 rfl ?_
        refine a_sipush (v := 938) hb dX12_undo_13 (by decide) ?_
        refine a_icmp_ge hb 37 dX12_undo_16 (by decide) (fun c16 => absurd c16 (by exact nI_ge (b := 938) (a := i) (by omega) (by omega))) (fun c16 => ?_)
        refine a_aload_n hb dX12_undo_19 rfl 0 rfl ?_
        refine a_getQ (q := (B + 52)) hb dX12_undo_20 (by rw [ow]; exact fl_RX12_9_12) (hL.1 51 (by decide)) (hL.2.1 (51, 1, 52) (by decide)) ?_
        refine a_iload_n hb dX12_undo_23 rfl 1 rfl ?_
        refine a_aload_n hb dX12_undo_24 rfl 0 rfl ?_
        refine a_getQ (q := (B + 53)) hb dX12_undo_25 (by rw [ow]; exact fl_RX12_15_12) (hL.1 51 (by decide)) (hL.2.1 (51, 2, 53) (by decide)) ?_
        refine a_iload_n hb dX12_undo_28 rfl 1 rfl ?_
        refine b_iald (j := i) hb dX12_undo_29 (hL.1 53 (by decide)) (IX.n (by omega)) (by omega) ?_
        refine b_iast (j := i) hb dX12_undo_30 (hL.1 52 (by decide)) (IX.n (by omega)) (by omega) ?_
        refine a_iinc (v := ((nI i) + 1)) (L' := [(1, .int ((nI i) + 1)), (0, .ref (B + 51))]) hb dX12_undo_31 1 rfl rfl (by rw [hml]; decide) rfl ?_
        refine a_goto hb 12 dX12_undo_34 (by decide) ?_
        refine AW.sub (L' := [(0, .ref (B + 51)), (1, .int ((nI i) + 1))]) [1, 0] rfl ?_
        exact AW.eq (ih (i + 1) (by omega)) (by rw [setI_R, hI_R, setR_R, hI_Rn (by omega), cpyI_s]) rfl (by rw [nI_1]) rfl
    exact loop
  refine a_aload_n hb dX12_undo_0 rfl 0 rfl ?_
  refine a_getI hb dX12_undo_1 (by rw [ow]; exact fl_RX12_271_12) (hL.1 51 (by decide)) ?_
  refine a_if_ne hb 10 dX12_undo_4 (by decide) (fun c4 => ?_) (fun c4 => ?_)
  · refine a_iconst (v := 0) hb dX12_undo_10 (by decide) ?_
    refine a_istore_n (L' := [(1, .int 0), (0, .ref (B + 51))]) hb dX12_undo_11 rfl (by rw [hml]; decide) rfl ?_
    refine AW.sub (L' := [(0, .ref (B + 51)), (1, .int 0)]) [1, 0] rfl ?_
    exact AW.eq (key c4 938 0 (by omega)) (by rw [cpyI_0, setR_id]) rfl (rfl) rfl
  · refine a_bipush (v := (-3)) hb dX12_undo_7 (by decide) ?_
    exact a_ireturn (ty := .int) hb hz dX12_undo_9 hret rfl (by rw [hr]; exact Nat.le_of_ble_eq_true rfl) (by rw [hr]; exact Nat.le_of_ble_eq_true rfl) (by rw [if_pos c4]; exact ⟨rfl, rfl⟩)
