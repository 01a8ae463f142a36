/-! ===== the class: image, undo ===== -/
/-- the State at d holds what the State at s held -/
def CPF (h h' : AH) (d s : Nat) : Prop := (∀ t, t < 8 → hQ h' (d + 1) t = hQ h (s + 1) t ∧ hI h' (d + 2) t = hI h (s + 2) t ∧ hI h' (d + 3) t = hI h (s + 3) t) ∧ hI h' d 3 = hI h s 3 ∧ (∀ t, t < 5 → hQ h' (d + 4) t = hQ h (s + 4) t) ∧ hI h' d 5 = hI h s 5 ∧ (∀ t, t < 5 → hQ h' (d + 5) t = hQ h (s + 5) t) ∧ hI h' d 7 = hI h s 7 ∧ (∀ t, t < 120 → hI h' (d + 6) t = hI h (s + 6) t) ∧ hI h' d 9 = hI h s 9 ∧ (∀ t, t < 20 → hI h' (d + 7) t = hI h (s + 7) t) ∧ hI h' d 11 = hI h s 11 ∧ ∀ t, t < 3 → hI h' (d + 8) t = hI h (s + 8) t
theorem x_cpI (g : GG) (h : AH) (B : Nat) (hL : LY h B) (ty : TY h (B + 1)) (hby : ∀ i, i < 120 → fits (aw_ty 13) (.int (hI h (B + 7) i)) = true) : AM g 1 0 0 mX7_copyFrom [.ref (B + 10), .ref (B + 1)] h (fun rv h' => rv = none ∧ CF (B + 10) h h' ∧ CPF h h' (B + 10) (B + 1)) :=
  (x_copy10 g h B hL ty hby).weak (fun _ _ q => q)
theorem x_cpU (g : GG) (h : AH) (B : Nat) (hL : LY h B) (ty : TY h (B + 10)) (hby : ∀ i, i < 120 → fits (aw_ty 13) (.int (hI h (B + 16) i)) = true) : AM g 1 0 0 mX7_copyFrom [.ref (B + 1), .ref (B + 10)] h (fun rv h' => rv = none ∧ CF (B + 1) h h' ∧ CPF h h' (B + 1) (B + 10)) :=
  (x_copy1 g h B hL ty hby).weak (fun _ _ q => q)
set_option maxRecDepth 100000 in
theorem x_image (g : GG) (h : AH) (B : Nat) (hL : LY h B) (ty : TY h (B + 1)) (hby : ∀ i, i < 120 → fits (aw_ty 13) (.int (hI h (B + 7) i)) = true) : AM g 2 0 0 mX11_image [.ref B] h (fun rv h' => ∃ h1, CF (B + 10) h h1 ∧ CPF h h1 (B + 10) (B + 1) ∧ h' = setI h1 B 2 1 ∧ rv = some (.int (hI h (B + 1) 3))) := by
  refine AM.of [(0, .ref B)] (by decide) (Nat.le_of_ble_eq_true rfl) rfl ?_
  intro V hV
  have hb : V.2.1.2.1 = cX11_image := by subst hV; rfl
  have ow : V.2.1.1.cls = RX11 := by subst hV; rfl
  have hr : V.2.2.1 = aw_rm 2 0 0 := by subst hV; rfl
  have hz : V.2.2.2 = aw_Z V.1 (fun rv h' => ∃ h1, CF (B + 10) h h1 ∧ CPF h h1 (B + 10) (B + 1) ∧ h' = setI h1 B 2 1 ∧ rv = some (.int (hI h (B + 1) 3))) V.2.2.1 := by subst hV; rfl
  have hg : V.1 = g := by subst hV; rfl
  have hret : V.2.1.2.2.2 = (some .int) := by subst hV; rfl
  have hml : V.2.1.2.2.1 = 1 := by subst hV; rfl
  clear hV
  refine a_aload_n hb dX11_image_0 rfl 0 rfl ?_
  refine a_getQ (q := (B + 10)) hb dX11_image_1 (by rw [ow]; exact fl_RX11_18_11) (hL.1 0 (by decide)) (hL.2.1 (0, 1, 10) (by decide)) ?_
  refine a_aload_n hb dX11_image_4 rfl 0 rfl ?_
  refine a_getQ (q := (B + 1)) hb dX11_image_5 (by rw [ow]; exact fl_RX11_12_11) (hL.1 0 (by decide)) (hL.2.1 (0, 0, 1) (by decide)) ?_
  refine a_callV hb dX11_image_8 (by rw [hg]; exact x_cpI g h B hL ty hby) (by rw [ow]; exact clv_RX11_287) (hL.1 10 (by decide)) (by decide) rfl rfl rfl (Nat.le_of_ble_eq_true rfl) (by rw [hr]; exact ⟨by decide, by decide⟩) (by rw [hr]; exact ⟨Nat.le_of_ble_eq_true rfl, Nat.le_of_ble_eq_true rfl⟩) ?_
  intro rv h1 hp
  obtain ⟨hv, cf, cp⟩ := hp
  rw [hv]
  have hL1 : LY h1 B := cf.ly (by omega) hL
  show AW V 0 0 h1 11 [(0, .ref B)] []
  refine a_aload_n hb dX11_image_11 rfl 0 rfl ?_
  refine a_iconst (v := 1) hb dX11_image_12 (by decide) ?_
  refine a_putI (fty := .boolean) hb dX11_image_13 (by rw [ow]; exact fp_RX11_21_11) (Or.inr (fun C T N hq => by cases hq; rfl)) (hL1.1 0 (by decide)) rfl rfl ?_
  refine a_aload_n hb dX11_image_16 rfl 0 rfl ?_
  refine a_getQ (q := (B + 1)) hb dX11_image_17 (by rw [ow]; exact fl_RX11_12_11) ((LY.I hL1 : LY (setI h1 B 2 1) B).1 0 (by decide)) ((LY.I hL1 : LY (setI h1 B 2 1) B).2.1 (0, 0, 1) (by decide)) ?_
  refine a_getI hb dX11_image_20 (by rw [ow]; exact fl_RX11_61_7) ((LY.I hL1 : LY (setI h1 B 2 1) B).1 1 (by decide)) ?_
  rw [hI_setI_n (by omega), cf.2.2.2.1 (B + 1) (by omega) (by omega) (by omega) (by omega) (by omega) (by omega)]
  show AW V 0 0 (setI h1 B 2 1) 23 [(0, .ref B)] [.int (hI h (B + 1) 3)]
  exact a_ireturn (ty := .int) hb hz dX11_image_23 hret rfl (by rw [hr]; exact Nat.le_of_ble_eq_true rfl) (by rw [hr]; exact Nat.le_of_ble_eq_true rfl) (⟨h1, cf, cp, rfl, rfl⟩)
set_option maxRecDepth 100000 in
theorem x_undo (g : GG) (h : AH) (B : Nat) (hL : LY h B) (ty : ¬ hI h B 2 = 0 → TY h (B + 10) ∧ ∀ i, i < 120 → fits (aw_ty 13) (.int (hI h (B + 16) i)) = true) : AM g 2 0 0 mX11_undo [.ref B] h (fun rv h' => if hI h B 2 = 0 then rv = some (.int (-3)) ∧ h' = h else CF (B + 1) h h' ∧ CPF h h' (B + 1) (B + 10) ∧ rv = some (.int (hI h (B + 10) 3))) := by
  refine AM.of [(0, .ref B)] (by decide) (Nat.le_of_ble_eq_true rfl) rfl ?_
  intro V hV
  have hb : V.2.1.2.1 = cX11_undo := by subst hV; rfl
  have ow : V.2.1.1.cls = RX11 := by subst hV; rfl
  have hr : V.2.2.1 = aw_rm 2 0 0 := by subst hV; rfl
  have hz : V.2.2.2 = aw_Z V.1 (fun rv h' => if hI h B 2 = 0 then rv = some (.int (-3)) ∧ h' = h else CF (B + 1) h h' ∧ CPF h h' (B + 1) (B + 10) ∧ rv = some (.int (hI h (B + 10) 3))) V.2.2.1 := by subst hV; rfl
  have hg : V.1 = g := by subst hV; rfl
  have hret : V.2.1.2.2.2 = (some .int) := by subst hV; rfl
  have hml : V.2.1.2.2.1 = 1 := by subst hV; rfl
  clear hV
  refine a_aload_n hb dX11_undo_0 rfl 0 rfl ?_
  refine a_getI hb dX11_undo_1 (by rw [ow]; exact fl_RX11_21_11) (hL.1 0 (by decide)) ?_
  refine a_if_ne hb 10 dX11_undo_4 (by decide) (fun c4 => ?_) (fun c4 => ?_)
  · refine a_aload_n hb dX11_undo_10 rfl 0 rfl ?_
    refine a_getQ (q := (B + 1)) hb dX11_undo_11 (by rw [ow]; exact fl_RX11_12_11) (hL.1 0 (by decide)) (hL.2.1 (0, 0, 1) (by decide)) ?_
    refine a_aload_n hb dX11_undo_14 rfl 0 rfl ?_
    refine a_getQ (q := (B + 10)) hb dX11_undo_15 (by rw [ow]; exact fl_RX11_18_11) (hL.1 0 (by decide)) (hL.2.1 (0, 1, 10) (by decide)) ?_
    refine a_callV hb dX11_undo_18 (by rw [hg]; exact x_cpU g h B hL (ty c4).1 (ty c4).2) (by rw [ow]; exact clv_RX11_287) (hL.1 1 (by decide)) (by decide) rfl rfl rfl (Nat.le_of_ble_eq_true rfl) (by rw [hr]; exact ⟨by decide, by decide⟩) (by rw [hr]; exact ⟨Nat.le_of_ble_eq_true rfl, Nat.le_of_ble_eq_true rfl⟩) ?_
    intro rv h1 hp
    obtain ⟨hv, cf, cp⟩ := hp
    rw [hv]
    have hL1 : LY h1 B := cf.ly (by omega) hL
    show AW V 0 0 h1 21 [(0, .ref B)] []
    refine a_aload_n hb dX11_undo_21 rfl 0 rfl ?_
    refine a_getQ (q := (B + 1)) hb dX11_undo_22 (by rw [ow]; exact fl_RX11_12_11) (hL1.1 0 (by decide)) (hL1.2.1 (0, 0, 1) (by decide)) ?_
    refine a_getI hb dX11_undo_25 (by rw [ow]; exact fl_RX11_61_7) (hL1.1 1 (by decide)) ?_
    rw [cp.2.1]
    show AW V 0 0 h1 28 [(0, .ref B)] [.int (hI h (B + 10) 3)]
    exact a_ireturn (ty := .int) hb hz dX11_undo_28 hret rfl (by rw [hr]; exact Nat.le_of_ble_eq_true rfl) (by rw [hr]; exact Nat.le_of_ble_eq_true rfl) (by rw [if_neg c4]; exact ⟨cf, cp, rfl⟩)
  · refine a_bipush (v := (-3)) hb dX11_undo_7 (by decide) ?_
    exact a_ireturn (ty := .int) hb hz dX11_undo_9 hret rfl (by rw [hr]; exact Nat.le_of_ble_eq_true rfl) (by rw [hr]; exact Nat.le_of_ble_eq_true rfl) (by rw [if_pos (by simpa using c4)]; exact ⟨rfl, rfl⟩)
