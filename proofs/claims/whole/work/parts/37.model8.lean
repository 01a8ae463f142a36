/-! ===== the model: without a law; drawn, beat, first, wave; small readers ===== -/
set_option maxRecDepth 100000 in
theorem n_drawn (g : GG) (h : AH) (B : Nat) (hL : LY h B) (hnl : hI h (B + 52) 8 = -1) (p t : Int32) : AM g 3 0 0 mX12_drawn [.ref (B + 51), .int p, .int t] h (fun rv h' => rv = some (.int (-1001)) ∧ h' = h) := by
  refine AM.of [(0, .ref (B + 51)), (1, .int p), (2, .int t)] (by decide) (Nat.le_of_ble_eq_true rfl) rfl ?_
  intro V hV
  have hb : V.2.1.2.1 = cX12_drawn := by subst hV; rfl
  have ow : V.2.1.1.cls = RX12 := by subst hV; rfl
  have hr : V.2.2.1 = aw_rm 3 0 0 := by subst hV; rfl
  have hz : V.2.2.2 = aw_Z V.1 (fun rv h' => rv = some (.int (-1001)) ∧ h' = h) V.2.2.1 := by subst hV; rfl
  have hg : V.1 = g := by subst hV; rfl
  have hret : V.2.1.2.2.2 = (some .int) := by subst hV; rfl
  have hml : V.2.1.2.2.1 = 3 := by subst hV; rfl
  clear hV
  refine a_aload_n hb dX12_drawn_0 rfl 0 rfl ?_
  refine a_iload_n hb dX12_drawn_1 rfl 1 rfl ?_
  refine a_callV hb dX12_drawn_2 (by rw [hg]; exact w_isBreak g h B hL p) (by rw [ow]; exact clv_RX12_56) (hL.1 51 (by decide)) (by decide) rfl rfl rfl (Nat.le_of_ble_eq_true rfl) (by rw [hr]; exact ⟨by decide, by decide⟩) (by rw [hr]; exact ⟨Nat.le_of_ble_eq_true rfl, Nat.le_of_ble_eq_true rfl⟩) ?_
  intro rv h' hp
  rw [hp.1, hp.2]
  show AW V 0 0 h 5 [(0, .ref (B + 51)), (1, .int p), (2, .int t)] [.int (b2i (!oO p 0 (hI h (B + 52) 0 - 1)))]
  refine a_if_eq hb 15 dX12_drawn_5 (by decide) (fun c5 => ?_) (fun c5 => ?_)
  · simp [b2i_0] at c5
    refine a_sipush (v := (-1001)) hb dX12_drawn_15 (by decide) ?_
    exact a_ireturn (ty := .int) hb hz dX12_drawn_18 hret rfl (by rw [hr]; exact Nat.le_of_ble_eq_true rfl) (by rw [hr]; exact Nat.le_of_ble_eq_true rfl) (⟨rfl, rfl⟩)
  · simp [b2i_0] at c5
    refine a_aload_n hb dX12_drawn_8 rfl 0 rfl ?_
    refine a_callV hb dX12_drawn_9 (by rw [hg]; exact w_isLaw g h B hL) (by rw [ow]; exact clv_RX12_152) (hL.1 51 (by decide)) (by decide) rfl rfl rfl (Nat.le_of_ble_eq_true rfl) (by rw [hr]; exact ⟨by decide, by decide⟩) (by rw [hr]; exact ⟨Nat.le_of_ble_eq_true rfl, Nat.le_of_ble_eq_true rfl⟩) ?_
    intro rv h' hp
    rw [hp.1, hp.2]
    show AW V 0 0 h 12 [(0, .ref (B + 51)), (1, .int p), (2, .int t)] [.int (b2i (!decide (hI h (B + 52) 8 = -1)))]
    refine a_if_ne hb 19 dX12_drawn_12 (by decide) (fun c12 => absurd c12 (by simp [b2i, hnl])) (fun c12 => ?_)
    refine a_sipush (v := (-1001)) hb dX12_drawn_15 (by decide) ?_
    exact a_ireturn (ty := .int) hb hz dX12_drawn_18 hret rfl (by rw [hr]; exact Nat.le_of_ble_eq_true rfl) (by rw [hr]; exact Nat.le_of_ble_eq_true rfl) (⟨rfl, rfl⟩)
set_option maxRecDepth 100000 in
theorem n_demand (g : GG) (h : AH) (B : Nat) (hL : LY h B) (hnl : hI h (B + 52) 8 = -1) (t : Int32) : AM g 3 0 0 mX12_demand [.ref (B + 51), .int t] h (fun rv h' => rv = some (.int (-10001)) ∧ h' = h) := by
  refine AM.of [(0, .ref (B + 51)), (1, .int t)] (by decide) (Nat.le_of_ble_eq_true rfl) rfl ?_
  intro V hV
  have hb : V.2.1.2.1 = cX12_demand := by subst hV; rfl
  have ow : V.2.1.1.cls = RX12 := by subst hV; rfl
  have hr : V.2.2.1 = aw_rm 3 0 0 := by subst hV; rfl
  have hz : V.2.2.2 = aw_Z V.1 (fun rv h' => rv = some (.int (-10001)) ∧ h' = h) V.2.2.1 := by subst hV; rfl
  have hg : V.1 = g := by subst hV; rfl
  have hret : V.2.1.2.2.2 = (some .int) := by subst hV; rfl
  have hml : V.2.1.2.2.1 = 2 := by subst hV; rfl
  clear hV
  refine a_aload_n hb dX12_demand_0 rfl 0 rfl ?_
  refine a_callV hb dX12_demand_1 (by rw [hg]; exact w_isLaw g h B hL) (by rw [ow]; exact clv_RX12_152) (hL.1 51 (by decide)) (by decide) rfl rfl rfl (Nat.le_of_ble_eq_true rfl) (by rw [hr]; exact ⟨by decide, by decide⟩) (by rw [hr]; exact ⟨Nat.le_of_ble_eq_true rfl, Nat.le_of_ble_eq_true rfl⟩) ?_
  intro rv h' hp
  rw [hp.1, hp.2]
  show AW V 0 0 h 4 [(0, .ref (B + 51)), (1, .int t)] [.int (b2i (!decide (hI h (B + 52) 8 = -1)))]
  refine a_if_ne hb 11 dX12_demand_4 (by decide) (fun c4 => absurd c4 (by simp [b2i, hnl])) (fun c4 => ?_)
  refine a_sipush (v := (-10001)) hb dX12_demand_7 (by decide) ?_
  exact a_ireturn (ty := .int) hb hz dX12_demand_10 hret rfl (by rw [hr]; exact Nat.le_of_ble_eq_true rfl) (by rw [hr]; exact Nat.le_of_ble_eq_true rfl) (⟨rfl, rfl⟩)
set_option maxRecDepth 100000 in
theorem n_beat (g : GG) (h : AH) (B : Nat) (hL : LY h B) (hnl : hI h (B + 52) 8 = -1) (t : Int32) : AM g 3 0 0 mX12_beat [.ref (B + 51), .int t] h (fun rv h' => rv = some (.long (-9223372036854775808)) ∧ h' = h) := by
  refine AM.of [(0, .ref (B + 51)), (1, .int t)] (by decide) (Nat.le_of_ble_eq_true rfl) rfl ?_
  intro V hV
  have hb : V.2.1.2.1 = cX12_beat := by subst hV; rfl
  have ow : V.2.1.1.cls = RX12 := by subst hV; rfl
  have hr : V.2.2.1 = aw_rm 3 0 0 := by subst hV; rfl
  have hz : V.2.2.2 = aw_Z V.1 (fun rv h' => rv = some (.long (-9223372036854775808)) ∧ h' = h) V.2.2.1 := by subst hV; rfl
  have hg : V.1 = g := by subst hV; rfl
  have hret : V.2.1.2.2.2 = (some .long) := by subst hV; rfl
  have hml : V.2.1.2.2.1 = 2 := by subst hV; rfl
  clear hV
  refine a_aload_n hb dX12_beat_0 rfl 0 rfl ?_
  refine a_callV hb dX12_beat_1 (by rw [hg]; exact w_isLaw g h B hL) (by rw [ow]; exact clv_RX12_152) (hL.1 51 (by decide)) (by decide) rfl rfl rfl (Nat.le_of_ble_eq_true rfl) (by rw [hr]; exact ⟨by decide, by decide⟩) (by rw [hr]; exact ⟨Nat.le_of_ble_eq_true rfl, Nat.le_of_ble_eq_true rfl⟩) ?_
  intro rv h' hp
  rw [hp.1, hp.2]
  show AW V 0 0 h 4 [(0, .ref (B + 51)), (1, .int t)] [.int (b2i (!decide (hI h (B + 52) 8 = -1)))]
  refine a_if_eq hb 14 dX12_beat_4 (by decide) (fun c4 => ?_) (fun c4 => absurd (by simp [b2i, hnl]) c4)
  refine a_ldc2 (v := (-9223372036854775808)) hb dX12_beat_14 (by rw [ow]; exact kw_1258) ?_
  exact a_lreturn hb hz dX12_beat_17 hret (by rw [hr]; exact Nat.le_of_ble_eq_true rfl) (by rw [hr]; exact Nat.le_of_ble_eq_true rfl) (⟨rfl, rfl⟩)
set_option maxRecDepth 100000 in
theorem n_first (g : GG) (h : AH) (B : Nat) (hL : LY h B) (hnl : hI h (B + 52) 8 = -1) (c : Int32) : AM g 3 0 0 mX12_first [.ref (B + 51), .int c] h (fun rv h' => rv = some (.int (-1)) ∧ h' = h) := by
  refine AM.of [(0, .ref (B + 51)), (1, .int c)] (by decide) (Nat.le_of_ble_eq_true rfl) rfl ?_
  intro V hV
  have hb : V.2.1.2.1 = cX12_first := by subst hV; rfl
  have ow : V.2.1.1.cls = RX12 := by subst hV; rfl
  have hr : V.2.2.1 = aw_rm 3 0 0 := by subst hV; rfl
  have hz : V.2.2.2 = aw_Z V.1 (fun rv h' => rv = some (.int (-1)) ∧ h' = h) V.2.2.1 := by subst hV; rfl
  have hg : V.1 = g := by subst hV; rfl
  have hret : V.2.1.2.2.2 = (some .int) := by subst hV; rfl
  have hml : V.2.1.2.2.1 = 2 := by subst hV; rfl
  clear hV
  refine a_aload_n hb dX12_first_0 rfl 0 rfl ?_
  refine a_callV hb dX12_first_1 (by rw [hg]; exact w_isLaw g h B hL) (by rw [ow]; exact clv_RX12_152) (hL.1 51 (by decide)) (by decide) rfl rfl rfl (Nat.le_of_ble_eq_true rfl) (by rw [hr]; exact ⟨by decide, by decide⟩) (by rw [hr]; exact ⟨Nat.le_of_ble_eq_true rfl, Nat.le_of_ble_eq_true rfl⟩) ?_
  intro rv h' hp
  rw [hp.1, hp.2]
  show AW V 0 0 h 4 [(0, .ref (B + 51)), (1, .int c)] [.int (b2i (!decide (hI h (B + 52) 8 = -1)))]
  refine a_if_ne hb 9 dX12_first_4 (by decide) (fun c4 => absurd c4 (by simp [b2i, hnl])) (fun c4 => ?_)
  refine a_iconst (v := (-1)) hb dX12_first_7 (by decide) ?_
  exact a_ireturn (ty := .int) hb hz dX12_first_8 hret rfl (by rw [hr]; exact Nat.le_of_ble_eq_true rfl) (by rw [hr]; exact Nat.le_of_ble_eq_true rfl) (⟨rfl, rfl⟩)
set_option maxRecDepth 100000 in
theorem n_wave (g : GG) (h : AH) (B : Nat) (hL : LY h B) (hnl : hI h (B + 52) 8 = -1) (x : Int32) : AM g 3 0 0 mX12_wave [.ref (B + 51), .int x] h (fun rv h' => rv = some (.long (-9223372036854775808)) ∧ h' = h) := by
  refine AM.of [(0, .ref (B + 51)), (1, .int x)] (by decide) (Nat.le_of_ble_eq_true rfl) rfl ?_
  intro V hV
  have hb : V.2.1.2.1 = cX12_wave := by subst hV; rfl
  have ow : V.2.1.1.cls = RX12 := by subst hV; rfl
  have hr : V.2.2.1 = aw_rm 3 0 0 := by subst hV; rfl
  have hz : V.2.2.2 = aw_Z V.1 (fun rv h' => rv = some (.long (-9223372036854775808)) ∧ h' = h) V.2.2.1 := by subst hV; rfl
  have hg : V.1 = g := by subst hV; rfl
  have hret : V.2.1.2.2.2 = (some .long) := by subst hV; rfl
  have hml : V.2.1.2.2.1 = 7 := by subst hV; rfl
  clear hV
  refine a_aload_n hb dX12_wave_0 rfl 0 rfl ?_
  refine a_callV hb dX12_wave_1 (by rw [hg]; exact w_isLaw g h B hL) (by rw [ow]; exact clv_RX12_152) (hL.1 51 (by decide)) (by decide) rfl rfl rfl (Nat.le_of_ble_eq_true rfl) (by rw [hr]; exact ⟨by decide, by decide⟩) (by rw [hr]; exact ⟨Nat.le_of_ble_eq_true rfl, Nat.le_of_ble_eq_true rfl⟩) ?_
  intro rv h' hp
  rw [hp.1, hp.2]
  show AW V 0 0 h 4 [(0, .ref (B + 51)), (1, .int x)] [.int (b2i (!decide (hI h (B + 52) 8 = -1)))]
  refine a_if_eq hb 16 dX12_wave_4 (by decide) (fun c4 => ?_) (fun c4 => absurd (by simp [b2i, hnl]) c4)
  refine a_ldc2 (v := (-9223372036854775808)) hb dX12_wave_16 (by rw [ow]; exact kw_1258) ?_
  exact a_lreturn hb hz dX12_wave_19 hret (by rw [hr]; exact Nat.le_of_ble_eq_true rfl) (by rw [hr]; exact Nat.le_of_ble_eq_true rfl) (⟨rfl, rfl⟩)
set_option maxRecDepth 100000 in
theorem n_inertia (g : GG) (h : AH) (B : Nat) (hL : LY h B) (hnl : hI h (B + 52) 8 = -1) (c : Int32) : AM g 3 0 0 mX12_inertia [.ref (B + 51), .int c] h (fun rv h' => rv = some (.int (-1)) ∧ h' = h) := by
  refine AM.of [(0, .ref (B + 51)), (1, .int c)] (by decide) (Nat.le_of_ble_eq_true rfl) rfl ?_
  intro V hV
  have hb : V.2.1.2.1 = cX12_inertia := by subst hV; rfl
  have ow : V.2.1.1.cls = RX12 := by subst hV; rfl
  have hr : V.2.2.1 = aw_rm 3 0 0 := by subst hV; rfl
  have hz : V.2.2.2 = aw_Z V.1 (fun rv h' => rv = some (.int (-1)) ∧ h' = h) V.2.2.1 := by subst hV; rfl
  have hg : V.1 = g := by subst hV; rfl
  have hret : V.2.1.2.2.2 = (some .int) := by subst hV; rfl
  have hml : V.2.1.2.2.1 = 3 := by subst hV; rfl
  clear hV
  refine a_aload_n hb dX12_inertia_0 rfl 0 rfl ?_
  refine a_callV hb dX12_inertia_1 (by rw [hg]; exact w_isLaw g h B hL) (by rw [ow]; exact clv_RX12_152) (hL.1 51 (by decide)) (by decide) rfl rfl rfl (Nat.le_of_ble_eq_true rfl) (by rw [hr]; exact ⟨by decide, by decide⟩) (by rw [hr]; exact ⟨Nat.le_of_ble_eq_true rfl, Nat.le_of_ble_eq_true rfl⟩) ?_
  intro rv h' hp
  rw [hp.1, hp.2]
  show AW V 0 0 h 4 [(0, .ref (B + 51)), (1, .int c)] [.int (b2i (!decide (hI h (B + 52) 8 = -1)))]
  refine a_if_ne hb 9 dX12_inertia_4 (by decide) (fun c4 => absurd c4 (by simp [b2i, hnl])) (fun c4 => ?_)
  refine a_iconst (v := (-1)) hb dX12_inertia_7 (by decide) ?_
  exact a_ireturn (ty := .int) hb hz dX12_inertia_8 hret rfl (by rw [hr]; exact Nat.le_of_ble_eq_true rfl) (by rw [hr]; exact Nat.le_of_ble_eq_true rfl) (⟨rfl, rfl⟩)
set_option maxRecDepth 100000 in
theorem n_best (g : GG) (h : AH) (B : Nat) (hL : LY h B) (hnl : hI h (B + 52) 8 = -1) (w c x : Int32) : AM g 3 0 0 mX12_best [.ref (B + 51), .int w, .int c, .int x] h (fun rv h' => rv = some (.int (-1)) ∧ h' = h) := by
  refine AM.of [(0, .ref (B + 51)), (1, .int w), (2, .int c), (3, .int x)] (by decide) (Nat.le_of_ble_eq_true rfl) rfl ?_
  intro V hV
  have hb : V.2.1.2.1 = cX12_best := by subst hV; rfl
  have ow : V.2.1.1.cls = RX12 := by subst hV; rfl
  have hr : V.2.2.1 = aw_rm 3 0 0 := by subst hV; rfl
  have hz : V.2.2.2 = aw_Z V.1 (fun rv h' => rv = some (.int (-1)) ∧ h' = h) V.2.2.1 := by subst hV; rfl
  have hg : V.1 = g := by subst hV; rfl
  have hret : V.2.1.2.2.2 = (some .int) := by subst hV; rfl
  have hml : V.2.1.2.2.1 = 13 := by subst hV; rfl
  clear hV
  refine a_aload_n hb dX12_best_0 rfl 0 rfl ?_
  refine a_iload_n hb dX12_best_1 rfl 1 rfl ?_
  refine a_callV hb dX12_best_2 (by rw [hg]; exact w_isWork g h B hL w) (by rw [ow]; exact clv_RX12_160) (hL.1 51 (by decide)) (by decide) rfl rfl rfl (Nat.le_of_ble_eq_true rfl) (by rw [hr]; exact ⟨by decide, by decide⟩) (by rw [hr]; exact ⟨Nat.le_of_ble_eq_true rfl, Nat.le_of_ble_eq_true rfl⟩) ?_
  intro rv h' hp
  rw [hp.1, hp.2]
  show AW V 0 0 h 5 [(0, .ref (B + 51)), (1, .int w), (2, .int c), (3, .int x)] [.int (b2i (!oO w 0 (hI h (B + 52) 1 - 1)))]
  refine a_if_eq hb 24 dX12_best_5 (by decide) (fun c5 => ?_) (fun c5 => ?_)
  · simp [b2i_0] at c5
    refine a_iconst (v := (-1)) hb dX12_best_24 (by decide) ?_
    exact a_ireturn (ty := .int) hb hz dX12_best_25 hret rfl (by rw [hr]; exact Nat.le_of_ble_eq_true rfl) (by rw [hr]; exact Nat.le_of_ble_eq_true rfl) (⟨rfl, rfl⟩)
  · simp [b2i_0] at c5
    refine a_iload_n hb dX12_best_8 rfl 3 rfl ?_
    refine a_iconst (v := 0) hb dX12_best_9 (by decide) ?_
    refine a_iconst (v := 2) hb dX12_best_10 (by decide) ?_
    refine a_callS hb dX12_best_11 (by rw [hg]; exact w_in g h x 0 2) (by rw [ow]; exact cls_RX12_48) rfl rfl (Nat.le_of_ble_eq_true rfl) (by rw [hr]; exact ⟨by decide, by decide⟩) (by rw [hr]; exact ⟨Nat.le_of_ble_eq_true rfl, Nat.le_of_ble_eq_true rfl⟩) ?_
    intro rv h' hp
    rw [hp.1, hp.2]
    show AW V 0 0 h 14 [(0, .ref (B + 51)), (1, .int w), (2, .int c), (3, .int x)] [.int (b2i (!oO x 0 2))]
    refine a_if_eq hb 24 dX12_best_14 (by decide) (fun c14 => ?_) (fun c14 => ?_)
    · simp [b2i_0] at c14
      refine a_iconst (v := (-1)) hb dX12_best_24 (by decide) ?_
      exact a_ireturn (ty := .int) hb hz dX12_best_25 hret rfl (by rw [hr]; exact Nat.le_of_ble_eq_true rfl) (by rw [hr]; exact Nat.le_of_ble_eq_true rfl) (⟨rfl, rfl⟩)
    · simp [b2i_0] at c14
      refine a_aload_n hb dX12_best_17 rfl 0 rfl ?_
      refine a_callV hb dX12_best_18 (by rw [hg]; exact w_isLaw g h B hL) (by rw [ow]; exact clv_RX12_152) (hL.1 51 (by decide)) (by decide) rfl rfl rfl (Nat.le_of_ble_eq_true rfl) (by rw [hr]; exact ⟨by decide, by decide⟩) (by rw [hr]; exact ⟨Nat.le_of_ble_eq_true rfl, Nat.le_of_ble_eq_true rfl⟩) ?_
      intro rv h' hp
      rw [hp.1, hp.2]
      show AW V 0 0 h 21 [(0, .ref (B + 51)), (1, .int w), (2, .int c), (3, .int x)] [.int (b2i (!decide (hI h (B + 52) 8 = -1)))]
      refine a_if_ne hb 26 dX12_best_21 (by decide) (fun c21 => absurd c21 (by simp [b2i, hnl])) (fun c21 => ?_)
      refine a_iconst (v := (-1)) hb dX12_best_24 (by decide) ?_
      exact a_ireturn (ty := .int) hb hz dX12_best_25 hret rfl (by rw [hr]; exact Nat.le_of_ble_eq_true rfl) (by rw [hr]; exact Nat.le_of_ble_eq_true rfl) (⟨rfl, rfl⟩)
set_option maxRecDepth 100000 in
theorem n_sure (g : GG) (h : AH) (B : Nat) (hL : LY h B) (hnl : hI h (B + 52) 8 = -1) (c x : Int32) : AM g 3 0 0 mX12_sure [.ref (B + 51), .int c, .int x] h (fun rv h' => rv = some (.long (-9223372036854775808)) ∧ h' = h) := by
  refine AM.of [(0, .ref (B + 51)), (1, .int c), (2, .int x)] (by decide) (Nat.le_of_ble_eq_true rfl) rfl ?_
  intro V hV
  have hb : V.2.1.2.1 = cX12_sure := by subst hV; rfl
  have ow : V.2.1.1.cls = RX12 := by subst hV; rfl
  have hr : V.2.2.1 = aw_rm 3 0 0 := by subst hV; rfl
  have hz : V.2.2.2 = aw_Z V.1 (fun rv h' => rv = some (.long (-9223372036854775808)) ∧ h' = h) V.2.2.1 := by subst hV; rfl
  have hg : V.1 = g := by subst hV; rfl
  have hret : V.2.1.2.2.2 = (some .long) := by subst hV; rfl
  have hml : V.2.1.2.2.1 = 3 := by subst hV; rfl
  clear hV
  refine a_aload_n hb dX12_sure_0 rfl 0 rfl ?_
  refine a_callV hb dX12_sure_1 (by rw [hg]; exact w_isLaw g h B hL) (by rw [ow]; exact clv_RX12_152) (hL.1 51 (by decide)) (by decide) rfl rfl rfl (Nat.le_of_ble_eq_true rfl) (by rw [hr]; exact ⟨by decide, by decide⟩) (by rw [hr]; exact ⟨Nat.le_of_ble_eq_true rfl, Nat.le_of_ble_eq_true rfl⟩) ?_
  intro rv h' hp
  rw [hp.1, hp.2]
  show AW V 0 0 h 4 [(0, .ref (B + 51)), (1, .int c), (2, .int x)] [.int (b2i (!decide (hI h (B + 52) 8 = -1)))]
  refine a_if_eq hb 31 dX12_sure_4 (by decide) (fun c4 => ?_) (fun c4 => absurd (by simp [b2i, hnl]) c4)
  refine a_ldc2 (v := (-9223372036854775808)) hb dX12_sure_31 (by rw [ow]; exact kw_1258) ?_
  exact a_lreturn hb hz dX12_sure_34 hret (by rw [hr]; exact Nat.le_of_ble_eq_true rfl) (by rw [hr]; exact Nat.le_of_ble_eq_true rfl) (⟨rfl, rfl⟩)
set_option maxRecDepth 100000 in
theorem n_worst (g : GG) (h : AH) (B : Nat) (hL : LY h B) (hnl : hI h (B + 52) 8 = -1) (c x : Int32) : AM g 3 0 0 mX12_worst [.ref (B + 51), .int c, .int x] h (fun rv h' => rv = some (.int (-1)) ∧ h' = h) := by
  refine AM.of [(0, .ref (B + 51)), (1, .int c), (2, .int x)] (by decide) (Nat.le_of_ble_eq_true rfl) rfl ?_
  intro V hV
  have hb : V.2.1.2.1 = cX12_worst := by subst hV; rfl
  have ow : V.2.1.1.cls = RX12 := by subst hV; rfl
  have hr : V.2.2.1 = aw_rm 3 0 0 := by subst hV; rfl
  have hz : V.2.2.2 = aw_Z V.1 (fun rv h' => rv = some (.int (-1)) ∧ h' = h) V.2.2.1 := by subst hV; rfl
  have hg : V.1 = g := by subst hV; rfl
  have hret : V.2.1.2.2.2 = (some .int) := by subst hV; rfl
  have hml : V.2.1.2.2.1 = 3 := by subst hV; rfl
  clear hV
  refine a_iload_n hb dX12_worst_0 rfl 2 rfl ?_
  refine a_iconst (v := 0) hb dX12_worst_1 (by decide) ?_
  refine a_iconst (v := 1) hb dX12_worst_2 (by decide) ?_
  refine a_callS hb dX12_worst_3 (by rw [hg]; exact w_in g h x 0 1) (by rw [ow]; exact cls_RX12_48) rfl rfl (Nat.le_of_ble_eq_true rfl) (by rw [hr]; exact ⟨by decide, by decide⟩) (by rw [hr]; exact ⟨Nat.le_of_ble_eq_true rfl, Nat.le_of_ble_eq_true rfl⟩) ?_
  intro rv h' hp
  rw [hp.1, hp.2]
  show AW V 0 0 h 6 [(0, .ref (B + 51)), (1, .int c), (2, .int x)] [.int (b2i (!oO x 0 1))]
  refine a_if_eq hb 16 dX12_worst_6 (by decide) (fun c6 => ?_) (fun c6 => ?_)
  · simp [b2i_0] at c6
    refine a_iconst (v := (-1)) hb dX12_worst_16 (by decide) ?_
    exact a_ireturn (ty := .int) hb hz dX12_worst_17 hret rfl (by rw [hr]; exact Nat.le_of_ble_eq_true rfl) (by rw [hr]; exact Nat.le_of_ble_eq_true rfl) (⟨rfl, rfl⟩)
  · simp [b2i_0] at c6
    refine a_aload_n hb dX12_worst_9 rfl 0 rfl ?_
    refine a_callV hb dX12_worst_10 (by rw [hg]; exact w_isLaw g h B hL) (by rw [ow]; exact clv_RX12_152) (hL.1 51 (by decide)) (by decide) rfl rfl rfl (Nat.le_of_ble_eq_true rfl) (by rw [hr]; exact ⟨by decide, by decide⟩) (by rw [hr]; exact ⟨Nat.le_of_ble_eq_true rfl, Nat.le_of_ble_eq_true rfl⟩) ?_
    intro rv h' hp
    rw [hp.1, hp.2]
    show AW V 0 0 h 13 [(0, .ref (B + 51)), (1, .int c), (2, .int x)] [.int (b2i (!decide (hI h (B + 52) 8 = -1)))]
    refine a_if_ne hb 18 dX12_worst_13 (by decide) (fun c13 => absurd c13 (by simp [b2i, hnl])) (fun c13 => ?_)
    refine a_iconst (v := (-1)) hb dX12_worst_16 (by decide) ?_
    exact a_ireturn (ty := .int) hb hz dX12_worst_17 hret rfl (by rw [hr]; exact Nat.le_of_ble_eq_true rfl) (by rw [hr]; exact Nat.le_of_ble_eq_true rfl) (⟨rfl, rfl⟩)
set_option maxRecDepth 100000 in
theorem n_beside (g : GG) (h : AH) (B : Nat) (hL : LY h B) (hnl : hI h (B + 52) 8 = -1) (w r mm c : Int32) : AM g 3 0 0 mX12_beside [.ref (B + 51), .int w, .int r, .int mm, .int c] h (fun rv h' => rv = some (.int (-1)) ∧ h' = h) := by
  refine AM.of [(0, .ref (B + 51)), (1, .int w), (2, .int r), (3, .int mm), (4, .int c)] (by decide) (Nat.le_of_ble_eq_true rfl) rfl ?_
  intro V hV
  have hb : V.2.1.2.1 = cX12_beside := by subst hV; rfl
  have ow : V.2.1.1.cls = RX12 := by subst hV; rfl
  have hr : V.2.2.1 = aw_rm 3 0 0 := by subst hV; rfl
  have hz : V.2.2.2 = aw_Z V.1 (fun rv h' => rv = some (.int (-1)) ∧ h' = h) V.2.2.1 := by subst hV; rfl
  have hg : V.1 = g := by subst hV; rfl
  have hret : V.2.1.2.2.2 = (some .int) := by subst hV; rfl
  have hml : V.2.1.2.2.1 = 13 := by subst hV; rfl
  clear hV
  refine a_aload_n hb dX12_beside_0 rfl 0 rfl ?_
  refine a_iload_n hb dX12_beside_1 rfl 1 rfl ?_
  refine a_callV hb dX12_beside_2 (by rw [hg]; exact w_isWork g h B hL w) (by rw [ow]; exact clv_RX12_160) (hL.1 51 (by decide)) (by decide) rfl rfl rfl (Nat.le_of_ble_eq_true rfl) (by rw [hr]; exact ⟨by decide, by decide⟩) (by rw [hr]; exact ⟨Nat.le_of_ble_eq_true rfl, Nat.le_of_ble_eq_true rfl⟩) ?_
  intro rv h' hp
  rw [hp.1, hp.2]
  show AW V 0 0 h 5 [(0, .ref (B + 51)), (1, .int w), (2, .int r), (3, .int mm), (4, .int c)] [.int (b2i (!oO w 0 (hI h (B + 52) 1 - 1)))]
  refine a_if_eq hb 15 dX12_beside_5 (by decide) (fun c5 => ?_) (fun c5 => ?_)
  · simp [b2i_0] at c5
    refine a_iconst (v := (-1)) hb dX12_beside_15 (by decide) ?_
    exact a_ireturn (ty := .int) hb hz dX12_beside_16 hret rfl (by rw [hr]; exact Nat.le_of_ble_eq_true rfl) (by rw [hr]; exact Nat.le_of_ble_eq_true rfl) (⟨rfl, rfl⟩)
  · simp [b2i_0] at c5
    refine a_aload_n hb dX12_beside_8 rfl 0 rfl ?_
    refine a_callV hb dX12_beside_9 (by rw [hg]; exact w_isLaw g h B hL) (by rw [ow]; exact clv_RX12_152) (hL.1 51 (by decide)) (by decide) rfl rfl rfl (Nat.le_of_ble_eq_true rfl) (by rw [hr]; exact ⟨by decide, by decide⟩) (by rw [hr]; exact ⟨Nat.le_of_ble_eq_true rfl, Nat.le_of_ble_eq_true rfl⟩) ?_
    intro rv h' hp
    rw [hp.1, hp.2]
    show AW V 0 0 h 12 [(0, .ref (B + 51)), (1, .int w), (2, .int r), (3, .int mm), (4, .int c)] [.int (b2i (!decide (hI h (B + 52) 8 = -1)))]
    refine a_if_ne hb 17 dX12_beside_12 (by decide) (fun c12 => absurd c12 (by simp [b2i, hnl])) (fun c12 => ?_)
    refine a_iconst (v := (-1)) hb dX12_beside_15 (by decide) ?_
    exact a_ireturn (ty := .int) hb hz dX12_beside_16 hret rfl (by rw [hr]; exact Nat.le_of_ble_eq_true rfl) (by rw [hr]; exact Nat.le_of_ble_eq_true rfl) (⟨rfl, rfl⟩)
set_option maxRecDepth 100000 in
theorem n_pump (g : GG) (h : AH) (B : Nat) (hL : LY h B) (hnl : hI h (B + 52) 8 = -1) (p k : Int32) : AM g 3 0 0 mX12_pump [.ref (B + 51), .int p, .int k] h (fun rv h' => rv = some (.int (-1)) ∧ h' = h) := by
  refine AM.of [(0, .ref (B + 51)), (1, .int p), (2, .int k)] (by decide) (Nat.le_of_ble_eq_true rfl) rfl ?_
  intro V hV
  have hb : V.2.1.2.1 = cX12_pump := by subst hV; rfl
  have ow : V.2.1.1.cls = RX12 := by subst hV; rfl
  have hr : V.2.2.1 = aw_rm 3 0 0 := by subst hV; rfl
  have hz : V.2.2.2 = aw_Z V.1 (fun rv h' => rv = some (.int (-1)) ∧ h' = h) V.2.2.1 := by subst hV; rfl
  have hg : V.1 = g := by subst hV; rfl
  have hret : V.2.1.2.2.2 = (some .int) := by subst hV; rfl
  have hml : V.2.1.2.2.1 = 8 := by subst hV; rfl
  clear hV
  refine a_iload_n hb dX12_pump_0 rfl 1 rfl ?_
  refine a_iconst (v := 0) hb dX12_pump_1 (by decide) ?_
  refine a_bipush (v := 9) hb dX12_pump_2 (by decide) ?_
  refine a_callS hb dX12_pump_4 (by rw [hg]; exact w_in g h p 0 9) (by rw [ow]; exact cls_RX12_48) rfl rfl (Nat.le_of_ble_eq_true rfl) (by rw [hr]; exact ⟨by decide, by decide⟩) (by rw [hr]; exact ⟨Nat.le_of_ble_eq_true rfl, Nat.le_of_ble_eq_true rfl⟩) ?_
  intro rv h' hp
  rw [hp.1, hp.2]
  show AW V 0 0 h 7 [(0, .ref (B + 51)), (1, .int p), (2, .int k)] [.int (b2i (!oO p 0 9))]
  refine a_if_eq hb 17 dX12_pump_7 (by decide) (fun c7 => ?_) (fun c7 => ?_)
  · simp [b2i_0] at c7
    refine a_iconst (v := (-1)) hb dX12_pump_17 (by decide) ?_
    exact a_ireturn (ty := .int) hb hz dX12_pump_18 hret rfl (by rw [hr]; exact Nat.le_of_ble_eq_true rfl) (by rw [hr]; exact Nat.le_of_ble_eq_true rfl) (⟨rfl, rfl⟩)
  · simp [b2i_0] at c7
    refine a_aload_n hb dX12_pump_10 rfl 0 rfl ?_
    refine a_callV hb dX12_pump_11 (by rw [hg]; exact w_isLaw g h B hL) (by rw [ow]; exact clv_RX12_152) (hL.1 51 (by decide)) (by decide) rfl rfl rfl (Nat.le_of_ble_eq_true rfl) (by rw [hr]; exact ⟨by decide, by decide⟩) (by rw [hr]; exact ⟨Nat.le_of_ble_eq_true rfl, Nat.le_of_ble_eq_true rfl⟩) ?_
    intro rv h' hp
    rw [hp.1, hp.2]
    show AW V 0 0 h 14 [(0, .ref (B + 51)), (1, .int p), (2, .int k)] [.int (b2i (!decide (hI h (B + 52) 8 = -1)))]
    refine a_if_ne hb 19 dX12_pump_14 (by decide) (fun c14 => absurd c14 (by simp [b2i, hnl])) (fun c14 => ?_)
    refine a_iconst (v := (-1)) hb dX12_pump_17 (by decide) ?_
    exact a_ireturn (ty := .int) hb hz dX12_pump_18 hret rfl (by rw [hr]; exact Nat.le_of_ble_eq_true rfl) (by rw [hr]; exact Nat.le_of_ble_eq_true rfl) (⟨rfl, rfl⟩)
set_option maxRecDepth 100000 in
theorem n_watched (g : GG) (h : AH) (B : Nat) (hL : LY h B) (hnl : hI h (B + 52) 8 = -1) (t x : Int32) : AM g 3 0 0 mX12_watched [.ref (B + 51), .int t, .int x] h (fun rv h' => rv = some (.int (-1)) ∧ h' = h) := by
  refine AM.of [(0, .ref (B + 51)), (1, .int t), (2, .int x)] (by decide) (Nat.le_of_ble_eq_true rfl) rfl ?_
  intro V hV
  have hb : V.2.1.2.1 = cX12_watched := by subst hV; rfl
  have ow : V.2.1.1.cls = RX12 := by subst hV; rfl
  have hr : V.2.2.1 = aw_rm 3 0 0 := by subst hV; rfl
  have hz : V.2.2.2 = aw_Z V.1 (fun rv h' => rv = some (.int (-1)) ∧ h' = h) V.2.2.1 := by subst hV; rfl
  have hg : V.1 = g := by subst hV; rfl
  have hret : V.2.1.2.2.2 = (some .int) := by subst hV; rfl
  have hml : V.2.1.2.2.1 = 8 := by subst hV; rfl
  clear hV
  refine a_iload_n hb dX12_watched_0 rfl 2 rfl ?_
  refine a_iconst (v := 0) hb dX12_watched_1 (by decide) ?_
  refine a_iconst (v := 1) hb dX12_watched_2 (by decide) ?_
  refine a_callS hb dX12_watched_3 (by rw [hg]; exact w_in g h x 0 1) (by rw [ow]; exact cls_RX12_48) rfl rfl (Nat.le_of_ble_eq_true rfl) (by rw [hr]; exact ⟨by decide, by decide⟩) (by rw [hr]; exact ⟨Nat.le_of_ble_eq_true rfl, Nat.le_of_ble_eq_true rfl⟩) ?_
  intro rv h' hp
  rw [hp.1, hp.2]
  show AW V 0 0 h 6 [(0, .ref (B + 51)), (1, .int t), (2, .int x)] [.int (b2i (!oO x 0 1))]
  refine a_if_eq hb 16 dX12_watched_6 (by decide) (fun c6 => ?_) (fun c6 => ?_)
  · simp [b2i_0] at c6
    refine a_iconst (v := (-1)) hb dX12_watched_16 (by decide) ?_
    exact a_ireturn (ty := .int) hb hz dX12_watched_17 hret rfl (by rw [hr]; exact Nat.le_of_ble_eq_true rfl) (by rw [hr]; exact Nat.le_of_ble_eq_true rfl) (⟨rfl, rfl⟩)
  · simp [b2i_0] at c6
    refine a_aload_n hb dX12_watched_9 rfl 0 rfl ?_
    refine a_callV hb dX12_watched_10 (by rw [hg]; exact w_isLaw g h B hL) (by rw [ow]; exact clv_RX12_152) (hL.1 51 (by decide)) (by decide) rfl rfl rfl (Nat.le_of_ble_eq_true rfl) (by rw [hr]; exact ⟨by decide, by decide⟩) (by rw [hr]; exact ⟨Nat.le_of_ble_eq_true rfl, Nat.le_of_ble_eq_true rfl⟩) ?_
    intro rv h' hp
    rw [hp.1, hp.2]
    show AW V 0 0 h 13 [(0, .ref (B + 51)), (1, .int t), (2, .int x)] [.int (b2i (!decide (hI h (B + 52) 8 = -1)))]
    refine a_if_ne hb 18 dX12_watched_13 (by decide) (fun c13 => absurd c13 (by simp [b2i, hnl])) (fun c13 => ?_)
    refine a_iconst (v := (-1)) hb dX12_watched_16 (by decide) ?_
    exact a_ireturn (ty := .int) hb hz dX12_watched_17 hret rfl (by rw [hr]; exact Nat.le_of_ble_eq_true rfl) (by rw [hr]; exact Nat.le_of_ble_eq_true rfl) (⟨rfl, rfl⟩)
set_option maxRecDepth 100000 in
theorem n_waits (g : GG) (h : AH) (B : Nat) (hL : LY h B) (hnl : hI h (B + 52) 8 = -1) (a b x : Int32) : AM g 3 0 0 mX12_waits [.ref (B + 51), .int a, .int b, .int x] h (fun rv h' => rv = some (.int (-1)) ∧ h' = h) := by
  refine AM.of [(0, .ref (B + 51)), (1, .int a), (2, .int b), (3, .int x)] (by decide) (Nat.le_of_ble_eq_true rfl) rfl ?_
  intro V hV
  have hb : V.2.1.2.1 = cX12_waits := by subst hV; rfl
  have ow : V.2.1.1.cls = RX12 := by subst hV; rfl
  have hr : V.2.2.1 = aw_rm 3 0 0 := by subst hV; rfl
  have hz : V.2.2.2 = aw_Z V.1 (fun rv h' => rv = some (.int (-1)) ∧ h' = h) V.2.2.1 := by subst hV; rfl
  have hg : V.1 = g := by subst hV; rfl
  have hret : V.2.1.2.2.2 = (some .int) := by subst hV; rfl
  have hml : V.2.1.2.2.1 = 9 := by subst hV; rfl
  clear hV
  refine a_aload_n hb dX12_waits_0 rfl 0 rfl ?_
  refine a_iload_n hb dX12_waits_1 rfl 1 rfl ?_
  refine a_callV hb dX12_waits_2 (by rw [hg]; exact w_isBreak g h B hL a) (by rw [ow]; exact clv_RX12_56) (hL.1 51 (by decide)) (by decide) rfl rfl rfl (Nat.le_of_ble_eq_true rfl) (by rw [hr]; exact ⟨by decide, by decide⟩) (by rw [hr]; exact ⟨Nat.le_of_ble_eq_true rfl, Nat.le_of_ble_eq_true rfl⟩) ?_
  intro rv h' hp
  rw [hp.1, hp.2]
  show AW V 0 0 h 5 [(0, .ref (B + 51)), (1, .int a), (2, .int b), (3, .int x)] [.int (b2i (!oO a 0 (hI h (B + 52) 0 - 1)))]
  refine a_if_eq hb 32 dX12_waits_5 (by decide) (fun c5 => ?_) (fun c5 => ?_)
  · simp [b2i_0] at c5
    refine a_iconst (v := (-1)) hb dX12_waits_32 (by decide) ?_
    exact a_ireturn (ty := .int) hb hz dX12_waits_33 hret rfl (by rw [hr]; exact Nat.le_of_ble_eq_true rfl) (by rw [hr]; exact Nat.le_of_ble_eq_true rfl) (⟨rfl, rfl⟩)
  · simp [b2i_0] at c5
    refine a_aload_n hb dX12_waits_8 rfl 0 rfl ?_
    refine a_iload_n hb dX12_waits_9 rfl 2 rfl ?_
    refine a_callV hb dX12_waits_10 (by rw [hg]; exact w_isBreak g h B hL b) (by rw [ow]; exact clv_RX12_56) (hL.1 51 (by decide)) (by decide) rfl rfl rfl (Nat.le_of_ble_eq_true rfl) (by rw [hr]; exact ⟨by decide, by decide⟩) (by rw [hr]; exact ⟨Nat.le_of_ble_eq_true rfl, Nat.le_of_ble_eq_true rfl⟩) ?_
    intro rv h' hp
    rw [hp.1, hp.2]
    show AW V 0 0 h 13 [(0, .ref (B + 51)), (1, .int a), (2, .int b), (3, .int x)] [.int (b2i (!oO b 0 (hI h (B + 52) 0 - 1)))]
    refine a_if_eq hb 32 dX12_waits_13 (by decide) (fun c13 => ?_) (fun c13 => ?_)
    · simp [b2i_0] at c13
      refine a_iconst (v := (-1)) hb dX12_waits_32 (by decide) ?_
      exact a_ireturn (ty := .int) hb hz dX12_waits_33 hret rfl (by rw [hr]; exact Nat.le_of_ble_eq_true rfl) (by rw [hr]; exact Nat.le_of_ble_eq_true rfl) (⟨rfl, rfl⟩)
    · simp [b2i_0] at c13
      refine a_iload_n hb dX12_waits_16 rfl 3 rfl ?_
      refine a_iconst (v := 0) hb dX12_waits_17 (by decide) ?_
      refine a_iconst (v := 1) hb dX12_waits_18 (by decide) ?_
      refine a_callS hb dX12_waits_19 (by rw [hg]; exact w_in g h x 0 1) (by rw [ow]; exact cls_RX12_48) rfl rfl (Nat.le_of_ble_eq_true rfl) (by rw [hr]; exact ⟨by decide, by decide⟩) (by rw [hr]; exact ⟨Nat.le_of_ble_eq_true rfl, Nat.le_of_ble_eq_true rfl⟩) ?_
      intro rv h' hp
      rw [hp.1, hp.2]
      show AW V 0 0 h 22 [(0, .ref (B + 51)), (1, .int a), (2, .int b), (3, .int x)] [.int (b2i (!oO x 0 1))]
      refine a_if_eq hb 32 dX12_waits_22 (by decide) (fun c22 => ?_) (fun c22 => ?_)
      · simp [b2i_0] at c22
        refine a_iconst (v := (-1)) hb dX12_waits_32 (by decide) ?_
        exact a_ireturn (ty := .int) hb hz dX12_waits_33 hret rfl (by rw [hr]; exact Nat.le_of_ble_eq_true rfl) (by rw [hr]; exact Nat.le_of_ble_eq_true rfl) (⟨rfl, rfl⟩)
      · simp [b2i_0] at c22
        refine a_aload_n hb dX12_waits_25 rfl 0 rfl ?_
        refine a_callV hb dX12_waits_26 (by rw [hg]; exact w_isLaw g h B hL) (by rw [ow]; exact clv_RX12_152) (hL.1 51 (by decide)) (by decide) rfl rfl rfl (Nat.le_of_ble_eq_true rfl) (by rw [hr]; exact ⟨by decide, by decide⟩) (by rw [hr]; exact ⟨Nat.le_of_ble_eq_true rfl, Nat.le_of_ble_eq_true rfl⟩) ?_
        intro rv h' hp
        rw [hp.1, hp.2]
        show AW V 0 0 h 29 [(0, .ref (B + 51)), (1, .int a), (2, .int b), (3, .int x)] [.int (b2i (!decide (hI h (B + 52) 8 = -1)))]
        refine a_if_ne hb 34 dX12_waits_29 (by decide) (fun c29 => absurd c29 (by simp [b2i, hnl])) (fun c29 => ?_)
        refine a_iconst (v := (-1)) hb dX12_waits_32 (by decide) ?_
        exact a_ireturn (ty := .int) hb hz dX12_waits_33 hret rfl (by rw [hr]; exact Nat.le_of_ble_eq_true rfl) (by rw [hr]; exact Nat.le_of_ble_eq_true rfl) (⟨rfl, rfl⟩)
set_option maxRecDepth 100000 in
theorem m_drawn (g : GG) (h : AH) (B : Nat) (hL : LY h B) (P : PF) (hP : PcM g B h P) (h6 : ¬ hI h (B + 52) 6 = 0) (hl : Nat) (hhl : IX (hI h (B + 52) 8) hl) (lhl : hl < 5) (np : Nat) (hnp : IX (hI h (B + 52) 0) np) (lnp : np ≤ 8) (hla : ¬ hI h (B + 52) 8 = -1) (p t : Int32) : AM g 7 0 0 mX12_drawn [.ref (B + 51), .int p, .int t] h (fun rv h' => rv = some (.int (if oO p 0 (hI h (B + 52) 0 - 1) then -1001 else if oO t 0 39 then -1002 else dwS P (hI h (B + 52)) (hI h (B + 56)) hl t p.toNatClampNeg)) ∧ FR (Am B) h h') := by
  refine AM.of [(0, .ref (B + 51)), (1, .int p), (2, .int t)] (by decide) (Nat.le_of_ble_eq_true rfl) rfl ?_
  intro V hV
  have hb : V.2.1.2.1 = cX12_drawn := by subst hV; rfl
  have ow : V.2.1.1.cls = RX12 := by subst hV; rfl
  have hr : V.2.2.1 = aw_rm 7 0 0 := by subst hV; rfl
  have hz : V.2.2.2 = aw_Z V.1 (fun rv h' => rv = some (.int (if oO p 0 (hI h (B + 52) 0 - 1) then -1001 else if oO t 0 39 then -1002 else dwS P (hI h (B + 52)) (hI h (B + 56)) hl t p.toNatClampNeg)) ∧ FR (Am B) h h') V.2.2.1 := by subst hV; rfl
  have hg : V.1 = g := by subst hV; rfl
  have hret : V.2.1.2.2.2 = (some .int) := by subst hV; rfl
  have hml : V.2.1.2.2.1 = 3 := by subst hV; rfl
  clear hV
  refine a_aload_n hb dX12_drawn_0 rfl 0 rfl ?_
  refine a_iload_n hb dX12_drawn_1 rfl 1 rfl ?_
  refine a_callV hb dX12_drawn_2 (by rw [hg]; exact w_isBreak g h B hL p) (by rw [ow]; exact clv_RX12_56) (hL.1 51 (by decide)) (by decide) rfl rfl rfl (Nat.le_of_ble_eq_true rfl) (by rw [hr]; exact ⟨by decide, by decide⟩) (by rw [hr]; exact ⟨Nat.le_of_ble_eq_true rfl, Nat.le_of_ble_eq_true rfl⟩) ?_
  intro rv h' hp
  rw [hp.1, hp.2]
  show AW V 0 0 h 5 [(0, .ref (B + 51)), (1, .int p), (2, .int t)] [.int (b2i (!oO p 0 (hI h (B + 52) 0 - 1)))]
  refine a_if_eq hb 15 dX12_drawn_5 (by decide) (fun c5 => ?_) (fun c5 => ?_)
  · simp [b2i_0] at c5
    refine a_sipush (v := (-1001)) hb dX12_drawn_15 (by decide) ?_
    exact a_ireturn (ty := .int) hb hz dX12_drawn_18 hret rfl (by rw [hr]; exact Nat.le_of_ble_eq_true rfl) (by rw [hr]; exact Nat.le_of_ble_eq_true rfl) (⟨by first | (simp [*]; done) | (simp_all; done), FR.rf⟩)
  · simp [b2i_0] at c5
    obtain ⟨ix_p, lt_p⟩ : IX p p.toNatClampNeg ∧ p.toNatClampNeg < np := oO_lt hnp c5
    have ep : nI p.toNatClampNeg = p := ix_p.eq.1.symm
    refine a_aload_n hb dX12_drawn_8 rfl 0 rfl ?_
    refine a_callV hb dX12_drawn_9 (by rw [hg]; exact w_isLaw g h B hL) (by rw [ow]; exact clv_RX12_152) (hL.1 51 (by decide)) (by decide) rfl rfl rfl (Nat.le_of_ble_eq_true rfl) (by rw [hr]; exact ⟨by decide, by decide⟩) (by rw [hr]; exact ⟨Nat.le_of_ble_eq_true rfl, Nat.le_of_ble_eq_true rfl⟩) ?_
    intro rv h' hp
    rw [hp.1, hp.2]
    show AW V 0 0 h 12 [(0, .ref (B + 51)), (1, .int p), (2, .int t)] [.int (b2i (!decide (hI h (B + 52) 8 = -1)))]
    refine a_if_ne hb 19 dX12_drawn_12 (by decide) (fun c12 => ?_) (fun c12 => absurd c12 (by simp [b2i, hla]))
    refine a_iload_n hb dX12_drawn_19 rfl 2 rfl ?_
    refine a_callS hb dX12_drawn_20 (by rw [hg]; exact w_isTick g h t) (by rw [ow]; exact cls_RX12_52) rfl rfl (Nat.le_of_ble_eq_true rfl) (by rw [hr]; exact ⟨by decide, by decide⟩) (by rw [hr]; exact ⟨Nat.le_of_ble_eq_true rfl, Nat.le_of_ble_eq_true rfl⟩) ?_
    intro rv h' hp
    rw [hp.1, hp.2]
    show AW V 0 0 h 23 [(0, .ref (B + 51)), (1, .int p), (2, .int t)] [.int (b2i (!oO t 0 39))]
    refine a_if_eq hb 35 dX12_drawn_23 (by decide) (fun c23 => ?_) (fun c23 => ?_)
    · simp [b2i_0] at c23
      refine a_sipush (v := (-1002)) hb dX12_drawn_35 (by decide) ?_
      exact a_ireturn (ty := .int) hb hz dX12_drawn_38 hret rfl (by rw [hr]; exact Nat.le_of_ble_eq_true rfl) (by rw [hr]; exact Nat.le_of_ble_eq_true rfl) (⟨by first | (simp [*]; done) | (simp_all; done), FR.rf⟩)
    · simp [b2i_0] at c23
      refine a_aload_n hb dX12_drawn_26 rfl 0 rfl ?_
      refine a_iload_n hb dX12_drawn_27 rfl 1 rfl ?_
      refine a_iload_n hb dX12_drawn_28 rfl 2 rfl ?_
      refine a_callV hb dX12_drawn_29 (by rw [hg]; have h0 := m_drawnAt g h B hL P hP h6 hl hhl lhl p.toNatClampNeg (by omega) t; rw [ep] at h0; exact h0) (by rw [ow]; exact clv_RX12_148) (hL.1 51 (by decide)) (by decide) rfl rfl rfl (Nat.le_of_ble_eq_true rfl) (by rw [hr]; exact ⟨by decide, by decide⟩) (by rw [hr]; exact ⟨Nat.le_of_ble_eq_true rfl, Nat.le_of_ble_eq_true rfl⟩) ?_
      intro rv h1_ hp
      obtain ⟨hv, hf1⟩ := hp
      rw [hv]
      have hF1 := FR.tr FR.rf hf1
      have hL1 : LY h1_ B := FR.ly hF1 hL
      have hS1_52 : hI h1_ (B + 52) = hI h (B + 52) := hF1.2.2.2.2 _ (by unfold Am; omega)
      have hS1_56 : hI h1_ (B + 56) = hI h (B + 56) := hF1.2.2.2.2 _ (by unfold Am; omega)
      clear hv hf1
      show AW V 0 0 h1_ 32 [(0, .ref (B + 51)), (1, .int p), (2, .int t)] [.int (dwS P (hI h (B + 52)) (hI h (B + 56)) hl t p.toNatClampNeg)]
      refine a_goto hb 38 dX12_drawn_32 (by decide) ?_
      exact a_ireturn (ty := .int) hb hz dX12_drawn_38 hret rfl (by rw [hr]; exact Nat.le_of_ble_eq_true rfl) (by rw [hr]; exact Nat.le_of_ble_eq_true rfl) (⟨by first | (simp [*]; done) | (simp_all; done), hF1⟩)
set_option maxRecDepth 100000 in
theorem m_beat (g : GG) (h : AH) (B : Nat) (hL : LY h B) (P : PF) (hP : PcM g B h P) (h6 : ¬ hI h (B + 52) 6 = 0) (hl : Nat) (hhl : IX (hI h (B + 52) 8) hl) (lhl : hl < 5) (np : Nat) (hnp : IX (hI h (B + 52) 0) np) (lnp : np ≤ 8) (n : Nat) (hn : IX (hI h (B + 52) 1) n) (ln : n ≤ 5) (h7 : ¬ (hI h (B + 52) 7).toInt64 = 0) (hla : ¬ hI h (B + 52) 8 = -1) (t : Int32) : AM g 9 0 0 mX12_beat [.ref (B + 51), .int t] h (fun rv h' => rv = some (.long (if oO t 0 39 then (-9223372036854775808) else btS (fun t => mdB (hI h (B + 52)) (-1) (nI t) n) (fun t => dmS P (hI h (B + 52)) (hI h (B + 56)) hl (nI t) np) (hI h (B + 52) 7) (t.toNatClampNeg + 1))) ∧ FR (Al B) h h') := by
  refine AM.of [(0, .ref (B + 51)), (1, .int t)] (by decide) (Nat.le_of_ble_eq_true rfl) rfl ?_
  intro V hV
  have hb : V.2.1.2.1 = cX12_beat := by subst hV; rfl
  have ow : V.2.1.1.cls = RX12 := by subst hV; rfl
  have hr : V.2.2.1 = aw_rm 9 0 0 := by subst hV; rfl
  have hz : V.2.2.2 = aw_Z V.1 (fun rv h' => rv = some (.long (if oO t 0 39 then (-9223372036854775808) else btS (fun t => mdB (hI h (B + 52)) (-1) (nI t) n) (fun t => dmS P (hI h (B + 52)) (hI h (B + 56)) hl (nI t) np) (hI h (B + 52) 7) (t.toNatClampNeg + 1))) ∧ FR (Al B) h h') V.2.2.1 := by subst hV; rfl
  have hg : V.1 = g := by subst hV; rfl
  have hret : V.2.1.2.2.2 = (some .long) := by subst hV; rfl
  have hml : V.2.1.2.2.1 = 2 := by subst hV; rfl
  clear hV
  refine a_aload_n hb dX12_beat_0 rfl 0 rfl ?_
  refine a_callV hb dX12_beat_1 (by rw [hg]; exact w_isLaw g h B hL) (by rw [ow]; exact clv_RX12_152) (hL.1 51 (by decide)) (by decide) rfl rfl rfl (Nat.le_of_ble_eq_true rfl) (by rw [hr]; exact ⟨by decide, by decide⟩) (by rw [hr]; exact ⟨Nat.le_of_ble_eq_true rfl, Nat.le_of_ble_eq_true rfl⟩) ?_
  intro rv h' hp
  rw [hp.1, hp.2]
  show AW V 0 0 h 4 [(0, .ref (B + 51)), (1, .int t)] [.int (b2i (!decide (hI h (B + 52) 8 = -1)))]
  refine a_if_eq hb 14 dX12_beat_4 (by decide) (fun c4 => absurd c4 (by simp [b2i, hla])) (fun c4 => ?_)
  refine a_iload_n hb dX12_beat_7 rfl 1 rfl ?_
  refine a_callS hb dX12_beat_8 (by rw [hg]; exact w_isTick g h t) (by rw [ow]; exact cls_RX12_52) rfl rfl (Nat.le_of_ble_eq_true rfl) (by rw [hr]; exact ⟨by decide, by decide⟩) (by rw [hr]; exact ⟨Nat.le_of_ble_eq_true rfl, Nat.le_of_ble_eq_true rfl⟩) ?_
  intro rv h' hp
  rw [hp.1, hp.2]
  show AW V 0 0 h 11 [(0, .ref (B + 51)), (1, .int t)] [.int (b2i (!oO t 0 39))]
  refine a_if_ne hb 18 dX12_beat_11 (by decide) (fun c11 => ?_) (fun c11 => ?_)
  · simp [b2i_0] at c11
    obtain ⟨ix_t, le_t⟩ : IX t t.toNatClampNeg ∧ t.toNatClampNeg ≤ 39 := oO_le (by decide) c11
    refine a_aload_n hb dX12_beat_18 rfl 0 rfl ?_
    refine a_callV hb dX12_beat_19 (by rw [hg]; exact m_looks g h B hL P (hP.mv (FR.mo (A := Al B) (A' := Ax B) FR.rf (by intro a; unfold Al Ax; omega))) h6 hl hhl lhl np hnp lnp n hn ln h7) (by rw [ow]; exact clv_RX12_186) (hL.1 51 (by decide)) (by decide) rfl rfl rfl (Nat.le_of_ble_eq_true rfl) (by rw [hr]; exact ⟨by decide, by decide⟩) (by rw [hr]; exact ⟨Nat.le_of_ble_eq_true rfl, Nat.le_of_ble_eq_true rfl⟩) ?_
    intro rv h1_ hp
    obtain ⟨hv, hf1, hx1_0, hx1_1, hx1_2⟩ := hp
    rw [hv]
    have hF1 := FR.tr FR.rf hf1
    have hL1 : LY h1_ B := FR.ly hF1 hL
    have hS1_52 : hI h1_ (B + 52) = hI h (B + 52) := hF1.2.2.2.2 _ (by unfold Al; omega)
    have hS1_56 : hI h1_ (B + 56) = hI h (B + 56) := hF1.2.2.2.2 _ (by unfold Al; omega)
    clear hv
    show AW V 0 0 h1_ 22 [(0, .ref (B + 51)), (1, .int t)] []
    refine a_aload_n hb dX12_beat_22 rfl 0 rfl ?_
    refine a_getQ (q := (B + 59)) hb dX12_beat_23 (by rw [ow]; exact fl_RX12_34_12) (hL1.1 51 (by decide)) (hL1.2.1 (51, 14, 59) (by decide)) ?_
    refine a_iload_n hb dX12_beat_26 rfl 1 rfl ?_
    refine b_lald (j := t.toNatClampNeg) hb dX12_beat_27 (hL1.1 59 (by decide)) ix_t (by omega) ?_
    exact a_lreturn hb hz dX12_beat_28 hret (by rw [hr]; exact Nat.le_of_ble_eq_true rfl) (by rw [hr]; exact Nat.le_of_ble_eq_true rfl) (⟨by first | (rw [if_pos (by assumption)]; done) | (rw [if_neg (by simp [c11]), hx1_2 _ (by omega)]), hF1⟩)
  · simp [b2i_0] at c11
    refine a_ldc2 (v := (-9223372036854775808)) hb dX12_beat_14 (by rw [ow]; exact kw_1258) ?_
    exact a_lreturn hb hz dX12_beat_17 hret (by rw [hr]; exact Nat.le_of_ble_eq_true rfl) (by rw [hr]; exact Nat.le_of_ble_eq_true rfl) (⟨by first | (rw [if_pos (by assumption)]; done) | (rw [if_neg (by simp [c11]), hx1_2 _ (by omega)]), FR.rf⟩)
set_option maxRecDepth 100000 in
theorem m_first (g : GG) (h : AH) (B : Nat) (hL : LY h B) (P : PF) (hP : PcM g B h P) (h6 : ¬ hI h (B + 52) 6 = 0) (hl : Nat) (hhl : IX (hI h (B + 52) 8) hl) (lhl : hl < 5) (np : Nat) (hnp : IX (hI h (B + 52) 0) np) (lnp : np ≤ 8) (n : Nat) (hn : IX (hI h (B + 52) 1) n) (ln : n ≤ 5) (h7 : ¬ (hI h (B + 52) 7).toInt64 = 0) (hla : ¬ hI h (B + 52) 8 = -1) (c : Int32) : AM g 9 0 0 mX12_first [.ref (B + 51), .int c] h (fun rv h' => rv = some (.int (if oO c 0 999 then -2 else fbF (fun t => btS (fun t => mdB (hI h (B + 52)) (-1) (nI t) n) (fun t => dmS P (hI h (B + 52)) (hI h (B + 56)) hl (nI t) np) (hI h (B + 52) 7) (t + 1)) c 0 40)) ∧ FR (Al B) h h') := by
  refine AM.of [(0, .ref (B + 51)), (1, .int c)] (by decide) (Nat.le_of_ble_eq_true rfl) rfl ?_
  intro V hV
  have hb : V.2.1.2.1 = cX12_first := by subst hV; rfl
  have ow : V.2.1.1.cls = RX12 := by subst hV; rfl
  have hr : V.2.2.1 = aw_rm 9 0 0 := by subst hV; rfl
  have hz : V.2.2.2 = aw_Z V.1 (fun rv h' => rv = some (.int (if oO c 0 999 then -2 else fbF (fun t => btS (fun t => mdB (hI h (B + 52)) (-1) (nI t) n) (fun t => dmS P (hI h (B + 52)) (hI h (B + 56)) hl (nI t) np) (hI h (B + 52) 7) (t + 1)) c 0 40)) ∧ FR (Al B) h h') V.2.2.1 := by subst hV; rfl
  have hg : V.1 = g := by subst hV; rfl
  have hret : V.2.1.2.2.2 = (some .int) := by subst hV; rfl
  have hml : V.2.1.2.2.1 = 2 := by subst hV; rfl
  clear hV
  refine a_aload_n hb dX12_first_0 rfl 0 rfl ?_
  refine a_callV hb dX12_first_1 (by rw [hg]; exact w_isLaw g h B hL) (by rw [ow]; exact clv_RX12_152) (hL.1 51 (by decide)) (by decide) rfl rfl rfl (Nat.le_of_ble_eq_true rfl) (by rw [hr]; exact ⟨by decide, by decide⟩) (by rw [hr]; exact ⟨Nat.le_of_ble_eq_true rfl, Nat.le_of_ble_eq_true rfl⟩) ?_
  intro rv h' hp
  rw [hp.1, hp.2]
  show AW V 0 0 h 4 [(0, .ref (B + 51)), (1, .int c)] [.int (b2i (!decide (hI h (B + 52) 8 = -1)))]
  refine a_if_ne hb 9 dX12_first_4 (by decide) (fun c4 => ?_) (fun c4 => absurd c4 (by simp [b2i, hla]))
  refine a_iload_n hb dX12_first_9 rfl 1 rfl ?_
  refine a_callS hb dX12_first_10 (by rw [hg]; exact w_isBound g h c) (by rw [ow]; exact cls_RX12_189) rfl rfl (Nat.le_of_ble_eq_true rfl) (by rw [hr]; exact ⟨by decide, by decide⟩) (by rw [hr]; exact ⟨Nat.le_of_ble_eq_true rfl, Nat.le_of_ble_eq_true rfl⟩) ?_
  intro rv h' hp
  rw [hp.1, hp.2]
  show AW V 0 0 h 13 [(0, .ref (B + 51)), (1, .int c)] [.int (b2i (!oO c 0 999))]
  refine a_if_ne hb 19 dX12_first_13 (by decide) (fun c13 => ?_) (fun c13 => ?_)
  · simp [b2i_0] at c13
    refine a_aload_n hb dX12_first_19 rfl 0 rfl ?_
    refine a_callV hb dX12_first_20 (by rw [hg]; exact m_looks g h B hL P (hP.mv (FR.mo (A := Al B) (A' := Ax B) FR.rf (by intro a; unfold Al Ax; omega))) h6 hl hhl lhl np hnp lnp n hn ln h7) (by rw [ow]; exact clv_RX12_186) (hL.1 51 (by decide)) (by decide) rfl rfl rfl (Nat.le_of_ble_eq_true rfl) (by rw [hr]; exact ⟨by decide, by decide⟩) (by rw [hr]; exact ⟨Nat.le_of_ble_eq_true rfl, Nat.le_of_ble_eq_true rfl⟩) ?_
    intro rv h1_ hp
    obtain ⟨hv, hf1, hx1_0, hx1_1, hx1_2⟩ := hp
    rw [hv]
    have hF1 := FR.tr FR.rf hf1
    have hL1 : LY h1_ B := FR.ly hF1 hL
    have hS1_52 : hI h1_ (B + 52) = hI h (B + 52) := hF1.2.2.2.2 _ (by unfold Al; omega)
    have hS1_56 : hI h1_ (B + 56) = hI h (B + 56) := hF1.2.2.2.2 _ (by unfold Al; omega)
    clear hv
    show AW V 0 0 h1_ 23 [(0, .ref (B + 51)), (1, .int c)] []
    refine a_aload_n hb dX12_first_23 rfl 0 rfl ?_
    refine a_iload_n hb dX12_first_24 rfl 1 rfl ?_
    refine a_callV hb dX12_first_25 (by rw [hg]; exact m_firstBeyond g h1_ B hL1 c) (by rw [ow]; exact clv_RX12_192) (hL1.1 51 (by decide)) (by decide) rfl rfl rfl (Nat.le_of_ble_eq_true rfl) (by rw [hr]; exact ⟨by decide, by decide⟩) (by rw [hr]; exact ⟨Nat.le_of_ble_eq_true rfl, Nat.le_of_ble_eq_true rfl⟩) ?_
    intro rv h' hp
    rw [hp.1, hp.2]
    show AW V 0 0 h1_ 28 [(0, .ref (B + 51)), (1, .int c)] [.int (fbF (hJ h1_ (B + 59)) c 0 40)]
    exact a_ireturn (ty := .int) hb hz dX12_first_28 hret rfl (by rw [hr]; exact Nat.le_of_ble_eq_true rfl) (by rw [hr]; exact Nat.le_of_ble_eq_true rfl) (⟨by first | (rw [if_pos (by assumption)]; done) | (rw [if_neg (by simp [c13]), fbF_c 40 0 (fun u q => hx1_2 u (by omega))]), hF1⟩)
  · simp [b2i_0] at c13
    refine a_bipush (v := (-2)) hb dX12_first_16 (by decide) ?_
    exact a_ireturn (ty := .int) hb hz dX12_first_18 hret rfl (by rw [hr]; exact Nat.le_of_ble_eq_true rfl) (by rw [hr]; exact Nat.le_of_ble_eq_true rfl) (⟨by first | (rw [if_pos (by assumption)]; done) | (rw [if_neg (by simp [c13]), fbF_c 40 0 (fun u q => hx1_2 u (by omega))]), FR.rf⟩)
def gtS (f : Nat → Int32) : Nat → Int32
  | 0 => f 0
  | t + 1 => if gtS f t < f (t + 1) then f (t + 1) else gtS f t
def lwJ (f : Nat → Int64) : Nat → Int64
  | 0 => f 0
  | t + 1 => if f (t + 1) < lwJ f t then f (t + 1) else lwJ f t
def hgJ (f : Nat → Int64) : Nat → Int64
  | 0 => f 0
  | t + 1 => if hgJ f t < f (t + 1) then f (t + 1) else hgJ f t
theorem lwJ_c {f f' : Nat → Int64} : ∀ k, (∀ t, t ≤ k → f t = f' t) → lwJ f k = lwJ f' k
  | 0, h => h 0 (by omega)
  | k + 1, h => by
    show (if _ < lwJ f k then _ else lwJ f k) = (if _ < lwJ f' k then _ else lwJ f' k)
    rw [lwJ_c k (fun t q => h t (by omega)), h (k + 1) (by omega)]
theorem hgJ_c {f f' : Nat → Int64} : ∀ k, (∀ t, t ≤ k → f t = f' t) → hgJ f k = hgJ f' k
  | 0, h => h 0 (by omega)
  | k + 1, h => by
    show (if hgJ f k < _ then _ else hgJ f k) = (if hgJ f' k < _ then _ else hgJ f' k)
    rw [hgJ_c k (fun t q => h t (by omega)), h (k + 1) (by omega)]
set_option maxRecDepth 100000 in
theorem m_greatest (g : GG) (h : AH) (B : Nat) (hL : LY h B) (P : PF) (hP : PcM g B h P) (h6 : ¬ hI h (B + 52) 6 = 0) (hl : Nat) (hhl : IX (hI h (B + 52) 8) hl) (lhl : hl < 5) (np : Nat) (hnp : IX (hI h (B + 52) 0) np) (lnp : np ≤ 8) : AM g 7 0 0 mX12_greatest [.ref (B + 51)] h (fun rv h' => rv = some (.int (gtS (fun t => dmS P (hI h (B + 52)) (hI h (B + 56)) hl (nI t) np) 39)) ∧ FR (Am B) h h') := by
  refine AM.of [(0, .ref (B + 51))] (by decide) (Nat.le_of_ble_eq_true rfl) rfl ?_
  intro V hV
  have hb : V.2.1.2.1 = cX12_greatest := by subst hV; rfl
  have ow : V.2.1.1.cls = RX12 := by subst hV; rfl
  have hr : V.2.2.1 = aw_rm 7 0 0 := by subst hV; rfl
  have hz : V.2.2.2 = aw_Z V.1 (fun rv h' => rv = some (.int (gtS (fun t => dmS P (hI h (B + 52)) (hI h (B + 56)) hl (nI t) np) 39)) ∧ FR (Am B) h h') V.2.2.1 := by subst hV; rfl
  have hg : V.1 = g := by subst hV; rfl
  have hret : V.2.1.2.2.2 = (some .int) := by subst hV; rfl
  have hml : V.2.1.2.2.1 = 4 := by subst hV; rfl
  clear hV
  have e0 : dmS P (hI h (B + 52)) (hI h (B + 56)) hl 0 np = gtS (fun t => dmS P (hI h (B + 52)) (hI h (B + 56)) hl (nI t) np) 0 := rfl
  have loop : ∀ (k i : Nat) (h1 : AH) (hF1 : FR (Am B) h h1), i + k = 39 → AW V 0 0 h1 8 [(0, .ref (B + 51)), (1, .int (gtS (fun t => dmS P (hI h (B + 52)) (hI h (B + 56)) hl (nI t) np) i)), (2, .int (nI (i + 1)))] [] := by
    intro k
    induction k with
    | zero =>
      intro i h1 hF1 hi
      have hL0_ : LY h1 B := FR.ly hF1 hL
      have hS0_52 : hI h1 (B + 52) = hI h (B + 52) := hF1.2.2.2.2 _ (by unfold Am; omega)
      have hS0_56 : hI h1 (B + 56) = hI h (B + 56) := hF1.2.2.2.2 _ (by unfold Am; omega)
      refine a_iload_n hb dX12_greatest_8 rfl 2 rfl ?_
      refine a_bipush (v := 40) hb dX12_greatest_9 (by decide) ?_
      refine a_icmp_ge hb 37 dX12_greatest_11 (by decide) (fun c11 => ?_) (fun c11 => absurd (by exact nI_le (b := i + 1) (a := 40) (by omega) (by omega)) c11)
      refine a_iload_n hb dX12_greatest_37 rfl 1 rfl ?_
      exact a_ireturn (ty := .int) hb hz dX12_greatest_38 hret rfl (by rw [hr]; exact Nat.le_of_ble_eq_true rfl) (by rw [hr]; exact Nat.le_of_ble_eq_true rfl) (⟨by rw [show i = 39 by omega], hF1⟩)
    | succ k ih =>
      intro i h1 hF1 hi
      have hL0_ : LY h1 B := FR.ly hF1 hL
      have hS0_52 : hI h1 (B + 52) = hI h (B + 52) := hF1.2.2.2.2 _ (by unfold Am; omega)
      have hS0_56 : hI h1 (B + 56) = hI h (B + 56) := hF1.2.2.2.2 _ (by unfold Am; omega)
      refine a_iload_n hb dX12_greatest_8 rfl 2 rfl ?_
      refine a_bipush (v := 40) hb dX12_greatest_9 (by decide) ?_
      refine a_icmp_ge hb 37 dX12_greatest_11 (by decide) (fun c11 => absurd c11 (by exact nI_ge (b := 40) (a := i + 1) (by omega) (by omega))) (fun c11 => ?_)
      refine a_aload_n hb dX12_greatest_14 rfl 0 rfl ?_
      refine a_iload_n hb dX12_greatest_15 rfl 2 rfl ?_
      refine a_callV hb dX12_greatest_16 (by rw [hg]; have h0 := m_demandAt g h1 B hL0_ P (hP.mv (FR.mo (A := Am B) (A' := Ax B) hF1 (by intro a; unfold Am Ax; omega))) (by rw [hS0_52]; exact h6) hl (by rw [hS0_52]; exact hhl) lhl np (by rw [hS0_52]; exact hnp) lnp (nI (i + 1)); (try rw [hS0_52] at h0); (try rw [hS0_56] at h0); exact h0) (by rw [ow]; exact clv_RX12_156) (hL0_.1 51 (by decide)) (by decide) rfl rfl rfl (Nat.le_of_ble_eq_true rfl) (by rw [hr]; exact ⟨by decide, by decide⟩) (by rw [hr]; exact ⟨Nat.le_of_ble_eq_true rfl, Nat.le_of_ble_eq_true rfl⟩) ?_
      intro rv h1_ hp
      obtain ⟨hv, hf1⟩ := hp
      rw [hv]
      have hF1 := FR.tr hF1 hf1
      have hL1 : LY h1_ B := FR.ly hF1 hL
      have hS1_52 : hI h1_ (B + 52) = hI h (B + 52) := hF1.2.2.2.2 _ (by unfold Am; omega)
      have hS1_56 : hI h1_ (B + 56) = hI h (B + 56) := hF1.2.2.2.2 _ (by unfold Am; omega)
      clear hv hf1
      show AW V 0 0 h1_ 19 [(0, .ref (B + 51)), (1, .int (gtS (fun t => dmS P (hI h (B + 52)) (hI h (B + 56)) hl (nI t) np) i)), (2, .int (nI (i + 1)))] [.int (dmS P (hI h (B + 52)) (hI h (B + 56)) hl (nI (i + 1)) np)]
      refine a_istore_n (L' := [(3, .int (dmS P (hI h (B + 52)) (hI h (B + 56)) hl (nI (i + 1)) np)), (0, .ref (B + 51)), (1, .int (gtS (fun t => dmS P (hI h (B + 52)) (hI h (B + 56)) hl (nI t) np) i)), (2, .int (nI (i + 1)))]) hb dX12_greatest_19 rfl (by rw [hml]; decide) rfl ?_
      refine a_iload_n hb dX12_greatest_20 rfl 0 rfl ?_
      refine a_iload_n hb dX12_greatest_21 rfl 2 rfl ?_
      refine a_icmp_le hb 29 dX12_greatest_22 (by decide) (fun c22 => ?_) (fun c22 => ?_)
      · have c22' := Int32.not_lt.mpr c22
        refine a_iload_n hb dX12_greatest_29 rfl 2 rfl ?_
        refine a_istore_n (L' := [(1, .int (gtS (fun t => dmS P (hI h (B + 52)) (hI h (B + 56)) hl (nI t) np) i)), (3, .int (dmS P (hI h (B + 52)) (hI h (B + 56)) hl (nI (i + 1)) np)), (0, .ref (B + 51)), (2, .int (nI (i + 1)))]) hb dX12_greatest_30 rfl (by rw [hml]; decide) rfl ?_
        refine a_iinc (v := ((nI (i + 1)) + 1)) (L' := [(2, .int ((nI (i + 1)) + 1)), (1, .int (gtS (fun t => dmS P (hI h (B + 52)) (hI h (B + 56)) hl (nI t) np) i)), (3, .int (dmS P (hI h (B + 52)) (hI h (B + 56)) hl (nI (i + 1)) np)), (0, .ref (B + 51))]) hb dX12_greatest_31 3 rfl rfl (by rw [hml]; decide) rfl ?_
        refine a_goto hb 8 dX12_greatest_34 (by decide) ?_
        refine AW.sub (L' := [(0, .ref (B + 51)), (1, .int (gtS (fun t => dmS P (hI h (B + 52)) (hI h (B + 56)) hl (nI t) np) i)), (2, .int ((nI (i + 1)) + 1))]) [3, 1, 0] rfl ?_
        exact AW.eq (ih (i + 1) h1_ hF1 (by omega)) rfl rfl (by first | (simp only [nI_1, gtS, if_pos c22']; done) | (simp only [nI_1, gtS, if_neg c22']; done) | (simp only [nI_1, gtS, if_pos c22]; done) | (simp only [nI_1, gtS, if_neg c22]; done)) rfl
      · have c22' := Int32.not_le.mp c22
        refine a_iload_n hb dX12_greatest_25 rfl 0 rfl ?_
        refine a_goto hb 30 dX12_greatest_26 (by decide) ?_
        refine a_istore_n (L' := [(1, .int (dmS P (hI h (B + 52)) (hI h (B + 56)) hl (nI (i + 1)) np)), (3, .int (dmS P (hI h (B + 52)) (hI h (B + 56)) hl (nI (i + 1)) np)), (0, .ref (B + 51)), (2, .int (nI (i + 1)))]) hb dX12_greatest_30 rfl (by rw [hml]; decide) rfl ?_
        refine a_iinc (v := ((nI (i + 1)) + 1)) (L' := [(2, .int ((nI (i + 1)) + 1)), (1, .int (dmS P (hI h (B + 52)) (hI h (B + 56)) hl (nI (i + 1)) np)), (3, .int (dmS P (hI h (B + 52)) (hI h (B + 56)) hl (nI (i + 1)) np)), (0, .ref (B + 51))]) hb dX12_greatest_31 3 rfl rfl (by rw [hml]; decide) rfl ?_
        refine a_goto hb 8 dX12_greatest_34 (by decide) ?_
        refine AW.sub (L' := [(0, .ref (B + 51)), (1, .int (dmS P (hI h (B + 52)) (hI h (B + 56)) hl (nI (i + 1)) np)), (2, .int ((nI (i + 1)) + 1))]) [3, 1, 0] rfl ?_
        exact AW.eq (ih (i + 1) h1_ hF1 (by omega)) rfl rfl (by first | (simp only [nI_1, gtS, if_pos c22']; done) | (simp only [nI_1, gtS, if_neg c22']; done) | (simp only [nI_1, gtS, if_pos c22]; done) | (simp only [nI_1, gtS, if_neg c22]; done)) rfl
  refine a_aload_n hb dX12_greatest_0 rfl 0 rfl ?_
  refine a_iconst (v := 0) hb dX12_greatest_1 (by decide) ?_
  refine a_callV hb dX12_greatest_2 (by rw [hg]; exact m_demandAt g h B hL P (hP.mv (FR.mo (A := Am B) (A' := Ax B) FR.rf (by intro a; unfold Am Ax; omega))) h6 hl hhl lhl np hnp lnp 0) (by rw [ow]; exact clv_RX12_156) (hL.1 51 (by decide)) (by decide) rfl rfl rfl (Nat.le_of_ble_eq_true rfl) (by rw [hr]; exact ⟨by decide, by decide⟩) (by rw [hr]; exact ⟨Nat.le_of_ble_eq_true rfl, Nat.le_of_ble_eq_true rfl⟩) ?_
  intro rv h1_ hp
  obtain ⟨hv, hf1⟩ := hp
  rw [hv]
  have hF1 := FR.tr FR.rf hf1
  have hL1 : LY h1_ B := FR.ly hF1 hL
  have hS1_52 : hI h1_ (B + 52) = hI h (B + 52) := hF1.2.2.2.2 _ (by unfold Am; omega)
  have hS1_56 : hI h1_ (B + 56) = hI h (B + 56) := hF1.2.2.2.2 _ (by unfold Am; omega)
  clear hv hf1
  show AW V 0 0 h1_ 5 [(0, .ref (B + 51))] [.int (dmS P (hI h (B + 52)) (hI h (B + 56)) hl 0 np)]
  refine a_istore_n (L' := [(1, .int (dmS P (hI h (B + 52)) (hI h (B + 56)) hl 0 np)), (0, .ref (B + 51))]) hb dX12_greatest_5 rfl (by rw [hml]; decide) rfl ?_
  refine a_iconst (v := 1) hb dX12_greatest_6 (by decide) ?_
  refine a_istore_n (L' := [(2, .int 1), (1, .int (dmS P (hI h (B + 52)) (hI h (B + 56)) hl 0 np)), (0, .ref (B + 51))]) hb dX12_greatest_7 rfl (by rw [hml]; decide) rfl ?_
  refine AW.sub (L' := [(0, .ref (B + 51)), (1, .int (dmS P (hI h (B + 52)) (hI h (B + 56)) hl 0 np)), (2, .int 1)]) [2, 1, 0] rfl ?_
  exact AW.eq (loop 39 0 h1_ hF1 (by omega)) rfl rfl (rfl) rfl
set_option maxRecDepth 100000 in
theorem m_count (g : GG) (h : AH) (B : Nat) (hL : LY h B) (x : Int32) : AM g 1 0 0 mX12_count [.ref (B + 51), .int x] h (fun rv h' => rv = some (.int (if x = 0 then hI h (B + 52) 0 else if x = 1 then hI h (B + 52) 1 else if x = 2 then hI h (B + 52) 2 else if x = 3 then hI h (B + 52) 3 else if x = 4 then hI h (B + 52) 4 else if x = 5 then hI h (B + 51) 21 else -1)) ∧ h' = h) := by
  refine AM.of [(0, .ref (B + 51)), (1, .int x)] (by decide) (Nat.le_of_ble_eq_true rfl) rfl ?_
  intro V hV
  have hb : V.2.1.2.1 = cX12_count := by subst hV; rfl
  have ow : V.2.1.1.cls = RX12 := by subst hV; rfl
  have hr : V.2.2.1 = aw_rm 1 0 0 := by subst hV; rfl
  have hz : V.2.2.2 = aw_Z V.1 (fun rv h' => rv = some (.int (if x = 0 then hI h (B + 52) 0 else if x = 1 then hI h (B + 52) 1 else if x = 2 then hI h (B + 52) 2 else if x = 3 then hI h (B + 52) 3 else if x = 4 then hI h (B + 52) 4 else if x = 5 then hI h (B + 51) 21 else -1)) ∧ h' = h) V.2.2.1 := by subst hV; rfl
  have hg : V.1 = g := by subst hV; rfl
  have hret : V.2.1.2.2.2 = (some .int) := by subst hV; rfl
  have hml : V.2.1.2.2.1 = 2 := by subst hV; rfl
  clear hV
  refine a_iload_n hb dX12_count_0 rfl 1 rfl ?_
  by_cases q1_0 : x = 0
  · refine a_tableIn (off := 39) hb 40 dX12_count_1 (by rw [q1_0]; decide) (by rw [q1_0]; decide) (by rw [q1_0]; decide) (by decide) ?_
    refine a_aload_n hb dX12_count_40 rfl 0 rfl ?_
    refine a_getQ (q := (B + 52)) hb dX12_count_41 (by rw [ow]; exact fl_RX12_9_12) (hL.1 51 (by decide)) (hL.2.1 (51, 1, 52) (by decide)) ?_
    refine a_iconst (v := 0) hb dX12_count_44 (by decide) ?_
    refine b_iald (j := 0) hb dX12_count_45 (hL.1 52 (by decide)) ⟨by decide, by decide⟩ (by decide) ?_
    exact a_ireturn (ty := .int) hb hz dX12_count_46 hret rfl (by rw [hr]; exact Nat.le_of_ble_eq_true rfl) (by rw [hr]; exact Nat.le_of_ble_eq_true rfl) (⟨by simp [*], rfl⟩)
  by_cases q1_1 : x = 1
  · refine a_tableIn (off := 46) hb 47 dX12_count_1 (by rw [q1_1]; decide) (by rw [q1_1]; decide) (by rw [q1_1]; decide) (by decide) ?_
    refine a_aload_n hb dX12_count_47 rfl 0 rfl ?_
    refine a_getQ (q := (B + 52)) hb dX12_count_48 (by rw [ow]; exact fl_RX12_9_12) (hL.1 51 (by decide)) (hL.2.1 (51, 1, 52) (by decide)) ?_
    refine a_iconst (v := 1) hb dX12_count_51 (by decide) ?_
    refine b_iald (j := 1) hb dX12_count_52 (hL.1 52 (by decide)) ⟨by decide, by decide⟩ (by decide) ?_
    exact a_ireturn (ty := .int) hb hz dX12_count_53 hret rfl (by rw [hr]; exact Nat.le_of_ble_eq_true rfl) (by rw [hr]; exact Nat.le_of_ble_eq_true rfl) (⟨by simp [*], rfl⟩)
  by_cases q1_2 : x = 2
  · refine a_tableIn (off := 53) hb 54 dX12_count_1 (by rw [q1_2]; decide) (by rw [q1_2]; decide) (by rw [q1_2]; decide) (by decide) ?_
    refine a_aload_n hb dX12_count_54 rfl 0 rfl ?_
    refine a_getQ (q := (B + 52)) hb dX12_count_55 (by rw [ow]; exact fl_RX12_9_12) (hL.1 51 (by decide)) (hL.2.1 (51, 1, 52) (by decide)) ?_
    refine a_iconst (v := 2) hb dX12_count_58 (by decide) ?_
    refine b_iald (j := 2) hb dX12_count_59 (hL.1 52 (by decide)) ⟨by decide, by decide⟩ (by decide) ?_
    exact a_ireturn (ty := .int) hb hz dX12_count_60 hret rfl (by rw [hr]; exact Nat.le_of_ble_eq_true rfl) (by rw [hr]; exact Nat.le_of_ble_eq_true rfl) (⟨by simp [*], rfl⟩)
  by_cases q1_3 : x = 3
  · refine a_tableIn (off := 60) hb 61 dX12_count_1 (by rw [q1_3]; decide) (by rw [q1_3]; decide) (by rw [q1_3]; decide) (by decide) ?_
    refine a_aload_n hb dX12_count_61 rfl 0 rfl ?_
    refine a_getQ (q := (B + 52)) hb dX12_count_62 (by rw [ow]; exact fl_RX12_9_12) (hL.1 51 (by decide)) (hL.2.1 (51, 1, 52) (by decide)) ?_
    refine a_iconst (v := 3) hb dX12_count_65 (by decide) ?_
    refine b_iald (j := 3) hb dX12_count_66 (hL.1 52 (by decide)) ⟨by decide, by decide⟩ (by decide) ?_
    exact a_ireturn (ty := .int) hb hz dX12_count_67 hret rfl (by rw [hr]; exact Nat.le_of_ble_eq_true rfl) (by rw [hr]; exact Nat.le_of_ble_eq_true rfl) (⟨by simp [*], rfl⟩)
  by_cases q1_4 : x = 4
  · refine a_tableIn (off := 67) hb 68 dX12_count_1 (by rw [q1_4]; decide) (by rw [q1_4]; decide) (by rw [q1_4]; decide) (by decide) ?_
    refine a_aload_n hb dX12_count_68 rfl 0 rfl ?_
    refine a_getQ (q := (B + 52)) hb dX12_count_69 (by rw [ow]; exact fl_RX12_9_12) (hL.1 51 (by decide)) (hL.2.1 (51, 1, 52) (by decide)) ?_
    refine a_iconst (v := 4) hb dX12_count_72 (by decide) ?_
    refine b_iald (j := 4) hb dX12_count_73 (hL.1 52 (by decide)) ⟨by decide, by decide⟩ (by decide) ?_
    exact a_ireturn (ty := .int) hb hz dX12_count_74 hret rfl (by rw [hr]; exact Nat.le_of_ble_eq_true rfl) (by rw [hr]; exact Nat.le_of_ble_eq_true rfl) (⟨by simp [*], rfl⟩)
  by_cases q1_5 : x = 5
  · refine a_tableIn (off := 74) hb 75 dX12_count_1 (by rw [q1_5]; decide) (by rw [q1_5]; decide) (by rw [q1_5]; decide) (by decide) ?_
    refine a_aload_n hb dX12_count_75 rfl 0 rfl ?_
    refine a_getI hb dX12_count_76 (by rw [ow]; exact fl_RX12_231_12) (hL.1 51 (by decide)) ?_
    exact a_ireturn (ty := .int) hb hz dX12_count_79 hret rfl (by rw [hr]; exact Nat.le_of_ble_eq_true rfl) (by rw [hr]; exact Nat.le_of_ble_eq_true rfl) (⟨by simp [*], rfl⟩)
  refine a_tableOut hb 80 dX12_count_1 (by have z0 := lv_neT (k := 0) (a := 0) q1_0 (by decide); have z1 := lv_neT (k := 1) (a := 1) q1_1 (by decide); have z2 := lv_neT (k := 2) (a := 2) q1_2 (by decide); have z3 := lv_neT (k := 3) (a := 3) q1_3 (by decide); have z4 := lv_neT (k := 4) (a := 4) q1_4 (by decide); have z5 := lv_neT (k := 5) (a := 5) q1_5 (by decide); omega) (by decide) ?_
  refine a_iconst (v := (-1)) hb dX12_count_80 (by decide) ?_
  exact a_ireturn (ty := .int) hb hz dX12_count_81 hret rfl (by rw [hr]; exact Nat.le_of_ble_eq_true rfl) (by rw [hr]; exact Nat.le_of_ble_eq_true rfl) (⟨by simp [*], rfl⟩)
theorem IX.lt_iff {a b : Int32} {m n : Nat} (h1 : IX a m) (h2 : IX b n) : a < b ↔ m < n := by
  have e1 := aw_nn h1.1
  have e2 := aw_nn h2.1
  rw [h1.2] at e1
  rw [h2.2] at e2
  rw [Int32.lt_iff_toInt_lt, e1, e2]
  omega
theorem IX.le_iff {a b : Int32} {m n : Nat} (h1 : IX a m) (h2 : IX b n) : a ≤ b ↔ m ≤ n := by
  rw [← Int32.not_lt, h2.lt_iff h1]
  omega
theorem IX.lit {a : Int32} {m : Nat} (h1 : ¬ a < 0) (h2 : a.toNatClampNeg = m) : IX a m := ⟨h1, h2⟩
set_option maxRecDepth 100000 in
theorem m_trace (g : GG) (h : AH) (B : Nat) (hL : LY h B) (rn : Nat) (hrn : IX (hI h (B + 51) 21) rn) (x : Int32) : AM g 2 0 0 mX12_trace [.ref (B + 51), .int x] h (fun rv h' => rv = some (.int (if oO x 0 ((if hI h (B + 51) 21 < 20 then hI h (B + 51) 21 else 20) - 1) then -1 else hI h (B + 61) x.toNatClampNeg)) ∧ h' = h) := by
  refine AM.of [(0, .ref (B + 51)), (1, .int x)] (by decide) (Nat.le_of_ble_eq_true rfl) rfl ?_
  intro V hV
  have hb : V.2.1.2.1 = cX12_trace := by subst hV; rfl
  have ow : V.2.1.1.cls = RX12 := by subst hV; rfl
  have hr : V.2.2.1 = aw_rm 2 0 0 := by subst hV; rfl
  have hz : V.2.2.2 = aw_Z V.1 (fun rv h' => rv = some (.int (if oO x 0 ((if hI h (B + 51) 21 < 20 then hI h (B + 51) 21 else 20) - 1) then -1 else hI h (B + 61) x.toNatClampNeg)) ∧ h' = h) V.2.2.1 := by subst hV; rfl
  have hg : V.1 = g := by subst hV; rfl
  have hret : V.2.1.2.2.2 = (some .int) := by subst hV; rfl
  have hml : V.2.1.2.2.1 = 2 := by subst hV; rfl
  clear hV
  have t20 : IX (20 : Int32) 20 := ⟨by decide, by decide⟩
  refine a_iload_n hb dX12_trace_0 rfl 1 rfl ?_
  refine a_iconst (v := 0) hb dX12_trace_1 (by decide) ?_
  refine a_aload_n hb dX12_trace_2 rfl 0 rfl ?_
  refine a_getI hb dX12_trace_3 (by rw [ow]; exact fl_RX12_231_12) (hL.1 51 (by decide)) ?_
  refine a_bipush (v := 20) hb dX12_trace_6 (by decide) ?_
  refine a_icmp_ge hb 18 dX12_trace_8 (by decide) (fun c8 => ?_) (fun c8 => ?_)
  · have c8' := Int32.not_lt.mpr c8
    refine a_bipush (v := 20) hb dX12_trace_18 (by decide) ?_
    refine a_iconst (v := 1) hb dX12_trace_20 (by decide) ?_
    refine a_isub hb dX12_trace_21 ?_
    refine a_callS hb dX12_trace_22 (by rw [hg]; exact w_in g h x 0 (20 - 1)) (by rw [ow]; exact cls_RX12_48) rfl rfl (Nat.le_of_ble_eq_true rfl) (by rw [hr]; exact ⟨by decide, by decide⟩) (by rw [hr]; exact ⟨Nat.le_of_ble_eq_true rfl, Nat.le_of_ble_eq_true rfl⟩) ?_
    intro rv h' hp
    rw [hp.1, hp.2]
    show AW V 0 0 h 25 [(0, .ref (B + 51)), (1, .int x)] [.int (b2i (!oO x 0 (20 - 1)))]
    refine a_if_eq hb 37 dX12_trace_25 (by decide) (fun c25 => ?_) (fun c25 => ?_)
    · simp [b2i_0] at c25
      refine a_iconst (v := (-1)) hb dX12_trace_37 (by decide) ?_
      exact a_ireturn (ty := .int) hb hz dX12_trace_38 hret rfl (by rw [hr]; exact Nat.le_of_ble_eq_true rfl) (by rw [hr]; exact Nat.le_of_ble_eq_true rfl) (⟨by first | (rw [if_pos c8']; simp [c25]; done) | (rw [if_neg c8']; simp [c25]; done), rfl⟩)
    · simp [b2i_0] at c25
      obtain ⟨ix_x, bx⟩ : IX x x.toNatClampNeg ∧ x.toNatClampNeg < 20 := by first | exact oO_lt t20 c25 | exact ⟨(oO_lt hrn c25).1, Nat.lt_trans (oO_lt hrn c25).2 ((hrn.lt_iff t20).mp c8')⟩
      refine a_aload_n hb dX12_trace_28 rfl 0 rfl ?_
      refine a_getQ (q := (B + 61)) hb dX12_trace_29 (by rw [ow]; exact fl_RX12_41_12) (hL.1 51 (by decide)) (hL.2.1 (51, 20, 61) (by decide)) ?_
      refine a_iload_n hb dX12_trace_32 rfl 1 rfl ?_
      refine b_iald (j := x.toNatClampNeg) hb dX12_trace_33 (hL.1 61 (by decide)) ix_x bx ?_
      refine a_goto hb 38 dX12_trace_34 (by decide) ?_
      exact a_ireturn (ty := .int) hb hz dX12_trace_38 hret rfl (by rw [hr]; exact Nat.le_of_ble_eq_true rfl) (by rw [hr]; exact Nat.le_of_ble_eq_true rfl) (⟨by first | (rw [if_pos c8']; simp [c25]; done) | (rw [if_neg c8']; simp [c25]; done), rfl⟩)
  · have c8' := Int32.not_le.mp c8
    refine a_aload_n hb dX12_trace_11 rfl 0 rfl ?_
    refine a_getI hb dX12_trace_12 (by rw [ow]; exact fl_RX12_231_12) (hL.1 51 (by decide)) ?_
    refine a_goto hb 20 dX12_trace_15 (by decide) ?_
    refine a_iconst (v := 1) hb dX12_trace_20 (by decide) ?_
    refine a_isub hb dX12_trace_21 ?_
    refine a_callS hb dX12_trace_22 (by rw [hg]; exact w_in g h x 0 ((hI h (B + 51) 21) - 1)) (by rw [ow]; exact cls_RX12_48) rfl rfl (Nat.le_of_ble_eq_true rfl) (by rw [hr]; exact ⟨by decide, by decide⟩) (by rw [hr]; exact ⟨Nat.le_of_ble_eq_true rfl, Nat.le_of_ble_eq_true rfl⟩) ?_
    intro rv h' hp
    rw [hp.1, hp.2]
    show AW V 0 0 h 25 [(0, .ref (B + 51)), (1, .int x)] [.int (b2i (!oO x 0 ((hI h (B + 51) 21) - 1)))]
    refine a_if_eq hb 37 dX12_trace_25 (by decide) (fun c25 => ?_) (fun c25 => ?_)
    · simp [b2i_0] at c25
      refine a_iconst (v := (-1)) hb dX12_trace_37 (by decide) ?_
      exact a_ireturn (ty := .int) hb hz dX12_trace_38 hret rfl (by rw [hr]; exact Nat.le_of_ble_eq_true rfl) (by rw [hr]; exact Nat.le_of_ble_eq_true rfl) (⟨by first | (rw [if_pos c8']; simp [c25]; done) | (rw [if_neg c8']; simp [c25]; done), rfl⟩)
    · simp [b2i_0] at c25
      obtain ⟨ix_x, bx⟩ : IX x x.toNatClampNeg ∧ x.toNatClampNeg < 20 := by first | exact oO_lt t20 c25 | exact ⟨(oO_lt hrn c25).1, Nat.lt_trans (oO_lt hrn c25).2 ((hrn.lt_iff t20).mp c8')⟩
      refine a_aload_n hb dX12_trace_28 rfl 0 rfl ?_
      refine a_getQ (q := (B + 61)) hb dX12_trace_29 (by rw [ow]; exact fl_RX12_41_12) (hL.1 51 (by decide)) (hL.2.1 (51, 20, 61) (by decide)) ?_
      refine a_iload_n hb dX12_trace_32 rfl 1 rfl ?_
      refine b_iald (j := x.toNatClampNeg) hb dX12_trace_33 (hL.1 61 (by decide)) ix_x bx ?_
      refine a_goto hb 38 dX12_trace_34 (by decide) ?_
      exact a_ireturn (ty := .int) hb hz dX12_trace_38 hret rfl (by rw [hr]; exact Nat.le_of_ble_eq_true rfl) (by rw [hr]; exact Nat.le_of_ble_eq_true rfl) (⟨by first | (rw [if_pos c8']; simp [c25]; done) | (rw [if_neg c8']; simp [c25]; done), rfl⟩)
