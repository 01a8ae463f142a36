/-! ===== the model: demand ===== -/
set_option maxRecDepth 100000 in
theorem m_demandAt (g : GG) (h : AH) (B : Nat) (hL : LY h B) (P : PF) (hP : PcM g B h P) (h6 : ¬ hI h (B + 52) 6 = 0) (hl : Nat) (hhl : IX (hI h (B + 52) 8) hl) (lhl : hl < 5) (np : Nat) (hnp : IX (hI h (B + 52) 0) np) (lnp : np ≤ 8) (t : Int32) : AM g 6 0 0 mX12_demandAt [.ref (B + 51), .int t] h (fun rv h' => rv = some (.int (dmS P (hI h (B + 52)) (hI h (B + 56)) hl t np)) ∧ FR (Am B) h h') := by
  refine AM.of [(0, .ref (B + 51)), (1, .int t)] (by decide) (Nat.le_of_ble_eq_true rfl) rfl ?_
  intro V hV
  have hb : V.2.1.2.1 = cX12_demandAt := by subst hV; rfl
  have ow : V.2.1.1.cls = RX12 := by subst hV; rfl
  have hr : V.2.2.1 = aw_rm 6 0 0 := by subst hV; rfl
  have hz : V.2.2.2 = aw_Z V.1 (fun rv h' => rv = some (.int (dmS P (hI h (B + 52)) (hI h (B + 56)) hl t np)) ∧ FR (Am B) h h') V.2.2.1 := by subst hV; rfl
  have hg : V.1 = g := by subst hV; rfl
  have hret : V.2.1.2.2.2 = (some .int) := by subst hV; rfl
  have hml : V.2.1.2.2.1 = 4 := by subst hV; rfl
  clear hV
  have loop : ∀ (k i : Nat) (h1 : AH) (hF1 : FR (Am B) h h1), i + k = np → AW V 0 0 h1 4 [(0, .ref (B + 51)), (1, .int t), (2, .int (dmS P (hI h (B + 52)) (hI h (B + 56)) hl t i)), (3, .int (nI i))] [] := by
    intro k
    induction k with
    | zero =>
      intro i h1 hF1 hi
      have hL0_ : LY h1 B := FR.ly hF1 hL
      have hS0_52 : hI h1 (B + 52) = hI h (B + 52) := hF1.2.2.2.2 _ (by unfold Am; omega)
      have hS0_56 : hI h1 (B + 56) = hI h (B + 56) := hF1.2.2.2.2 _ (by unfold Am; omega)
      refine a_iload_n hb dX12_demandAt_4 rfl 3 rfl ?_
      refine a_aload_n hb dX12_demandAt_5 rfl 0 rfl ?_
      refine a_getQ (q := (B + 52)) hb dX12_demandAt_6 (by rw [ow]; exact fl_RX12_9_12) (hL0_.1 51 (by decide)) (hL0_.2.1 (51, 1, 52) (by decide)) ?_
      refine a_iconst (v := 0) hb dX12_demandAt_9 (by decide) ?_
      refine b_iald (j := 0) hb dX12_demandAt_10 (hL0_.1 52 (by decide)) ⟨by decide, by decide⟩ (by decide) ?_
      rw [hS0_52]
      refine a_icmp_ge hb 29 dX12_demandAt_11 (by decide) (fun c11 => ?_) (fun c11 => absurd (by rw [hnp.eq.1]; exact nI_le (by omega) (by omega)) c11)
      refine a_iload_n hb dX12_demandAt_29 rfl 2 rfl ?_
      exact a_ireturn (ty := .int) hb hz dX12_demandAt_30 hret rfl (by rw [hr]; exact Nat.le_of_ble_eq_true rfl) (by rw [hr]; exact Nat.le_of_ble_eq_true rfl) (⟨by rw [show np = i by omega], hF1⟩)
    | succ k ih =>
      intro i h1 hF1 hi
      have hL0_ : LY h1 B := FR.ly hF1 hL
      have hS0_52 : hI h1 (B + 52) = hI h (B + 52) := hF1.2.2.2.2 _ (by unfold Am; omega)
      have hS0_56 : hI h1 (B + 56) = hI h (B + 56) := hF1.2.2.2.2 _ (by unfold Am; omega)
      refine a_iload_n hb dX12_demandAt_4 rfl 3 rfl ?_
      refine a_aload_n hb dX12_demandAt_5 rfl 0 rfl ?_
      refine a_getQ (q := (B + 52)) hb dX12_demandAt_6 (by rw [ow]; exact fl_RX12_9_12) (hL0_.1 51 (by decide)) (hL0_.2.1 (51, 1, 52) (by decide)) ?_
      refine a_iconst (v := 0) hb dX12_demandAt_9 (by decide) ?_
      refine b_iald (j := 0) hb dX12_demandAt_10 (hL0_.1 52 (by decide)) ⟨by decide, by decide⟩ (by decide) ?_
      rw [hS0_52]
      refine a_icmp_ge hb 29 dX12_demandAt_11 (by decide) (fun c11 => absurd c11 (by rw [hnp.eq.1]; exact nI_ge (by omega) (by omega))) (fun c11 => ?_)
      refine a_iload_n hb dX12_demandAt_14 rfl 2 rfl ?_
      refine a_aload_n hb dX12_demandAt_15 rfl 0 rfl ?_
      refine a_iload_n hb dX12_demandAt_16 rfl 3 rfl ?_
      refine a_iload_n hb dX12_demandAt_17 rfl 1 rfl ?_
      refine a_callV hb dX12_demandAt_18 (by rw [hg]; have h0 := m_drawnAt g h1 B hL0_ P (hP.mv (FR.mo (A := Am B) (A' := Ax B) hF1 (by intro a; unfold Am Ax; omega))) (by rw [hS0_52]; exact h6) hl (by rw [hS0_52]; exact hhl) lhl i (by omega) t; (try rw [hS0_52] at h0); (try rw [hS0_56] at h0); exact h0) (by rw [ow]; exact clv_RX12_148) (hL0_.1 51 (by decide)) (by decide) rfl rfl rfl (Nat.le_of_ble_eq_true rfl) (by rw [hr]; exact ⟨by decide, by decide⟩) (by rw [hr]; exact ⟨Nat.le_of_ble_eq_true rfl, Nat.le_of_ble_eq_true rfl⟩) ?_
      intro rv h1_ hp
      obtain ⟨hv, hf1⟩ := hp
      rw [hv]
      have hF1 := FR.tr hF1 hf1
      have hL1 : LY h1_ B := FR.ly hF1 hL
      have hS1_52 : hI h1_ (B + 52) = hI h (B + 52) := hF1.2.2.2.2 _ (by unfold Am; omega)
      have hS1_56 : hI h1_ (B + 56) = hI h (B + 56) := hF1.2.2.2.2 _ (by unfold Am; omega)
      clear hv hf1
      show AW V 0 0 h1_ 21 [(0, .ref (B + 51)), (1, .int t), (2, .int (dmS P (hI h (B + 52)) (hI h (B + 56)) hl t i)), (3, .int (nI i))] [.int (dwS P (hI h (B + 52)) (hI h (B + 56)) hl t i), .int (dmS P (hI h (B + 52)) (hI h (B + 56)) hl t i)]
      refine a_iadd hb dX12_demandAt_21 ?_
      refine a_istore_n (L' := [(2, .int ((dmS P (hI h (B + 52)) (hI h (B + 56)) hl t i) + (dwS P (hI h (B + 52)) (hI h (B + 56)) hl t i))), (0, .ref (B + 51)), (1, .int t), (3, .int (nI i))]) hb dX12_demandAt_22 rfl (by rw [hml]; decide) rfl ?_
      refine a_iinc (v := ((nI i) + 1)) (L' := [(3, .int ((nI i) + 1)), (2, .int ((dmS P (hI h (B + 52)) (hI h (B + 56)) hl t i) + (dwS P (hI h (B + 52)) (hI h (B + 56)) hl t i))), (0, .ref (B + 51)), (1, .int t)]) hb dX12_demandAt_23 3 rfl rfl (by rw [hml]; decide) rfl ?_
      refine a_goto hb 4 dX12_demandAt_26 (by decide) ?_
      refine AW.sub (L' := [(0, .ref (B + 51)), (1, .int t), (2, .int ((dmS P (hI h (B + 52)) (hI h (B + 56)) hl t i) + (dwS P (hI h (B + 52)) (hI h (B + 56)) hl t i))), (3, .int ((nI i) + 1))]) [2, 3, 1, 0] rfl ?_
      exact AW.eq (ih (i + 1) h1_ hF1 (by omega)) rfl rfl (by simp only [nI_1]; rfl) rfl
  refine a_iconst (v := 0) hb dX12_demandAt_0 (by decide) ?_
  refine a_istore_n (L' := [(2, .int 0), (0, .ref (B + 51)), (1, .int t)]) hb dX12_demandAt_1 rfl (by rw [hml]; decide) rfl ?_
  refine a_iconst (v := 0) hb dX12_demandAt_2 (by decide) ?_
  refine a_istore_n (L' := [(3, .int 0), (2, .int 0), (0, .ref (B + 51)), (1, .int t)]) hb dX12_demandAt_3 rfl (by rw [hml]; decide) rfl ?_
  refine AW.sub (L' := [(0, .ref (B + 51)), (1, .int t), (2, .int 0), (3, .int 0)]) [2, 3, 1, 0] rfl ?_
  exact AW.eq (loop np 0 h FR.rf (by omega)) rfl rfl (rfl) rfl
set_option maxRecDepth 100000 in
theorem m_demand (g : GG) (h : AH) (B : Nat) (hL : LY h B) (P : PF) (hP : PcM g B h P) (h6 : ¬ hI h (B + 52) 6 = 0) (hl : Nat) (hhl : IX (hI h (B + 52) 8) hl) (lhl : hl < 5) (np : Nat) (hnp : IX (hI h (B + 52) 0) np) (lnp : np ≤ 8) (hla : ¬ hI h (B + 52) 8 = -1) (t : Int32) : AM g 7 0 0 mX12_demand [.ref (B + 51), .int t] h (fun rv h' => rv = some (.int (if oO t 0 39 then -10002 else dmS P (hI h (B + 52)) (hI h (B + 56)) hl t np)) ∧ FR (Am B) h h') := by
  refine AM.of [(0, .ref (B + 51)), (1, .int t)] (by decide) (Nat.le_of_ble_eq_true rfl) rfl ?_
  intro V hV
  have hb : V.2.1.2.1 = cX12_demand := by subst hV; rfl
  have ow : V.2.1.1.cls = RX12 := by subst hV; rfl
  have hr : V.2.2.1 = aw_rm 7 0 0 := by subst hV; rfl
  have hz : V.2.2.2 = aw_Z V.1 (fun rv h' => rv = some (.int (if oO t 0 39 then -10002 else dmS P (hI h (B + 52)) (hI h (B + 56)) hl t np)) ∧ FR (Am B) h h') V.2.2.1 := by subst hV; rfl
  have hg : V.1 = g := by subst hV; rfl
  have hret : V.2.1.2.2.2 = (some .int) := by subst hV; rfl
  have hml : V.2.1.2.2.1 = 2 := by subst hV; rfl
  clear hV
  refine a_aload_n hb dX12_demand_0 rfl 0 rfl ?_
  refine a_callV hb dX12_demand_1 (by rw [hg]; exact w_isLaw g h B hL) (by rw [ow]; exact clv_RX12_152) (hL.1 51 (by decide)) (by decide) rfl rfl rfl (Nat.le_of_ble_eq_true rfl) (by rw [hr]; exact ⟨by decide, by decide⟩) (by rw [hr]; exact ⟨Nat.le_of_ble_eq_true rfl, Nat.le_of_ble_eq_true rfl⟩) ?_
  intro rv h' hp
  rw [hp.1, hp.2]
  show AW V 0 0 h 4 [(0, .ref (B + 51)), (1, .int t)] [.int (b2i (!decide (hI h (B + 52) 8 = -1)))]
  refine a_if_ne hb 11 dX12_demand_4 (by decide) (fun c4 => ?_) (fun c4 => ?_)
  · simp [b2i_0] at c4
    refine a_iload_n hb dX12_demand_11 rfl 1 rfl ?_
    refine a_callS hb dX12_demand_12 (by rw [hg]; exact w_isTick g h t) (by rw [ow]; exact cls_RX12_52) rfl rfl (Nat.le_of_ble_eq_true rfl) (by rw [hr]; exact ⟨by decide, by decide⟩) (by rw [hr]; exact ⟨Nat.le_of_ble_eq_true rfl, Nat.le_of_ble_eq_true rfl⟩) ?_
    intro rv h' hp
    rw [hp.1, hp.2]
    show AW V 0 0 h 15 [(0, .ref (B + 51)), (1, .int t)] [.int (b2i (!oO t 0 39))]
    refine a_if_eq hb 26 dX12_demand_15 (by decide) (fun c15 => ?_) (fun c15 => ?_)
    · simp [b2i_0] at c15
      refine a_sipush (v := (-10002)) hb dX12_demand_26 (by decide) ?_
      exact a_ireturn (ty := .int) hb hz dX12_demand_29 hret rfl (by rw [hr]; exact Nat.le_of_ble_eq_true rfl) (by rw [hr]; exact Nat.le_of_ble_eq_true rfl) (⟨by first | (simp [*]; done) | (exfalso; clear hz hb ow hr hg hret hml; simp_all), FR.rf⟩)
    · simp [b2i_0] at c15
      refine a_aload_n hb dX12_demand_18 rfl 0 rfl ?_
      refine a_iload_n hb dX12_demand_19 rfl 1 rfl ?_
      refine a_callV hb dX12_demand_20 (by rw [hg]; exact m_demandAt g h B hL P (hP.mv (FR.mo (A := Am B) (A' := Ax B) FR.rf (by intro a; unfold Am Ax; omega))) h6 hl hhl lhl np hnp lnp t) (by rw [ow]; exact clv_RX12_156) (hL.1 51 (by decide)) (by decide) rfl rfl rfl (Nat.le_of_ble_eq_true rfl) (by rw [hr]; exact ⟨by decide, by decide⟩) (by rw [hr]; exact ⟨Nat.le_of_ble_eq_true rfl, Nat.le_of_ble_eq_true rfl⟩) ?_
      intro rv h1_ hp
      obtain ⟨hv, hf1⟩ := hp
      rw [hv]
      have hF1 := FR.tr FR.rf hf1
      have hL1 : LY h1_ B := FR.ly hF1 hL
      have hS1_52 : hI h1_ (B + 52) = hI h (B + 52) := hF1.2.2.2.2 _ (by unfold Am; omega)
      have hS1_56 : hI h1_ (B + 56) = hI h (B + 56) := hF1.2.2.2.2 _ (by unfold Am; omega)
      clear hv hf1
      show AW V 0 0 h1_ 23 [(0, .ref (B + 51)), (1, .int t)] [.int (dmS P (hI h (B + 52)) (hI h (B + 56)) hl t np)]
      refine a_goto hb 29 dX12_demand_23 (by decide) ?_
      exact a_ireturn (ty := .int) hb hz dX12_demand_29 hret rfl (by rw [hr]; exact Nat.le_of_ble_eq_true rfl) (by rw [hr]; exact Nat.le_of_ble_eq_true rfl) (⟨by first | (simp [*]; done) | (exfalso; clear hz hb ow hr hg hret hml; simp_all), hF1⟩)
  · simp [b2i_0] at c4
    refine a_sipush (v := (-10001)) hb dX12_demand_7 (by decide) ?_
    exact a_ireturn (ty := .int) hb hz dX12_demand_10 hret rfl (by rw [hr]; exact Nat.le_of_ble_eq_true rfl) (by rw [hr]; exact Nat.le_of_ble_eq_true rfl) (⟨by first | (simp [*]; done) | (exfalso; clear hz hb ow hr hg hret hml; simp_all), FR.rf⟩)
