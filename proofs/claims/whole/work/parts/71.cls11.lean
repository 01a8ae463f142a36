/-! ===== the class: beside; without a law ===== -/
theorem c_1 {p : Int32} {b : Nat} (hb : b < 2 ^ 31) (h : oO p 1 (nI b) = false) : ∃ m : Nat, p = nI m ∧ 1 ≤ m ∧ m ≤ b := by
  have a := oO_ti h
  rw [t1, nI_toInt hb] at a
  have h0 : ¬ p < 0 := fun q => by
    have := Int32.lt_iff_toInt_lt.mp q
    rw [t0] at this; omega
  obtain ⟨m, hm, e⟩ := nI_of h0
  rw [e, nI_toInt hm] at a
  exact ⟨m, e, by omega, by omega⟩
set_option maxRecDepth 100000 in
theorem x_beside (g : GG) (h : AH) (B vq lq hl : Nat) (S : Nat → Int32) (N : NN) (P : PF) (hC : CX g h B vq lq hl S N P) (w r mm c : Int32) : AM g 9 0 0 mX11_beside [.ref B, .int w, .int r, .int mm, .int c] h (fun rv h' => rv = some (.int (if oO w 0 (nI N.2.1 - 1) then -1 else if (oO r 0 999 || oO mm 1 20 || oO c 0 999) = true then -2 else (beS S (fun t => dmS P S (fun _ => 0) hl (nI t) N.1) w.toNatClampNeg N.2.1 (S (178 + w.toNatClampNeg)).toNatClampNeg mm.toNatClampNeg w r c 40).2.2.2)) ∧ FR (Xu B vq) h h') := by
  refine AM.of [(0, .ref B), (1, .int w), (2, .int r), (3, .int mm), (4, .int c)] (by decide) (Nat.le_of_ble_eq_true rfl) rfl ?_
  intro V hV
  have hb : V.2.1.2.1 = cX11_beside := by subst hV; rfl
  have ow : V.2.1.1.cls = RX11 := by subst hV; rfl
  have hr : V.2.2.1 = aw_rm 9 0 0 := by subst hV; rfl
  have hz : V.2.2.2 = aw_Z V.1 (fun rv h' => rv = some (.int (if oO w 0 (nI N.2.1 - 1) then -1 else if (oO r 0 999 || oO mm 1 20 || oO c 0 999) = true then -2 else (beS S (fun t => dmS P S (fun _ => 0) hl (nI t) N.1) w.toNatClampNeg N.2.1 (S (178 + w.toNatClampNeg)).toNatClampNeg mm.toNatClampNeg w r c 40).2.2.2)) ∧ FR (Xu B vq) h h') V.2.2.1 := by subst hV; rfl
  have hg : V.1 = g := by subst hV; rfl
  have hret : V.2.1.2.2.2 = (some .int) := by subst hV; rfl
  have hml : V.2.1.2.2.1 = 5 := by subst hV; rfl
  clear hV
  have hvq : B + 62 ≤ vq := hC.2.1.2.2.2.2.2.1
  have hnp := hC.1.np
  have hnw := hC.1.nw
  refine a_aload_n hb dX11_beside_0 rfl 0 rfl ?_
  refine a_iload_n hb dX11_beside_1 rfl 1 rfl ?_
  refine a_callV hb dX11_beside_2 (by rw [hg]; exact x_noWork g h B S N hC.1 w) (by rw [ow]; exact clv_RX11_164) (hC.1.1.1 0 (by decide)) (by decide) rfl rfl rfl (Nat.le_of_ble_eq_true rfl) (by rw [hr]; exact ⟨by decide, by decide⟩) (by rw [hr]; exact ⟨Nat.le_of_ble_eq_true rfl, Nat.le_of_ble_eq_true rfl⟩) ?_
  intro rv h' hq_
  rw [hq_.1, hq_.2]
  show AW V 0 0 h 5 [(0, .ref B), (1, .int w), (2, .int r), (3, .int mm), (4, .int c)] [.int (b2i (oO w 0 (nI N.2.1 - 1)))]
  refine a_if_ne hb 15 dX11_beside_5 (by decide) (fun c5 => ?_) (fun c5 => ?_)
  · simp [b2i_0] at c5
    refine a_iconst (v := (-1)) hb dX11_beside_15 (by decide) ?_
    exact a_ireturn (ty := .int) hb hz dX11_beside_16 hret rfl (by rw [hr]; exact Nat.le_of_ble_eq_true rfl) (by rw [hr]; exact Nat.le_of_ble_eq_true rfl) (⟨by rw [if_pos (by simpa using c5)], FR.rf⟩)
  · simp [b2i_0] at c5
    obtain ⟨w_, rfl, lw⟩ := c_lt (n := N.2.1) (by omega) (by simpa using c5)
    obtain ⟨s, es, s1, s2⟩ := RGw.st (hC.1.rw_ lw)
    obtain ⟨lg, el, l9⟩ := c_le (z := 9) (b := 9) (by decide) (hC.1.rw_ lw).1
    refine a_aload_n hb dX11_beside_8 rfl 0 rfl ?_
    refine a_callV hb dX11_beside_9 (by rw [hg]; exact x_noLaw g h B S N hC.1) (by rw [ow]; exact clv_RX11_136) (hC.1.1.1 0 (by decide)) (by decide) rfl rfl rfl (Nat.le_of_ble_eq_true rfl) (by rw [hr]; exact ⟨by decide, by decide⟩) (by rw [hr]; exact ⟨Nat.le_of_ble_eq_true rfl, Nat.le_of_ble_eq_true rfl⟩) ?_
    intro rv h' hq_
    rw [hq_.1, hq_.2, if_neg (by have := hC.2.1.1; omega)]
    show AW V 0 0 h 12 [(0, .ref B), (1, .int (nI w_)), (2, .int r), (3, .int mm), (4, .int c)] [.int 0]
    refine a_if_eq hb 17 dX11_beside_12 (by decide) (fun c12 => ?_) (fun c12 => absurd (by decide) c12)
    refine a_iload_n hb dX11_beside_17 rfl 2 rfl ?_
    refine a_iconst (v := 0) hb dX11_beside_18 (by decide) ?_
    refine a_sipush (v := 999) hb dX11_beside_19 (by decide) ?_
    refine a_callS hb dX11_beside_22 (by rw [hg]; exact w_outside g h r 0 999) (by rw [ow]; exact cls_RX11_53) rfl rfl (Nat.le_of_ble_eq_true rfl) (by rw [hr]; exact ⟨by decide, by decide⟩) (by rw [hr]; exact ⟨Nat.le_of_ble_eq_true rfl, Nat.le_of_ble_eq_true rfl⟩) ?_
    intro rv h' hq_
    rw [hq_.1, hq_.2]
    show AW V 0 0 h 25 [(0, .ref B), (1, .int (nI w_)), (2, .int r), (3, .int mm), (4, .int c)] [.int (b2i (oO r 0 999))]
    refine a_if_ne hb 46 dX11_beside_25 (by decide) (fun c25 => ?_) (fun c25 => ?_)
    · simp [b2i_0] at c25
      refine a_bipush (v := (-2)) hb dX11_beside_46 (by decide) ?_
      exact a_ireturn (ty := .int) hb hz dX11_beside_48 hret rfl (by rw [hr]; exact Nat.le_of_ble_eq_true rfl) (by rw [hr]; exact Nat.le_of_ble_eq_true rfl) (⟨by rw [if_neg (by simpa using c5), if_pos (by simp [c25])], FR.rf⟩)
    · simp [b2i_0] at c25
      refine a_iload_n hb dX11_beside_28 rfl 3 rfl ?_
      refine a_iconst (v := 1) hb dX11_beside_29 (by decide) ?_
      refine a_bipush (v := 20) hb dX11_beside_30 (by decide) ?_
      refine a_callS hb dX11_beside_32 (by rw [hg]; exact w_outside g h mm 1 20) (by rw [ow]; exact cls_RX11_53) rfl rfl (Nat.le_of_ble_eq_true rfl) (by rw [hr]; exact ⟨by decide, by decide⟩) (by rw [hr]; exact ⟨Nat.le_of_ble_eq_true rfl, Nat.le_of_ble_eq_true rfl⟩) ?_
      intro rv h' hq_
      rw [hq_.1, hq_.2]
      show AW V 0 0 h 35 [(0, .ref B), (1, .int (nI w_)), (2, .int r), (3, .int mm), (4, .int c)] [.int (b2i (oO mm 1 20))]
      refine a_if_ne hb 46 dX11_beside_35 (by decide) (fun c35 => ?_) (fun c35 => ?_)
      · simp [b2i_0] at c35
        refine a_bipush (v := (-2)) hb dX11_beside_46 (by decide) ?_
        exact a_ireturn (ty := .int) hb hz dX11_beside_48 hret rfl (by rw [hr]; exact Nat.le_of_ble_eq_true rfl) (by rw [hr]; exact Nat.le_of_ble_eq_true rfl) (⟨by rw [if_neg (by simpa using c5), if_pos (by simp [c25, c35])], FR.rf⟩)
      · simp [b2i_0] at c35
        obtain ⟨mm_, rfl, lmm⟩ := c_1 (b := 20) (by decide) (show oO mm 1 20 = false by simpa using c35)
        refine a_iload hb dX11_beside_38 4 rfl ?_
        refine a_callS hb dX11_beside_40 (by rw [hg]; exact w_noBound g h c) (by rw [ow]; exact cls_RX11_200) rfl rfl (Nat.le_of_ble_eq_true rfl) (by rw [hr]; exact ⟨by decide, by decide⟩) (by rw [hr]; exact ⟨Nat.le_of_ble_eq_true rfl, Nat.le_of_ble_eq_true rfl⟩) ?_
        intro rv h' hq_
        rw [hq_.1, hq_.2]
        show AW V 0 0 h 43 [(0, .ref B), (1, .int (nI w_)), (2, .int r), (3, .int (nI mm_)), (4, .int c)] [.int (b2i (oO c 0 999))]
        refine a_if_eq hb 49 dX11_beside_43 (by decide) (fun c43 => ?_) (fun c43 => ?_)
        · simp [b2i_0] at c43
          refine a_aload_n hb dX11_beside_49 rfl 0 rfl ?_
          refine a_callV hb dX11_beside_50 (by rw [hg]; exact x_layDemand g h B vq lq hl S N P hC) (by rw [ow]; exact clv_RX11_190) (hC.1.1.1 0 (by decide)) (by decide) rfl rfl rfl (Nat.le_of_ble_eq_true rfl) (by rw [hr]; exact ⟨by decide, by decide⟩) (by rw [hr]; exact ⟨Nat.le_of_ble_eq_true rfl, Nat.le_of_ble_eq_true rfl⟩) ?_
          intro rv h1_ hp
          obtain ⟨hv, hf1, hx1_0⟩ := hp
          rw [hv]
          have hF1 := FR.tr FR.rf (FR.mo (A := Xd B vq) (A' := Xu B vq) hf1 (by intro a; unfold Xd Xu; omega))
          have hC1 := hC.fr (FR.mo (A := Xu B vq) (A' := Ay B vq) hF1 (by intro a; unfold Xu Ay; omega))
          clear hv
          show AW V 0 0 h1_ 53 [(0, .ref B), (1, .int (nI w_)), (2, .int r), (3, .int (nI mm_)), (4, .int c)] []
          refine a_aload_n hb dX11_beside_53 rfl 0 rfl ?_
          refine a_aload_n hb dX11_beside_54 rfl 0 rfl ?_
          refine a_getQ (q := (B + 23)) hb dX11_beside_55 (by rw [ow]; exact fl_RX11_39_11) (hC1.1.1.1 0 (by decide)) (hC1.1.1.2.1 (0, 6, 23) (by decide)) ?_
          refine a_iload_n hb dX11_beside_58 rfl 1 rfl ?_
          refine a_callV hb dX11_beside_59 (by rw [hg]; exact x_layMade23 g h1_ B vq lq hl S N P hC1 (nI w_)) (by rw [ow]; exact clv_RX11_193) (hC1.1.1.1 0 (by decide)) (by decide) rfl rfl rfl (Nat.le_of_ble_eq_true rfl) (by rw [hr]; exact ⟨by decide, by decide⟩) (by rw [hr]; exact ⟨Nat.le_of_ble_eq_true rfl, Nat.le_of_ble_eq_true rfl⟩) ?_
          intro rv h2_ hp
          obtain ⟨hv, hf2, hx2_0⟩ := hp
          rw [hv]
          have hF2 := FR.tr hF1 (FR.mo (A := Xo B vq) (A' := Xu B vq) hf2 (by intro a; unfold Xo Xu; omega))
          have hC2 := hC.fr (FR.mo (A := Xu B vq) (A' := Ay B vq) hF2 (by intro a; unfold Xu Ay; omega))
          clear hv
          show AW V 0 0 h2_ 62 [(0, .ref B), (1, .int (nI w_)), (2, .int r), (3, .int (nI mm_)), (4, .int c)] []
          have hD : ∀ t, t < 40 → hI h2_ (B + 21) t = dmS P S (fun _ => 0) hl (nI t) N.1 := fun t q => by rw [hf2.2.2.2.2 (B + 21) (by unfold Xo; omega)]; exact hx1_0 t q
          refine a_aload_n hb dX11_beside_62 rfl 0 rfl ?_
          refine a_aload_n hb dX11_beside_63 rfl 0 rfl ?_
          refine a_getQ (q := (B + 1)) hb dX11_beside_64 (by rw [ow]; exact fl_RX11_12_11) (hC2.1.1.1 0 (by decide)) (hC2.1.1.2.1 (0, 0, 1) (by decide)) ?_
          refine a_getQ (q := (B + 6)) hb dX11_beside_67 (by rw [ow]; exact fl_RX11_155_7) (hC2.1.1.1 1 (by decide)) (hC2.1.1.2.1 (1, 6, 6) (by decide)) ?_
          refine a_iload_n hb dX11_beside_70 rfl 1 rfl ?_
          obtain ⟨q3, hq3, po3⟩ := hC.1.ws (w := w_) (by omega)
          have hr3 : hQ h2_ (B + 6) w_ = some q3 := by rw [(hF2).2.2.1]; exact hq3
          have pr3 : WO h2_ B S w_ q3 := po3.fr (FR.mo (A := Xu B vq) (A' := Ay B vq) hF2 (by intro a; unfold Xu Ay; omega)) hC.2.1.2.2.2.2.2.2
          refine b_aaldS (j := w_) (q := q3) hb dX11_beside_71 (hC2.1.1.1 6 (by decide)) (by decide) (by decide) (IX.n (by omega)) (by omega) hr3 ?_
          refine a_iload_n hb dX11_beside_72 rfl 2 rfl ?_
          refine a_iload_n hb dX11_beside_73 rfl 3 rfl ?_
          refine a_iload hb dX11_beside_74 4 rfl ?_
          refine a_callV hb dX11_beside_76 (by rw [hg]; exact x_firstByRule g h2_ B vq lq hl S N P hC2 w_ q3 (by omega) pr3 s lg mm_ es s1 s2 el l9 lmm.2 r c hD hx2_0) (by rw [ow]; exact clv_RX11_243) (hC2.1.1.1 0 (by decide)) (by decide) rfl rfl rfl (Nat.le_of_ble_eq_true rfl) (by rw [hr]; exact ⟨by decide, by decide⟩) (by rw [hr]; exact ⟨Nat.le_of_ble_eq_true rfl, Nat.le_of_ble_eq_true rfl⟩) ?_
          intro rv h4_ hp
          obtain ⟨hv, hf4⟩ := hp
          rw [hv]
          have hF4 := FR.tr hF2 (FR.mo (A := Xq B vq) (A' := Xu B vq) hf4 (by intro a; unfold Xq Xu; omega))
          have hC4 := hC.fr (FR.mo (A := Xu B vq) (A' := Ay B vq) hF4 (by intro a; unfold Xu Ay; omega))
          clear hv
          have po4_0 : WO h4_ B S w_ q3 := po3.fr (FR.mo (A := Xu B vq) (A' := Ay B vq) hF4 (by intro a; unfold Xu Ay; omega)) hC.2.1.2.2.2.2.2.2
          show AW V 0 0 h4_ 79 [(0, .ref B), (1, .int (nI w_)), (2, .int r), (3, .int (nI mm_)), (4, .int c)] [.int ((beS S (fun t => dmS P S (fun _ => 0) hl (nI t) N.1) w_ N.2.1 lg mm_ (nI w_) r c 40).2.2.2)]
          exact a_ireturn (ty := .int) hb hz dX11_beside_79 hret rfl (by rw [hr]; exact Nat.le_of_ble_eq_true rfl) (by rw [hr]; exact Nat.le_of_ble_eq_true rfl) (⟨by rw [if_neg (by simpa using c5), if_neg (by simp [c25, c35, c43]), nI_clamp (n := w_) (by omega), nI_clamp (n := mm_) (by omega), el, nI_clamp (n := lg) (by omega)], hF4⟩)
        · simp [b2i_0] at c43
          refine a_bipush (v := (-2)) hb dX11_beside_46 (by decide) ?_
          exact a_ireturn (ty := .int) hb hz dX11_beside_48 hret rfl (by rw [hr]; exact Nat.le_of_ble_eq_true rfl) (by rw [hr]; exact Nat.le_of_ble_eq_true rfl) (⟨by rw [if_neg (by simpa using c5), if_pos (by simp [c25, c35, c43])], FR.rf⟩)
set_option maxRecDepth 100000 in
theorem xn_drawn (g : GG) (h : AH) (B : Nat) (S : Nat → Int32) (N : NN) (hX : XN h B S N) (hnl : N.2.2.1 = 0) (p t : Int32) : AM g 3 0 0 mX11_drawn [.ref B, .int p, .int t] h (fun rv h' => rv = some (.int (-1001)) ∧ h' = h) := by
  refine AM.of [(0, .ref B), (1, .int p), (2, .int t)] (by decide) (Nat.le_of_ble_eq_true rfl) rfl ?_
  intro V hV
  have hb : V.2.1.2.1 = cX11_drawn := by subst hV; rfl
  have ow : V.2.1.1.cls = RX11 := by subst hV; rfl
  have hr : V.2.2.1 = aw_rm 3 0 0 := by subst hV; rfl
  have hz : V.2.2.2 = aw_Z V.1 (fun rv h' => rv = some (.int (-1001)) ∧ h' = h) V.2.2.1 := by subst hV; rfl
  have hg : V.1 = g := by subst hV; rfl
  have hret : V.2.1.2.2.2 = (some .int) := by subst hV; rfl
  have hml : V.2.1.2.2.1 = 4 := by subst hV; rfl
  clear hV
  have hnp := hX.np
  have hnw := hX.nw
  refine a_aload_n hb dX11_drawn_0 rfl 0 rfl ?_
  refine a_iload_n hb dX11_drawn_1 rfl 1 rfl ?_
  refine a_callV hb dX11_drawn_2 (by rw [hg]; exact x_noPause g h B S N hX p) (by rw [ow]; exact clv_RX11_79) (hX.1.1 0 (by decide)) (by decide) rfl rfl rfl (Nat.le_of_ble_eq_true rfl) (by rw [hr]; exact ⟨by decide, by decide⟩) (by rw [hr]; exact ⟨Nat.le_of_ble_eq_true rfl, Nat.le_of_ble_eq_true rfl⟩) ?_
  intro rv h' hq_
  rw [hq_.1, hq_.2]
  show AW V 0 0 h 5 [(0, .ref B), (1, .int p), (2, .int t)] [.int (b2i (oO p 0 (nI N.1 - 1)))]
  refine a_if_ne hb 15 dX11_drawn_5 (by decide) (fun c5 => ?_) (fun c5 => ?_)
  · simp [b2i_0] at c5
    refine a_sipush (v := (-1001)) hb dX11_drawn_15 (by decide) ?_
    exact a_ireturn (ty := .int) hb hz dX11_drawn_18 hret rfl (by rw [hr]; exact Nat.le_of_ble_eq_true rfl) (by rw [hr]; exact Nat.le_of_ble_eq_true rfl) (⟨rfl, rfl⟩)
  · simp [b2i_0] at c5
    refine a_aload_n hb dX11_drawn_8 rfl 0 rfl ?_
    refine a_callV hb dX11_drawn_9 (by rw [hg]; exact x_noLaw g h B S N hX) (by rw [ow]; exact clv_RX11_136) (hX.1.1 0 (by decide)) (by decide) rfl rfl rfl (Nat.le_of_ble_eq_true rfl) (by rw [hr]; exact ⟨by decide, by decide⟩) (by rw [hr]; exact ⟨Nat.le_of_ble_eq_true rfl, Nat.le_of_ble_eq_true rfl⟩) ?_
    intro rv h' hq_
    rw [hq_.1, hq_.2, if_pos hnl]
    show AW V 0 0 h 12 [(0, .ref B), (1, .int p), (2, .int t)] [.int 1]
    refine a_if_eq hb 19 dX11_drawn_12 (by decide) (fun c12 => absurd c12 (by decide)) (fun c12 => ?_)
    refine a_sipush (v := (-1001)) hb dX11_drawn_15 (by decide) ?_
    exact a_ireturn (ty := .int) hb hz dX11_drawn_18 hret rfl (by rw [hr]; exact Nat.le_of_ble_eq_true rfl) (by rw [hr]; exact Nat.le_of_ble_eq_true rfl) (⟨rfl, rfl⟩)
set_option maxRecDepth 100000 in
theorem xn_demand (g : GG) (h : AH) (B : Nat) (S : Nat → Int32) (N : NN) (hX : XN h B S N) (hnl : N.2.2.1 = 0) (t : Int32) : AM g 3 0 0 mX11_demand [.ref B, .int t] h (fun rv h' => rv = some (.int (-10001)) ∧ h' = h) := by
  refine AM.of [(0, .ref B), (1, .int t)] (by decide) (Nat.le_of_ble_eq_true rfl) rfl ?_
  intro V hV
  have hb : V.2.1.2.1 = cX11_demand := by subst hV; rfl
  have ow : V.2.1.1.cls = RX11 := by subst hV; rfl
  have hr : V.2.2.1 = aw_rm 3 0 0 := by subst hV; rfl
  have hz : V.2.2.2 = aw_Z V.1 (fun rv h' => rv = some (.int (-10001)) ∧ h' = h) V.2.2.1 := by subst hV; rfl
  have hg : V.1 = g := by subst hV; rfl
  have hret : V.2.1.2.2.2 = (some .int) := by subst hV; rfl
  have hml : V.2.1.2.2.1 = 2 := by subst hV; rfl
  clear hV
  have hnp := hX.np
  have hnw := hX.nw
  refine a_aload_n hb dX11_demand_0 rfl 0 rfl ?_
  refine a_callV hb dX11_demand_1 (by rw [hg]; exact x_noLaw g h B S N hX) (by rw [ow]; exact clv_RX11_136) (hX.1.1 0 (by decide)) (by decide) rfl rfl rfl (Nat.le_of_ble_eq_true rfl) (by rw [hr]; exact ⟨by decide, by decide⟩) (by rw [hr]; exact ⟨Nat.le_of_ble_eq_true rfl, Nat.le_of_ble_eq_true rfl⟩) ?_
  intro rv h' hq_
  rw [hq_.1, hq_.2, if_pos hnl]
  show AW V 0 0 h 4 [(0, .ref B), (1, .int t)] [.int 1]
  refine a_if_eq hb 11 dX11_demand_4 (by decide) (fun c4 => absurd c4 (by decide)) (fun c4 => ?_)
  refine a_sipush (v := (-10001)) hb dX11_demand_7 (by decide) ?_
  exact a_ireturn (ty := .int) hb hz dX11_demand_10 hret rfl (by rw [hr]; exact Nat.le_of_ble_eq_true rfl) (by rw [hr]; exact Nat.le_of_ble_eq_true rfl) (⟨rfl, rfl⟩)
set_option maxRecDepth 100000 in
theorem xn_beat (g : GG) (h : AH) (B : Nat) (S : Nat → Int32) (N : NN) (hX : XN h B S N) (hnl : N.2.2.1 = 0) (t : Int32) : AM g 3 0 0 mX11_beat [.ref B, .int t] h (fun rv h' => rv = some (.long (-9223372036854775808)) ∧ h' = h) := by
  refine AM.of [(0, .ref B), (1, .int t)] (by decide) (Nat.le_of_ble_eq_true rfl) rfl ?_
  intro V hV
  have hb : V.2.1.2.1 = cX11_beat := by subst hV; rfl
  have ow : V.2.1.1.cls = RX11 := by subst hV; rfl
  have hr : V.2.2.1 = aw_rm 3 0 0 := by subst hV; rfl
  have hz : V.2.2.2 = aw_Z V.1 (fun rv h' => rv = some (.long (-9223372036854775808)) ∧ h' = h) V.2.2.1 := by subst hV; rfl
  have hg : V.1 = g := by subst hV; rfl
  have hret : V.2.1.2.2.2 = (some .long) := by subst hV; rfl
  have hml : V.2.1.2.2.1 = 4 := by subst hV; rfl
  clear hV
  have hnp := hX.np
  have hnw := hX.nw
  refine a_aload_n hb dX11_beat_0 rfl 0 rfl ?_
  refine a_callV hb dX11_beat_1 (by rw [hg]; exact x_noLaw g h B S N hX) (by rw [ow]; exact clv_RX11_136) (hX.1.1 0 (by decide)) (by decide) rfl rfl rfl (Nat.le_of_ble_eq_true rfl) (by rw [hr]; exact ⟨by decide, by decide⟩) (by rw [hr]; exact ⟨Nat.le_of_ble_eq_true rfl, Nat.le_of_ble_eq_true rfl⟩) ?_
  intro rv h' hq_
  rw [hq_.1, hq_.2, if_pos hnl]
  show AW V 0 0 h 4 [(0, .ref B), (1, .int t)] [.int 1]
  refine a_if_ne hb 14 dX11_beat_4 (by decide) (fun c4 => ?_) (fun c4 => absurd c4 (by decide))
  refine a_ldc2 (v := (-9223372036854775808)) hb dX11_beat_14 (by rw [ow]; exact kw_774) ?_
  exact a_lreturn hb hz dX11_beat_17 hret (by rw [hr]; exact Nat.le_of_ble_eq_true rfl) (by rw [hr]; exact Nat.le_of_ble_eq_true rfl) (⟨rfl, rfl⟩)
set_option maxRecDepth 100000 in
theorem xn_first (g : GG) (h : AH) (B : Nat) (S : Nat → Int32) (N : NN) (hX : XN h B S N) (hnl : N.2.2.1 = 0) (c : Int32) : AM g 3 0 0 mX11_first [.ref B, .int c] h (fun rv h' => rv = some (.int (-1)) ∧ h' = h) := by
  refine AM.of [(0, .ref B), (1, .int c)] (by decide) (Nat.le_of_ble_eq_true rfl) rfl ?_
  intro V hV
  have hb : V.2.1.2.1 = cX11_first := by subst hV; rfl
  have ow : V.2.1.1.cls = RX11 := by subst hV; rfl
  have hr : V.2.2.1 = aw_rm 3 0 0 := by subst hV; rfl
  have hz : V.2.2.2 = aw_Z V.1 (fun rv h' => rv = some (.int (-1)) ∧ h' = h) V.2.2.1 := by subst hV; rfl
  have hg : V.1 = g := by subst hV; rfl
  have hret : V.2.1.2.2.2 = (some .int) := by subst hV; rfl
  have hml : V.2.1.2.2.1 = 2 := by subst hV; rfl
  clear hV
  have hnp := hX.np
  have hnw := hX.nw
  refine a_aload_n hb dX11_first_0 rfl 0 rfl ?_
  refine a_callV hb dX11_first_1 (by rw [hg]; exact x_noLaw g h B S N hX) (by rw [ow]; exact clv_RX11_136) (hX.1.1 0 (by decide)) (by decide) rfl rfl rfl (Nat.le_of_ble_eq_true rfl) (by rw [hr]; exact ⟨by decide, by decide⟩) (by rw [hr]; exact ⟨Nat.le_of_ble_eq_true rfl, Nat.le_of_ble_eq_true rfl⟩) ?_
  intro rv h' hq_
  rw [hq_.1, hq_.2, if_pos hnl]
  show AW V 0 0 h 4 [(0, .ref B), (1, .int c)] [.int 1]
  refine a_if_eq hb 9 dX11_first_4 (by decide) (fun c4 => absurd c4 (by decide)) (fun c4 => ?_)
  refine a_iconst (v := (-1)) hb dX11_first_7 (by decide) ?_
  exact a_ireturn (ty := .int) hb hz dX11_first_8 hret rfl (by rw [hr]; exact Nat.le_of_ble_eq_true rfl) (by rw [hr]; exact Nat.le_of_ble_eq_true rfl) (⟨rfl, rfl⟩)
set_option maxRecDepth 100000 in
theorem xn_wave (g : GG) (h : AH) (B : Nat) (S : Nat → Int32) (N : NN) (hX : XN h B S N) (hnl : N.2.2.1 = 0) (x : Int32) : AM g 3 0 0 mX11_wave [.ref B, .int x] h (fun rv h' => rv = some (.long (-9223372036854775808)) ∧ h' = h) := by
  refine AM.of [(0, .ref B), (1, .int x)] (by decide) (Nat.le_of_ble_eq_true rfl) rfl ?_
  intro V hV
  have hb : V.2.1.2.1 = cX11_wave := by subst hV; rfl
  have ow : V.2.1.1.cls = RX11 := by subst hV; rfl
  have hr : V.2.2.1 = aw_rm 3 0 0 := by subst hV; rfl
  have hz : V.2.2.2 = aw_Z V.1 (fun rv h' => rv = some (.long (-9223372036854775808)) ∧ h' = h) V.2.2.1 := by subst hV; rfl
  have hg : V.1 = g := by subst hV; rfl
  have hret : V.2.1.2.2.2 = (some .long) := by subst hV; rfl
  have hml : V.2.1.2.2.1 = 6 := by subst hV; rfl
  clear hV
  have hnp := hX.np
  have hnw := hX.nw
  refine a_aload_n hb dX11_wave_0 rfl 0 rfl ?_
  refine a_callV hb dX11_wave_1 (by rw [hg]; exact x_noLaw g h B S N hX) (by rw [ow]; exact clv_RX11_136) (hX.1.1 0 (by decide)) (by decide) rfl rfl rfl (Nat.le_of_ble_eq_true rfl) (by rw [hr]; exact ⟨by decide, by decide⟩) (by rw [hr]; exact ⟨Nat.le_of_ble_eq_true rfl, Nat.le_of_ble_eq_true rfl⟩) ?_
  intro rv h' hq_
  rw [hq_.1, hq_.2, if_pos hnl]
  show AW V 0 0 h 4 [(0, .ref B), (1, .int x)] [.int 1]
  refine a_if_ne hb 16 dX11_wave_4 (by decide) (fun c4 => ?_) (fun c4 => absurd c4 (by decide))
  refine a_ldc2 (v := (-9223372036854775808)) hb dX11_wave_16 (by rw [ow]; exact kw_774) ?_
  exact a_lreturn hb hz dX11_wave_19 hret (by rw [hr]; exact Nat.le_of_ble_eq_true rfl) (by rw [hr]; exact Nat.le_of_ble_eq_true rfl) (⟨rfl, rfl⟩)
set_option maxRecDepth 100000 in
theorem xn_inertia (g : GG) (h : AH) (B : Nat) (S : Nat → Int32) (N : NN) (hX : XN h B S N) (hnl : N.2.2.1 = 0) (c : Int32) : AM g 3 0 0 mX11_inertia [.ref B, .int c] h (fun rv h' => rv = some (.int (-1)) ∧ h' = h) := by
  refine AM.of [(0, .ref B), (1, .int c)] (by decide) (Nat.le_of_ble_eq_true rfl) rfl ?_
  intro V hV
  have hb : V.2.1.2.1 = cX11_inertia := by subst hV; rfl
  have ow : V.2.1.1.cls = RX11 := by subst hV; rfl
  have hr : V.2.2.1 = aw_rm 3 0 0 := by subst hV; rfl
  have hz : V.2.2.2 = aw_Z V.1 (fun rv h' => rv = some (.int (-1)) ∧ h' = h) V.2.2.1 := by subst hV; rfl
  have hg : V.1 = g := by subst hV; rfl
  have hret : V.2.1.2.2.2 = (some .int) := by subst hV; rfl
  have hml : V.2.1.2.2.1 = 3 := by subst hV; rfl
  clear hV
  have hnp := hX.np
  have hnw := hX.nw
  refine a_aload_n hb dX11_inertia_0 rfl 0 rfl ?_
  refine a_callV hb dX11_inertia_1 (by rw [hg]; exact x_noLaw g h B S N hX) (by rw [ow]; exact clv_RX11_136) (hX.1.1 0 (by decide)) (by decide) rfl rfl rfl (Nat.le_of_ble_eq_true rfl) (by rw [hr]; exact ⟨by decide, by decide⟩) (by rw [hr]; exact ⟨Nat.le_of_ble_eq_true rfl, Nat.le_of_ble_eq_true rfl⟩) ?_
  intro rv h' hq_
  rw [hq_.1, hq_.2, if_pos hnl]
  show AW V 0 0 h 4 [(0, .ref B), (1, .int c)] [.int 1]
  refine a_if_eq hb 9 dX11_inertia_4 (by decide) (fun c4 => absurd c4 (by decide)) (fun c4 => ?_)
  refine a_iconst (v := (-1)) hb dX11_inertia_7 (by decide) ?_
  exact a_ireturn (ty := .int) hb hz dX11_inertia_8 hret rfl (by rw [hr]; exact Nat.le_of_ble_eq_true rfl) (by rw [hr]; exact Nat.le_of_ble_eq_true rfl) (⟨rfl, rfl⟩)
set_option maxRecDepth 100000 in
theorem xn_best (g : GG) (h : AH) (B : Nat) (S : Nat → Int32) (N : NN) (hX : XN h B S N) (hnl : N.2.2.1 = 0) (w c x : Int32) : AM g 3 0 0 mX11_best [.ref B, .int w, .int c, .int x] h (fun rv h' => rv = some (.int (-1)) ∧ h' = h) := by
  refine AM.of [(0, .ref B), (1, .int w), (2, .int c), (3, .int x)] (by decide) (Nat.le_of_ble_eq_true rfl) rfl ?_
  intro V hV
  have hb : V.2.1.2.1 = cX11_best := by subst hV; rfl
  have ow : V.2.1.1.cls = RX11 := by subst hV; rfl
  have hr : V.2.2.1 = aw_rm 3 0 0 := by subst hV; rfl
  have hz : V.2.2.2 = aw_Z V.1 (fun rv h' => rv = some (.int (-1)) ∧ h' = h) V.2.2.1 := by subst hV; rfl
  have hg : V.1 = g := by subst hV; rfl
  have hret : V.2.1.2.2.2 = (some .int) := by subst hV; rfl
  have hml : V.2.1.2.2.1 = 5 := by subst hV; rfl
  clear hV
  have hnp := hX.np
  have hnw := hX.nw
  refine a_aload_n hb dX11_best_0 rfl 0 rfl ?_
  refine a_iload_n hb dX11_best_1 rfl 1 rfl ?_
  refine a_callV hb dX11_best_2 (by rw [hg]; exact x_noWork g h B S N hX w) (by rw [ow]; exact clv_RX11_164) (hX.1.1 0 (by decide)) (by decide) rfl rfl rfl (Nat.le_of_ble_eq_true rfl) (by rw [hr]; exact ⟨by decide, by decide⟩) (by rw [hr]; exact ⟨Nat.le_of_ble_eq_true rfl, Nat.le_of_ble_eq_true rfl⟩) ?_
  intro rv h' hq_
  rw [hq_.1, hq_.2]
  show AW V 0 0 h 5 [(0, .ref B), (1, .int w), (2, .int c), (3, .int x)] [.int (b2i (oO w 0 (nI N.2.1 - 1)))]
  refine a_if_ne hb 24 dX11_best_5 (by decide) (fun c5 => ?_) (fun c5 => ?_)
  · simp [b2i_0] at c5
    refine a_iconst (v := (-1)) hb dX11_best_24 (by decide) ?_
    exact a_ireturn (ty := .int) hb hz dX11_best_25 hret rfl (by rw [hr]; exact Nat.le_of_ble_eq_true rfl) (by rw [hr]; exact Nat.le_of_ble_eq_true rfl) (⟨rfl, rfl⟩)
  · simp [b2i_0] at c5
    refine a_iload_n hb dX11_best_8 rfl 3 rfl ?_
    refine a_iconst (v := 0) hb dX11_best_9 (by decide) ?_
    refine a_iconst (v := 2) hb dX11_best_10 (by decide) ?_
    refine a_callS hb dX11_best_11 (by rw [hg]; exact w_outside g h x 0 2) (by rw [ow]; exact cls_RX11_53) rfl rfl (Nat.le_of_ble_eq_true rfl) (by rw [hr]; exact ⟨by decide, by decide⟩) (by rw [hr]; exact ⟨Nat.le_of_ble_eq_true rfl, Nat.le_of_ble_eq_true rfl⟩) ?_
    intro rv h' hq_
    rw [hq_.1, hq_.2]
    show AW V 0 0 h 14 [(0, .ref B), (1, .int w), (2, .int c), (3, .int x)] [.int (b2i (oO x 0 2))]
    refine a_if_ne hb 24 dX11_best_14 (by decide) (fun c14 => ?_) (fun c14 => ?_)
    · simp [b2i_0] at c14
      refine a_iconst (v := (-1)) hb dX11_best_24 (by decide) ?_
      exact a_ireturn (ty := .int) hb hz dX11_best_25 hret rfl (by rw [hr]; exact Nat.le_of_ble_eq_true rfl) (by rw [hr]; exact Nat.le_of_ble_eq_true rfl) (⟨rfl, rfl⟩)
    · simp [b2i_0] at c14
      refine a_aload_n hb dX11_best_17 rfl 0 rfl ?_
      refine a_callV hb dX11_best_18 (by rw [hg]; exact x_noLaw g h B S N hX) (by rw [ow]; exact clv_RX11_136) (hX.1.1 0 (by decide)) (by decide) rfl rfl rfl (Nat.le_of_ble_eq_true rfl) (by rw [hr]; exact ⟨by decide, by decide⟩) (by rw [hr]; exact ⟨Nat.le_of_ble_eq_true rfl, Nat.le_of_ble_eq_true rfl⟩) ?_
      intro rv h' hq_
      rw [hq_.1, hq_.2, if_pos hnl]
      show AW V 0 0 h 21 [(0, .ref B), (1, .int w), (2, .int c), (3, .int x)] [.int 1]
      refine a_if_eq hb 26 dX11_best_21 (by decide) (fun c21 => absurd c21 (by decide)) (fun c21 => ?_)
      refine a_iconst (v := (-1)) hb dX11_best_24 (by decide) ?_
      exact a_ireturn (ty := .int) hb hz dX11_best_25 hret rfl (by rw [hr]; exact Nat.le_of_ble_eq_true rfl) (by rw [hr]; exact Nat.le_of_ble_eq_true rfl) (⟨rfl, rfl⟩)
set_option maxRecDepth 100000 in
theorem xn_sure (g : GG) (h : AH) (B : Nat) (S : Nat → Int32) (N : NN) (hX : XN h B S N) (hnl : N.2.2.1 = 0) (c x : Int32) : AM g 3 0 0 mX11_sure [.ref B, .int c, .int x] h (fun rv h' => rv = some (.long (-9223372036854775808)) ∧ h' = h) := by
  refine AM.of [(0, .ref B), (1, .int c), (2, .int x)] (by decide) (Nat.le_of_ble_eq_true rfl) rfl ?_
  intro V hV
  have hb : V.2.1.2.1 = cX11_sure := by subst hV; rfl
  have ow : V.2.1.1.cls = RX11 := by subst hV; rfl
  have hr : V.2.2.1 = aw_rm 3 0 0 := by subst hV; rfl
  have hz : V.2.2.2 = aw_Z V.1 (fun rv h' => rv = some (.long (-9223372036854775808)) ∧ h' = h) V.2.2.1 := by subst hV; rfl
  have hg : V.1 = g := by subst hV; rfl
  have hret : V.2.1.2.2.2 = (some .long) := by subst hV; rfl
  have hml : V.2.1.2.2.1 = 10 := by subst hV; rfl
  clear hV
  have hnp := hX.np
  have hnw := hX.nw
  refine a_aload_n hb dX11_sure_0 rfl 0 rfl ?_
  refine a_callV hb dX11_sure_1 (by rw [hg]; exact x_noLaw g h B S N hX) (by rw [ow]; exact clv_RX11_136) (hX.1.1 0 (by decide)) (by decide) rfl rfl rfl (Nat.le_of_ble_eq_true rfl) (by rw [hr]; exact ⟨by decide, by decide⟩) (by rw [hr]; exact ⟨Nat.le_of_ble_eq_true rfl, Nat.le_of_ble_eq_true rfl⟩) ?_
  intro rv h' hq_
  rw [hq_.1, hq_.2, if_pos hnl]
  show AW V 0 0 h 4 [(0, .ref B), (1, .int c), (2, .int x)] [.int 1]
  refine a_if_ne hb 31 dX11_sure_4 (by decide) (fun c4 => ?_) (fun c4 => absurd c4 (by decide))
  refine a_ldc2 (v := (-9223372036854775808)) hb dX11_sure_31 (by rw [ow]; exact kw_774) ?_
  exact a_lreturn hb hz dX11_sure_34 hret (by rw [hr]; exact Nat.le_of_ble_eq_true rfl) (by rw [hr]; exact Nat.le_of_ble_eq_true rfl) (⟨rfl, rfl⟩)
set_option maxRecDepth 100000 in
theorem xn_worst (g : GG) (h : AH) (B : Nat) (S : Nat → Int32) (N : NN) (hX : XN h B S N) (hnl : N.2.2.1 = 0) (c x : Int32) : AM g 3 0 0 mX11_worst [.ref B, .int c, .int x] h (fun rv h' => rv = some (.int (-1)) ∧ h' = h) := by
  refine AM.of [(0, .ref B), (1, .int c), (2, .int x)] (by decide) (Nat.le_of_ble_eq_true rfl) rfl ?_
  intro V hV
  have hb : V.2.1.2.1 = cX11_worst := by subst hV; rfl
  have ow : V.2.1.1.cls = RX11 := by subst hV; rfl
  have hr : V.2.2.1 = aw_rm 3 0 0 := by subst hV; rfl
  have hz : V.2.2.2 = aw_Z V.1 (fun rv h' => rv = some (.int (-1)) ∧ h' = h) V.2.2.1 := by subst hV; rfl
  have hg : V.1 = g := by subst hV; rfl
  have hret : V.2.1.2.2.2 = (some .int) := by subst hV; rfl
  have hml : V.2.1.2.2.1 = 8 := by subst hV; rfl
  clear hV
  have hnp := hX.np
  have hnw := hX.nw
  refine a_iload_n hb dX11_worst_0 rfl 2 rfl ?_
  refine a_iconst (v := 0) hb dX11_worst_1 (by decide) ?_
  refine a_iconst (v := 1) hb dX11_worst_2 (by decide) ?_
  refine a_callS hb dX11_worst_3 (by rw [hg]; exact w_outside g h x 0 1) (by rw [ow]; exact cls_RX11_53) rfl rfl (Nat.le_of_ble_eq_true rfl) (by rw [hr]; exact ⟨by decide, by decide⟩) (by rw [hr]; exact ⟨Nat.le_of_ble_eq_true rfl, Nat.le_of_ble_eq_true rfl⟩) ?_
  intro rv h' hq_
  rw [hq_.1, hq_.2]
  show AW V 0 0 h 6 [(0, .ref B), (1, .int c), (2, .int x)] [.int (b2i (oO x 0 1))]
  refine a_if_ne hb 16 dX11_worst_6 (by decide) (fun c6 => ?_) (fun c6 => ?_)
  · simp [b2i_0] at c6
    refine a_iconst (v := (-1)) hb dX11_worst_16 (by decide) ?_
    exact a_ireturn (ty := .int) hb hz dX11_worst_17 hret rfl (by rw [hr]; exact Nat.le_of_ble_eq_true rfl) (by rw [hr]; exact Nat.le_of_ble_eq_true rfl) (⟨rfl, rfl⟩)
  · simp [b2i_0] at c6
    refine a_aload_n hb dX11_worst_9 rfl 0 rfl ?_
    refine a_callV hb dX11_worst_10 (by rw [hg]; exact x_noLaw g h B S N hX) (by rw [ow]; exact clv_RX11_136) (hX.1.1 0 (by decide)) (by decide) rfl rfl rfl (Nat.le_of_ble_eq_true rfl) (by rw [hr]; exact ⟨by decide, by decide⟩) (by rw [hr]; exact ⟨Nat.le_of_ble_eq_true rfl, Nat.le_of_ble_eq_true rfl⟩) ?_
    intro rv h' hq_
    rw [hq_.1, hq_.2, if_pos hnl]
    show AW V 0 0 h 13 [(0, .ref B), (1, .int c), (2, .int x)] [.int 1]
    refine a_if_eq hb 18 dX11_worst_13 (by decide) (fun c13 => absurd c13 (by decide)) (fun c13 => ?_)
    refine a_iconst (v := (-1)) hb dX11_worst_16 (by decide) ?_
    exact a_ireturn (ty := .int) hb hz dX11_worst_17 hret rfl (by rw [hr]; exact Nat.le_of_ble_eq_true rfl) (by rw [hr]; exact Nat.le_of_ble_eq_true rfl) (⟨rfl, rfl⟩)
set_option maxRecDepth 100000 in
theorem xn_beside (g : GG) (h : AH) (B : Nat) (S : Nat → Int32) (N : NN) (hX : XN h B S N) (hnl : N.2.2.1 = 0) (w r mm c : Int32) : AM g 3 0 0 mX11_beside [.ref B, .int w, .int r, .int mm, .int c] h (fun rv h' => rv = some (.int (-1)) ∧ h' = h) := by
  refine AM.of [(0, .ref B), (1, .int w), (2, .int r), (3, .int mm), (4, .int c)] (by decide) (Nat.le_of_ble_eq_true rfl) rfl ?_
  intro V hV
  have hb : V.2.1.2.1 = cX11_beside := by subst hV; rfl
  have ow : V.2.1.1.cls = RX11 := by subst hV; rfl
  have hr : V.2.2.1 = aw_rm 3 0 0 := by subst hV; rfl
  have hz : V.2.2.2 = aw_Z V.1 (fun rv h' => rv = some (.int (-1)) ∧ h' = h) V.2.2.1 := by subst hV; rfl
  have hg : V.1 = g := by subst hV; rfl
  have hret : V.2.1.2.2.2 = (some .int) := by subst hV; rfl
  have hml : V.2.1.2.2.1 = 5 := by subst hV; rfl
  clear hV
  have hnp := hX.np
  have hnw := hX.nw
  refine a_aload_n hb dX11_beside_0 rfl 0 rfl ?_
  refine a_iload_n hb dX11_beside_1 rfl 1 rfl ?_
  refine a_callV hb dX11_beside_2 (by rw [hg]; exact x_noWork g h B S N hX w) (by rw [ow]; exact clv_RX11_164) (hX.1.1 0 (by decide)) (by decide) rfl rfl rfl (Nat.le_of_ble_eq_true rfl) (by rw [hr]; exact ⟨by decide, by decide⟩) (by rw [hr]; exact ⟨Nat.le_of_ble_eq_true rfl, Nat.le_of_ble_eq_true rfl⟩) ?_
  intro rv h' hq_
  rw [hq_.1, hq_.2]
  show AW V 0 0 h 5 [(0, .ref B), (1, .int w), (2, .int r), (3, .int mm), (4, .int c)] [.int (b2i (oO w 0 (nI N.2.1 - 1)))]
  refine a_if_ne hb 15 dX11_beside_5 (by decide) (fun c5 => ?_) (fun c5 => ?_)
  · simp [b2i_0] at c5
    refine a_iconst (v := (-1)) hb dX11_beside_15 (by decide) ?_
    exact a_ireturn (ty := .int) hb hz dX11_beside_16 hret rfl (by rw [hr]; exact Nat.le_of_ble_eq_true rfl) (by rw [hr]; exact Nat.le_of_ble_eq_true rfl) (⟨rfl, rfl⟩)
  · simp [b2i_0] at c5
    refine a_aload_n hb dX11_beside_8 rfl 0 rfl ?_
    refine a_callV hb dX11_beside_9 (by rw [hg]; exact x_noLaw g h B S N hX) (by rw [ow]; exact clv_RX11_136) (hX.1.1 0 (by decide)) (by decide) rfl rfl rfl (Nat.le_of_ble_eq_true rfl) (by rw [hr]; exact ⟨by decide, by decide⟩) (by rw [hr]; exact ⟨Nat.le_of_ble_eq_true rfl, Nat.le_of_ble_eq_true rfl⟩) ?_
    intro rv h' hq_
    rw [hq_.1, hq_.2, if_pos hnl]
    show AW V 0 0 h 12 [(0, .ref B), (1, .int w), (2, .int r), (3, .int mm), (4, .int c)] [.int 1]
    refine a_if_eq hb 17 dX11_beside_12 (by decide) (fun c12 => absurd c12 (by decide)) (fun c12 => ?_)
    refine a_iconst (v := (-1)) hb dX11_beside_15 (by decide) ?_
    exact a_ireturn (ty := .int) hb hz dX11_beside_16 hret rfl (by rw [hr]; exact Nat.le_of_ble_eq_true rfl) (by rw [hr]; exact Nat.le_of_ble_eq_true rfl) (⟨rfl, rfl⟩)
set_option maxRecDepth 100000 in
theorem xn_pump (g : GG) (h : AH) (B : Nat) (S : Nat → Int32) (N : NN) (hX : XN h B S N) (hnl : N.2.2.1 = 0) (p k : Int32) : AM g 3 0 0 mX11_pump [.ref B, .int p, .int k] h (fun rv h' => rv = some (.int (-1)) ∧ h' = h) := by
  refine AM.of [(0, .ref B), (1, .int p), (2, .int k)] (by decide) (Nat.le_of_ble_eq_true rfl) rfl ?_
  intro V hV
  have hb : V.2.1.2.1 = cX11_pump := by subst hV; rfl
  have ow : V.2.1.1.cls = RX11 := by subst hV; rfl
  have hr : V.2.2.1 = aw_rm 3 0 0 := by subst hV; rfl
  have hz : V.2.2.2 = aw_Z V.1 (fun rv h' => rv = some (.int (-1)) ∧ h' = h) V.2.2.1 := by subst hV; rfl
  have hg : V.1 = g := by subst hV; rfl
  have hret : V.2.1.2.2.2 = (some .int) := by subst hV; rfl
  have hml : V.2.1.2.2.1 = 8 := by subst hV; rfl
  clear hV
  have hnp := hX.np
  have hnw := hX.nw
  refine a_iload_n hb dX11_pump_0 rfl 1 rfl ?_
  refine a_iconst (v := 0) hb dX11_pump_1 (by decide) ?_
  refine a_bipush (v := 9) hb dX11_pump_2 (by decide) ?_
  refine a_callS hb dX11_pump_4 (by rw [hg]; exact w_outside g h p 0 9) (by rw [ow]; exact cls_RX11_53) rfl rfl (Nat.le_of_ble_eq_true rfl) (by rw [hr]; exact ⟨by decide, by decide⟩) (by rw [hr]; exact ⟨Nat.le_of_ble_eq_true rfl, Nat.le_of_ble_eq_true rfl⟩) ?_
  intro rv h' hq_
  rw [hq_.1, hq_.2]
  show AW V 0 0 h 7 [(0, .ref B), (1, .int p), (2, .int k)] [.int (b2i (oO p 0 9))]
  refine a_if_ne hb 17 dX11_pump_7 (by decide) (fun c7 => ?_) (fun c7 => ?_)
  · simp [b2i_0] at c7
    refine a_iconst (v := (-1)) hb dX11_pump_17 (by decide) ?_
    exact a_ireturn (ty := .int) hb hz dX11_pump_18 hret rfl (by rw [hr]; exact Nat.le_of_ble_eq_true rfl) (by rw [hr]; exact Nat.le_of_ble_eq_true rfl) (⟨rfl, rfl⟩)
  · simp [b2i_0] at c7
    refine a_aload_n hb dX11_pump_10 rfl 0 rfl ?_
    refine a_callV hb dX11_pump_11 (by rw [hg]; exact x_noLaw g h B S N hX) (by rw [ow]; exact clv_RX11_136) (hX.1.1 0 (by decide)) (by decide) rfl rfl rfl (Nat.le_of_ble_eq_true rfl) (by rw [hr]; exact ⟨by decide, by decide⟩) (by rw [hr]; exact ⟨Nat.le_of_ble_eq_true rfl, Nat.le_of_ble_eq_true rfl⟩) ?_
    intro rv h' hq_
    rw [hq_.1, hq_.2, if_pos hnl]
    show AW V 0 0 h 14 [(0, .ref B), (1, .int p), (2, .int k)] [.int 1]
    refine a_if_eq hb 19 dX11_pump_14 (by decide) (fun c14 => absurd c14 (by decide)) (fun c14 => ?_)
    refine a_iconst (v := (-1)) hb dX11_pump_17 (by decide) ?_
    exact a_ireturn (ty := .int) hb hz dX11_pump_18 hret rfl (by rw [hr]; exact Nat.le_of_ble_eq_true rfl) (by rw [hr]; exact Nat.le_of_ble_eq_true rfl) (⟨rfl, rfl⟩)
set_option maxRecDepth 100000 in
theorem xn_watched (g : GG) (h : AH) (B : Nat) (S : Nat → Int32) (N : NN) (hX : XN h B S N) (hnl : N.2.2.1 = 0) (t x : Int32) : AM g 3 0 0 mX11_watched [.ref B, .int t, .int x] h (fun rv h' => rv = some (.int (-1)) ∧ h' = h) := by
  refine AM.of [(0, .ref B), (1, .int t), (2, .int x)] (by decide) (Nat.le_of_ble_eq_true rfl) rfl ?_
  intro V hV
  have hb : V.2.1.2.1 = cX11_watched := by subst hV; rfl
  have ow : V.2.1.1.cls = RX11 := by subst hV; rfl
  have hr : V.2.2.1 = aw_rm 3 0 0 := by subst hV; rfl
  have hz : V.2.2.2 = aw_Z V.1 (fun rv h' => rv = some (.int (-1)) ∧ h' = h) V.2.2.1 := by subst hV; rfl
  have hg : V.1 = g := by subst hV; rfl
  have hret : V.2.1.2.2.2 = (some .int) := by subst hV; rfl
  have hml : V.2.1.2.2.1 = 7 := by subst hV; rfl
  clear hV
  have hnp := hX.np
  have hnw := hX.nw
  refine a_iload_n hb dX11_watched_0 rfl 2 rfl ?_
  refine a_iconst (v := 0) hb dX11_watched_1 (by decide) ?_
  refine a_iconst (v := 1) hb dX11_watched_2 (by decide) ?_
  refine a_callS hb dX11_watched_3 (by rw [hg]; exact w_outside g h x 0 1) (by rw [ow]; exact cls_RX11_53) rfl rfl (Nat.le_of_ble_eq_true rfl) (by rw [hr]; exact ⟨by decide, by decide⟩) (by rw [hr]; exact ⟨Nat.le_of_ble_eq_true rfl, Nat.le_of_ble_eq_true rfl⟩) ?_
  intro rv h' hq_
  rw [hq_.1, hq_.2]
  show AW V 0 0 h 6 [(0, .ref B), (1, .int t), (2, .int x)] [.int (b2i (oO x 0 1))]
  refine a_if_ne hb 16 dX11_watched_6 (by decide) (fun c6 => ?_) (fun c6 => ?_)
  · simp [b2i_0] at c6
    refine a_iconst (v := (-1)) hb dX11_watched_16 (by decide) ?_
    exact a_ireturn (ty := .int) hb hz dX11_watched_17 hret rfl (by rw [hr]; exact Nat.le_of_ble_eq_true rfl) (by rw [hr]; exact Nat.le_of_ble_eq_true rfl) (⟨rfl, rfl⟩)
  · simp [b2i_0] at c6
    refine a_aload_n hb dX11_watched_9 rfl 0 rfl ?_
    refine a_callV hb dX11_watched_10 (by rw [hg]; exact x_noLaw g h B S N hX) (by rw [ow]; exact clv_RX11_136) (hX.1.1 0 (by decide)) (by decide) rfl rfl rfl (Nat.le_of_ble_eq_true rfl) (by rw [hr]; exact ⟨by decide, by decide⟩) (by rw [hr]; exact ⟨Nat.le_of_ble_eq_true rfl, Nat.le_of_ble_eq_true rfl⟩) ?_
    intro rv h' hq_
    rw [hq_.1, hq_.2, if_pos hnl]
    show AW V 0 0 h 13 [(0, .ref B), (1, .int t), (2, .int x)] [.int 1]
    refine a_if_eq hb 18 dX11_watched_13 (by decide) (fun c13 => absurd c13 (by decide)) (fun c13 => ?_)
    refine a_iconst (v := (-1)) hb dX11_watched_16 (by decide) ?_
    exact a_ireturn (ty := .int) hb hz dX11_watched_17 hret rfl (by rw [hr]; exact Nat.le_of_ble_eq_true rfl) (by rw [hr]; exact Nat.le_of_ble_eq_true rfl) (⟨rfl, rfl⟩)
set_option maxRecDepth 100000 in
theorem xn_waits (g : GG) (h : AH) (B : Nat) (S : Nat → Int32) (N : NN) (hX : XN h B S N) (hnl : N.2.2.1 = 0) (a b x : Int32) : AM g 3 0 0 mX11_waits [.ref B, .int a, .int b, .int x] h (fun rv h' => rv = some (.int (-1)) ∧ h' = h) := by
  refine AM.of [(0, .ref B), (1, .int a), (2, .int b), (3, .int x)] (by decide) (Nat.le_of_ble_eq_true rfl) rfl ?_
  intro V hV
  have hb : V.2.1.2.1 = cX11_waits := by subst hV; rfl
  have ow : V.2.1.1.cls = RX11 := by subst hV; rfl
  have hr : V.2.2.1 = aw_rm 3 0 0 := by subst hV; rfl
  have hz : V.2.2.2 = aw_Z V.1 (fun rv h' => rv = some (.int (-1)) ∧ h' = h) V.2.2.1 := by subst hV; rfl
  have hg : V.1 = g := by subst hV; rfl
  have hret : V.2.1.2.2.2 = (some .int) := by subst hV; rfl
  have hml : V.2.1.2.2.1 = 9 := by subst hV; rfl
  clear hV
  have hnp := hX.np
  have hnw := hX.nw
  refine a_aload_n hb dX11_waits_0 rfl 0 rfl ?_
  refine a_iload_n hb dX11_waits_1 rfl 1 rfl ?_
  refine a_callV hb dX11_waits_2 (by rw [hg]; exact x_noPause g h B S N hX a) (by rw [ow]; exact clv_RX11_79) (hX.1.1 0 (by decide)) (by decide) rfl rfl rfl (Nat.le_of_ble_eq_true rfl) (by rw [hr]; exact ⟨by decide, by decide⟩) (by rw [hr]; exact ⟨Nat.le_of_ble_eq_true rfl, Nat.le_of_ble_eq_true rfl⟩) ?_
  intro rv h' hq_
  rw [hq_.1, hq_.2]
  show AW V 0 0 h 5 [(0, .ref B), (1, .int a), (2, .int b), (3, .int x)] [.int (b2i (oO a 0 (nI N.1 - 1)))]
  refine a_if_ne hb 32 dX11_waits_5 (by decide) (fun c5 => ?_) (fun c5 => ?_)
  · simp [b2i_0] at c5
    refine a_iconst (v := (-1)) hb dX11_waits_32 (by decide) ?_
    exact a_ireturn (ty := .int) hb hz dX11_waits_33 hret rfl (by rw [hr]; exact Nat.le_of_ble_eq_true rfl) (by rw [hr]; exact Nat.le_of_ble_eq_true rfl) (⟨rfl, rfl⟩)
  · simp [b2i_0] at c5
    refine a_aload_n hb dX11_waits_8 rfl 0 rfl ?_
    refine a_iload_n hb dX11_waits_9 rfl 2 rfl ?_
    refine a_callV hb dX11_waits_10 (by rw [hg]; exact x_noPause g h B S N hX b) (by rw [ow]; exact clv_RX11_79) (hX.1.1 0 (by decide)) (by decide) rfl rfl rfl (Nat.le_of_ble_eq_true rfl) (by rw [hr]; exact ⟨by decide, by decide⟩) (by rw [hr]; exact ⟨Nat.le_of_ble_eq_true rfl, Nat.le_of_ble_eq_true rfl⟩) ?_
    intro rv h' hq_
    rw [hq_.1, hq_.2]
    show AW V 0 0 h 13 [(0, .ref B), (1, .int a), (2, .int b), (3, .int x)] [.int (b2i (oO b 0 (nI N.1 - 1)))]
    refine a_if_ne hb 32 dX11_waits_13 (by decide) (fun c13 => ?_) (fun c13 => ?_)
    · simp [b2i_0] at c13
      refine a_iconst (v := (-1)) hb dX11_waits_32 (by decide) ?_
      exact a_ireturn (ty := .int) hb hz dX11_waits_33 hret rfl (by rw [hr]; exact Nat.le_of_ble_eq_true rfl) (by rw [hr]; exact Nat.le_of_ble_eq_true rfl) (⟨rfl, rfl⟩)
    · simp [b2i_0] at c13
      refine a_iload_n hb dX11_waits_16 rfl 3 rfl ?_
      refine a_iconst (v := 0) hb dX11_waits_17 (by decide) ?_
      refine a_iconst (v := 1) hb dX11_waits_18 (by decide) ?_
      refine a_callS hb dX11_waits_19 (by rw [hg]; exact w_outside g h x 0 1) (by rw [ow]; exact cls_RX11_53) rfl rfl (Nat.le_of_ble_eq_true rfl) (by rw [hr]; exact ⟨by decide, by decide⟩) (by rw [hr]; exact ⟨Nat.le_of_ble_eq_true rfl, Nat.le_of_ble_eq_true rfl⟩) ?_
      intro rv h' hq_
      rw [hq_.1, hq_.2]
      show AW V 0 0 h 22 [(0, .ref B), (1, .int a), (2, .int b), (3, .int x)] [.int (b2i (oO x 0 1))]
      refine a_if_ne hb 32 dX11_waits_22 (by decide) (fun c22 => ?_) (fun c22 => ?_)
      · simp [b2i_0] at c22
        refine a_iconst (v := (-1)) hb dX11_waits_32 (by decide) ?_
        exact a_ireturn (ty := .int) hb hz dX11_waits_33 hret rfl (by rw [hr]; exact Nat.le_of_ble_eq_true rfl) (by rw [hr]; exact Nat.le_of_ble_eq_true rfl) (⟨rfl, rfl⟩)
      · simp [b2i_0] at c22
        refine a_aload_n hb dX11_waits_25 rfl 0 rfl ?_
        refine a_callV hb dX11_waits_26 (by rw [hg]; exact x_noLaw g h B S N hX) (by rw [ow]; exact clv_RX11_136) (hX.1.1 0 (by decide)) (by decide) rfl rfl rfl (Nat.le_of_ble_eq_true rfl) (by rw [hr]; exact ⟨by decide, by decide⟩) (by rw [hr]; exact ⟨Nat.le_of_ble_eq_true rfl, Nat.le_of_ble_eq_true rfl⟩) ?_
        intro rv h' hq_
        rw [hq_.1, hq_.2, if_pos hnl]
        show AW V 0 0 h 29 [(0, .ref B), (1, .int a), (2, .int b), (3, .int x)] [.int 1]
        refine a_if_eq hb 34 dX11_waits_29 (by decide) (fun c29 => absurd c29 (by decide)) (fun c29 => ?_)
        refine a_iconst (v := (-1)) hb dX11_waits_32 (by decide) ?_
        exact a_ireturn (ty := .int) hb hz dX11_waits_33 hret rfl (by rw [hr]; exact Nat.le_of_ble_eq_true rfl) (by rw [hr]; exact Nat.le_of_ble_eq_true rfl) (⟨rfl, rfl⟩)
