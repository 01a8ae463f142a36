/-! ===== the class: best ===== -/
set_option maxRecDepth 100000 in
theorem x_best (g : GG) (h : AH) (B vq lq hl : Nat) (S : Nat → Int32) (N : NN) (P : PF) (hC : CX g h B vq lq hl S N P) (w c x : Int32) : AM g 9 0 0 mX11_best [.ref B, .int w, .int c, .int x] h (fun rv h' => rv = some (.int (if oO w 0 (nI N.2.1 - 1) then -1 else if oO x 0 2 then -1 else if oO c 0 999 then -2 else if x = 0 then (bsO (coS S w.toNatClampNeg N.2.1) (hoS S (fun t => dmS P S (fun _ => 0) hl (nI t) N.1) w.toNatClampNeg N.2.1 c) 20).1 else if x = 1 then (bsO (coS S w.toNatClampNeg N.2.1) (hoS S (fun t => dmS P S (fun _ => 0) hl (nI t) N.1) w.toNatClampNeg N.2.1 c) 20).2.1 else (bsO (coS S w.toNatClampNeg N.2.1) (hoS S (fun t => dmS P S (fun _ => 0) hl (nI t) N.1) w.toNatClampNeg N.2.1 c) 20).2.2)) ∧ FR (Xs B vq) h h') := by
  refine AM.of [(0, .ref B), (1, .int w), (2, .int c), (3, .int x)] (by decide) (Nat.le_of_ble_eq_true rfl) rfl ?_
  intro V hV
  have hb : V.2.1.2.1 = cX11_best := by subst hV; rfl
  have ow : V.2.1.1.cls = RX11 := by subst hV; rfl
  have hr : V.2.2.1 = aw_rm 9 0 0 := by subst hV; rfl
  have hz : V.2.2.2 = aw_Z V.1 (fun rv h' => rv = some (.int (if oO w 0 (nI N.2.1 - 1) then -1 else if oO x 0 2 then -1 else if oO c 0 999 then -2 else if x = 0 then (bsO (coS S w.toNatClampNeg N.2.1) (hoS S (fun t => dmS P S (fun _ => 0) hl (nI t) N.1) w.toNatClampNeg N.2.1 c) 20).1 else if x = 1 then (bsO (coS S w.toNatClampNeg N.2.1) (hoS S (fun t => dmS P S (fun _ => 0) hl (nI t) N.1) w.toNatClampNeg N.2.1 c) 20).2.1 else (bsO (coS S w.toNatClampNeg N.2.1) (hoS S (fun t => dmS P S (fun _ => 0) hl (nI t) N.1) w.toNatClampNeg N.2.1 c) 20).2.2)) ∧ FR (Xs B vq) h h') V.2.2.1 := by subst hV; rfl
  have hg : V.1 = g := by subst hV; rfl
  have hret : V.2.1.2.2.2 = (some .int) := by subst hV; rfl
  have hml : V.2.1.2.2.1 = 5 := by subst hV; rfl
  clear hV
  have hvq : B + 62 ≤ vq := hC.2.1.2.2.2.2.2.1
  have hnp := hC.1.np
  have hnw := hC.1.nw
  refine a_aload_n hb dX11_best_0 rfl 0 rfl ?_
  refine a_iload_n hb dX11_best_1 rfl 1 rfl ?_
  refine a_callV hb dX11_best_2 (by rw [hg]; exact x_noWork g h B S N hC.1 w) (by rw [ow]; exact clv_RX11_164) (hC.1.1.1 0 (by decide)) (by decide) rfl rfl rfl (Nat.le_of_ble_eq_true rfl) (by rw [hr]; exact ⟨by decide, by decide⟩) (by rw [hr]; exact ⟨Nat.le_of_ble_eq_true rfl, Nat.le_of_ble_eq_true rfl⟩) ?_
  intro rv h' hq_
  rw [hq_.1, hq_.2]
  show AW V 0 0 h 5 [(0, .ref B), (1, .int w), (2, .int c), (3, .int x)] [.int (b2i (oO w 0 (nI N.2.1 - 1)))]
  refine a_if_ne hb 24 dX11_best_5 (by decide) (fun c5 => ?_) (fun c5 => ?_)
  · simp [b2i_0] at c5
    refine a_iconst (v := (-1)) hb dX11_best_24 (by decide) ?_
    exact a_ireturn (ty := .int) hb hz dX11_best_25 hret rfl (by rw [hr]; exact Nat.le_of_ble_eq_true rfl) (by rw [hr]; exact Nat.le_of_ble_eq_true rfl) (⟨(by rw [if_pos (by simp [c5])]), FR.rf⟩)
  · simp [b2i_0] at c5
    obtain ⟨w_, rfl, lw⟩ := c_lt (n := N.2.1) (by omega) (by simpa using c5)
    obtain ⟨s, es, s1, s2⟩ := RGw.st (hC.1.rw_ lw)
    refine a_iload_n hb dX11_best_8 rfl 3 rfl ?_
    refine a_iconst (v := 0) hb dX11_best_9 (by decide) ?_
    refine a_iconst (v := 2) hb dX11_best_10 (by decide) ?_
    refine a_callS hb dX11_best_11 (by rw [hg]; exact w_outside g h x 0 2) (by rw [ow]; exact cls_RX11_53) rfl rfl (Nat.le_of_ble_eq_true rfl) (by rw [hr]; exact ⟨by decide, by decide⟩) (by rw [hr]; exact ⟨Nat.le_of_ble_eq_true rfl, Nat.le_of_ble_eq_true rfl⟩) ?_
    intro rv h' hq_
    rw [hq_.1, hq_.2]
    show AW V 0 0 h 14 [(0, .ref B), (1, .int (nI w_)), (2, .int c), (3, .int x)] [.int (b2i (oO x 0 2))]
    refine a_if_ne hb 24 dX11_best_14 (by decide) (fun c14 => ?_) (fun c14 => ?_)
    · simp [b2i_0] at c14
      refine a_iconst (v := (-1)) hb dX11_best_24 (by decide) ?_
      exact a_ireturn (ty := .int) hb hz dX11_best_25 hret rfl (by rw [hr]; exact Nat.le_of_ble_eq_true rfl) (by rw [hr]; exact Nat.le_of_ble_eq_true rfl) (⟨(by rw [if_neg (by simp [c5]), if_pos (by simp [c14])]), FR.rf⟩)
    · simp [b2i_0] at c14
      refine a_aload_n hb dX11_best_17 rfl 0 rfl ?_
      refine a_callV hb dX11_best_18 (by rw [hg]; exact x_noLaw g h B S N hC.1) (by rw [ow]; exact clv_RX11_136) (hC.1.1.1 0 (by decide)) (by decide) rfl rfl rfl (Nat.le_of_ble_eq_true rfl) (by rw [hr]; exact ⟨by decide, by decide⟩) (by rw [hr]; exact ⟨Nat.le_of_ble_eq_true rfl, Nat.le_of_ble_eq_true rfl⟩) ?_
      intro rv h' hq_
      rw [hq_.1, hq_.2, if_neg (by have := hC.2.1.1; omega)]
      show AW V 0 0 h 21 [(0, .ref B), (1, .int (nI w_)), (2, .int c), (3, .int x)] [.int 0]
      refine a_if_eq hb 26 dX11_best_21 (by decide) (fun c21 => ?_) (fun c21 => absurd (by decide) c21)
      refine a_iload_n hb dX11_best_26 rfl 2 rfl ?_
      refine a_callS hb dX11_best_27 (by rw [hg]; exact w_noBound g h c) (by rw [ow]; exact cls_RX11_200) rfl rfl (Nat.le_of_ble_eq_true rfl) (by rw [hr]; exact ⟨by decide, by decide⟩) (by rw [hr]; exact ⟨Nat.le_of_ble_eq_true rfl, Nat.le_of_ble_eq_true rfl⟩) ?_
      intro rv h' hq_
      rw [hq_.1, hq_.2]
      show AW V 0 0 h 30 [(0, .ref B), (1, .int (nI w_)), (2, .int c), (3, .int x)] [.int (b2i (oO c 0 999))]
      refine a_if_eq hb 36 dX11_best_30 (by decide) (fun c30 => ?_) (fun c30 => ?_)
      · simp [b2i_0] at c30
        refine a_aload_n hb dX11_best_36 rfl 0 rfl ?_
        refine a_callV hb dX11_best_37 (by rw [hg]; exact x_layDemand g h B vq lq hl S N P hC) (by rw [ow]; exact clv_RX11_190) (hC.1.1.1 0 (by decide)) (by decide) rfl rfl rfl (Nat.le_of_ble_eq_true rfl) (by rw [hr]; exact ⟨by decide, by decide⟩) (by rw [hr]; exact ⟨Nat.le_of_ble_eq_true rfl, Nat.le_of_ble_eq_true rfl⟩) ?_
        intro rv h1_ hp
        obtain ⟨hv, hf1, hx1_0⟩ := hp
        rw [hv]
        have hF1 := FR.tr FR.rf (FR.mo (A := Xd B vq) (A' := Xs B vq) hf1 (by intro a; unfold Xd Xs; omega))
        have hC1 := hC.fr (FR.mo (A := Xs B vq) (A' := Ay B vq) hF1 (by intro a; unfold Xs Ay; omega))
        clear hv
        show AW V 0 0 h1_ 40 [(0, .ref B), (1, .int (nI w_)), (2, .int c), (3, .int x)] []
        refine a_aload_n hb dX11_best_40 rfl 0 rfl ?_
        refine a_aload_n hb dX11_best_41 rfl 0 rfl ?_
        refine a_getQ (q := (B + 23)) hb dX11_best_42 (by rw [ow]; exact fl_RX11_39_11) (hC1.1.1.1 0 (by decide)) (hC1.1.1.2.1 (0, 6, 23) (by decide)) ?_
        refine a_iload_n hb dX11_best_45 rfl 1 rfl ?_
        refine a_callV hb dX11_best_46 (by rw [hg]; exact x_layMade23 g h1_ B vq lq hl S N P hC1 (nI w_)) (by rw [ow]; exact clv_RX11_193) (hC1.1.1.1 0 (by decide)) (by decide) rfl rfl rfl (Nat.le_of_ble_eq_true rfl) (by rw [hr]; exact ⟨by decide, by decide⟩) (by rw [hr]; exact ⟨Nat.le_of_ble_eq_true rfl, Nat.le_of_ble_eq_true rfl⟩) ?_
        intro rv h2_ hp
        obtain ⟨hv, hf2, hx2_0⟩ := hp
        rw [hv]
        have hF2 := FR.tr hF1 (FR.mo (A := Xo B vq) (A' := Xs B vq) hf2 (by intro a; unfold Xo Xs; omega))
        have hC2 := hC.fr (FR.mo (A := Xs B vq) (A' := Ay B vq) hF2 (by intro a; unfold Xs Ay; omega))
        clear hv
        show AW V 0 0 h2_ 49 [(0, .ref B), (1, .int (nI w_)), (2, .int c), (3, .int x)] []
        have hD : ∀ t, t < 40 → hI h2_ (B + 21) t = dmS P S (fun _ => 0) hl (nI t) N.1 := fun t q => by rw [hf2.2.2.2.2 (B + 21) (by unfold Xo; omega)]; exact hx1_0 t q
        refine a_aload_n hb dX11_best_49 rfl 0 rfl ?_
        refine a_aload_n hb dX11_best_50 rfl 0 rfl ?_
        refine a_getQ (q := (B + 1)) hb dX11_best_51 (by rw [ow]; exact fl_RX11_12_11) (hC2.1.1.1 0 (by decide)) (hC2.1.1.2.1 (0, 0, 1) (by decide)) ?_
        refine a_getQ (q := (B + 6)) hb dX11_best_54 (by rw [ow]; exact fl_RX11_155_7) (hC2.1.1.1 1 (by decide)) (hC2.1.1.2.1 (1, 6, 6) (by decide)) ?_
        refine a_iload_n hb dX11_best_57 rfl 1 rfl ?_
        obtain ⟨q3, hq3, po3⟩ := hC.1.ws (w := w_) (by omega)
        have hr3 : hQ h2_ (B + 6) w_ = some q3 := by rw [(hF2).2.2.1]; exact hq3
        have pr3 : WO h2_ B S w_ q3 := po3.fr (FR.mo (A := Xs B vq) (A' := Ay B vq) hF2 (by intro a; unfold Xs Ay; omega)) hC.2.1.2.2.2.2.2.2
        refine b_aaldS (j := w_) (q := q3) hb dX11_best_58 (hC2.1.1.1 6 (by decide)) (by decide) (by decide) (IX.n (by omega)) (by omega) hr3 ?_
        refine a_iload_n hb dX11_best_59 rfl 2 rfl ?_
        refine a_callV hb dX11_best_60 (by rw [hg]; exact x_bestPlan g h2_ B vq lq hl S N P hC2 w_ q3 (by omega) pr3 s es s1 s2 c hD hx2_0) (by rw [ow]; exact clv_RX11_214) (hC2.1.1.1 0 (by decide)) (by decide) rfl rfl rfl (Nat.le_of_ble_eq_true rfl) (by rw [hr]; exact ⟨by decide, by decide⟩) (by rw [hr]; exact ⟨Nat.le_of_ble_eq_true rfl, Nat.le_of_ble_eq_true rfl⟩) ?_
        intro rv h4_ hp
        obtain ⟨⟨r, hv, hbp⟩, hf4⟩ := hp
        rw [hv]
        have hF4 := FR.tr hF2 (FR.mo (A := Xm B vq) (A' := Xs B vq) hf4 (by intro a; unfold Xm Xs; omega))
        have hC4 := hC.fr (FR.mo (A := Xs B vq) (A' := Ay B vq) hF4 (by intro a; unfold Xs Ay; omega))
        clear hv
        have hcs := co_1 hC lw
        rcases bs_eq (co := coS S w_ N.2.1) (ho := hoS S (fun t => dmS P S (fun _ => 0) hl (nI t) N.1) w_ N.2.1 c) (L := min 20 s) (by omega) (by omega) hcs.1 hcs.2 (fun z t ht a b => ho_st hC lw es s1 s2 ht a b) hbp with ⟨er, hbs⟩ | ⟨z, t, lz_, lt_, er, hbs⟩
        · rw [er]
          show AW V 0 0 h4_ 63 [(0, .ref B), (1, .int (nI w_)), (2, .int c), (3, .int x)] [.int (-5)]
          refine a_istore (L' := [(4, .int (-5)), (0, .ref B), (1, .int (nI w_)), (2, .int c), (3, .int x)]) hb dX11_best_63 (by rw [hml]; decide) rfl ?_
          refine a_iload hb dX11_best_65 0 rfl ?_
          refine a_bipush (v := (-5)) hb dX11_best_67 (by decide) ?_
          refine a_icmp_ne hb 75 dX11_best_69 (by decide) (fun c69 => absurd c69 (not_not_intro rfl)) (fun c69 => ?_)
          refine a_bipush (v := (-5)) hb dX11_best_72 (by decide) ?_
          exact a_ireturn (ty := .int) hb hz dX11_best_74 hret rfl (by rw [hr]; exact Nat.le_of_ble_eq_true rfl) (by rw [hr]; exact Nat.le_of_ble_eq_true rfl) (⟨by rw [if_neg (by simpa using c5), if_neg (by simpa using c14), if_neg (by simp [c30]), nI_clamp (by omega), hbs]; split <;> first | rfl | (split <;> rfl), hF4⟩)
        · rw [er]
          show AW V 0 0 h4_ 63 [(0, .ref B), (1, .int (nI w_)), (2, .int c), (3, .int x)] [.int (nI ((z + 1) * 40 + t))]
          refine a_istore (L' := [(4, .int (nI ((z + 1) * 40 + t))), (0, .ref B), (1, .int (nI w_)), (2, .int c), (3, .int x)]) hb dX11_best_63 (by rw [hml]; decide) rfl ?_
          refine a_iload hb dX11_best_65 0 rfl ?_
          refine a_bipush (v := (-5)) hb dX11_best_67 (by decide) ?_
          refine a_icmp_ne hb 75 dX11_best_69 (by decide) (fun c69 => ?_) (fun c69 => absurd c69 ((fun q => nI_pos (n := (z + 1) * 40 + t) (by omega) (by rw [q]; decide))))
          refine a_iload_n hb dX11_best_75 rfl 4 rfl ?_
          by_cases q76_0 : x = 0
          · refine a_lookup (off := 28) hb 104 dX11_best_76 (by decide) (by rw [q76_0]; decide) (by decide) ?_
            refine a_iload hb dX11_best_104 0 rfl ?_
            refine a_bipush (v := 40) hb dX11_best_106 (by decide) ?_
            refine a_irem hb dX11_best_108 (by decide) ?_
            rw [show nI ((z + 1) * 40 + t) - nI ((z + 1) * 40 + t) / 40 * 40 = nI t from by rw [show (40 : Int32) = nI 40 from rfl, pk_rem (by omega) (by decide) (by decide), show ((z + 1) * 40 + t) % 40 = t by omega]]
            show AW V 0 0 h4_ 109 [(4, .int (nI ((z + 1) * 40 + t))), (0, .ref B), (1, .int (nI w_)), (2, .int c), (3, .int x)] [.int (nI t)]
            exact a_ireturn (ty := .int) hb hz dX11_best_109 hret rfl (by rw [hr]; exact Nat.le_of_ble_eq_true rfl) (by rw [hr]; exact Nat.le_of_ble_eq_true rfl) (⟨by rw [if_neg (by simpa using c5), if_neg (by simpa using c14), if_neg (by simp [c30]), nI_clamp (by omega), hbs]; rw [if_pos q76_0], hF4⟩)
          by_cases q76_1 : x = 1
          · refine a_lookup (off := 34) hb 110 dX11_best_76 (by decide) (by rw [q76_1]; decide) (by decide) ?_
            refine a_iload hb dX11_best_110 0 rfl ?_
            refine a_bipush (v := 40) hb dX11_best_112 (by decide) ?_
            refine a_idiv hb dX11_best_114 (by decide) ?_
            rw [show nI ((z + 1) * 40 + t) / 40 = nI (z + 1) from by rw [show (40 : Int32) = nI 40 from rfl, pk_div (by omega) (by decide) (by decide), show ((z + 1) * 40 + t) / 40 = z + 1 by omega]]
            show AW V 0 0 h4_ 115 [(4, .int (nI ((z + 1) * 40 + t))), (0, .ref B), (1, .int (nI w_)), (2, .int c), (3, .int x)] [.int (nI (z + 1))]
            exact a_ireturn (ty := .int) hb hz dX11_best_115 hret rfl (by rw [hr]; exact Nat.le_of_ble_eq_true rfl) (by rw [hr]; exact Nat.le_of_ble_eq_true rfl) (⟨by rw [if_neg (by simpa using c5), if_neg (by simpa using c14), if_neg (by simp [c30]), nI_clamp (by omega), hbs]; rw [if_neg (by rw [q76_1]; decide), if_pos q76_1], hF4⟩)
          refine a_lookup (off := 40) hb 116 dX11_best_76 (by decide) (by have z0 := lv_neT (k := 0) (a := 0) q76_0 (by decide); have z1 := lv_neT (k := 1) (a := 1) q76_1 (by decide); simp [Op.lookupswitch.offset]; omega) (by decide) ?_
          refine a_aload_n hb dX11_best_116 rfl 1 rfl ?_
          refine a_iload_n hb dX11_best_117 rfl 2 rfl ?_
          refine a_callV hb dX11_best_118 (by rw [hg]; exact x_costsBut g h4_ B S N hC4.1 (nI w_)) (by rw [ow]; exact clv_RX11_185) (hC4.1.1.1 0 (by decide)) (by decide) rfl rfl rfl (Nat.le_of_ble_eq_true rfl) (by rw [hr]; exact ⟨by decide, by decide⟩) (by rw [hr]; exact ⟨Nat.le_of_ble_eq_true rfl, Nat.le_of_ble_eq_true rfl⟩) ?_
          intro rv h' hq_
          rw [hq_.1, hq_.2]
          show AW V 0 0 h4_ 121 [(4, .int (nI ((z + 1) * 40 + t))), (0, .ref B), (1, .int (nI w_)), (2, .int c), (3, .int x)] [.int (csB S (nI w_) N.2.1)]
          refine a_aload_n hb dX11_best_121 rfl 1 rfl ?_
          refine a_getQ (q := (B + 1)) hb dX11_best_122 (by rw [ow]; exact fl_RX11_12_11) (hC4.1.1.1 0 (by decide)) (hC4.1.1.2.1 (0, 0, 1) (by decide)) ?_
          refine a_getQ (q := (B + 6)) hb dX11_best_125 (by rw [ow]; exact fl_RX11_155_7) (hC4.1.1.1 1 (by decide)) (hC4.1.1.2.1 (1, 6, 6) (by decide)) ?_
          refine a_iload_n hb dX11_best_128 rfl 2 rfl ?_
          obtain ⟨q5, hq5, po5⟩ := hC.1.ws (w := w_) (by omega)
          have hr5 : hQ h4_ (B + 6) w_ = some q5 := by rw [(hF4).2.2.1]; exact hq5
          have pr5 : WO h4_ B S w_ q5 := po5.fr (FR.mo (A := Xs B vq) (A' := Ay B vq) hF4 (by intro a; unfold Xs Ay; omega)) hC.2.1.2.2.2.2.2.2
          refine b_aaldS (j := w_) (q := q5) hb dX11_best_129 (hC4.1.1.1 6 (by decide)) (by decide) (by decide) (IX.n (by omega)) (by omega) hr5 ?_
          refine a_iload hb dX11_best_130 0 rfl ?_
          refine a_bipush (v := 40) hb dX11_best_132 (by decide) ?_
          refine a_idiv hb dX11_best_134 (by decide) ?_
          rw [show nI ((z + 1) * 40 + t) / 40 = nI (z + 1) from by rw [show (40 : Int32) = nI 40 from rfl, pk_div (by omega) (by decide) (by decide), show ((z + 1) * 40 + t) / 40 = z + 1 by omega]]
          show AW V 0 0 h4_ 135 [(4, .int (nI ((z + 1) * 40 + t))), (0, .ref B), (1, .int (nI w_)), (2, .int c), (3, .int x)] [.int (nI (z + 1)), .ref q5, .int (csB S (nI w_) N.2.1)]
          refine a_callV hb dX11_best_135 (by rw [hg]; exact x_price g h4_ B S N hC4.1 w_ q5 (by omega) pr5 (nI (z + 1))) (by rw [ow]; exact clv_RX11_179) pr5.2.1 (by decide) rfl rfl rfl (Nat.le_of_ble_eq_true rfl) (by rw [hr]; exact ⟨by decide, by decide⟩) (by rw [hr]; exact ⟨Nat.le_of_ble_eq_true rfl, Nat.le_of_ble_eq_true rfl⟩) ?_
          intro rv h' hq_
          rw [hq_.1, hq_.2]
          show AW V 0 0 h4_ 138 [(4, .int (nI ((z + 1) * 40 + t))), (0, .ref B), (1, .int (nI w_)), (2, .int c), (3, .int x)] [.int (mn (nI (z + 1)) (S (188 + w_)) * S (193 + w_)), .int (csB S (nI w_) N.2.1)]
          refine a_iadd hb dX11_best_138 ?_
          exact a_ireturn (ty := .int) hb hz dX11_best_139 hret rfl (by rw [hr]; exact Nat.le_of_ble_eq_true rfl) (by rw [hr]; exact Nat.le_of_ble_eq_true rfl) (⟨by rw [if_neg (by simpa using c5), if_neg (by simpa using c14), if_neg (by simp [c30]), nI_clamp (by omega), hbs]; rw [if_neg q76_0, if_neg q76_1]; exact congrArg (fun v => some (Value.int v)) (cst_up (S := S) (t := t) (m := z + 1) (by omega) N.2.1 hnw lw).symm, hF4⟩)
      · simp [b2i_0] at c30
        refine a_bipush (v := (-2)) hb dX11_best_33 (by decide) ?_
        exact a_ireturn (ty := .int) hb hz dX11_best_35 hret rfl (by rw [hr]; exact Nat.le_of_ble_eq_true rfl) (by rw [hr]; exact Nat.le_of_ble_eq_true rfl) (⟨(by rw [if_neg (by simp [c5]), if_neg (by simp [c14]), if_pos (by simp [c30])]), FR.rf⟩)
