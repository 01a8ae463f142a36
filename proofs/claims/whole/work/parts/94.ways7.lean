/-! ===== the class: sure ===== -/
def alS (od : Nat → Int32) : Nat → Int64
  | 0 => 0
  | y + 1 => alS od y + (od y).toInt64
def hlS (od ft : Nat → Int32) : Nat → Int64
  | 0 => 0
  | y + 1 => if 0 < od y ∧ ft y = -5 then hlS od ft y + (od y).toInt64 else hlS od ft y
theorem hl_y {od ft : Nat → Int32} {y : Nat} (h : 0 < od y) (h2 : ft y = -5) : hlS od ft (y + 1) = hlS od ft y + (od y).toInt64 := if_pos ⟨h, h2⟩
theorem hl_n {od ft : Nat → Int32} {y : Nat} (h : ¬ 0 < od y ∨ ¬ ft y = -5) : hlS od ft (y + 1) = hlS od ft y := if_neg (fun q => h.elim (fun z => z q.1) (fun z => z q.2))
theorem mxJ {n : Nat} (h0 : 0 < n) (h : n < 2 ^ 31) : (if lJ n < 1 then 1 else lJ n) = lJ n := by
  rw [if_neg]
  intro q
  have := Int64.lt_iff_toInt_lt.mp q
  rw [lJ_toInt (by omega), show (1 : Int64).toInt = 1 from by decide] at this
  omega
set_option maxRecDepth 100000 in
theorem x_sure (g : GG) (h : AH) (B vq lq hl : Nat) (S : Nat → Int32) (N : NN) (P : PF) (hC : CX g h B vq lq hl S N P) (c x : Int32) (a b : Nat) (ha : a < 2 ^ 31) (hb_ : b < 2 ^ 31) (h0a : 0 < a) (eA : ¬ 4 < ltM S N.1 → alS (fun y => odT S N.1 y N.1) (nwN S N.1) = lJ a) (eB : ¬ 4 < ltM S N.1 → hlS (fun y => odT S N.1 y N.1) (fun y => fbF (fun t => btS (fun t => mdB S (-1) (nI t) N.2.1) (fun t => dmS P S (fun p => nI (dyT S N.1 y p)) hl (nI t) N.1) (S 7) (t + 1)) c 0 40) (nwN S N.1) = lJ b) : AM g 10 0 0 mX11_sure [.ref B, .int c, .int x] h (fun rv h' => rv = some (.long (if oO c 0 999 then (-9223372036854775808) else if oO x 0 1 then (-9223372036854775808) else if 4 < ltM S N.1 then (-9223372036854775808) else if x = 0 then lJ b / lJ (Nat.gcd a b) else lJ a / lJ (Nat.gcd a b))) ∧ FR (Xg B vq) h h') := by
  refine AM.of [(0, .ref B), (1, .int c), (2, .int x)] (by decide) (Nat.le_of_ble_eq_true rfl) rfl ?_
  intro V hV
  have hb : V.2.1.2.1 = cX11_sure := by subst hV; rfl
  have ow : V.2.1.1.cls = RX11 := by subst hV; rfl
  have hr : V.2.2.1 = aw_rm 10 0 0 := by subst hV; rfl
  have hz : V.2.2.2 = aw_Z V.1 (fun rv h' => rv = some (.long (if oO c 0 999 then (-9223372036854775808) else if oO x 0 1 then (-9223372036854775808) else if 4 < ltM S N.1 then (-9223372036854775808) else if x = 0 then lJ b / lJ (Nat.gcd a b) else lJ a / lJ (Nat.gcd a b))) ∧ FR (Xg B vq) h h') V.2.2.1 := by subst hV; rfl
  have hg : V.1 = g := by subst hV; rfl
  have hret : V.2.1.2.2.2 = (some .long) := by subst hV; rfl
  have hml : V.2.1.2.2.1 = 10 := by subst hV; rfl
  clear hV
  have hvq : B + 62 ≤ vq := hC.2.1.2.2.2.2.2.1
  have hnp := hC.1.np
  have hnw := hC.1.nw
  have hW := nwN_b (S := S) hnp
  have hg0 : 0 < Nat.gcd a b := Nat.gcd_pos_of_pos_left b h0a
  have hg1 : Nat.gcd a b < 2 ^ 31 := Nat.lt_of_le_of_lt (Nat.gcd_le_left b h0a) ha
  refine a_aload_n hb dX11_sure_0 rfl 0 rfl ?_
  refine a_callV hb dX11_sure_1 (by rw [hg]; exact x_noLaw g h B S N hC.1) (by rw [ow]; exact clv_RX11_136) (hC.1.1.1 0 (by decide)) (by decide) rfl rfl rfl (Nat.le_of_ble_eq_true rfl) (by rw [hr]; exact ⟨by decide, by decide⟩) (by rw [hr]; exact ⟨Nat.le_of_ble_eq_true rfl, Nat.le_of_ble_eq_true rfl⟩) ?_
  intro rv h' hq_
  rw [hq_.1, hq_.2, if_neg (by have := hC.2.1.1; omega)]
  show AW V 0 0 h 4 [(0, .ref B), (1, .int c), (2, .int x)] [.int 0]
  refine a_if_ne hb 31 dX11_sure_4 (by decide) (fun c4 => absurd c4 (by decide)) (fun c4 => ?_)
  refine a_iload_n hb dX11_sure_7 rfl 1 rfl ?_
  refine a_callS hb dX11_sure_8 (by rw [hg]; exact w_noBound g h c) (by rw [ow]; exact cls_RX11_200) rfl rfl (Nat.le_of_ble_eq_true rfl) (by rw [hr]; exact ⟨by decide, by decide⟩) (by rw [hr]; exact ⟨Nat.le_of_ble_eq_true rfl, Nat.le_of_ble_eq_true rfl⟩) ?_
  intro rv h' hq_
  rw [hq_.1, hq_.2]
  show AW V 0 0 h 11 [(0, .ref B), (1, .int c), (2, .int x)] [.int (b2i (oO c 0 999))]
  refine a_if_ne hb 31 dX11_sure_11 (by decide) (fun c11 => ?_) (fun c11 => ?_)
  · simp [b2i_0] at c11
    refine a_ldc2 (v := (-9223372036854775808)) hb dX11_sure_31 (by rw [ow]; exact kw_774) ?_
    exact a_lreturn hb hz dX11_sure_34 hret (by rw [hr]; exact Nat.le_of_ble_eq_true rfl) (by rw [hr]; exact Nat.le_of_ble_eq_true rfl) (⟨(by rw [if_pos (by simp [c11])]), FR.rf⟩)
  · simp [b2i_0] at c11
    refine a_iload_n hb dX11_sure_14 rfl 2 rfl ?_
    refine a_iconst (v := 0) hb dX11_sure_15 (by decide) ?_
    refine a_iconst (v := 1) hb dX11_sure_16 (by decide) ?_
    refine a_callS hb dX11_sure_17 (by rw [hg]; exact w_outside g h x 0 1) (by rw [ow]; exact cls_RX11_53) rfl rfl (Nat.le_of_ble_eq_true rfl) (by rw [hr]; exact ⟨by decide, by decide⟩) (by rw [hr]; exact ⟨Nat.le_of_ble_eq_true rfl, Nat.le_of_ble_eq_true rfl⟩) ?_
    intro rv h' hq_
    rw [hq_.1, hq_.2]
    show AW V 0 0 h 20 [(0, .ref B), (1, .int c), (2, .int x)] [.int (b2i (oO x 0 1))]
    refine a_if_ne hb 31 dX11_sure_20 (by decide) (fun c20 => ?_) (fun c20 => ?_)
    · simp [b2i_0] at c20
      refine a_ldc2 (v := (-9223372036854775808)) hb dX11_sure_31 (by rw [ow]; exact kw_774) ?_
      exact a_lreturn hb hz dX11_sure_34 hret (by rw [hr]; exact Nat.le_of_ble_eq_true rfl) (by rw [hr]; exact Nat.le_of_ble_eq_true rfl) (⟨(by rw [if_neg (by simp [c11]), if_pos (by simp [c20])]), FR.rf⟩)
    · simp [b2i_0] at c20
      refine a_aload_n hb dX11_sure_23 rfl 0 rfl ?_
      refine a_callV hb dX11_sure_24 (by rw [hg]; exact x_laterPauses g h B S N hC.1) (by rw [ow]; exact clv_RX11_218) (hC.1.1.1 0 (by decide)) (by decide) rfl rfl rfl (Nat.le_of_ble_eq_true rfl) (by rw [hr]; exact ⟨by decide, by decide⟩) (by rw [hr]; exact ⟨Nat.le_of_ble_eq_true rfl, Nat.le_of_ble_eq_true rfl⟩) ?_
      intro rv h' hq_
      rw [hq_.1, hq_.2]
      show AW V 0 0 h 27 [(0, .ref B), (1, .int c), (2, .int x)] [.int (ltM S N.1)]
      refine a_iconst (v := 4) hb dX11_sure_27 (by decide) ?_
      refine a_icmp_le hb 35 dX11_sure_28 (by decide) (fun c28 => ?_) (fun c28 => ?_)
      · refine a_aload_n hb dX11_sure_35 rfl 0 rfl ?_
        refine a_aload_n hb dX11_sure_36 rfl 0 rfl ?_
        refine a_getQ (q := (B + 22)) hb dX11_sure_37 (by rw [ow]; exact fl_RX11_36_11) (hC.1.1.1 0 (by decide)) (hC.1.1.2.1 (0, 5, 22) (by decide)) ?_
        refine a_iconst (v := (-1)) hb dX11_sure_40 (by decide) ?_
        refine a_callV hb dX11_sure_41 (by rw [hg]; exact x_layMade22 g h B vq lq hl S N P hC (-1)) (by rw [ow]; exact clv_RX11_193) (hC.1.1.1 0 (by decide)) (by decide) rfl rfl rfl (Nat.le_of_ble_eq_true rfl) (by rw [hr]; exact ⟨by decide, by decide⟩) (by rw [hr]; exact ⟨Nat.le_of_ble_eq_true rfl, Nat.le_of_ble_eq_true rfl⟩) ?_
        intro rv h1_ hp
        obtain ⟨hv, hf1, hx1_0⟩ := hp
        rw [hv]
        have hF1 := FR.tr FR.rf (FR.mo (A := Xm B vq) (A' := Xg B vq) hf1 (by intro a; unfold Xm Xg; omega))
        have hC1 := hC.fr (FR.mo (A := Xg B vq) (A' := Ay B vq) hF1 (by intro a; unfold Xg Ay; omega))
        clear hv
        show AW V 0 0 h1_ 44 [(0, .ref B), (1, .int c), (2, .int x)] []
        refine a_aload_n hb dX11_sure_44 rfl 0 rfl ?_
        refine a_callV hb dX11_sure_45 (by rw [hg]; exact x_layDrawn g h1_ B vq lq hl S N P hC1) (by rw [ow]; exact clv_RX11_222) (hC1.1.1.1 0 (by decide)) (by decide) rfl rfl rfl (Nat.le_of_ble_eq_true rfl) (by rw [hr]; exact ⟨by decide, by decide⟩) (by rw [hr]; exact ⟨Nat.le_of_ble_eq_true rfl, Nat.le_of_ble_eq_true rfl⟩) ?_
        intro rv h2_ hp
        obtain ⟨hv, hf2, hx2_0⟩ := hp
        rw [hv]
        have hF2 := FR.tr hF1 (FR.mo (A := Xr B vq) (A' := Xg B vq) hf2 (by intro a; unfold Xr Xg; omega))
        have hC2 := hC.fr (FR.mo (A := Xg B vq) (A' := Ay B vq) hF2 (by intro a; unfold Xg Ay; omega))
        clear hv
        show AW V 0 0 h2_ 48 [(0, .ref B), (1, .int c), (2, .int x)] []
        have hM : ∀ t, t < 40 → hI h2_ (B + 22) t = mdB S (-1) (nI t) N.2.1 := fun t q => by rw [hf2.2.2.2.2 (B + 22) (by unfold Xr; omega)]; exact hx1_0 t q
        have hO : ∀ p, p < N.1 → ∀ d, d < wdS S p → ∀ t, t < 40 → hI h2_ (B + (26 + (p * 3 + d))) t = dwS P S (fun _ => nI d) hl (nI t) p := hx2_0
        refine a_lconst (v := 0) hb dX11_sure_48 (by decide) ?_
        refine a_lstore_n (L' := [(3, .long 0), (0, .ref B), (1, .int c), (2, .int x)]) hb dX11_sure_49 rfl (by rw [hml]; decide) rfl ?_
        refine a_lconst (v := 0) hb dX11_sure_50 (by decide) ?_
        refine a_lstore (L' := [(5, .long 0), (3, .long 0), (0, .ref B), (1, .int c), (2, .int x)]) hb dX11_sure_51 (by rw [hml]; decide) rfl ?_
        refine a_aload_n hb dX11_sure_53 rfl 2 rfl ?_
        refine a_callV hb dX11_sure_54 (by rw [hg]; exact x_countWays g h2_ B S N hC2.1) (by rw [ow]; exact clv_RX11_225) (hC2.1.1.1 0 (by decide)) (by decide) rfl rfl rfl (Nat.le_of_ble_eq_true rfl) (by rw [hr]; exact ⟨by decide, by decide⟩) (by rw [hr]; exact ⟨Nat.le_of_ble_eq_true rfl, Nat.le_of_ble_eq_true rfl⟩) ?_
        intro rv h' hq_
        rw [hq_.1, hq_.2]
        show AW V 0 0 h2_ 57 [(5, .long 0), (3, .long 0), (0, .ref B), (1, .int c), (2, .int x)] [.int (nwS S N.1)]
        rw [nwN_e]
        show AW V 0 0 h2_ 57 [(5, .long 0), (3, .long 0), (0, .ref B), (1, .int c), (2, .int x)] [.int (nI (nwN S N.1))]
        refine a_istore (L' := [(7, .int (nI (nwN S N.1))), (5, .long 0), (3, .long 0), (0, .ref B), (1, .int c), (2, .int x)]) hb dX11_sure_57 (by rw [hml]; decide) rfl ?_
        refine a_iconst (v := 0) hb dX11_sure_59 (by decide) ?_
        refine a_istore (L' := [(8, .int 0), (7, .int (nI (nwN S N.1))), (5, .long 0), (3, .long 0), (0, .ref B), (1, .int c), (2, .int x)]) hb dX11_sure_60 (by rw [hml]; decide) rfl ?_
        have loop : ∀ (k i : Nat) (h1 : AH) (hFh1 : FR (Xg B vq) h h1) (ivh1 : (∀ t, t < 40 → hI h1 (B + 22) t = mdB S (-1) (nI t) N.2.1) ∧ ∀ p, p < N.1 → ∀ d, d < wdS S p → ∀ t, t < 40 → hI h1 (B + (26 + (p * 3 + d))) t = dwS P S (fun _ => nI d) hl (nI t) p), i + k = (nwN S N.1) → AW V 0 0 h1 62 [(0, .ref B), (1, .int c), (2, .int x), (3, .long (hlS (fun y => odT S N.1 y N.1) (fun y => fbF (fun t => btS (fun t => mdB S (-1) (nI t) N.2.1) (fun t => dmS P S (fun p => nI (dyT S N.1 y p)) hl (nI t) N.1) (S 7) (t + 1)) c 0 40) i)), (5, .long (alS (fun y => odT S N.1 y N.1) i)), (7, .int (nI (nwN S N.1))), (8, .int (nI i))] [] := by
          intro k
          induction k with
          | zero =>
            intro i h1 hFh1 ivh1 hi
            have hClh1 : CX g h1 B vq lq hl S N P := hC.fr (FR.mo (A := Xg B vq) (A' := Ay B vq) hFh1 (by intro a; unfold Xg Ay; omega))
            have hie : i = (nwN S N.1) := by omega
            have e3 := eA (Int32.not_lt.mpr c28)
            have e4 := eB (Int32.not_lt.mpr c28)
            rw [hie, e3, e4]
            show AW V 0 0 h1 62 [(0, .ref B), (1, .int c), (2, .int x), (3, .long (lJ b)), (5, .long (lJ a)), (7, .int (nI (nwN S N.1))), (8, .int (nI (nwN S N.1)))] []
            refine a_iload hb dX11_sure_62 6 rfl ?_
            refine a_iload hb dX11_sure_64 5 rfl ?_
            refine a_icmp_ge hb 112 dX11_sure_66 (by decide) (fun c66 => ?_) (fun c66 => absurd (nI_le (by omega) (by omega)) c66)
            refine a_lconst (v := 1) hb dX11_sure_112 (by decide) ?_
            refine a_lload hb dX11_sure_113 4 rfl ?_
            refine a_lload_n hb dX11_sure_115 rfl 3 rfl ?_
            refine a_callS hb dX11_sure_116 (by rw [hg]; exact x_divisor g h1 a b ha hb_) (by rw [ow]; exact cls_RX11_234) rfl rfl (Nat.le_of_ble_eq_true rfl) (by rw [hr]; exact ⟨by decide, by decide⟩) (by rw [hr]; exact ⟨Nat.le_of_ble_eq_true rfl, Nat.le_of_ble_eq_true rfl⟩) ?_
            intro rv h' hq_
            rw [hq_.1, hq_.2]
            show AW V 0 0 h1 119 [(0, .ref B), (1, .int c), (2, .int x), (3, .long (lJ b)), (5, .long (lJ a)), (7, .int (nI (nwN S N.1))), (8, .int (nI (nwN S N.1)))] [.long (lJ (Nat.gcd a b)), .long 1]
            refine a_mmaxl hb dX11_sure_119 (by rw [ow]; exact kw_863) kw_864 kw_94 kw_865 (by rw [hr]; exact ⟨by decide, Nat.le_of_ble_eq_true rfl⟩) (by rw [hr]; exact ⟨Nat.le_of_ble_eq_true rfl, Nat.le_of_ble_eq_true rfl⟩) ?_
            rw [mxJ hg0 hg1]
            show AW V 0 0 h1 122 [(0, .ref B), (1, .int c), (2, .int x), (3, .long (lJ b)), (5, .long (lJ a)), (7, .int (nI (nwN S N.1))), (8, .int (nI (nwN S N.1)))] [.long (lJ (Nat.gcd a b))]
            refine a_lstore (L' := [(8, .long (lJ (Nat.gcd a b))), (0, .ref B), (1, .int c), (2, .int x), (3, .long (lJ b)), (5, .long (lJ a)), (7, .int (nI (nwN S N.1)))]) hb dX11_sure_122 (by rw [hml]; decide) rfl ?_
            refine a_iload_n hb dX11_sure_124 rfl 3 rfl ?_
            refine a_if_ne hb 135 dX11_sure_125 (by decide) (fun c125 => ?_) (fun c125 => ?_)
            · refine a_lload hb dX11_sure_135 5 rfl ?_
              refine a_lload hb dX11_sure_137 0 rfl ?_
              refine a_ldiv hb dX11_sure_139 (fun q => by have z := (lJ_0 (n := Nat.gcd a b) (by omega)).mp q; omega) ?_
              exact a_lreturn hb hz dX11_sure_140 hret (by rw [hr]; exact Nat.le_of_ble_eq_true rfl) (by rw [hr]; exact Nat.le_of_ble_eq_true rfl) (⟨by rw [if_neg (by simpa using c11), if_neg (by simpa using c20), if_neg (Int32.not_lt.mpr c28), if_neg c125], hFh1⟩)
            · refine a_lload_n hb dX11_sure_128 rfl 4 rfl ?_
              refine a_lload hb dX11_sure_129 0 rfl ?_
              refine a_ldiv hb dX11_sure_131 (fun q => by have z := (lJ_0 (n := Nat.gcd a b) (by omega)).mp q; omega) ?_
              refine a_goto hb 140 dX11_sure_132 (by decide) ?_
              exact a_lreturn hb hz dX11_sure_140 hret (by rw [hr]; exact Nat.le_of_ble_eq_true rfl) (by rw [hr]; exact Nat.le_of_ble_eq_true rfl) (⟨by rw [if_neg (by simpa using c11), if_neg (by simpa using c20), if_neg (Int32.not_lt.mpr c28), if_pos (by simpa using c125)], hFh1⟩)
          | succ k ih =>
            intro i h1 hFh1 ivh1 hi
            have hClh1 : CX g h1 B vq lq hl S N P := hC.fr (FR.mo (A := Xg B vq) (A' := Ay B vq) hFh1 (by intro a; unfold Xg Ay; omega))
            refine a_iload hb dX11_sure_62 6 rfl ?_
            refine a_iload hb dX11_sure_64 5 rfl ?_
            refine a_icmp_ge hb 112 dX11_sure_66 (by decide) (fun c66 => absurd c66 (nI_ge (by omega) (by omega))) (fun c66 => ?_)
            refine a_aload_n hb dX11_sure_69 rfl 0 rfl ?_
            refine a_iload hb dX11_sure_70 6 rfl ?_
            refine a_callV hb dX11_sure_72 (by rw [hg]; exact x_takeWay g h1 B vq lq hl S N P hClh1 i (by omega)) (by rw [ow]; exact clv_RX11_228) (hClh1.1.1.1 0 (by decide)) (by decide) rfl rfl rfl (Nat.le_of_ble_eq_true rfl) (by rw [hr]; exact ⟨by decide, by decide⟩) (by rw [hr]; exact ⟨Nat.le_of_ble_eq_true rfl, Nat.le_of_ble_eq_true rfl⟩) ?_
            intro rv h3_ hp
            obtain ⟨hv, hf3, hx3_0⟩ := hp
            rw [hv]
            have hF3 := FR.tr hFh1 (FR.mo (A := Xk B vq) (A' := Xg B vq) hf3 (by intro a; unfold Xk Xg; omega))
            have hC3 := hC.fr (FR.mo (A := Xg B vq) (A' := Ay B vq) hF3 (by intro a; unfold Xg Ay; omega))
            clear hv
            show AW V 0 0 h3_ 75 [(0, .ref B), (1, .int c), (2, .int x), (3, .long (hlS (fun y => odT S N.1 y N.1) (fun y => fbF (fun t => btS (fun t => mdB S (-1) (nI t) N.2.1) (fun t => dmS P S (fun p => nI (dyT S N.1 y p)) hl (nI t) N.1) (S 7) (t + 1)) c 0 40) i)), (5, .long (alS (fun y => odT S N.1 y N.1) i)), (7, .int (nI (nwN S N.1))), (8, .int (nI i))] [.int (odT S N.1 i N.1)]
            have hM2 : ∀ t, t < 40 → hI h3_ (B + 22) t = mdB S (-1) (nI t) N.2.1 := fun t q => by rw [hf3.2.2.2.2 (B + 22) (by unfold Xk; omega)]; exact ivh1.1 t q
            have hO2 : ∀ p, p < N.1 → ∀ d, d < wdS S p → ∀ t, t < 40 → hI h3_ (B + (26 + (p * 3 + d))) t = dwS P S (fun _ => nI d) hl (nI t) p := fun p hp d hd t ht => by rw [hf3.2.2.2.2 _ (by unfold Xk; have := @wd_3 S p; omega)]; exact ivh1.2 p hp d hd t ht
            refine a_istore (L' := [(9, .int (odT S N.1 i N.1)), (0, .ref B), (1, .int c), (2, .int x), (3, .long (hlS (fun y => odT S N.1 y N.1) (fun y => fbF (fun t => btS (fun t => mdB S (-1) (nI t) N.2.1) (fun t => dmS P S (fun p => nI (dyT S N.1 y p)) hl (nI t) N.1) (S 7) (t + 1)) c 0 40) i)), (5, .long (alS (fun y => odT S N.1 y N.1) i)), (7, .int (nI (nwN S N.1))), (8, .int (nI i))]) hb dX11_sure_75 (by rw [hml]; decide) rfl ?_
            refine a_lload hb dX11_sure_77 5 rfl ?_
            refine a_iload hb dX11_sure_79 0 rfl ?_
            refine a_i2l hb dX11_sure_81 rfl ?_
            refine a_ladd hb dX11_sure_82 ?_
            refine a_lstore (L' := [(5, .long ((alS (fun y => odT S N.1 y N.1) i) + ((odT S N.1 i N.1).toInt64))), (9, .int (odT S N.1 i N.1)), (0, .ref B), (1, .int c), (2, .int x), (3, .long (hlS (fun y => odT S N.1 y N.1) (fun y => fbF (fun t => btS (fun t => mdB S (-1) (nI t) N.2.1) (fun t => dmS P S (fun p => nI (dyT S N.1 y p)) hl (nI t) N.1) (S 7) (t + 1)) c 0 40) i)), (7, .int (nI (nwN S N.1))), (8, .int (nI i))]) hb dX11_sure_83 (by rw [hml]; decide) rfl ?_
            refine a_iload hb dX11_sure_85 1 rfl ?_
            refine a_if_le hb 106 dX11_sure_87 (by decide) (fun c87 => ?_) (fun c87 => ?_)
            · refine a_iinc (v := ((nI i) + 1)) (L' := [(8, .int ((nI i) + 1)), (5, .long ((alS (fun y => odT S N.1 y N.1) i) + ((odT S N.1 i N.1).toInt64))), (9, .int (odT S N.1 i N.1)), (0, .ref B), (1, .int c), (2, .int x), (3, .long (hlS (fun y => odT S N.1 y N.1) (fun y => fbF (fun t => btS (fun t => mdB S (-1) (nI t) N.2.1) (fun t => dmS P S (fun p => nI (dyT S N.1 y p)) hl (nI t) N.1) (S 7) (t + 1)) c 0 40) i)), (7, .int (nI (nwN S N.1)))]) hb dX11_sure_106 7 rfl rfl (by rw [hml]; decide) rfl ?_
              refine a_goto hb 62 dX11_sure_109 (by decide) ?_
              refine AW.sub (L' := [(0, .ref B), (1, .int c), (2, .int x), (3, .long (hlS (fun y => odT S N.1 y N.1) (fun y => fbF (fun t => btS (fun t => mdB S (-1) (nI t) N.2.1) (fun t => dmS P S (fun p => nI (dyT S N.1 y p)) hl (nI t) N.1) (S 7) (t + 1)) c 0 40) i)), (5, .long ((alS (fun y => odT S N.1 y N.1) i) + ((odT S N.1 i N.1).toInt64))), (7, .int (nI (nwN S N.1))), (8, .int ((nI i) + 1))]) [3, 4, 5, 6, 1, 7, 0] rfl ?_
              exact AW.eq (ih (i + 1) h3_ hF3 (⟨hM2, hO2⟩) (by omega)) rfl rfl (by first | (rw [hl_n (od := (fun y => odT S N.1 y N.1)) (ft := (fun y => fbF (fun t => btS (fun t => mdB S (-1) (nI t) N.2.1) (fun t => dmS P S (fun p => nI (dyT S N.1 y p)) hl (nI t) N.1) (S 7) (t + 1)) c 0 40)) (y := i) (Or.inl (Int32.not_lt.mpr c87)), nI_1]; rfl) | (rw [hl_n (od := (fun y => odT S N.1 y N.1)) (ft := (fun y => fbF (fun t => btS (fun t => mdB S (-1) (nI t) N.2.1) (fun t => dmS P S (fun p => nI (dyT S N.1 y p)) hl (nI t) N.1) (S 7) (t + 1)) c 0 40)) (y := i) (Or.inr c97), nI_1]; rfl) | (rw [hl_y (od := (fun y => odT S N.1 y N.1)) (ft := (fun y => fbF (fun t => btS (fun t => mdB S (-1) (nI t) N.2.1) (fun t => dmS P S (fun p => nI (dyT S N.1 y p)) hl (nI t) N.1) (S 7) (t + 1)) c 0 40)) (y := i) (Int32.not_le.mp c87) (by simpa using c97), nI_1]; rfl)) rfl
            · refine a_aload_n hb dX11_sure_90 rfl 2 rfl ?_
              refine a_iload_n hb dX11_sure_91 rfl 3 rfl ?_
              refine a_callV hb dX11_sure_92 (by rw [hg]; exact x_firstOfWay g h3_ B vq lq hl S N P hC3 c (dyT S N.1 i) hx3_0 hO2 hM2) (by rw [ow]; exact clv_RX11_231) (hC3.1.1.1 0 (by decide)) (by decide) rfl rfl rfl (Nat.le_of_ble_eq_true rfl) (by rw [hr]; exact ⟨by decide, by decide⟩) (by rw [hr]; exact ⟨Nat.le_of_ble_eq_true rfl, Nat.le_of_ble_eq_true rfl⟩) ?_
              intro rv h4_ hp
              obtain ⟨hv, hf4⟩ := hp
              rw [hv]
              have hF4 := FR.tr hF3 (FR.mo (A := Xd B vq) (A' := Xg B vq) hf4 (by intro a; unfold Xd Xg; omega))
              have hC4 := hC.fr (FR.mo (A := Xg B vq) (A' := Ay B vq) hF4 (by intro a; unfold Xg Ay; omega))
              clear hv
              show AW V 0 0 h4_ 95 [(5, .long ((alS (fun y => odT S N.1 y N.1) i) + ((odT S N.1 i N.1).toInt64))), (9, .int (odT S N.1 i N.1)), (0, .ref B), (1, .int c), (2, .int x), (3, .long (hlS (fun y => odT S N.1 y N.1) (fun y => fbF (fun t => btS (fun t => mdB S (-1) (nI t) N.2.1) (fun t => dmS P S (fun p => nI (dyT S N.1 y p)) hl (nI t) N.1) (S 7) (t + 1)) c 0 40) i)), (7, .int (nI (nwN S N.1))), (8, .int (nI i))] [.int ((fun y => fbF (fun t => btS (fun t => mdB S (-1) (nI t) N.2.1) (fun t => dmS P S (fun p => nI (dyT S N.1 y p)) hl (nI t) N.1) (S 7) (t + 1)) c 0 40) i)]
              have hM3 : ∀ t, t < 40 → hI h4_ (B + 22) t = mdB S (-1) (nI t) N.2.1 := fun t q => by rw [hf4.2.2.2.2 (B + 22) (by unfold Xd; omega)]; exact hM2 t q
              have hO3 : ∀ p, p < N.1 → ∀ d, d < wdS S p → ∀ t, t < 40 → hI h4_ (B + (26 + (p * 3 + d))) t = dwS P S (fun _ => nI d) hl (nI t) p := fun p hp d hd t ht => by rw [hf4.2.2.2.2 _ (by unfold Xd; have := @wd_3 S p; omega)]; exact hO2 p hp d hd t ht
              refine a_bipush (v := (-5)) hb dX11_sure_95 (by decide) ?_
              refine a_icmp_ne hb 106 dX11_sure_97 (by decide) (fun c97 => ?_) (fun c97 => ?_)
              · refine a_iinc (v := ((nI i) + 1)) (L' := [(8, .int ((nI i) + 1)), (5, .long ((alS (fun y => odT S N.1 y N.1) i) + ((odT S N.1 i N.1).toInt64))), (9, .int (odT S N.1 i N.1)), (0, .ref B), (1, .int c), (2, .int x), (3, .long (hlS (fun y => odT S N.1 y N.1) (fun y => fbF (fun t => btS (fun t => mdB S (-1) (nI t) N.2.1) (fun t => dmS P S (fun p => nI (dyT S N.1 y p)) hl (nI t) N.1) (S 7) (t + 1)) c 0 40) i)), (7, .int (nI (nwN S N.1)))]) hb dX11_sure_106 7 rfl rfl (by rw [hml]; decide) rfl ?_
                refine a_goto hb 62 dX11_sure_109 (by decide) ?_
                refine AW.sub (L' := [(0, .ref B), (1, .int c), (2, .int x), (3, .long (hlS (fun y => odT S N.1 y N.1) (fun y => fbF (fun t => btS (fun t => mdB S (-1) (nI t) N.2.1) (fun t => dmS P S (fun p => nI (dyT S N.1 y p)) hl (nI t) N.1) (S 7) (t + 1)) c 0 40) i)), (5, .long ((alS (fun y => odT S N.1 y N.1) i) + ((odT S N.1 i N.1).toInt64))), (7, .int (nI (nwN S N.1))), (8, .int ((nI i) + 1))]) [3, 4, 5, 6, 1, 7, 0] rfl ?_
                exact AW.eq (ih (i + 1) h4_ hF4 (⟨hM3, hO3⟩) (by omega)) rfl rfl (by first | (rw [hl_n (od := (fun y => odT S N.1 y N.1)) (ft := (fun y => fbF (fun t => btS (fun t => mdB S (-1) (nI t) N.2.1) (fun t => dmS P S (fun p => nI (dyT S N.1 y p)) hl (nI t) N.1) (S 7) (t + 1)) c 0 40)) (y := i) (Or.inl (Int32.not_lt.mpr c87)), nI_1]; rfl) | (rw [hl_n (od := (fun y => odT S N.1 y N.1)) (ft := (fun y => fbF (fun t => btS (fun t => mdB S (-1) (nI t) N.2.1) (fun t => dmS P S (fun p => nI (dyT S N.1 y p)) hl (nI t) N.1) (S 7) (t + 1)) c 0 40)) (y := i) (Or.inr c97), nI_1]; rfl) | (rw [hl_y (od := (fun y => odT S N.1 y N.1)) (ft := (fun y => fbF (fun t => btS (fun t => mdB S (-1) (nI t) N.2.1) (fun t => dmS P S (fun p => nI (dyT S N.1 y p)) hl (nI t) N.1) (S 7) (t + 1)) c 0 40)) (y := i) (Int32.not_le.mp c87) (by simpa using c97), nI_1]; rfl)) rfl
              · refine a_lload_n hb dX11_sure_100 rfl 5 rfl ?_
                refine a_iload hb dX11_sure_101 1 rfl ?_
                refine a_i2l hb dX11_sure_103 rfl ?_
                refine a_ladd hb dX11_sure_104 ?_
                refine a_lstore_n (L' := [(3, .long ((hlS (fun y => odT S N.1 y N.1) (fun y => fbF (fun t => btS (fun t => mdB S (-1) (nI t) N.2.1) (fun t => dmS P S (fun p => nI (dyT S N.1 y p)) hl (nI t) N.1) (S 7) (t + 1)) c 0 40) i) + ((odT S N.1 i N.1).toInt64))), (5, .long ((alS (fun y => odT S N.1 y N.1) i) + ((odT S N.1 i N.1).toInt64))), (9, .int (odT S N.1 i N.1)), (0, .ref B), (1, .int c), (2, .int x), (7, .int (nI (nwN S N.1))), (8, .int (nI i))]) hb dX11_sure_105 rfl (by rw [hml]; decide) rfl ?_
                refine a_iinc (v := ((nI i) + 1)) (L' := [(8, .int ((nI i) + 1)), (3, .long ((hlS (fun y => odT S N.1 y N.1) (fun y => fbF (fun t => btS (fun t => mdB S (-1) (nI t) N.2.1) (fun t => dmS P S (fun p => nI (dyT S N.1 y p)) hl (nI t) N.1) (S 7) (t + 1)) c 0 40) i) + ((odT S N.1 i N.1).toInt64))), (5, .long ((alS (fun y => odT S N.1 y N.1) i) + ((odT S N.1 i N.1).toInt64))), (9, .int (odT S N.1 i N.1)), (0, .ref B), (1, .int c), (2, .int x), (7, .int (nI (nwN S N.1)))]) hb dX11_sure_106 7 rfl rfl (by rw [hml]; decide) rfl ?_
                refine a_goto hb 62 dX11_sure_109 (by decide) ?_
                refine AW.sub (L' := [(0, .ref B), (1, .int c), (2, .int x), (3, .long ((hlS (fun y => odT S N.1 y N.1) (fun y => fbF (fun t => btS (fun t => mdB S (-1) (nI t) N.2.1) (fun t => dmS P S (fun p => nI (dyT S N.1 y p)) hl (nI t) N.1) (S 7) (t + 1)) c 0 40) i) + ((odT S N.1 i N.1).toInt64))), (5, .long ((alS (fun y => odT S N.1 y N.1) i) + ((odT S N.1 i N.1).toInt64))), (7, .int (nI (nwN S N.1))), (8, .int ((nI i) + 1))]) [4, 5, 6, 1, 2, 7, 0] rfl ?_
                exact AW.eq (ih (i + 1) h4_ hF4 (⟨hM3, hO3⟩) (by omega)) rfl rfl (by first | (rw [hl_n (od := (fun y => odT S N.1 y N.1)) (ft := (fun y => fbF (fun t => btS (fun t => mdB S (-1) (nI t) N.2.1) (fun t => dmS P S (fun p => nI (dyT S N.1 y p)) hl (nI t) N.1) (S 7) (t + 1)) c 0 40)) (y := i) (Or.inl (Int32.not_lt.mpr c87)), nI_1]; rfl) | (rw [hl_n (od := (fun y => odT S N.1 y N.1)) (ft := (fun y => fbF (fun t => btS (fun t => mdB S (-1) (nI t) N.2.1) (fun t => dmS P S (fun p => nI (dyT S N.1 y p)) hl (nI t) N.1) (S 7) (t + 1)) c 0 40)) (y := i) (Or.inr c97), nI_1]; rfl) | (rw [hl_y (od := (fun y => odT S N.1 y N.1)) (ft := (fun y => fbF (fun t => btS (fun t => mdB S (-1) (nI t) N.2.1) (fun t => dmS P S (fun p => nI (dyT S N.1 y p)) hl (nI t) N.1) (S 7) (t + 1)) c 0 40)) (y := i) (Int32.not_le.mp c87) (by simpa using c97), nI_1]; rfl)) rfl
        refine AW.sub (L' := [(0, .ref B), (1, .int c), (2, .int x), (3, .long 0), (5, .long 0), (7, .int (nI (nwN S N.1))), (8, .int 0)]) [4, 5, 6, 3, 2, 1, 0] rfl ?_
        exact AW.eq (loop (nwN S N.1) 0 h2_ hF2 ⟨hM, hO⟩ (by omega)) rfl rfl (rfl) rfl
      · refine a_ldc2 (v := (-9223372036854775808)) hb dX11_sure_31 (by rw [ow]; exact kw_774) ?_
        exact a_lreturn hb hz dX11_sure_34 hret (by rw [hr]; exact Nat.le_of_ble_eq_true rfl) (by rw [hr]; exact Nat.le_of_ble_eq_true rfl) (⟨by rw [if_neg (by simpa using c11), if_neg (by simpa using c20), if_pos (Int32.not_le.mp c28)], FR.rf⟩)
