/-! ===== the class: the drawn rows of all ways ===== -/
def wdS (S : Nat → Int32) (p : Nat) : Nat := if S (162 + p) < 10 then 3 else 1
theorem wd_3 {S : Nat → Int32} {p : Nat} : wdS S p ≤ 3 := by unfold wdS; split <;> decide
set_option maxRecDepth 100000 in
theorem x_layDrawn (g : GG) (h : AH) (B vq lq hl : Nat) (S : Nat → Int32) (N : NN) (P : PF) (hC : CX g h B vq lq hl S N P) : AM g 8 0 0 mX11_layDrawn [.ref B] h (fun rv h' => rv = none ∧ FR (Xr B vq) h h' ∧ ∀ p, p < N.1 → ∀ d, d < wdS S p → ∀ t, t < 40 → hI h' (B + (26 + (p * 3 + d))) t = dwS P S (fun _ => nI d) hl (nI t) p) := by
  refine AM.of [(0, .ref B)] (by decide) (Nat.le_of_ble_eq_true rfl) rfl ?_
  intro V hV
  have hb : V.2.1.2.1 = cX11_layDrawn := by subst hV; rfl
  have ow : V.2.1.1.cls = RX11 := by subst hV; rfl
  have hr : V.2.2.1 = aw_rm 8 0 0 := by subst hV; rfl
  have hz : V.2.2.2 = aw_Z V.1 (fun rv h' => rv = none ∧ FR (Xr B vq) h h' ∧ ∀ p, p < N.1 → ∀ d, d < wdS S p → ∀ t, t < 40 → hI h' (B + (26 + (p * 3 + d))) t = dwS P S (fun _ => nI d) hl (nI t) p) V.2.2.1 := by subst hV; rfl
  have hg : V.1 = g := by subst hV; rfl
  have hret : V.2.1.2.2.2 = none := by subst hV; rfl
  have hml : V.2.1.2.2.1 = 4 := by subst hV; rfl
  clear hV
  have hvq : B + 62 ≤ vq := hC.2.1.2.2.2.2.2.1
  have hnp := hC.1.np
  have hnw := hC.1.nw
  have loop : ∀ (k i : Nat) (h1 : AH) (hFh1 : FR (Xr B vq) h h1) (ivh1 : ∀ p, p < i → ∀ d, d < wdS S p → ∀ t, t < 40 → hI h1 (B + (26 + (p * 3 + d))) t = dwS P S (fun _ => nI d) hl (nI t) p), i + k = N.1 → AW V 0 0 h1 2 [(0, .ref B), (1, .int (nI i))] [] := by
    intro k
    induction k with
    | zero =>
      intro i h1 hFh1 ivh1 hi
      have hClh1 : CX g h1 B vq lq hl S N P := hC.fr (FR.mo (A := Xr B vq) (A' := Ay B vq) hFh1 (by intro a; unfold Xr Ay; omega))
      refine a_iload_n hb dX11_layDrawn_2 rfl 1 rfl ?_
      refine a_aload_n hb dX11_layDrawn_3 rfl 0 rfl ?_
      refine a_getQ (q := (B + 1)) hb dX11_layDrawn_4 (by rw [ow]; exact fl_RX11_12_11) (hClh1.1.1.1 0 (by decide)) (hClh1.1.1.2.1 (0, 0, 1) (by decide)) ?_
      refine a_getI hb dX11_layDrawn_7 (by rw [ow]; exact fl_RX11_61_7) (hClh1.1.1.1 1 (by decide)) ?_
      rw [hClh1.1.f3]
      show AW V 0 0 h1 10 [(0, .ref B), (1, .int (nI i))] [.int (nI N.1), .int (nI i)]
      refine a_icmp_ge hb 70 dX11_layDrawn_10 (by decide) (fun c10 => ?_) (fun c10 => absurd (nI_le (by omega) (by omega)) c10)
      exact a_return hb hz dX11_layDrawn_70 hret (by rw [hr]; exact Nat.le_of_ble_eq_true rfl) (by rw [hr]; exact Nat.le_of_ble_eq_true rfl) (⟨rfl, hFh1, by rw [show N.1 = i by omega]; exact ivh1⟩)
    | succ k ih =>
      intro i h1 hFh1 ivh1 hi
      have hClh1 : CX g h1 B vq lq hl S N P := hC.fr (FR.mo (A := Xr B vq) (A' := Ay B vq) hFh1 (by intro a; unfold Xr Ay; omega))
      refine a_iload_n hb dX11_layDrawn_2 rfl 1 rfl ?_
      refine a_aload_n hb dX11_layDrawn_3 rfl 0 rfl ?_
      refine a_getQ (q := (B + 1)) hb dX11_layDrawn_4 (by rw [ow]; exact fl_RX11_12_11) (hClh1.1.1.1 0 (by decide)) (hClh1.1.1.2.1 (0, 0, 1) (by decide)) ?_
      refine a_getI hb dX11_layDrawn_7 (by rw [ow]; exact fl_RX11_61_7) (hClh1.1.1.1 1 (by decide)) ?_
      rw [hClh1.1.f3]
      show AW V 0 0 h1 10 [(0, .ref B), (1, .int (nI i))] [.int (nI N.1), .int (nI i)]
      refine a_icmp_ge hb 70 dX11_layDrawn_10 (by decide) (fun c10 => absurd c10 (nI_ge (by omega) (by omega))) (fun c10 => ?_)
      refine a_aload_n hb dX11_layDrawn_13 rfl 0 rfl ?_
      refine a_iload_n hb dX11_layDrawn_14 rfl 1 rfl ?_
      refine a_callV hb dX11_layDrawn_15 (by rw [hg]; exact x_mayBeLater g h1 B S N hClh1.1 i (by omega)) (by rw [ow]; exact clv_RX11_336) (hClh1.1.1.1 0 (by decide)) (by decide) rfl rfl rfl (Nat.le_of_ble_eq_true rfl) (by rw [hr]; exact ⟨by decide, by decide⟩) (by rw [hr]; exact ⟨Nat.le_of_ble_eq_true rfl, Nat.le_of_ble_eq_true rfl⟩) ?_
      intro rv h' hq_
      rw [hq_.1, hq_.2]
      show AW V 0 0 h1 18 [(0, .ref B), (1, .int (nI i))] [.int (b2i (decide (S (162 + i) < 10)))]
      refine a_if_eq hb 25 dX11_layDrawn_18 (by decide) (fun c18 => ?_) (fun c18 => ?_)
      · simp [b2i_0] at c18
        refine a_iconst (v := 1) hb dX11_layDrawn_25 (by decide) ?_
        refine a_istore_n (L' := [(2, .int 1), (0, .ref B), (1, .int (nI i))]) hb dX11_layDrawn_26 rfl (by rw [hml]; decide) rfl ?_
        refine a_iconst (v := 0) hb dX11_layDrawn_27 (by decide) ?_
        refine a_istore_n (L' := [(3, .int 0), (2, .int 1), (0, .ref B), (1, .int (nI i))]) hb dX11_layDrawn_28 rfl (by rw [hml]; decide) rfl ?_
        have hwd : wdS S i = 1 := if_neg (by simpa using c18)
        have inner : ∀ (k2 i2 : Nat) (h2 : AH) (hFh2 : FR (Xr B vq) h h2) (ivh2 : (∀ p, p < i → ∀ d, d < wdS S p → ∀ t, t < 40 → hI h2 (B + (26 + (p * 3 + d))) t = dwS P S (fun _ => nI d) hl (nI t) p) ∧ ∀ d, d < i2 → ∀ t, t < 40 → hI h2 (B + (26 + (i * 3 + d))) t = dwS P S (fun _ => nI d) hl (nI t) i), i2 + k2 = 1 → AW V 0 0 h2 29 [(0, .ref B), (1, .int (nI i)), (2, .int 1), (3, .int (nI i2))] [] := by
          intro k2
          induction k2 with
          | zero =>
            intro i2 h2 hFh2 ivh2 hi2
            have hClh2 : CX g h2 B vq lq hl S N P := hC.fr (FR.mo (A := Xr B vq) (A' := Ay B vq) hFh2 (by intro a; unfold Xr Ay; omega))
            refine a_iload_n hb dX11_layDrawn_29 rfl 3 rfl ?_
            refine a_iload_n hb dX11_layDrawn_30 rfl 2 rfl ?_
            refine a_icmp_ge hb 64 dX11_layDrawn_31 (by decide) (fun c31 => ?_) (fun c31 => absurd (nI_le (b := i2) (a := 1) (by omega) (by omega)) c31)
            refine a_iinc (v := ((nI i) + 1)) (L' := [(1, .int ((nI i) + 1)), (0, .ref B), (2, .int 1), (3, .int (nI i2))]) hb dX11_layDrawn_64 1 rfl rfl (by rw [hml]; decide) rfl ?_
            refine a_goto hb 2 dX11_layDrawn_67 (by decide) ?_
            refine AW.sub (L' := [(0, .ref B), (1, .int ((nI i) + 1))]) [1, 0] rfl ?_
            exact AW.eq (ih (i + 1) h2 hFh2 (fun p hp d hd t ht => (Nat.lt_or_ge p i).elim (fun q => ivh2.1 p q d hd t ht) (fun q => by rw [show p = i by omega] at hd ⊢; rw [hwd] at hd; exact ivh2.2 d (by omega) t ht)) (by omega)) rfl rfl (by first | (simp only [nI_1]; done) | (simp only [nI_1]; rfl)) rfl
          | succ k2 ih2 =>
            intro i2 h2 hFh2 ivh2 hi2
            have hClh2 : CX g h2 B vq lq hl S N P := hC.fr (FR.mo (A := Xr B vq) (A' := Ay B vq) hFh2 (by intro a; unfold Xr Ay; omega))
            refine a_iload_n hb dX11_layDrawn_29 rfl 3 rfl ?_
            refine a_iload_n hb dX11_layDrawn_30 rfl 2 rfl ?_
            refine a_icmp_ge hb 64 dX11_layDrawn_31 (by decide) (fun c31 => absurd c31 (nI_ge (b := 1) (a := i2) (by omega) (by omega))) (fun c31 => ?_)
            refine a_aload_n hb dX11_layDrawn_34 rfl 0 rfl ?_
            refine a_aload_n hb dX11_layDrawn_35 rfl 0 rfl ?_
            refine a_getQ (q := (B + 1)) hb dX11_layDrawn_36 (by rw [ow]; exact fl_RX11_12_11) (hClh2.1.1.1 0 (by decide)) (hClh2.1.1.2.1 (0, 0, 1) (by decide)) ?_
            refine a_getQ (q := (B + 2)) hb dX11_layDrawn_39 (by rw [ow]; exact fl_RX11_65_7) (hClh2.1.1.1 1 (by decide)) (hClh2.1.1.2.1 (1, 0, 2) (by decide)) ?_
            refine a_iload_n hb dX11_layDrawn_42 rfl 1 rfl ?_
            obtain ⟨q1, hq1, po1⟩ := hC.1.ps (p := i) (by omega)
            have hr1 : hQ h2 (B + 2) i = some q1 := by rw [(hFh2).2.2.1]; exact hq1
            have pr1 : PO h2 B S i q1 := po1.fr (FR.mo (A := Xr B vq) (A' := Ay B vq) hFh2 (by intro a; unfold Xr Ay; omega)) hC.2.1.2.2.2.2.2.2
            refine b_aaldS (j := i) (q := q1) hb dX11_layDrawn_43 (hClh2.1.1.1 2 (by decide)) (by decide) (by decide) (IX.n (by omega)) (by omega) hr1 ?_
            refine a_iload_n hb dX11_layDrawn_44 rfl 3 rfl ?_
            refine a_aload_n hb dX11_layDrawn_45 rfl 0 rfl ?_
            refine a_getQ (q := (B + 25)) hb dX11_layDrawn_46 (by rw [ow]; exact fl_RX11_47_11) (hClh2.1.1.1 0 (by decide)) (hClh2.1.1.2.1 (0, 8, 25) (by decide)) ?_
            refine a_iload_n hb dX11_layDrawn_49 rfl 1 rfl ?_
            refine a_iconst (v := 3) hb dX11_layDrawn_50 (by decide) ?_
            refine a_imul hb dX11_layDrawn_51 ?_
            refine a_iload_n hb dX11_layDrawn_52 rfl 3 rfl ?_
            refine a_iadd hb dX11_layDrawn_53 ?_
            refine b_aaldS (j := ((i * 3) + i2)) (q := (B + (26 + ((i * 3) + i2)))) hb dX11_layDrawn_54 (hClh2.1.1.1 25 (by decide)) (by decide) (by decide) (IX.add (IX.mul (IX.n (by omega)) ⟨by decide, by decide⟩ (by omega)) (IX.n (by omega)) (by omega)) (by omega) (ly_el hClh2.1.1 (by omega)) ?_
            refine a_callV hb dX11_layDrawn_55 (by rw [hg]; exact x_layDrawnBy g h2 B vq lq hl S N P hClh2 i q1 (by omega) pr1 (26 + ((i * 3) + i2)) (by omega) (by omega) (nI i2)) (by rw [ow]; exact clv_RX11_259) (hClh2.1.1.1 0 (by decide)) (by decide) rfl rfl rfl (Nat.le_of_ble_eq_true rfl) (by rw [hr]; exact ⟨by decide, by decide⟩) (by rw [hr]; exact ⟨Nat.le_of_ble_eq_true rfl, Nat.le_of_ble_eq_true rfl⟩) ?_
            intro rv h2_ hp
            obtain ⟨hv, hf2, hx2_0, hx2_1⟩ := hp
            rw [hv]
            have hF2 := FR.tr hFh2 hf2
            have hC2 := hC.fr (FR.mo (A := Xr B vq) (A' := Ay B vq) hF2 (by intro a; unfold Xr Ay; omega))
            clear hv
            have po2_0 : PO h2_ B S i q1 := po1.fr (FR.mo (A := Xr B vq) (A' := Ay B vq) hF2 (by intro a; unfold Xr Ay; omega)) hC.2.1.2.2.2.2.2.2
            show AW V 0 0 h2_ 58 [(0, .ref B), (1, .int (nI i)), (2, .int 1), (3, .int (nI i2))] []
            refine a_iinc (v := ((nI i2) + 1)) (L' := [(3, .int ((nI i2) + 1)), (0, .ref B), (1, .int (nI i)), (2, .int 1)]) hb dX11_layDrawn_58 3 rfl rfl (by rw [hml]; decide) rfl ?_
            refine a_goto hb 29 dX11_layDrawn_61 (by decide) ?_
            refine AW.sub (L' := [(0, .ref B), (1, .int (nI i)), (2, .int 1), (3, .int ((nI i2) + 1))]) [1, 2, 3, 0] rfl ?_
            exact AW.eq (ih2 (i2 + 1) h2_ hF2 (⟨fun p hp d hd t ht => by rw [hx2_0 _ (by have := @wd_3 S p; omega) (by have := @wd_3 S p; omega)]; exact ivh2.1 p hp d hd t ht, fun d hd t ht => (Nat.lt_or_ge d i2).elim (fun q => by rw [hx2_0 _ (by omega) (by omega)]; exact ivh2.2 d q t ht) (fun q => by rw [show d = i2 by omega]; exact hx2_1 t ht)⟩) (by omega)) rfl rfl (by first | (simp only [nI_1]; done) | (simp only [nI_1]; rfl)) rfl
        refine AW.sub (L' := [(0, .ref B), (1, .int (nI i)), (2, .int 1), (3, .int 0)]) [2, 3, 1, 0] rfl ?_
        exact AW.eq (inner 1 0 h1 hFh1 ⟨ivh1, fun d hd => absurd hd (Nat.not_lt_zero d)⟩ (by omega)) rfl rfl (rfl) rfl
      · simp [b2i_0] at c18
        refine a_iconst (v := 3) hb dX11_layDrawn_21 (by decide) ?_
        refine a_goto hb 26 dX11_layDrawn_22 (by decide) ?_
        refine a_istore_n (L' := [(2, .int 3), (0, .ref B), (1, .int (nI i))]) hb dX11_layDrawn_26 rfl (by rw [hml]; decide) rfl ?_
        refine a_iconst (v := 0) hb dX11_layDrawn_27 (by decide) ?_
        refine a_istore_n (L' := [(3, .int 0), (2, .int 3), (0, .ref B), (1, .int (nI i))]) hb dX11_layDrawn_28 rfl (by rw [hml]; decide) rfl ?_
        have hwd : wdS S i = 3 := if_pos (by simpa using c18)
        have inner : ∀ (k2 i2 : Nat) (h2 : AH) (hFh2 : FR (Xr B vq) h h2) (ivh2 : (∀ p, p < i → ∀ d, d < wdS S p → ∀ t, t < 40 → hI h2 (B + (26 + (p * 3 + d))) t = dwS P S (fun _ => nI d) hl (nI t) p) ∧ ∀ d, d < i2 → ∀ t, t < 40 → hI h2 (B + (26 + (i * 3 + d))) t = dwS P S (fun _ => nI d) hl (nI t) i), i2 + k2 = 3 → AW V 0 0 h2 29 [(0, .ref B), (1, .int (nI i)), (2, .int 3), (3, .int (nI i2))] [] := by
          intro k2
          induction k2 with
          | zero =>
            intro i2 h2 hFh2 ivh2 hi2
            have hClh2 : CX g h2 B vq lq hl S N P := hC.fr (FR.mo (A := Xr B vq) (A' := Ay B vq) hFh2 (by intro a; unfold Xr Ay; omega))
            refine a_iload_n hb dX11_layDrawn_29 rfl 3 rfl ?_
            refine a_iload_n hb dX11_layDrawn_30 rfl 2 rfl ?_
            refine a_icmp_ge hb 64 dX11_layDrawn_31 (by decide) (fun c31 => ?_) (fun c31 => absurd (nI_le (b := i2) (a := 3) (by omega) (by omega)) c31)
            refine a_iinc (v := ((nI i) + 1)) (L' := [(1, .int ((nI i) + 1)), (0, .ref B), (2, .int 3), (3, .int (nI i2))]) hb dX11_layDrawn_64 1 rfl rfl (by rw [hml]; decide) rfl ?_
            refine a_goto hb 2 dX11_layDrawn_67 (by decide) ?_
            refine AW.sub (L' := [(0, .ref B), (1, .int ((nI i) + 1))]) [1, 0] rfl ?_
            exact AW.eq (ih (i + 1) h2 hFh2 (fun p hp d hd t ht => (Nat.lt_or_ge p i).elim (fun q => ivh2.1 p q d hd t ht) (fun q => by rw [show p = i by omega] at hd ⊢; rw [hwd] at hd; exact ivh2.2 d (by omega) t ht)) (by omega)) rfl rfl (by first | (simp only [nI_1]; done) | (simp only [nI_1]; rfl)) rfl
          | succ k2 ih2 =>
            intro i2 h2 hFh2 ivh2 hi2
            have hClh2 : CX g h2 B vq lq hl S N P := hC.fr (FR.mo (A := Xr B vq) (A' := Ay B vq) hFh2 (by intro a; unfold Xr Ay; omega))
            refine a_iload_n hb dX11_layDrawn_29 rfl 3 rfl ?_
            refine a_iload_n hb dX11_layDrawn_30 rfl 2 rfl ?_
            refine a_icmp_ge hb 64 dX11_layDrawn_31 (by decide) (fun c31 => absurd c31 (nI_ge (b := 3) (a := i2) (by omega) (by omega))) (fun c31 => ?_)
            refine a_aload_n hb dX11_layDrawn_34 rfl 0 rfl ?_
            refine a_aload_n hb dX11_layDrawn_35 rfl 0 rfl ?_
            refine a_getQ (q := (B + 1)) hb dX11_layDrawn_36 (by rw [ow]; exact fl_RX11_12_11) (hClh2.1.1.1 0 (by decide)) (hClh2.1.1.2.1 (0, 0, 1) (by decide)) ?_
            refine a_getQ (q := (B + 2)) hb dX11_layDrawn_39 (by rw [ow]; exact fl_RX11_65_7) (hClh2.1.1.1 1 (by decide)) (hClh2.1.1.2.1 (1, 0, 2) (by decide)) ?_
            refine a_iload_n hb dX11_layDrawn_42 rfl 1 rfl ?_
            obtain ⟨q1, hq1, po1⟩ := hC.1.ps (p := i) (by omega)
            have hr1 : hQ h2 (B + 2) i = some q1 := by rw [(hFh2).2.2.1]; exact hq1
            have pr1 : PO h2 B S i q1 := po1.fr (FR.mo (A := Xr B vq) (A' := Ay B vq) hFh2 (by intro a; unfold Xr Ay; omega)) hC.2.1.2.2.2.2.2.2
            refine b_aaldS (j := i) (q := q1) hb dX11_layDrawn_43 (hClh2.1.1.1 2 (by decide)) (by decide) (by decide) (IX.n (by omega)) (by omega) hr1 ?_
            refine a_iload_n hb dX11_layDrawn_44 rfl 3 rfl ?_
            refine a_aload_n hb dX11_layDrawn_45 rfl 0 rfl ?_
            refine a_getQ (q := (B + 25)) hb dX11_layDrawn_46 (by rw [ow]; exact fl_RX11_47_11) (hClh2.1.1.1 0 (by decide)) (hClh2.1.1.2.1 (0, 8, 25) (by decide)) ?_
            refine a_iload_n hb dX11_layDrawn_49 rfl 1 rfl ?_
            refine a_iconst (v := 3) hb dX11_layDrawn_50 (by decide) ?_
            refine a_imul hb dX11_layDrawn_51 ?_
            refine a_iload_n hb dX11_layDrawn_52 rfl 3 rfl ?_
            refine a_iadd hb dX11_layDrawn_53 ?_
            refine b_aaldS (j := ((i * 3) + i2)) (q := (B + (26 + ((i * 3) + i2)))) hb dX11_layDrawn_54 (hClh2.1.1.1 25 (by decide)) (by decide) (by decide) (IX.add (IX.mul (IX.n (by omega)) ⟨by decide, by decide⟩ (by omega)) (IX.n (by omega)) (by omega)) (by omega) (ly_el hClh2.1.1 (by omega)) ?_
            refine a_callV hb dX11_layDrawn_55 (by rw [hg]; exact x_layDrawnBy g h2 B vq lq hl S N P hClh2 i q1 (by omega) pr1 (26 + ((i * 3) + i2)) (by omega) (by omega) (nI i2)) (by rw [ow]; exact clv_RX11_259) (hClh2.1.1.1 0 (by decide)) (by decide) rfl rfl rfl (Nat.le_of_ble_eq_true rfl) (by rw [hr]; exact ⟨by decide, by decide⟩) (by rw [hr]; exact ⟨Nat.le_of_ble_eq_true rfl, Nat.le_of_ble_eq_true rfl⟩) ?_
            intro rv h2_ hp
            obtain ⟨hv, hf2, hx2_0, hx2_1⟩ := hp
            rw [hv]
            have hF2 := FR.tr hFh2 hf2
            have hC2 := hC.fr (FR.mo (A := Xr B vq) (A' := Ay B vq) hF2 (by intro a; unfold Xr Ay; omega))
            clear hv
            have po2_0 : PO h2_ B S i q1 := po1.fr (FR.mo (A := Xr B vq) (A' := Ay B vq) hF2 (by intro a; unfold Xr Ay; omega)) hC.2.1.2.2.2.2.2.2
            show AW V 0 0 h2_ 58 [(0, .ref B), (1, .int (nI i)), (2, .int 3), (3, .int (nI i2))] []
            refine a_iinc (v := ((nI i2) + 1)) (L' := [(3, .int ((nI i2) + 1)), (0, .ref B), (1, .int (nI i)), (2, .int 3)]) hb dX11_layDrawn_58 3 rfl rfl (by rw [hml]; decide) rfl ?_
            refine a_goto hb 29 dX11_layDrawn_61 (by decide) ?_
            refine AW.sub (L' := [(0, .ref B), (1, .int (nI i)), (2, .int 3), (3, .int ((nI i2) + 1))]) [1, 2, 3, 0] rfl ?_
            exact AW.eq (ih2 (i2 + 1) h2_ hF2 (⟨fun p hp d hd t ht => by rw [hx2_0 _ (by have := @wd_3 S p; omega) (by have := @wd_3 S p; omega)]; exact ivh2.1 p hp d hd t ht, fun d hd t ht => (Nat.lt_or_ge d i2).elim (fun q => by rw [hx2_0 _ (by omega) (by omega)]; exact ivh2.2 d q t ht) (fun q => by rw [show d = i2 by omega]; exact hx2_1 t ht)⟩) (by omega)) rfl rfl (by first | (simp only [nI_1]; done) | (simp only [nI_1]; rfl)) rfl
        refine AW.sub (L' := [(0, .ref B), (1, .int (nI i)), (2, .int 3), (3, .int 0)]) [2, 3, 1, 0] rfl ?_
        exact AW.eq (inner 3 0 h1 hFh1 ⟨ivh1, fun d hd => absurd hd (Nat.not_lt_zero d)⟩ (by omega)) rfl rfl (rfl) rfl
  refine a_iconst (v := 0) hb dX11_layDrawn_0 (by decide) ?_
  refine a_istore_n (L' := [(1, .int 0), (0, .ref B)]) hb dX11_layDrawn_1 rfl (by rw [hml]; decide) rfl ?_
  refine AW.sub (L' := [(0, .ref B), (1, .int 0)]) [1, 0] rfl ?_
  exact AW.eq (loop N.1 0 h FR.rf (fun p hp => absurd hp (Nat.not_lt_zero p)) (by omega)) rfl rfl (rfl) rfl
