/-! ===== the class: the best plan ===== -/
set_option maxRecDepth 100000 in
theorem x_layPlan (g : GG) (h : AH) (B vq lq hl : Nat) (S : Nat → Int32) (N : NN) (P : PF) (hC : CX g h B vq lq hl S N P) (w q : Nat) (hw : w < N.2.1) (po : WO h B S w q) (a m : Nat) : AM g 3 0 0 mX11_layPlan [.ref B, .ref q, .int (nI a), .int (nI m)] h (fun rv h' => rv = none ∧ FR (Xm B vq) h h' ∧ ∀ t, t < 40 → hI h' (B + 22) t = hI h (B + 23) t + wgS S w (nI a) (nI m) (nI t)) := by
  refine AM.of [(0, .ref B), (1, .ref q), (2, .int (nI a)), (3, .int (nI m))] (by decide) (Nat.le_of_ble_eq_true rfl) rfl ?_
  intro V hV
  have hb : V.2.1.2.1 = cX11_layPlan := by subst hV; rfl
  have ow : V.2.1.1.cls = RX11 := by subst hV; rfl
  have hr : V.2.2.1 = aw_rm 3 0 0 := by subst hV; rfl
  have hz : V.2.2.2 = aw_Z V.1 (fun rv h' => rv = none ∧ FR (Xm B vq) h h' ∧ ∀ t, t < 40 → hI h' (B + 22) t = hI h (B + 23) t + wgS S w (nI a) (nI m) (nI t)) V.2.2.1 := by subst hV; rfl
  have hg : V.1 = g := by subst hV; rfl
  have hret : V.2.1.2.2.2 = none := by subst hV; rfl
  have hml : V.2.1.2.2.1 = 5 := by subst hV; rfl
  clear hV
  have hvq : B + 62 ≤ vq := hC.2.1.2.2.2.2.2.1
  have hnp := hC.1.np
  have hnw := hC.1.nw
  have loop : ∀ (k i : Nat) (h1 : AH) (hFh1 : FR (Xm B vq) h h1) (ivh1 : ∀ t, t < i → hI h1 (B + 22) t = hI h (B + 23) t + wgS S w (nI a) (nI m) (nI t)), i + k = 40 → AW V 0 0 h1 3 [(0, .ref B), (1, .ref q), (2, .int (nI a)), (3, .int (nI m)), (4, .int (nI i))] [] := by
    intro k
    induction k with
    | zero =>
      intro i h1 hFh1 ivh1 hi
      have hClh1 : CX g h1 B vq lq hl S N P := hC.fr (FR.mo (A := Xm B vq) (A' := Ay B vq) hFh1 (by intro a; unfold Xm Ay; omega))
      have polh1_0 : WO h1 B S w q := po.fr (FR.mo (A := Xm B vq) (A' := Ay B vq) hFh1 (by intro a; unfold Xm Ay; omega)) hC.2.1.2.2.2.2.2.2
      refine a_iload hb dX11_layPlan_3 4 rfl ?_
      refine a_bipush (v := 40) hb dX11_layPlan_5 (by decide) ?_
      refine a_icmp_ge hb 39 dX11_layPlan_7 (by decide) (fun c7 => ?_) (fun c7 => absurd (nI_le (b := i) (a := 40) (by omega) (by omega)) c7)
      exact a_return hb hz dX11_layPlan_39 hret (by rw [hr]; exact Nat.le_of_ble_eq_true rfl) (by rw [hr]; exact Nat.le_of_ble_eq_true rfl) (⟨rfl, hFh1, by rw [show i = 40 by omega] at ivh1; exact ivh1⟩)
    | succ k ih =>
      intro i h1 hFh1 ivh1 hi
      have hClh1 : CX g h1 B vq lq hl S N P := hC.fr (FR.mo (A := Xm B vq) (A' := Ay B vq) hFh1 (by intro a; unfold Xm Ay; omega))
      have polh1_0 : WO h1 B S w q := po.fr (FR.mo (A := Xm B vq) (A' := Ay B vq) hFh1 (by intro a; unfold Xm Ay; omega)) hC.2.1.2.2.2.2.2.2
      refine a_iload hb dX11_layPlan_3 4 rfl ?_
      refine a_bipush (v := 40) hb dX11_layPlan_5 (by decide) ?_
      refine a_icmp_ge hb 39 dX11_layPlan_7 (by decide) (fun c7 => absurd c7 (nI_ge (b := 40) (a := i) (by omega) (by omega))) (fun c7 => ?_)
      refine a_aload_n hb dX11_layPlan_10 rfl 0 rfl ?_
      refine a_getQ (q := (B + 22)) hb dX11_layPlan_11 (by rw [ow]; exact fl_RX11_36_11) (hClh1.1.1.1 0 (by decide)) (hClh1.1.1.2.1 (0, 5, 22) (by decide)) ?_
      refine a_iload hb dX11_layPlan_14 4 rfl ?_
      refine a_aload_n hb dX11_layPlan_16 rfl 0 rfl ?_
      refine a_getQ (q := (B + 23)) hb dX11_layPlan_17 (by rw [ow]; exact fl_RX11_39_11) (hClh1.1.1.1 0 (by decide)) (hClh1.1.1.2.1 (0, 6, 23) (by decide)) ?_
      refine a_iload hb dX11_layPlan_20 4 rfl ?_
      refine b_iald (j := i) hb dX11_layPlan_22 (hClh1.1.1.1 23 (by decide)) (IX.n (by omega)) (by omega) ?_
      rw [show hI h1 (B + 23) = hI h (B + 23) from hFh1.2.2.2.2 _ (by unfold Xm; omega)]
      show AW V 0 0 h1 23 [(0, .ref B), (1, .ref q), (2, .int (nI a)), (3, .int (nI m)), (4, .int (nI i))] [.int (hI h (B + 23) i), .int (nI i), .ref (B + 22)]
      refine a_aload_n hb dX11_layPlan_23 rfl 1 rfl ?_
      refine a_iload_n hb dX11_layPlan_24 rfl 2 rfl ?_
      refine a_iload_n hb dX11_layPlan_25 rfl 3 rfl ?_
      refine a_iload hb dX11_layPlan_26 4 rfl ?_
      refine a_callV hb dX11_layPlan_28 (by rw [hg]; exact x_wouldGive g h1 B S N hClh1.1 w q (by omega) polh1_0 (nI a) (nI m) (nI i)) (by rw [ow]; exact clv_RX11_325) polh1_0.2.1 (by decide) rfl rfl rfl (Nat.le_of_ble_eq_true rfl) (by rw [hr]; exact ⟨by decide, by decide⟩) (by rw [hr]; exact ⟨Nat.le_of_ble_eq_true rfl, Nat.le_of_ble_eq_true rfl⟩) ?_
      intro rv h' hq_
      rw [hq_.1, hq_.2]
      show AW V 0 0 h1 31 [(0, .ref B), (1, .ref q), (2, .int (nI a)), (3, .int (nI m)), (4, .int (nI i))] [.int (wgS S w (nI a) (nI m) (nI i)), .int (hI h (B + 23) i), .int (nI i), .ref (B + 22)]
      refine a_iadd hb dX11_layPlan_31 ?_
      refine b_iast (j := i) hb dX11_layPlan_32 (hClh1.1.1.1 22 (by decide)) (IX.n (by omega)) (by omega) ?_
      refine a_iinc (v := ((nI i) + 1)) (L' := [(4, .int ((nI i) + 1)), (0, .ref B), (1, .ref q), (2, .int (nI a)), (3, .int (nI m))]) hb dX11_layPlan_33 4 rfl rfl (by rw [hml]; decide) rfl ?_
      refine a_goto hb 3 dX11_layPlan_36 (by decide) ?_
      refine AW.sub (L' := [(0, .ref B), (1, .ref q), (2, .int (nI a)), (3, .int (nI m)), (4, .int ((nI i) + 1))]) [1, 2, 3, 4, 0] rfl ?_
      exact AW.eq (ih (i + 1) (setI h1 (B + 22) i ((hI h (B + 23) i) + (wgS S w (nI a) (nI m) (nI i)))) (FR.I hFh1 (by unfold Xm; omega)) (rowI ivh1 rfl) (by omega)) rfl rfl (by first | (simp only [nI_1]; done) | (simp only [nI_1]; rfl)) rfl
  refine a_iconst (v := 0) hb dX11_layPlan_0 (by decide) ?_
  refine a_istore (L' := [(4, .int 0), (0, .ref B), (1, .ref q), (2, .int (nI a)), (3, .int (nI m))]) hb dX11_layPlan_1 (by rw [hml]; decide) rfl ?_
  refine AW.sub (L' := [(0, .ref B), (1, .ref q), (2, .int (nI a)), (3, .int (nI m)), (4, .int 0)]) [1, 2, 3, 4, 0] rfl ?_
  exact AW.eq (loop 40 0 h FR.rf row0 (by omega)) rfl rfl (rfl) rfl
set_option maxRecDepth 100000 in
theorem x_bestPlan (g : GG) (h : AH) (B vq lq hl : Nat) (S : Nat → Int32) (N : NN) (P : PF) (hC : CX g h B vq lq hl S N P) (w q : Nat) (hw : w < N.2.1) (po : WO h B S w q) (s : Nat) (es : S (188 + w) = nI s) (s1 : 1 ≤ s) (s2 : s ≤ 40) (c : Int32) (hD : ∀ t, t < 40 → hI h (B + 21) t = dmS P S (fun _ => 0) hl (nI t) N.1) (hO : ∀ t, t < 40 → hI h (B + 23) t = mdB S (nI w) (nI t) N.2.1) : AM g 4 0 0 mX11_bestPlan [.ref B, .ref q, .int c] h (fun rv h' => (∃ r, rv = some (.int r) ∧ BP (hoS S (fun t => dmS P S (fun _ => 0) hl (nI t) N.1) w N.2.1 c) (min 20 s) r) ∧ FR (Xm B vq) h h') := by
  refine AM.of [(0, .ref B), (1, .ref q), (2, .int c)] (by decide) (Nat.le_of_ble_eq_true rfl) rfl ?_
  intro V hV
  have hb : V.2.1.2.1 = cX11_bestPlan := by subst hV; rfl
  have ow : V.2.1.1.cls = RX11 := by subst hV; rfl
  have hr : V.2.2.1 = aw_rm 4 0 0 := by subst hV; rfl
  have hz : V.2.2.2 = aw_Z V.1 (fun rv h' => (∃ r, rv = some (.int r) ∧ BP (hoS S (fun t => dmS P S (fun _ => 0) hl (nI t) N.1) w N.2.1 c) (min 20 s) r) ∧ FR (Xm B vq) h h') V.2.2.1 := by subst hV; rfl
  have hg : V.1 = g := by subst hV; rfl
  have hret : V.2.1.2.2.2 = (some .int) := by subst hV; rfl
  have hml : V.2.1.2.2.1 = 6 := by subst hV; rfl
  clear hV
  have hvq : B + 62 ≤ vq := hC.2.1.2.2.2.2.2.1
  have hnp := hC.1.np
  have hnw := hC.1.nw
  have loop : ∀ (k i : Nat) (h1 : AH) (hFh1 : FR (Xm B vq) h h1) (ivh1 : ∀ z, z < i → ∀ t, t < 40 → (hoS S (fun t => dmS P S (fun _ => 0) hl (nI t) N.1) w N.2.1 c) z t ≠ -5), i + k = (min 20 s) → AW V 0 0 h1 13 [(0, .ref B), (1, .ref q), (2, .int c), (3, .int (nI (min 20 s))), (4, .int (nI (i + 1)))] [] := by
    intro k
    induction k with
    | zero =>
      intro i h1 hFh1 ivh1 hi
      have hClh1 : CX g h1 B vq lq hl S N P := hC.fr (FR.mo (A := Xm B vq) (A' := Ay B vq) hFh1 (by intro a; unfold Xm Ay; omega))
      have polh1_0 : WO h1 B S w q := po.fr (FR.mo (A := Xm B vq) (A' := Ay B vq) hFh1 (by intro a; unfold Xm Ay; omega)) hC.2.1.2.2.2.2.2.2
      refine a_iload hb dX11_bestPlan_13 4 rfl ?_
      refine a_iload_n hb dX11_bestPlan_15 rfl 3 rfl ?_
      refine a_icmp_gt hb 78 dX11_bestPlan_16 (by decide) (fun c16 => ?_) (fun c16 => absurd ((nI_ltI (a := min 20 s) (b := i + 1) (by omega) (by omega)).mpr (by omega)) c16)
      refine a_bipush (v := (-5)) hb dX11_bestPlan_78 (by decide) ?_
      exact a_ireturn (ty := .int) hb hz dX11_bestPlan_80 hret rfl (by rw [hr]; exact Nat.le_of_ble_eq_true rfl) (by rw [hr]; exact Nat.le_of_ble_eq_true rfl) (⟨⟨-5, rfl, Or.inl ⟨rfl, by rw [show i = min 20 s by omega] at ivh1; exact ivh1⟩⟩, hFh1⟩)
    | succ k ih =>
      intro i h1 hFh1 ivh1 hi
      have hClh1 : CX g h1 B vq lq hl S N P := hC.fr (FR.mo (A := Xm B vq) (A' := Ay B vq) hFh1 (by intro a; unfold Xm Ay; omega))
      have polh1_0 : WO h1 B S w q := po.fr (FR.mo (A := Xm B vq) (A' := Ay B vq) hFh1 (by intro a; unfold Xm Ay; omega)) hC.2.1.2.2.2.2.2.2
      refine a_iload hb dX11_bestPlan_13 4 rfl ?_
      refine a_iload_n hb dX11_bestPlan_15 rfl 3 rfl ?_
      refine a_icmp_gt hb 78 dX11_bestPlan_16 (by decide) (fun c16 => absurd c16 (fun q => absurd ((nI_ltI (a := min 20 s) (b := i + 1) (by omega) (by omega)).mp q) (by omega))) (fun c16 => ?_)
      refine a_iconst (v := 0) hb dX11_bestPlan_19 (by decide) ?_
      refine a_istore (L' := [(5, .int 0), (0, .ref B), (1, .ref q), (2, .int c), (3, .int (nI (min 20 s))), (4, .int (nI (i + 1)))]) hb dX11_bestPlan_20 (by rw [hml]; decide) rfl ?_
      have inner : ∀ (k2 i2 : Nat) (h2 : AH) (hFh2 : FR (Xm B vq) h h2) (ivh2 : ∀ t, t < i2 → (hoS S (fun t => dmS P S (fun _ => 0) hl (nI t) N.1) w N.2.1 c) i t ≠ -5), i2 + k2 = 40 → AW V 0 0 h2 22 [(0, .ref B), (1, .ref q), (2, .int c), (3, .int (nI (min 20 s))), (4, .int (nI (i + 1))), (5, .int (nI i2))] [] := by
        intro k2
        induction k2 with
        | zero =>
          intro i2 h2 hFh2 ivh2 hi2
          have hClh2 : CX g h2 B vq lq hl S N P := hC.fr (FR.mo (A := Xm B vq) (A' := Ay B vq) hFh2 (by intro a; unfold Xm Ay; omega))
          have polh2_0 : WO h2 B S w q := po.fr (FR.mo (A := Xm B vq) (A' := Ay B vq) hFh2 (by intro a; unfold Xm Ay; omega)) hC.2.1.2.2.2.2.2.2
          refine a_iload hb dX11_bestPlan_22 5 rfl ?_
          refine a_bipush (v := 40) hb dX11_bestPlan_24 (by decide) ?_
          refine a_icmp_ge hb 72 dX11_bestPlan_26 (by decide) (fun c26 => ?_) (fun c26 => absurd (nI_le (b := i2) (a := 40) (by omega) (by omega)) c26)
          refine a_iinc (v := ((nI (i + 1)) + 1)) (L' := [(4, .int ((nI (i + 1)) + 1)), (0, .ref B), (1, .ref q), (2, .int c), (3, .int (nI (min 20 s))), (5, .int (nI i2))]) hb dX11_bestPlan_72 4 rfl rfl (by rw [hml]; decide) rfl ?_
          refine a_goto hb 13 dX11_bestPlan_75 (by decide) ?_
          refine AW.sub (L' := [(0, .ref B), (1, .ref q), (2, .int c), (3, .int (nI (min 20 s))), (4, .int ((nI (i + 1)) + 1))]) [1, 2, 3, 4, 0] rfl ?_
          exact AW.eq (ih (i + 1) h2 hFh2 (fun z hz t ht => (Nat.lt_or_ge z i).elim (fun q => ivh1 z q t ht) (fun q => by rw [show z = i by omega]; exact ivh2 t (by omega))) (by omega)) rfl rfl (by first | (simp only [nI_1]; done) | (simp only [nI_1]; rfl)) rfl
        | succ k2 ih2 =>
          intro i2 h2 hFh2 ivh2 hi2
          have hClh2 : CX g h2 B vq lq hl S N P := hC.fr (FR.mo (A := Xm B vq) (A' := Ay B vq) hFh2 (by intro a; unfold Xm Ay; omega))
          have polh2_0 : WO h2 B S w q := po.fr (FR.mo (A := Xm B vq) (A' := Ay B vq) hFh2 (by intro a; unfold Xm Ay; omega)) hC.2.1.2.2.2.2.2.2
          refine a_iload hb dX11_bestPlan_22 5 rfl ?_
          refine a_bipush (v := 40) hb dX11_bestPlan_24 (by decide) ?_
          refine a_icmp_ge hb 72 dX11_bestPlan_26 (by decide) (fun c26 => absurd c26 (nI_ge (b := 40) (a := i2) (by omega) (by omega))) (fun c26 => ?_)
          refine a_aload_n hb dX11_bestPlan_29 rfl 0 rfl ?_
          refine a_aload_n hb dX11_bestPlan_30 rfl 1 rfl ?_
          refine a_iload hb dX11_bestPlan_31 5 rfl ?_
          refine a_iload hb dX11_bestPlan_33 4 rfl ?_
          refine a_callV hb dX11_bestPlan_35 (by rw [hg]; exact x_layPlan g h2 B vq lq hl S N P hClh2 w q (by omega) polh2_0 i2 (i + 1)) (by rw [ow]; exact clv_RX11_321) (hClh2.1.1.1 0 (by decide)) (by decide) rfl rfl rfl (Nat.le_of_ble_eq_true rfl) (by rw [hr]; exact ⟨by decide, by decide⟩) (by rw [hr]; exact ⟨Nat.le_of_ble_eq_true rfl, Nat.le_of_ble_eq_true rfl⟩) ?_
          intro rv h1_ hp
          obtain ⟨hv, hf1, hx1_0⟩ := hp
          rw [hv]
          have hF1 := FR.tr hFh2 hf1
          have hC1 := hC.fr (FR.mo (A := Xm B vq) (A' := Ay B vq) hF1 (by intro a; unfold Xm Ay; omega))
          clear hv
          have po1_0 : WO h1_ B S w q := po.fr (FR.mo (A := Xm B vq) (A' := Ay B vq) hF1 (by intro a; unfold Xm Ay; omega)) hC.2.1.2.2.2.2.2.2
          show AW V 0 0 h1_ 38 [(0, .ref B), (1, .ref q), (2, .int c), (3, .int (nI (min 20 s))), (4, .int (nI (i + 1))), (5, .int (nI i2))] []
          have e23 : hI h2 (B + 23) = hI h (B + 23) := hFh2.2.2.2.2 _ (by unfold Xm; omega)
          have e21 : hI h1_ (B + 21) = hI h (B + 21) := hF1.2.2.2.2 _ (by unfold Xm; omega)
          have hM : ∀ t, t < 40 → hI h1_ (B + 22) t = mdB (sbS S w i2 (i + 1)) (-1) (nI t) N.2.1 := fun t ht => by rw [hx1_0 t ht, e23, hO t ht, md_up (by omega) (by omega) (by omega) (hC.1.rw_ hw) _ hC.1.nw hw]
          have hD2 : ∀ t, t < 40 → hI h1_ (B + 21) t = dmS P S (fun _ => 0) hl (nI t) N.1 := fun t ht => by rw [e21]; exact hD t ht
          refine a_aload_n hb dX11_bestPlan_38 rfl 0 rfl ?_
          refine a_iload_n hb dX11_bestPlan_39 rfl 2 rfl ?_
          refine a_aload_n hb dX11_bestPlan_40 rfl 0 rfl ?_
          refine a_getQ (q := (B + 1)) hb dX11_bestPlan_41 (by rw [ow]; exact fl_RX11_12_11) (hC1.1.1.1 0 (by decide)) (hC1.1.1.2.1 (0, 0, 1) (by decide)) ?_
          refine a_getQ (q := (B + 9)) hb dX11_bestPlan_44 (by rw [ow]; exact fl_RX11_96_7) (hC1.1.1.1 1 (by decide)) (hC1.1.1.2.1 (1, 12, 9) (by decide)) ?_
          refine a_iconst (v := 2) hb dX11_bestPlan_47 (by decide) ?_
          refine b_iald (j := 2) hb dX11_bestPlan_48 (hC1.1.1.1 9 (by decide)) ⟨by decide, by decide⟩ (by decide) ?_
          rw [hC1.1.st (i := 2) (by decide)]
          show AW V 0 0 h1_ 49 [(0, .ref B), (1, .ref q), (2, .int c), (3, .int (nI (min 20 s))), (4, .int (nI (i + 1))), (5, .int (nI i2))] [.int (S 7), .int c, .ref B]
          refine a_callV hb dX11_bestPlan_49 (by rw [hg]; exact x_firstBeyond g h1_ B vq lq hl S N P hC1 c (S 7) hC.1.r7) (by rw [ow]; exact clv_RX11_203) (hC1.1.1.1 0 (by decide)) (by decide) rfl rfl rfl (Nat.le_of_ble_eq_true rfl) (by rw [hr]; exact ⟨by decide, by decide⟩) (by rw [hr]; exact ⟨Nat.le_of_ble_eq_true rfl, Nat.le_of_ble_eq_true rfl⟩) ?_
          intro rv h' hq_
          rw [hq_.1, hq_.2]
          show AW V 0 0 h1_ 52 [(0, .ref B), (1, .ref q), (2, .int c), (3, .int (nI (min 20 s))), (4, .int (nI (i + 1))), (5, .int (nI i2))] [.int (fiS (fun t => biS (hI h1_ (B + 22)) (hI h1_ (B + 21)) (S 7) (t + 1)) c 0 40)]
          rw [fi_gen (hC.sb hw (t := i2) (m := i + 1) (by omega) (by omega)) hC.1.r7 hD2 hM]
          show AW V 0 0 h1_ 52 [(0, .ref B), (1, .ref q), (2, .int c), (3, .int (nI (min 20 s))), (4, .int (nI (i + 1))), (5, .int (nI i2))] [.int ((hoS S (fun t => dmS P S (fun _ => 0) hl (nI t) N.1) w N.2.1 c) i i2)]
          refine a_bipush (v := (-5)) hb dX11_bestPlan_52 (by decide) ?_
          refine a_icmp_ne hb 66 dX11_bestPlan_54 (by decide) (fun c54 => ?_) (fun c54 => ?_)
          · refine a_iinc (v := ((nI i2) + 1)) (L' := [(5, .int ((nI i2) + 1)), (0, .ref B), (1, .ref q), (2, .int c), (3, .int (nI (min 20 s))), (4, .int (nI (i + 1)))]) hb dX11_bestPlan_66 5 rfl rfl (by rw [hml]; decide) rfl ?_
            refine a_goto hb 22 dX11_bestPlan_69 (by decide) ?_
            refine AW.sub (L' := [(0, .ref B), (1, .ref q), (2, .int c), (3, .int (nI (min 20 s))), (4, .int (nI (i + 1))), (5, .int ((nI i2) + 1))]) [1, 2, 3, 4, 5, 0] rfl ?_
            exact AW.eq (ih2 (i2 + 1) h1_ hF1 (fun t ht => (Nat.lt_or_ge t i2).elim (fun q => ivh2 t q) (fun q => by rw [show t = i2 by omega]; exact c54)) (by omega)) rfl rfl (by first | (simp only [nI_1]; done) | (simp only [nI_1]; rfl)) rfl
          · refine a_iload hb dX11_bestPlan_57 4 rfl ?_
            refine a_bipush (v := 40) hb dX11_bestPlan_59 (by decide) ?_
            refine a_imul hb dX11_bestPlan_61 ?_
            refine a_iload hb dX11_bestPlan_62 5 rfl ?_
            refine a_iadd hb dX11_bestPlan_64 ?_
            rw [show nI (i + 1) * 40 + nI i2 = nI ((i + 1) * 40 + i2) from by rw [show (40 : Int32) = nI 40 from rfl, pk_mul, nI_add]]
            show AW V 0 0 h1_ 65 [(0, .ref B), (1, .ref q), (2, .int c), (3, .int (nI (min 20 s))), (4, .int (nI (i + 1))), (5, .int (nI i2))] [.int (nI ((i + 1) * 40 + i2))]
            exact a_ireturn (ty := .int) hb hz dX11_bestPlan_65 hret rfl (by rw [hr]; exact Nat.le_of_ble_eq_true rfl) (by rw [hr]; exact Nat.le_of_ble_eq_true rfl) (⟨⟨_, rfl, Or.inr ⟨i, i2, by omega, by omega, rfl, by simpa using c54, ivh1, ivh2⟩⟩, hF1⟩)
      refine AW.sub (L' := [(0, .ref B), (1, .ref q), (2, .int c), (3, .int (nI (min 20 s))), (4, .int (nI (i + 1))), (5, .int 0)]) [1, 2, 3, 4, 5, 0] rfl ?_
      exact AW.eq (inner 40 0 h1 hFh1 (fun t ht => absurd ht (Nat.not_lt_zero _)) (by omega)) rfl rfl (rfl) rfl
  refine a_bipush (v := 20) hb dX11_bestPlan_0 (by decide) ?_
  refine a_aload_n hb dX11_bestPlan_2 rfl 1 rfl ?_
  refine a_getI hb dX11_bestPlan_3 (by rw [ow]; exact fl_RX11_173_10) po.2.1 ?_
  rw [po.2.2.2.2.1]
  show AW V 0 0 h 6 [(0, .ref B), (1, .ref q), (2, .int c)] [.int (S (188 + w)), .int 20]
  refine a_mmin hb dX11_bestPlan_6 (by rw [ow]; exact kw_806) kw_407 kw_94 kw_408 (by rw [hr]; exact ⟨by decide, Nat.le_of_ble_eq_true rfl⟩) (by rw [hr]; exact ⟨Nat.le_of_ble_eq_true rfl, Nat.le_of_ble_eq_true rfl⟩) ?_
  rw [show (if S (188 + w) < 20 then S (188 + w) else 20) = nI (min 20 s) from by rw [es]; exact mn_nI (a := 20) (by decide) (by omega)]
  show AW V 0 0 h 9 [(0, .ref B), (1, .ref q), (2, .int c)] [.int (nI (min 20 s))]
  refine a_istore_n (L' := [(3, .int (nI (min 20 s))), (0, .ref B), (1, .ref q), (2, .int c)]) hb dX11_bestPlan_9 rfl (by rw [hml]; decide) rfl ?_
  refine a_iconst (v := 1) hb dX11_bestPlan_10 (by decide) ?_
  refine a_istore (L' := [(4, .int 1), (3, .int (nI (min 20 s))), (0, .ref B), (1, .ref q), (2, .int c)]) hb dX11_bestPlan_11 (by rw [hml]; decide) rfl ?_
  refine AW.sub (L' := [(0, .ref B), (1, .ref q), (2, .int c), (3, .int (nI (min 20 s))), (4, .int 1)]) [2, 3, 4, 1, 0] rfl ?_
  exact AW.eq (loop (min 20 s) 0 h FR.rf (fun z hz => absurd hz (Nat.not_lt_zero _)) (by omega)) rfl rfl (rfl) rfl
