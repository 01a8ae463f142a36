/-! ===== the class: the first tick of a way ===== -/
set_option maxRecDepth 100000 in
theorem x_firstOfWay (g : GG) (h : AH) (B vq lq hl : Nat) (S : Nat → Int32) (N : NN) (P : PF) (hC : CX g h B vq lq hl S N P) (c : Int32) (D : Nat → Nat) (hdl : ∀ p, p < N.1 → hI h (B + 50) p = nI (D p) ∧ D p < wdS S p) (hrw : ∀ p, p < N.1 → ∀ d, d < wdS S p → ∀ t, t < 40 → hI h (B + (26 + (p * 3 + d))) t = dwS P S (fun _ => nI d) hl (nI t) p) (hM : ∀ t, t < 40 → hI h (B + 22) t = mdB S (-1) (nI t) N.2.1) : AM g 4 0 0 mX11_firstOfWay [.ref B, .int c] h (fun rv h' => rv = some (.int (fbF (fun t => btS (fun t => mdB S (-1) (nI t) N.2.1) (fun t => dmS P S (fun p => nI (D p)) hl (nI t) N.1) (S 7) (t + 1)) c 0 40)) ∧ FR (Xd B vq) h h') := by
  refine AM.of [(0, .ref B), (1, .int c)] (by decide) (Nat.le_of_ble_eq_true rfl) rfl ?_
  intro V hV
  have hb : V.2.1.2.1 = cX11_firstOfWay := by subst hV; rfl
  have ow : V.2.1.1.cls = RX11 := by subst hV; rfl
  have hr : V.2.2.1 = aw_rm 4 0 0 := by subst hV; rfl
  have hz : V.2.2.2 = aw_Z V.1 (fun rv h' => rv = some (.int (fbF (fun t => btS (fun t => mdB S (-1) (nI t) N.2.1) (fun t => dmS P S (fun p => nI (D p)) hl (nI t) N.1) (S 7) (t + 1)) c 0 40)) ∧ FR (Xd B vq) h h') V.2.2.1 := by subst hV; rfl
  have hg : V.1 = g := by subst hV; rfl
  have hret : V.2.1.2.2.2 = (some .int) := by subst hV; rfl
  have hml : V.2.1.2.2.1 = 5 := by subst hV; rfl
  clear hV
  have hvq : B + 62 ≤ vq := hC.2.1.2.2.2.2.2.1
  have hnp := hC.1.np
  have hnw := hC.1.nw
  have loop : ∀ (k i : Nat) (h1 : AH) (hFh1 : FR (Xd B vq) h h1) (ivh1 : ∀ t, t < i → hI h1 (B + 21) t = dmS P S (fun p => nI (D p)) hl (nI t) N.1), i + k = 40 → AW V 0 0 h1 2 [(0, .ref B), (1, .int c), (2, .int (nI i))] [] := by
    intro k
    induction k with
    | zero =>
      intro i h1 hFh1 ivh1 hi
      have hClh1 : CX g h1 B vq lq hl S N P := hC.fr (FR.mo (A := Xd B vq) (A' := Ay B vq) hFh1 (by intro a; unfold Xd Ay; omega))
      rw [show i = 40 by omega] at ivh1
      have hM1 : ∀ t, t < 40 → hI h1 (B + 22) t = mdB S (-1) (nI t) N.2.1 := fun t ht => by rw [hFh1.2.2.2.2 (B + 22) (by unfold Xd; omega)]; exact hM t ht
      refine a_iload_n hb dX11_firstOfWay_2 rfl 2 rfl ?_
      refine a_bipush (v := 40) hb dX11_firstOfWay_3 (by decide) ?_
      refine a_icmp_ge hb 66 dX11_firstOfWay_5 (by decide) (fun c5 => ?_) (fun c5 => absurd (nI_le (b := i) (a := 40) (by omega) (by omega)) c5)
      refine a_aload_n hb dX11_firstOfWay_66 rfl 0 rfl ?_
      refine a_iload_n hb dX11_firstOfWay_67 rfl 1 rfl ?_
      refine a_aload_n hb dX11_firstOfWay_68 rfl 0 rfl ?_
      refine a_getQ (q := (B + 1)) hb dX11_firstOfWay_69 (by rw [ow]; exact fl_RX11_12_11) (hClh1.1.1.1 0 (by decide)) (hClh1.1.1.2.1 (0, 0, 1) (by decide)) ?_
      refine a_getQ (q := (B + 9)) hb dX11_firstOfWay_72 (by rw [ow]; exact fl_RX11_96_7) (hClh1.1.1.1 1 (by decide)) (hClh1.1.1.2.1 (1, 12, 9) (by decide)) ?_
      refine a_iconst (v := 2) hb dX11_firstOfWay_75 (by decide) ?_
      refine b_iald (j := 2) hb dX11_firstOfWay_76 (hClh1.1.1.1 9 (by decide)) ⟨by decide, by decide⟩ (by decide) ?_
      rw [hClh1.1.st (i := 2) (by decide)]
      show AW V 0 0 h1 77 [(0, .ref B), (1, .int c), (2, .int (nI i))] [.int (S 7), .int c, .ref B]
      refine a_callV hb dX11_firstOfWay_77 (by rw [hg]; exact x_firstBeyond g h1 B vq lq hl S N P hClh1 c (S 7) hC.1.r7) (by rw [ow]; exact clv_RX11_203) (hClh1.1.1.1 0 (by decide)) (by decide) rfl rfl rfl (Nat.le_of_ble_eq_true rfl) (by rw [hr]; exact ⟨by decide, by decide⟩) (by rw [hr]; exact ⟨Nat.le_of_ble_eq_true rfl, Nat.le_of_ble_eq_true rfl⟩) ?_
      intro rv h' hq_
      rw [hq_.1, hq_.2]
      show AW V 0 0 h1 80 [(0, .ref B), (1, .int c), (2, .int (nI i))] [.int (fiS (fun t => biS (hI h1 (B + 22)) (hI h1 (B + 21)) (S 7) (t + 1)) c 0 40)]
      exact a_ireturn (ty := .int) hb hz dX11_firstOfWay_80 hret rfl (by rw [hr]; exact Nat.le_of_ble_eq_true rfl) (by rw [hr]; exact Nat.le_of_ble_eq_true rfl) (⟨by rw [fi_gen (hC.sm (-1) (fun p => nI (D p))) hC.1.r7 ivh1 hM1], hFh1⟩)
    | succ k ih =>
      intro i h1 hFh1 ivh1 hi
      have hClh1 : CX g h1 B vq lq hl S N P := hC.fr (FR.mo (A := Xd B vq) (A' := Ay B vq) hFh1 (by intro a; unfold Xd Ay; omega))
      refine a_iload_n hb dX11_firstOfWay_2 rfl 2 rfl ?_
      refine a_bipush (v := 40) hb dX11_firstOfWay_3 (by decide) ?_
      refine a_icmp_ge hb 66 dX11_firstOfWay_5 (by decide) (fun c5 => absurd c5 (nI_ge (b := 40) (a := i) (by omega) (by omega))) (fun c5 => ?_)
      refine a_iconst (v := 0) hb dX11_firstOfWay_8 (by decide) ?_
      refine a_istore_n (L' := [(3, .int 0), (0, .ref B), (1, .int c), (2, .int (nI i))]) hb dX11_firstOfWay_9 rfl (by rw [hml]; decide) rfl ?_
      refine a_iconst (v := 0) hb dX11_firstOfWay_10 (by decide) ?_
      refine a_istore (L' := [(4, .int 0), (3, .int 0), (0, .ref B), (1, .int c), (2, .int (nI i))]) hb dX11_firstOfWay_11 (by rw [hml]; decide) rfl ?_
      have inner : ∀ (k2 i2 : Nat), i2 + k2 = N.1 → AW V 0 0 h1 13 [(0, .ref B), (1, .int c), (2, .int (nI i)), (3, .int (dmS P S (fun p => nI (D p)) hl (nI i) i2)), (4, .int (nI i2))] [] := by
        intro k2
        induction k2 with
        | zero =>
          intro i2 hi2
          refine a_iload hb dX11_firstOfWay_13 4 rfl ?_
          refine a_aload_n hb dX11_firstOfWay_15 rfl 0 rfl ?_
          refine a_getQ (q := (B + 1)) hb dX11_firstOfWay_16 (by rw [ow]; exact fl_RX11_12_11) (hClh1.1.1.1 0 (by decide)) (hClh1.1.1.2.1 (0, 0, 1) (by decide)) ?_
          refine a_getI hb dX11_firstOfWay_19 (by rw [ow]; exact fl_RX11_61_7) (hClh1.1.1.1 1 (by decide)) ?_
          rw [hClh1.1.f3]
          show AW V 0 0 h1 22 [(0, .ref B), (1, .int c), (2, .int (nI i)), (3, .int (dmS P S (fun p => nI (D p)) hl (nI i) i2)), (4, .int (nI i2))] [.int (nI N.1), .int (nI i2)]
          refine a_icmp_ge hb 53 dX11_firstOfWay_22 (by decide) (fun c22 => ?_) (fun c22 => absurd (nI_le (by omega) (by omega)) c22)
          refine a_aload_n hb dX11_firstOfWay_53 rfl 0 rfl ?_
          refine a_getQ (q := (B + 21)) hb dX11_firstOfWay_54 (by rw [ow]; exact fl_RX11_32_11) (hClh1.1.1.1 0 (by decide)) (hClh1.1.1.2.1 (0, 4, 21) (by decide)) ?_
          refine a_iload_n hb dX11_firstOfWay_57 rfl 2 rfl ?_
          refine a_iload_n hb dX11_firstOfWay_58 rfl 3 rfl ?_
          refine b_iast (j := i) hb dX11_firstOfWay_59 (hClh1.1.1.1 21 (by decide)) (IX.n (by omega)) (by omega) ?_
          refine a_iinc (v := ((nI i) + 1)) (L' := [(2, .int ((nI i) + 1)), (0, .ref B), (1, .int c), (3, .int (dmS P S (fun p => nI (D p)) hl (nI i) i2)), (4, .int (nI i2))]) hb dX11_firstOfWay_60 2 rfl rfl (by rw [hml]; decide) rfl ?_
          refine a_goto hb 2 dX11_firstOfWay_63 (by decide) ?_
          refine AW.sub (L' := [(0, .ref B), (1, .int c), (2, .int ((nI i) + 1))]) [1, 2, 0] rfl ?_
          exact AW.eq (ih (i + 1) (setI h1 (B + 21) i (dmS P S (fun p => nI (D p)) hl (nI i) i2)) (FR.I hFh1 (by unfold Xd; omega)) (rowI ivh1 (by rw [show N.1 = i2 by omega])) (by omega)) rfl rfl (by first | (simp only [nI_1]; done) | (simp only [nI_1]; rfl)) rfl
        | succ k2 ih2 =>
          intro i2 hi2
          refine a_iload hb dX11_firstOfWay_13 4 rfl ?_
          refine a_aload_n hb dX11_firstOfWay_15 rfl 0 rfl ?_
          refine a_getQ (q := (B + 1)) hb dX11_firstOfWay_16 (by rw [ow]; exact fl_RX11_12_11) (hClh1.1.1.1 0 (by decide)) (hClh1.1.1.2.1 (0, 0, 1) (by decide)) ?_
          refine a_getI hb dX11_firstOfWay_19 (by rw [ow]; exact fl_RX11_61_7) (hClh1.1.1.1 1 (by decide)) ?_
          rw [hClh1.1.f3]
          show AW V 0 0 h1 22 [(0, .ref B), (1, .int c), (2, .int (nI i)), (3, .int (dmS P S (fun p => nI (D p)) hl (nI i) i2)), (4, .int (nI i2))] [.int (nI N.1), .int (nI i2)]
          refine a_icmp_ge hb 53 dX11_firstOfWay_22 (by decide) (fun c22 => absurd c22 (nI_ge (by omega) (by omega))) (fun c22 => ?_)
          refine a_iload_n hb dX11_firstOfWay_25 rfl 3 rfl ?_
          refine a_aload_n hb dX11_firstOfWay_26 rfl 0 rfl ?_
          refine a_getQ (q := (B + 25)) hb dX11_firstOfWay_27 (by rw [ow]; exact fl_RX11_47_11) (hClh1.1.1.1 0 (by decide)) (hClh1.1.1.2.1 (0, 8, 25) (by decide)) ?_
          refine a_iload hb dX11_firstOfWay_30 4 rfl ?_
          refine a_iconst (v := 3) hb dX11_firstOfWay_32 (by decide) ?_
          refine a_imul hb dX11_firstOfWay_33 ?_
          refine a_aload_n hb dX11_firstOfWay_34 rfl 0 rfl ?_
          refine a_getQ (q := (B + 50)) hb dX11_firstOfWay_35 (by rw [ow]; exact fl_RX11_50_11) (hClh1.1.1.1 0 (by decide)) (hClh1.1.1.2.1 (0, 9, 50) (by decide)) ?_
          refine a_iload hb dX11_firstOfWay_38 4 rfl ?_
          refine b_iald (j := i2) hb dX11_firstOfWay_40 (hClh1.1.1.1 50 (by decide)) (IX.n (by omega)) (by omega) ?_
          have hd2 := hdl i2 (by omega)
          have h3_ := @wd_3 S i2
          rw [show hI h1 (B + 50) i2 = nI (D i2) from by rw [hFh1.2.2.2.2 (B + 50) (by unfold Xd; omega)]; exact hd2.1]
          show AW V 0 0 h1 41 [(0, .ref B), (1, .int c), (2, .int (nI i)), (3, .int (dmS P S (fun p => nI (D p)) hl (nI i) i2)), (4, .int (nI i2))] [.int (nI (D i2)), .int ((nI i2) * 3), .ref (B + 25), .int (dmS P S (fun p => nI (D p)) hl (nI i) i2)]
          refine a_iadd hb dX11_firstOfWay_41 ?_
          refine b_aaldS (j := ((i2 * 3) + (D i2))) (q := (B + (26 + ((i2 * 3) + (D i2))))) hb dX11_firstOfWay_42 (hClh1.1.1.1 25 (by decide)) (by decide) (by decide) (IX.add (IX.mul (IX.n (by omega)) ⟨by decide, by decide⟩ (by omega)) (IX.n (by omega)) (by omega)) (by omega) (ly_el hClh1.1.1 (by omega)) ?_
          refine a_iload_n hb dX11_firstOfWay_43 rfl 2 rfl ?_
          refine b_iald (j := i) hb dX11_firstOfWay_44 (ly_row hClh1.1.1 (by omega) (by omega)) (IX.n (by omega)) (by omega) ?_
          rw [show hI h1 (B + (26 + ((i2 * 3) + (D i2)))) i = dwS P S (fun p => nI (D p)) hl (nI i) i2 from by rw [hFh1.2.2.2.2 _ (by unfold Xd; omega)]; exact hrw i2 (by omega) (D i2) hd2.2 i (by omega)]
          show AW V 0 0 h1 45 [(0, .ref B), (1, .int c), (2, .int (nI i)), (3, .int (dmS P S (fun p => nI (D p)) hl (nI i) i2)), (4, .int (nI i2))] [.int (dwS P S (fun p => nI (D p)) hl (nI i) i2), .int (dmS P S (fun p => nI (D p)) hl (nI i) i2)]
          refine a_iadd hb dX11_firstOfWay_45 ?_
          refine a_istore_n (L' := [(3, .int ((dmS P S (fun p => nI (D p)) hl (nI i) i2) + (dwS P S (fun p => nI (D p)) hl (nI i) i2))), (0, .ref B), (1, .int c), (2, .int (nI i)), (4, .int (nI i2))]) hb dX11_firstOfWay_46 rfl (by rw [hml]; decide) rfl ?_
          refine a_iinc (v := ((nI i2) + 1)) (L' := [(4, .int ((nI i2) + 1)), (3, .int ((dmS P S (fun p => nI (D p)) hl (nI i) i2) + (dwS P S (fun p => nI (D p)) hl (nI i) i2))), (0, .ref B), (1, .int c), (2, .int (nI i))]) hb dX11_firstOfWay_47 4 rfl rfl (by rw [hml]; decide) rfl ?_
          refine a_goto hb 13 dX11_firstOfWay_50 (by decide) ?_
          refine AW.sub (L' := [(0, .ref B), (1, .int c), (2, .int (nI i)), (3, .int ((dmS P S (fun p => nI (D p)) hl (nI i) i2) + (dwS P S (fun p => nI (D p)) hl (nI i) i2))), (4, .int ((nI i2) + 1))]) [2, 3, 4, 1, 0] rfl ?_
          exact AW.eq (ih2 (i2 + 1) (by omega)) rfl rfl (by rw [nI_1]; rfl) rfl
      refine AW.sub (L' := [(0, .ref B), (1, .int c), (2, .int (nI i)), (3, .int 0), (4, .int 0)]) [2, 3, 4, 1, 0] rfl ?_
      exact AW.eq (inner N.1 0 (by omega)) rfl rfl (rfl) rfl
  refine a_iconst (v := 0) hb dX11_firstOfWay_0 (by decide) ?_
  refine a_istore_n (L' := [(2, .int 0), (0, .ref B), (1, .int c)]) hb dX11_firstOfWay_1 rfl (by rw [hml]; decide) rfl ?_
  refine AW.sub (L' := [(0, .ref B), (1, .int c), (2, .int 0)]) [1, 2, 0] rfl ?_
  exact AW.eq (loop 40 0 h FR.rf row0 (by omega)) rfl rfl (rfl) rfl
