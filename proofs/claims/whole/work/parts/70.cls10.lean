/-! ===== the class: a watchman's rule ===== -/
def Xq (B vq a : Nat) : Prop := (a = B + 22 ∨ a = B + 24) ∧ 0 ≤ vq
section BEX
variable {S dm : Nat → Int32} {w n lg m : Nat} {wi r c : Int32}
theorem be_kp {i : Nat} (h : (beS S dm w n lg m wi r c (i + 1)).2.2.2 = nI i) (hi : i < 1000) : ∀ k, (beS S dm w n lg m wi r c (i + 1 + k)).2.2.2 = nI i
  | 0 => h
  | k + 1 => by
    show beF S dm w n wi c (i + 1 + k) (beS S dm w n lg m wi r c (i + 1 + k)) = nI i
    unfold beF
    rw [be_kp h hi k, if_neg (fun q => nI_pos (n := i) (by omega) (by rw [q.1]; decide))]
end BEX
theorem t32_64 (a : Int32) : a.toInt64.toInt32 = a := Int32.toInt32_toInt64 a
theorem j64_32 {v : Int64} (h1 : -2147483648 ≤ v.toInt) (h2 : v.toInt ≤ 2147483647) : v.toInt32.toInt64 = v := by
  apply i64_ext
  rw [ti64, Int64.toInt_toInt32]
  exact Int.bmod_eq_of_le (by omega) (by omega)
/-- the beat's next value, int and long -/
theorem be_t {x y ine : Int32} {b : Int64} {M : Int} (hM : M ≤ 100000000) (hb : -M ≤ b.toInt ∧ b.toInt ≤ M) (hx : -20000 ≤ x.toInt ∧ x.toInt ≤ 20000) (hy : -20000 ≤ y.toInt ∧ y.toInt ≤ 20000) (hi : oO ine 1 999 = false) : (b.toInt32 + (x - y) * 10 / ine).toInt64 = b + (x - y).toInt64 * 10 / ine.toInt64 ∧ -(M + 400000) ≤ (b + (x - y).toInt64 * 10 / ine.toInt64).toInt ∧ (b + (x - y).toInt64 * 10 / ine.toInt64).toInt ≤ M + 400000 := by
  have p := psh_j (mk := fun _ => x) (dm := fun _ => y) (ine := ine) (fun _ => ⟨hx.1, hx.2, hy.1, hy.2⟩) (in1 hi) 0
  change ((x - y) * 10 / ine).toInt64 = (x - y).toInt64 * 10 / ine.toInt64 ∧ -400000 ≤ ((x - y) * 10 / ine).toInt ∧ ((x - y) * 10 / ine).toInt ≤ 400000 at p
  obtain ⟨p1, p2, p3⟩ := p
  rw [← p1]
  generalize (x - y) * 10 / ine = d at *
  have e1 := j64_32 (v := b) (by omega) (by omega)
  have e2 : b.toInt32.toInt = b.toInt := by rw [← ti64, e1]
  have e3 : (b.toInt32 + d).toInt = b.toInt + d.toInt := by rw [ti_add (by rw [e2]; omega) (by rw [e2]; omega), e2]
  have e4 : (b + d.toInt64).toInt = b.toInt + d.toInt := by rw [ti64_add (by rw [ti64]; omega) (by rw [ti64]; omega), ti64]
  exact ⟨i64_ext (by rw [ti64, e3, e4]), by rw [e4]; omega, by rw [e4]; omega⟩
set_option maxRecDepth 100000 in
theorem x_fill (g : GG) (h : AH) (B vq lq hl : Nat) (S : Nat → Int32) (N : NN) (P : PF) (hC : CX g h B vq lq hl S N P) : AM g 1 0 0 mJ7_fill_53178 [.ref (B + 24), .int 0] h (fun rv h' => rv = none ∧ FR (Xt B vq) h h' ∧ ∀ t, t < 40 → hI h' (B + 24) t = 0) := by
  refine AM.of [(0, .ref (B + 24)), (1, .int 0)] (by decide) (Nat.le_of_ble_eq_true rfl) rfl ?_
  intro V hV
  have hb : V.2.1.2.1 = cJ7_fill_53178 := by subst hV; rfl
  have ow : V.2.1.1.cls = RJ7 := by subst hV; rfl
  have hr : V.2.2.1 = aw_rm 1 0 0 := by subst hV; rfl
  have hz : V.2.2.2 = aw_Z V.1 (fun rv h' => rv = none ∧ FR (Xt B vq) h h' ∧ ∀ t, t < 40 → hI h' (B + 24) t = 0) V.2.2.1 := by subst hV; rfl
  have hg : V.1 = g := by subst hV; rfl
  have hret : V.2.1.2.2.2 = none := by subst hV; rfl
  have hml : V.2.1.2.2.1 = 4 := by subst hV; rfl
  clear hV
  have hvq : B + 62 ≤ vq := hC.2.1.2.2.2.2.2.1
  have hnp := hC.1.np
  have hnw := hC.1.nw
  have loop : ∀ (k i : Nat) (h1 : AH) (hFh1 : FR (Xt B vq) h h1) (ivh1 : ∀ t, t < i → hI h1 (B + 24) t = (fun _ => 0) t), i + k = 40 → AW V 0 0 h1 5 [(0, .ref (B + 24)), (1, .int 0), (2, .int (nI i)), (3, .int 40)] [] := by
    intro k
    induction k with
    | zero =>
      intro i h1 hFh1 ivh1 hi
      have hClh1 : CX g h1 B vq lq hl S N P := hC.fr (FR.mo (A := Xt B vq) (A' := Ay B vq) hFh1 (by intro a; unfold Xt Ay; omega))
      refine a_iload_n hb dJ7_fill_53178_5 rfl 2 rfl ?_
      refine a_iload_n hb dJ7_fill_53178_6 rfl 3 rfl ?_
      refine a_icmp_ge hb 20 dJ7_fill_53178_7 (by decide) (fun c7 => ?_) (fun c7 => absurd (nI_le (b := i) (a := 40) (by omega) (by omega)) c7)
      exact a_return hb hz dJ7_fill_53178_20 hret (by rw [hr]; exact Nat.le_of_ble_eq_true rfl) (by rw [hr]; exact Nat.le_of_ble_eq_true rfl) (⟨rfl, hFh1, by rw [show i = 40 by omega] at ivh1; exact ivh1⟩)
    | succ k ih =>
      intro i h1 hFh1 ivh1 hi
      have hClh1 : CX g h1 B vq lq hl S N P := hC.fr (FR.mo (A := Xt B vq) (A' := Ay B vq) hFh1 (by intro a; unfold Xt Ay; omega))
      refine a_iload_n hb dJ7_fill_53178_5 rfl 2 rfl ?_
      refine a_iload_n hb dJ7_fill_53178_6 rfl 3 rfl ?_
      refine a_icmp_ge hb 20 dJ7_fill_53178_7 (by decide) (fun c7 => absurd c7 (nI_ge (b := 40) (a := i) (by omega) (by omega))) (fun c7 => ?_)
      refine a_aload_n hb dJ7_fill_53178_10 rfl 0 rfl ?_
      refine a_iload_n hb dJ7_fill_53178_11 rfl 2 rfl ?_
      refine a_iload_n hb dJ7_fill_53178_12 rfl 1 rfl ?_
      refine b_iast (j := i) hb dJ7_fill_53178_13 (hClh1.1.1.1 24 (by decide)) (IX.n (by omega)) (by omega) ?_
      refine a_iinc (v := ((nI i) + 1)) (L' := [(2, .int ((nI i) + 1)), (0, .ref (B + 24)), (1, .int 0), (3, .int 40)]) hb dJ7_fill_53178_14 2 rfl rfl (by rw [hml]; decide) rfl ?_
      refine a_goto hb 5 dJ7_fill_53178_17 (by decide) ?_
      refine AW.sub (L' := [(0, .ref (B + 24)), (1, .int 0), (2, .int ((nI i) + 1)), (3, .int 40)]) [1, 2, 0, 3] rfl ?_
      exact AW.eq (ih (i + 1) (setI h1 (B + 24) i 0) (FR.I hFh1 (by unfold Xt; omega)) (rowI ivh1 rfl) (by omega)) rfl rfl (by first | (simp only [nI_1]; done) | (simp only [nI_1]; rfl)) rfl
  refine a_iconst (v := 0) hb dJ7_fill_53178_0 (by decide) ?_
  refine a_istore_n (L' := [(2, .int 0), (0, .ref (B + 24)), (1, .int 0)]) hb dJ7_fill_53178_1 rfl (by rw [hml]; decide) rfl ?_
  refine a_aload_n hb dJ7_fill_53178_2 rfl 1 rfl ?_
  refine a_alenI (v := 40) hb dJ7_fill_53178_3 (hC.1.1.1 24 (by decide)) (by decide) rfl ?_
  refine a_istore_n (L' := [(3, .int 40), (2, .int 0), (0, .ref (B + 24)), (1, .int 0)]) hb dJ7_fill_53178_4 rfl (by rw [hml]; decide) rfl ?_
  refine AW.sub (L' := [(0, .ref (B + 24)), (1, .int 0), (2, .int 0), (3, .int 40)]) [2, 3, 1, 0] rfl ?_
  exact AW.eq (loop 40 0 h FR.rf row0 (by omega)) rfl rfl (rfl) rfl
set_option maxRecDepth 100000 in
theorem x_markDue (g : GG) (h : AH) (B vq lq hl : Nat) (S : Nat → Int32) (N : NN) (P : PF) (hC : CX g h B vq lq hl S N P) (a m : Nat) (ha : a ≤ 100) (hm : m ≤ 100) : AM g 1 0 0 mX11_markDue [.ref B, .int (nI a), .int (nI m)] h (fun rv h' => rv = none ∧ FR (Xt B vq) h h' ∧ ∀ j, j < 40 → hI h' (B + 24) j = beD (hI h (B + 24)) a m j) := by
  refine AM.of [(0, .ref B), (1, .int (nI a)), (2, .int (nI m))] (by decide) (Nat.le_of_ble_eq_true rfl) rfl ?_
  intro V hV
  have hb : V.2.1.2.1 = cX11_markDue := by subst hV; rfl
  have ow : V.2.1.1.cls = RX11 := by subst hV; rfl
  have hr : V.2.2.1 = aw_rm 1 0 0 := by subst hV; rfl
  have hz : V.2.2.2 = aw_Z V.1 (fun rv h' => rv = none ∧ FR (Xt B vq) h h' ∧ ∀ j, j < 40 → hI h' (B + 24) j = beD (hI h (B + 24)) a m j) V.2.2.1 := by subst hV; rfl
  have hg : V.1 = g := by subst hV; rfl
  have hret : V.2.1.2.2.2 = none := by subst hV; rfl
  have hml : V.2.1.2.2.1 = 5 := by subst hV; rfl
  clear hV
  have hvq : B + 62 ≤ vq := hC.2.1.2.2.2.2.2.1
  have hnp := hC.1.np
  have hnw := hC.1.nw
  have loop : ∀ (k i : Nat) (h1 : AH) (hFh1 : FR (Xt B vq) h h1) (ivh1 : ∀ j, j < 40 → hI h1 (B + 24) j = beD (hI h (B + 24)) a i j), i + k = (min 40 (a + m) - a) → AW V 0 0 h1 12 [(0, .ref B), (1, .int (nI a)), (2, .int (nI m)), (3, .int (nI (min 40 (a + m)))), (4, .int (nI (a + i)))] [] := by
    intro k
    induction k with
    | zero =>
      intro i h1 hFh1 ivh1 hi
      have hClh1 : CX g h1 B vq lq hl S N P := hC.fr (FR.mo (A := Xt B vq) (A' := Ay B vq) hFh1 (by intro a; unfold Xt Ay; omega))
      refine a_iload hb dX11_markDue_12 4 rfl ?_
      refine a_iload_n hb dX11_markDue_14 rfl 3 rfl ?_
      refine a_icmp_ge hb 32 dX11_markDue_15 (by decide) (fun c15 => ?_) (fun c15 => absurd (nI_le (a := min 40 (a + m)) (b := a + i) (by omega) (by omega)) c15)
      exact a_return hb hz dX11_markDue_32 hret (by rw [hr]; exact Nat.le_of_ble_eq_true rfl) (by rw [hr]; exact Nat.le_of_ble_eq_true rfl) (⟨rfl, hFh1, fun j hj => by rw [ivh1 j hj]; unfold beD; by_cases q : a ≤ j ∧ j < a + i; rw [if_pos q, if_pos (by omega)]; rw [if_neg q, if_neg (by omega)]⟩)
    | succ k ih =>
      intro i h1 hFh1 ivh1 hi
      have hClh1 : CX g h1 B vq lq hl S N P := hC.fr (FR.mo (A := Xt B vq) (A' := Ay B vq) hFh1 (by intro a; unfold Xt Ay; omega))
      refine a_iload hb dX11_markDue_12 4 rfl ?_
      refine a_iload_n hb dX11_markDue_14 rfl 3 rfl ?_
      refine a_icmp_ge hb 32 dX11_markDue_15 (by decide) (fun c15 => absurd c15 (nI_ge (b := min 40 (a + m)) (a := a + i) (by omega) (by omega))) (fun c15 => ?_)
      refine a_aload_n hb dX11_markDue_18 rfl 0 rfl ?_
      refine a_getQ (q := (B + 24)) hb dX11_markDue_19 (by rw [ow]; exact fl_RX11_42_11) (hClh1.1.1.1 0 (by decide)) (hClh1.1.1.2.1 (0, 7, 24) (by decide)) ?_
      refine a_iload hb dX11_markDue_22 4 rfl ?_
      refine a_iconst (v := 1) hb dX11_markDue_24 (by decide) ?_
      refine b_iast (j := (a + i)) hb dX11_markDue_25 (hClh1.1.1.1 24 (by decide)) (IX.n (by omega)) (by omega) ?_
      refine a_iinc (v := ((nI (a + i)) + 1)) (L' := [(4, .int ((nI (a + i)) + 1)), (0, .ref B), (1, .int (nI a)), (2, .int (nI m)), (3, .int (nI (min 40 (a + m))))]) hb dX11_markDue_26 4 rfl rfl (by rw [hml]; decide) rfl ?_
      refine a_goto hb 12 dX11_markDue_29 (by decide) ?_
      refine AW.sub (L' := [(0, .ref B), (1, .int (nI a)), (2, .int (nI m)), (3, .int (nI (min 40 (a + m)))), (4, .int ((nI (a + i)) + 1))]) [1, 2, 3, 4, 0] rfl ?_
      exact AW.eq (ih (i + 1) (setI h1 (B + 24) (a + i) 1) (FR.I hFh1 (by unfold Xt; omega)) (fun j hj => by rw [hI_setI_s]; by_cases e : j = a + i; subst e; rw [upd_s]; exact (if_pos (by omega)).symm; rw [upd_n e, ivh1 j hj]; unfold beD; by_cases q : a ≤ j ∧ j < a + i; rw [if_pos q, if_pos (by omega)]; rw [if_neg q, if_neg (by omega)]) (by omega)) rfl rfl (by rw [nI_1, Nat.add_assoc]) rfl
  refine a_bipush (v := 40) hb dX11_markDue_0 (by decide) ?_
  refine a_iload_n hb dX11_markDue_2 rfl 1 rfl ?_
  refine a_iload_n hb dX11_markDue_3 rfl 2 rfl ?_
  refine a_iadd hb dX11_markDue_4 ?_
  refine a_mmin hb dX11_markDue_5 (by rw [ow]; exact kw_806) kw_407 kw_94 kw_408 (by rw [hr]; exact ⟨by decide, Nat.le_of_ble_eq_true rfl⟩) (by rw [hr]; exact ⟨Nat.le_of_ble_eq_true rfl, Nat.le_of_ble_eq_true rfl⟩) ?_
  rw [show nI a + nI m = nI (a + m) from nI_add a m, show (if nI (a + m) < 40 then nI (a + m) else 40) = nI (min 40 (a + m)) from mn_nI (a := 40) (by decide) (by omega)]
  show AW V 0 0 h 8 [(0, .ref B), (1, .int (nI a)), (2, .int (nI m))] [.int (nI (min 40 (a + m)))]
  refine a_istore_n (L' := [(3, .int (nI (min 40 (a + m)))), (0, .ref B), (1, .int (nI a)), (2, .int (nI m))]) hb dX11_markDue_8 rfl (by rw [hml]; decide) rfl ?_
  refine a_iload_n hb dX11_markDue_9 rfl 2 rfl ?_
  refine a_istore (L' := [(4, .int (nI a)), (3, .int (nI (min 40 (a + m)))), (0, .ref B), (1, .int (nI a)), (2, .int (nI m))]) hb dX11_markDue_10 (by rw [hml]; decide) rfl ?_
  refine AW.sub (L' := [(0, .ref B), (1, .int (nI a)), (2, .int (nI m)), (3, .int (nI (min 40 (a + m)))), (4, .int (nI a))]) [2, 3, 4, 1, 0] rfl ?_
  exact AW.eq (loop (min 40 (a + m) - a) 0 h FR.rf (fun j _ => by rw [beD_0]) (by omega)) rfl rfl (rfl) rfl
set_option maxRecDepth 100000 in
theorem x_firstByRule (g : GG) (h : AH) (B vq lq hl : Nat) (S : Nat → Int32) (N : NN) (P : PF) (hC : CX g h B vq lq hl S N P) (w q : Nat) (hw : w < N.2.1) (po : WO h B S w q) (s lg m : Nat) (es : S (188 + w) = nI s) (s1 : 1 ≤ s) (s2 : s ≤ 40) (el : S (178 + w) = nI lg) (l9 : lg ≤ 9) (m20 : m ≤ 20) (r c : Int32) (hD : ∀ t, t < 40 → hI h (B + 21) t = dmS P S (fun _ => 0) hl (nI t) N.1) (hO : ∀ t, t < 40 → hI h (B + 23) t = mdB S (nI w) (nI t) N.2.1) : AM g 3 0 0 mX11_firstByRule [.ref B, .ref q, .int r, .int (nI m), .int c] h (fun rv h' => rv = some (.int (beS S (fun t => dmS P S (fun _ => 0) hl (nI t) N.1) w N.2.1 lg m (nI w) r c 40).2.2.2) ∧ FR (Xq B vq) h h') := by
  refine AM.of [(0, .ref B), (1, .ref q), (2, .int r), (3, .int (nI m)), (4, .int c)] (by decide) (Nat.le_of_ble_eq_true rfl) rfl ?_
  intro V hV
  have hb : V.2.1.2.1 = cX11_firstByRule := by subst hV; rfl
  have ow : V.2.1.1.cls = RX11 := by subst hV; rfl
  have hr : V.2.2.1 = aw_rm 3 0 0 := by subst hV; rfl
  have hz : V.2.2.2 = aw_Z V.1 (fun rv h' => rv = some (.int (beS S (fun t => dmS P S (fun _ => 0) hl (nI t) N.1) w N.2.1 lg m (nI w) r c 40).2.2.2) ∧ FR (Xq B vq) h h') V.2.2.1 := by subst hV; rfl
  have hg : V.1 = g := by subst hV; rfl
  have hret : V.2.1.2.2.2 = (some .int) := by subst hV; rfl
  have hml : V.2.1.2.2.1 = 9 := by subst hV; rfl
  clear hV
  have hvq : B + 62 ≤ vq := hC.2.1.2.2.2.2.2.1
  have hnp := hC.1.np
  have hnw := hC.1.nw
  generalize hR : (beS S (fun t => dmS P S (fun _ => 0) hl (nI t) N.1) w N.2.1 lg m (nI w) r c 40).2.2.2 = R at hz
  have hpw : -20000 ≤ (S (183 + w)).toInt ∧ (S (183 + w)).toInt ≤ 99 := by have z := oO_ti (hC.1.rw_ hw).2.1; rw [t1, t99] at z; omega
  have loop : ∀ (k i : Nat) (h1 : AH) (hFh1 : FR (Xq B vq) h h1) (ivh1 : (∀ j, j < 40 → hI h1 (B + 24) j = (beS S (fun t => dmS P S (fun _ => 0) hl (nI t) N.1) w N.2.1 lg m (nI w) r c i).1 j) ∧ (beS S (fun t => dmS P S (fun _ => 0) hl (nI t) N.1) w N.2.1 lg m (nI w) r c i).2.2.2 = -5 ∧ (∃ gN : Nat, gN ≤ s ∧ (beS S (fun t => dmS P S (fun _ => 0) hl (nI t) N.1) w N.2.1 lg m (nI w) r c i).2.1 = nI gN) ∧ -(400000 * (i : Int)) ≤ (beS S (fun t => dmS P S (fun _ => 0) hl (nI t) N.1) w N.2.1 lg m (nI w) r c i).2.2.1.toInt ∧ (beS S (fun t => dmS P S (fun _ => 0) hl (nI t) N.1) w N.2.1 lg m (nI w) r c i).2.2.1.toInt ≤ 400000 * (i : Int)), i + k = 40 → AW V 0 0 h1 20 [(0, .ref B), (1, .ref q), (2, .int r), (3, .int (nI m)), (4, .int c), (5, .int (S (188 + w) - (beS S (fun t => dmS P S (fun _ => 0) hl (nI t) N.1) w N.2.1 lg m (nI w) r c i).2.1)), (6, .int ((beS S (fun t => dmS P S (fun _ => 0) hl (nI t) N.1) w N.2.1 lg m (nI w) r c i).2.2.1.toInt32)), (7, .int (nI i))] [] := by
    intro k
    induction k with
    | zero =>
      intro i h1 hFh1 ivh1 hi
      have hClh1 : CX g h1 B vq lq hl S N P := hC.fr (FR.mo (A := Xq B vq) (A' := Ay B vq) hFh1 (by intro a; unfold Xq Ay; omega))
      have polh1_0 : WO h1 B S w q := po.fr (FR.mo (A := Xq B vq) (A' := Ay B vq) hFh1 (by intro a; unfold Xq Ay; omega)) hC.2.1.2.2.2.2.2.2
      obtain ⟨iv1, iv2, ⟨gN, gs, eg⟩, iv4, iv5⟩ := ivh1
      have hlf : S (188 + w) - (beS S (fun t => dmS P S (fun _ => 0) hl (nI t) N.1) w N.2.1 lg m (nI w) r c i).2.1 = nI (s - gN) := by rw [es, eg]; exact pk_sub gs
      refine a_iload hb dX11_firstByRule_20 7 rfl ?_
      refine a_bipush (v := 40) hb dX11_firstByRule_22 (by decide) ?_
      refine a_icmp_ge hb 152 dX11_firstByRule_24 (by decide) (fun c24_0 => ?_) (fun c24_0 => absurd (nI_le (b := i) (a := 40) (by omega) (by omega)) c24_0)
      refine a_bipush (v := (-5)) hb dX11_firstByRule_152 (by decide) ?_
      exact a_ireturn (ty := .int) hb hz dX11_firstByRule_154 hret rfl (by rw [hr]; exact Nat.le_of_ble_eq_true rfl) (by rw [hr]; exact Nat.le_of_ble_eq_true rfl) (⟨by rw [← hR, ← show i = 40 by omega, iv2], hFh1⟩)
    | succ k ih =>
      intro i h1 hFh1 ivh1 hi
      have hClh1 : CX g h1 B vq lq hl S N P := hC.fr (FR.mo (A := Xq B vq) (A' := Ay B vq) hFh1 (by intro a; unfold Xq Ay; omega))
      have polh1_0 : WO h1 B S w q := po.fr (FR.mo (A := Xq B vq) (A' := Ay B vq) hFh1 (by intro a; unfold Xq Ay; omega)) hC.2.1.2.2.2.2.2.2
      obtain ⟨iv1, iv2, ⟨gN, gs, eg⟩, iv4, iv5⟩ := ivh1
      have hlf : S (188 + w) - (beS S (fun t => dmS P S (fun _ => 0) hl (nI t) N.1) w N.2.1 lg m (nI w) r c i).2.1 = nI (s - gN) := by rw [es, eg]; exact pk_sub gs
      refine a_iload hb dX11_firstByRule_20 7 rfl ?_
      refine a_bipush (v := 40) hb dX11_firstByRule_22 (by decide) ?_
      refine a_icmp_ge hb 152 dX11_firstByRule_24 (by decide) (fun c24_0 => absurd c24_0 (nI_ge (b := 40) (a := i) (by omega) (by omega))) (fun c24_0 => ?_)
      refine a_aload_n hb dX11_firstByRule_27 rfl 0 rfl ?_
      refine a_getQ (q := (B + 24)) hb dX11_firstByRule_28 (by rw [ow]; exact fl_RX11_42_11) (hClh1.1.1.1 0 (by decide)) (hClh1.1.1.2.1 (0, 7, 24) (by decide)) ?_
      refine a_iload hb dX11_firstByRule_31 7 rfl ?_
      refine b_iald (j := i) hb dX11_firstByRule_33 (hClh1.1.1.1 24 (by decide)) (IX.n (by omega)) (by omega) ?_
      rw [iv1 i (by omega)]
      show AW V 0 0 h1 34 [(0, .ref B), (1, .ref q), (2, .int r), (3, .int (nI m)), (4, .int c), (5, .int (S (188 + w) - (beS S (fun t => dmS P S (fun _ => 0) hl (nI t) N.1) w N.2.1 lg m (nI w) r c i).2.1)), (6, .int ((beS S (fun t => dmS P S (fun _ => 0) hl (nI t) N.1) w N.2.1 lg m (nI w) r c i).2.2.1.toInt32)), (7, .int (nI i))] [.int ((beS S (fun t => dmS P S (fun _ => 0) hl (nI t) N.1) w N.2.1 lg m (nI w) r c i).1 i)]
      refine a_if_eq hb 46 dX11_firstByRule_34 (by decide) (fun c34_0 => ?_) (fun c34_0 => ?_)
      · refine a_iconst (v := 0) hb dX11_firstByRule_46 (by decide) ?_
        have hgv : ¬ (¬ (beS S (fun t => dmS P S (fun _ => 0) hl (nI t) N.1) w N.2.1 lg m (nI w) r c i).1 i = 0 ∧ (beS S (fun t => dmS P S (fun _ => 0) hl (nI t) N.1) w N.2.1 lg m (nI w) r c i).2.1 < S (188 + w)) := fun q => q.1 (by simpa using c34_0)
        have eG : beG S w i (beS S (fun t => dmS P S (fun _ => 0) hl (nI t) N.1) w N.2.1 lg m (nI w) r c i) = 0 := if_neg hgv
        have eP : beP S w i (beS S (fun t => dmS P S (fun _ => 0) hl (nI t) N.1) w N.2.1 lg m (nI w) r c i) = 0 := if_neg hgv
        refine a_istore (L' := [(8, .int 0), (0, .ref B), (1, .ref q), (2, .int r), (3, .int (nI m)), (4, .int c), (5, .int (S (188 + w) - (beS S (fun t => dmS P S (fun _ => 0) hl (nI t) N.1) w N.2.1 lg m (nI w) r c i).2.1)), (6, .int ((beS S (fun t => dmS P S (fun _ => 0) hl (nI t) N.1) w N.2.1 lg m (nI w) r c i).2.2.1.toInt32)), (7, .int (nI i))]) hb dX11_firstByRule_47 (by rw [hml]; decide) rfl ?_
        refine a_iload hb dX11_firstByRule_49 6 rfl ?_
        refine a_iload hb dX11_firstByRule_51 0 rfl ?_
        refine a_if_eq hb 60 dX11_firstByRule_53 (by decide) (fun c53_1 => ?_) (fun c53_1 => absurd (by decide) c53_1)
        refine a_iconst (v := 0) hb dX11_firstByRule_60 (by decide) ?_
        refine a_isub hb dX11_firstByRule_61 ?_
        refine a_istore (L' := [(5, .int ((S (188 + w) - (beS S (fun t => dmS P S (fun _ => 0) hl (nI t) N.1) w N.2.1 lg m (nI w) r c i).2.1) - 0)), (8, .int 0), (0, .ref B), (1, .ref q), (2, .int r), (3, .int (nI m)), (4, .int c), (6, .int ((beS S (fun t => dmS P S (fun _ => 0) hl (nI t) N.1) w N.2.1 lg m (nI w) r c i).2.2.1.toInt32)), (7, .int (nI i))]) hb dX11_firstByRule_62 (by rw [hml]; decide) rfl ?_
        refine a_aload_n hb dX11_firstByRule_64 rfl 2 rfl ?_
        refine a_getQ (q := (B + 22)) hb dX11_firstByRule_65 (by rw [ow]; exact fl_RX11_36_11) (hClh1.1.1.1 0 (by decide)) (hClh1.1.1.2.1 (0, 5, 22) (by decide)) ?_
        refine a_iload hb dX11_firstByRule_68 8 rfl ?_
        refine a_aload_n hb dX11_firstByRule_70 rfl 2 rfl ?_
        refine a_getQ (q := (B + 23)) hb dX11_firstByRule_71 (by rw [ow]; exact fl_RX11_39_11) (hClh1.1.1.1 0 (by decide)) (hClh1.1.1.2.1 (0, 6, 23) (by decide)) ?_
        refine a_iload hb dX11_firstByRule_74 8 rfl ?_
        refine b_iald (j := i) hb dX11_firstByRule_76 (hClh1.1.1.1 23 (by decide)) (IX.n (by omega)) (by omega) ?_
        rw [show hI h1 (B + 23) = hI h (B + 23) from hFh1.2.2.2.2 _ (by unfold Xq; omega), hO i (by omega)]
        show AW V 0 0 h1 77 [(5, .int ((S (188 + w) - (beS S (fun t => dmS P S (fun _ => 0) hl (nI t) N.1) w N.2.1 lg m (nI w) r c i).2.1) - 0)), (8, .int 0), (0, .ref B), (1, .ref q), (2, .int r), (3, .int (nI m)), (4, .int c), (6, .int ((beS S (fun t => dmS P S (fun _ => 0) hl (nI t) N.1) w N.2.1 lg m (nI w) r c i).2.2.1.toInt32)), (7, .int (nI i))] [.int (mdB S (nI w) (nI i) N.2.1), .int (nI i), .ref (B + 22)]
        refine a_iload hb dX11_firstByRule_77 1 rfl ?_
        refine a_if_eq hb 89 dX11_firstByRule_79 (by decide) (fun c79_1 => ?_) (fun c79_1 => absurd (by decide) c79_1)
        refine a_iconst (v := 0) hb dX11_firstByRule_89 (by decide) ?_
        refine a_iadd hb dX11_firstByRule_90 ?_
        refine b_iast (j := i) hb dX11_firstByRule_91 (hClh1.1.1.1 22 (by decide)) (IX.n (by omega)) (by omega) ?_
        generalize eh : (setI h1 (B + 22) i ((mdB S (nI w) (nI i) N.2.1) + 0)) = hw
        have hFw : FR (Xq B vq) h hw := by rw [← eh]; exact (FR.I hFh1 (by unfold Xq; omega))
        have hWv : hI hw (B + 22) i = ((mdB S (nI w) (nI i) N.2.1) + 0) := by rw [← eh, hI_setI_s, upd_s]
        have hWn : ∀ b, b ≠ B + 22 → hI hw b = hI h1 b := fun b hb_ => by rw [← eh, hI_setI_n hb_]
        clear eh
        have hCw : CX g hw B vq lq hl S N P := hC.fr (FR.mo (A := Xq B vq) (A' := Ay B vq) hFw (by intro a; unfold Xq Ay; omega))
        have pow_0 : WO hw B S w q := po.fr (FR.mo (A := Xq B vq) (A' := Ay B vq) hFw (by intro a; unfold Xq Ay; omega)) hC.2.1.2.2.2.2.2.2
        show AW V 0 0 hw 92 [(5, .int ((S (188 + w) - (beS S (fun t => dmS P S (fun _ => 0) hl (nI t) N.1) w N.2.1 lg m (nI w) r c i).2.1) - 0)), (8, .int 0), (0, .ref B), (1, .ref q), (2, .int r), (3, .int (nI m)), (4, .int c), (6, .int ((beS S (fun t => dmS P S (fun _ => 0) hl (nI t) N.1) w N.2.1 lg m (nI w) r c i).2.2.1.toInt32)), (7, .int (nI i))] []
        refine a_iload hb dX11_firstByRule_92 7 rfl ?_
        refine a_aload_n hb dX11_firstByRule_94 rfl 2 rfl ?_
        refine a_iload hb dX11_firstByRule_95 8 rfl ?_
        refine a_aload_n hb dX11_firstByRule_97 rfl 2 rfl ?_
        refine a_getQ (q := (B + 1)) hb dX11_firstByRule_98 (by rw [ow]; exact fl_RX11_12_11) (hCw.1.1.1 0 (by decide)) (hCw.1.1.2.1 (0, 0, 1) (by decide)) ?_
        refine a_getQ (q := (B + 9)) hb dX11_firstByRule_101 (by rw [ow]; exact fl_RX11_96_7) (hCw.1.1.1 1 (by decide)) (hCw.1.1.2.1 (1, 12, 9) (by decide)) ?_
        refine a_iconst (v := 2) hb dX11_firstByRule_104 (by decide) ?_
        refine b_iald (j := 2) hb dX11_firstByRule_105 (hCw.1.1.1 9 (by decide)) ⟨by decide, by decide⟩ (by decide) ?_
        rw [hCw.1.st (i := 2) (by decide)]
        show AW V 0 0 hw 106 [(5, .int ((S (188 + w) - (beS S (fun t => dmS P S (fun _ => 0) hl (nI t) N.1) w N.2.1 lg m (nI w) r c i).2.1) - 0)), (8, .int 0), (0, .ref B), (1, .ref q), (2, .int r), (3, .int (nI m)), (4, .int c), (6, .int ((beS S (fun t => dmS P S (fun _ => 0) hl (nI t) N.1) w N.2.1 lg m (nI w) r c i).2.2.1.toInt32)), (7, .int (nI i))] [.int (S 7), .int (nI i), .ref B, .int ((beS S (fun t => dmS P S (fun _ => 0) hl (nI t) N.1) w N.2.1 lg m (nI w) r c i).2.2.1.toInt32)]
        refine a_callV hb dX11_firstByRule_106 (by rw [hg]; exact x_pushAt g hw B vq lq hl S N P hCw i (by omega) (S 7) hC.1.r7) (by rw [ow]; exact clv_RX11_197) (hCw.1.1.1 0 (by decide)) (by decide) rfl rfl rfl (Nat.le_of_ble_eq_true rfl) (by rw [hr]; exact ⟨by decide, by decide⟩) (by rw [hr]; exact ⟨Nat.le_of_ble_eq_true rfl, Nat.le_of_ble_eq_true rfl⟩) ?_
        intro rv h' hq_
        rw [hq_.1, hq_.2]
        show AW V 0 0 hw 109 [(5, .int ((S (188 + w) - (beS S (fun t => dmS P S (fun _ => 0) hl (nI t) N.1) w N.2.1 lg m (nI w) r c i).2.1) - 0)), (8, .int 0), (0, .ref B), (1, .ref q), (2, .int r), (3, .int (nI m)), (4, .int c), (6, .int ((beS S (fun t => dmS P S (fun _ => 0) hl (nI t) N.1) w N.2.1 lg m (nI w) r c i).2.2.1.toInt32)), (7, .int (nI i))] [.int (psh (hI hw (B + 22)) (hI hw (B + 21)) (S 7) i), .int ((beS S (fun t => dmS P S (fun _ => 0) hl (nI t) N.1) w N.2.1 lg m (nI w) r c i).2.2.1.toInt32)]
        rw [show psh (hI hw (B + 22)) (hI hw (B + 21)) (S 7) i = ((mdB S (nI w) (nI i) N.2.1 + 0) - (dmS P S (fun _ => 0) hl (nI i) N.1)) * 10 / S 7 from by unfold psh; rw [hWv, show hI hw (B + 21) = hI h (B + 21) from hFw.2.2.2.2 _ (by unfold Xq; omega), hD i (by omega)]]
        show AW V 0 0 hw 109 [(5, .int ((S (188 + w) - (beS S (fun t => dmS P S (fun _ => 0) hl (nI t) N.1) w N.2.1 lg m (nI w) r c i).2.1) - 0)), (8, .int 0), (0, .ref B), (1, .ref q), (2, .int r), (3, .int (nI m)), (4, .int c), (6, .int ((beS S (fun t => dmS P S (fun _ => 0) hl (nI t) N.1) w N.2.1 lg m (nI w) r c i).2.2.1.toInt32)), (7, .int (nI i))] [.int (((mdB S (nI w) (nI i) N.2.1 + 0) - (dmS P S (fun _ => 0) hl (nI i) N.1)) * 10 / S 7), .int ((beS S (fun t => dmS P S (fun _ => 0) hl (nI t) N.1) w N.2.1 lg m (nI w) r c i).2.2.1.toInt32)]
        refine a_iadd hb dX11_firstByRule_109 ?_
        have bX : -20000 ≤ (mdB S (nI w) (nI i) N.2.1 + 0).toInt ∧ (mdB S (nI w) (nI i) N.2.1 + 0).toInt ≤ 20000 := by have a := hC.md (nI w) (nI i); rw [ti_add (by first | omega | (rw [t0]; omega)) (by first | omega | (rw [t0]; omega))]; first | omega | (rw [t0]; omega)
        have bY : -20000 ≤ (dmS P S (fun _ => 0) hl (nI i) N.1).toInt ∧ (dmS P S (fun _ => 0) hl (nI i) N.1).toInt ≤ 20000 := by have a := hC.dm (fun _ => 0) (nI i); omega
        have hbt := be_t (b := (beS S (fun t => dmS P S (fun _ => 0) hl (nI t) N.1) w N.2.1 lg m (nI w) r c i).2.2.1) (M := 400000 * (i : Int)) (ine := S 7) (by omega) ⟨iv4, iv5⟩ bX bY hC.1.r7
        have eT : beT S (fun t => dmS P S (fun _ => 0) hl (nI t) N.1) w N.2.1 (nI w) i (beS S (fun t => dmS P S (fun _ => 0) hl (nI t) N.1) w N.2.1 lg m (nI w) r c i) = (beS S (fun t => dmS P S (fun _ => 0) hl (nI t) N.1) w N.2.1 lg m (nI w) r c i).2.2.1 + ((mdB S (nI w) (nI i) N.2.1 + 0) - (dmS P S (fun _ => 0) hl (nI i) N.1)).toInt64 * 10 / (S 7).toInt64 := by unfold beT; rw [eP]
        rw [← eT] at hbt
        generalize hbv : ((beS S (fun t => dmS P S (fun _ => 0) hl (nI t) N.1) w N.2.1 lg m (nI w) r c i).2.2.1.toInt32) + ((mdB S (nI w) (nI i) N.2.1 + 0) - (dmS P S (fun _ => 0) hl (nI i) N.1)) * 10 / S 7 = bv at hbt ⊢
        obtain ⟨hb1, hb2, hb3⟩ := hbt
        have hb4 : bv.toInt = (beT S (fun t => dmS P S (fun _ => 0) hl (nI t) N.1) w N.2.1 (nI w) i (beS S (fun t => dmS P S (fun _ => 0) hl (nI t) N.1) w N.2.1 lg m (nI w) r c i)).toInt := by rw [← hb1, ti64]
        have hbs := ab_j (b := bv) (c := c) (by omega) (by omega)
        rw [hb1] at hbs
        have e1_ : (beS S (fun t => dmS P S (fun _ => 0) hl (nI t) N.1) w N.2.1 lg m (nI w) r c (i + 1)).2.2.1 = beT S (fun t => dmS P S (fun _ => 0) hl (nI t) N.1) w N.2.1 (nI w) i (beS S (fun t => dmS P S (fun _ => 0) hl (nI t) N.1) w N.2.1 lg m (nI w) r c i) := rfl
        have e2_ : (beS S (fun t => dmS P S (fun _ => 0) hl (nI t) N.1) w N.2.1 lg m (nI w) r c (i + 1)).2.2.2 = beF S (fun t => dmS P S (fun _ => 0) hl (nI t) N.1) w N.2.1 (nI w) c i (beS S (fun t => dmS P S (fun _ => 0) hl (nI t) N.1) w N.2.1 lg m (nI w) r c i) := rfl
        have e3_ : (beS S (fun t => dmS P S (fun _ => 0) hl (nI t) N.1) w N.2.1 lg m (nI w) r c (i + 1)).2.1 = (beS S (fun t => dmS P S (fun _ => 0) hl (nI t) N.1) w N.2.1 lg m (nI w) r c i).2.1 + beG S w i (beS S (fun t => dmS P S (fun _ => 0) hl (nI t) N.1) w N.2.1 lg m (nI w) r c i) := rfl
        show AW V 0 0 hw 110 [(5, .int ((S (188 + w) - (beS S (fun t => dmS P S (fun _ => 0) hl (nI t) N.1) w N.2.1 lg m (nI w) r c i).2.1) - 0)), (8, .int 0), (0, .ref B), (1, .ref q), (2, .int r), (3, .int (nI m)), (4, .int c), (6, .int ((beS S (fun t => dmS P S (fun _ => 0) hl (nI t) N.1) w N.2.1 lg m (nI w) r c i).2.2.1.toInt32)), (7, .int (nI i))] [.int bv]
        refine a_istore (L' := [(6, .int bv), (5, .int ((S (188 + w) - (beS S (fun t => dmS P S (fun _ => 0) hl (nI t) N.1) w N.2.1 lg m (nI w) r c i).2.1) - 0)), (8, .int 0), (0, .ref B), (1, .ref q), (2, .int r), (3, .int (nI m)), (4, .int c), (7, .int (nI i))]) hb dX11_firstByRule_110 (by rw [hml]; decide) rfl ?_
        refine a_iload hb dX11_firstByRule_112 0 rfl ?_
        refine a_mabs hb dX11_firstByRule_114 (by rw [ow]; exact kw_799) kw_800 kw_94 kw_801 (by rw [hr]; exact ⟨by decide, Nat.le_of_ble_eq_true rfl⟩) (by rw [hr]; exact ⟨Nat.le_of_ble_eq_true rfl, Nat.le_of_ble_eq_true rfl⟩) ?_
        refine a_iload hb dX11_firstByRule_117 7 rfl ?_
        refine a_icmp_le hb 125 dX11_firstByRule_119 (by decide) (fun c119_1 => ?_) (fun c119_1 => ?_)
        · refine a_iload hb dX11_firstByRule_125 0 rfl ?_
          refine a_iload_n hb dX11_firstByRule_127 rfl 5 rfl ?_
          refine a_ineg hb dX11_firstByRule_128 ?_
          refine a_icmp_ge hb 146 dX11_firstByRule_129 (by decide) (fun c129_2 => ?_) (fun c129_2 => ?_)
          · refine a_iinc (v := ((nI i) + 1)) (L' := [(7, .int ((nI i) + 1)), (6, .int bv), (5, .int ((S (188 + w) - (beS S (fun t => dmS P S (fun _ => 0) hl (nI t) N.1) w N.2.1 lg m (nI w) r c i).2.1) - 0)), (8, .int 0), (0, .ref B), (1, .ref q), (2, .int r), (3, .int (nI m)), (4, .int c)]) hb dX11_firstByRule_146 8 rfl rfl (by rw [hml]; decide) rfl ?_
            refine a_goto hb 20 dX11_firstByRule_149 (by decide) ?_
            refine AW.sub (L' := [(0, .ref B), (1, .ref q), (2, .int r), (3, .int (nI m)), (4, .int c), (5, .int ((S (188 + w) - (beS S (fun t => dmS P S (fun _ => 0) hl (nI t) N.1) w N.2.1 lg m (nI w) r c i).2.1) - 0)), (6, .int bv), (7, .int ((nI i) + 1))]) [4, 5, 6, 7, 8, 2, 1, 0] rfl ?_
            exact AW.eq (ih (i + 1) hw hFw (⟨fun j hj => by rw [show (beS S (fun t => dmS P S (fun _ => 0) hl (nI t) N.1) w N.2.1 lg m (nI w) r c (i + 1)).1 = (beS S (fun t => dmS P S (fun _ => 0) hl (nI t) N.1) w N.2.1 lg m (nI w) r c i).1 from if_neg (fun q => Int32.not_lt.mpr c129_2 (lt64.mpr (by rw [hb1]; exact q))), hWn (B + 24) (by omega)]; exact iv1 j hj, by rw [e2_, beF, if_neg (fun q => Int32.not_lt.mpr c119_1 (hbs.mpr q.2)), iv2], ⟨gN, gs, by rw [e3_, eG, eg, Int32.add_zero]⟩, by rw [e1_]; omega, by rw [e1_]; omega⟩) (by omega)) rfl rfl (by rw [show S (188 + w) - (beS S (fun t => dmS P S (fun _ => 0) hl (nI t) N.1) w N.2.1 lg m (nI w) r c (i + 1)).2.1 = _ from by rw [e3_, eG]]; rw [e1_, ← hb1, t32_64, nI_1]; first | rfl | (simp only [Int32.sub_eq_add_neg, Int32.neg_add, Int32.add_assoc]; done) | (rw [Int32.add_zero, Int32.sub_zero])) rfl
          · refine a_aload_n hb dX11_firstByRule_132 rfl 3 rfl ?_
            refine a_iload hb dX11_firstByRule_133 8 rfl ?_
            refine a_iconst (v := 1) hb dX11_firstByRule_135 (by decide) ?_
            refine a_iadd hb dX11_firstByRule_136 ?_
            refine a_aload_n hb dX11_firstByRule_137 rfl 4 rfl ?_
            refine a_getI hb dX11_firstByRule_138 (by rw [ow]; exact fl_RX11_167_10) pow_0.2.1 ?_
            rw [pow_0.2.2.1]
            show AW V 0 0 hw 141 [(6, .int bv), (5, .int ((S (188 + w) - (beS S (fun t => dmS P S (fun _ => 0) hl (nI t) N.1) w N.2.1 lg m (nI w) r c i).2.1) - 0)), (8, .int 0), (0, .ref B), (1, .ref q), (2, .int r), (3, .int (nI m)), (4, .int c), (7, .int (nI i))] [.int (S (178 + w)), .int ((nI i) + 1), .ref B]
            rw [el]
            show AW V 0 0 hw 141 [(6, .int bv), (5, .int ((S (188 + w) - (beS S (fun t => dmS P S (fun _ => 0) hl (nI t) N.1) w N.2.1 lg m (nI w) r c i).2.1) - 0)), (8, .int 0), (0, .ref B), (1, .ref q), (2, .int r), (3, .int (nI m)), (4, .int c), (7, .int (nI i))] [.int (nI lg), .int ((nI i) + 1), .ref B]
            refine a_iadd hb dX11_firstByRule_141 ?_
            rw [show nI i + 1 + nI lg = nI (i + 1 + lg) from by rw [nI_1, nI_add]]
            show AW V 0 0 hw 142 [(6, .int bv), (5, .int ((S (188 + w) - (beS S (fun t => dmS P S (fun _ => 0) hl (nI t) N.1) w N.2.1 lg m (nI w) r c i).2.1) - 0)), (8, .int 0), (0, .ref B), (1, .ref q), (2, .int r), (3, .int (nI m)), (4, .int c), (7, .int (nI i))] [.int (nI (i + 1 + lg)), .ref B]
            refine a_iload_n hb dX11_firstByRule_142 rfl 6 rfl ?_
            refine a_callV hb dX11_firstByRule_143 (by rw [hg]; exact x_markDue g hw B vq lq hl S N P hCw (i + 1 + lg) m (by omega) (by omega)) (by rw [ow]; exact clv_RX11_332) (hCw.1.1.1 0 (by decide)) (by decide) rfl rfl rfl (Nat.le_of_ble_eq_true rfl) (by rw [hr]; exact ⟨by decide, by decide⟩) (by rw [hr]; exact ⟨Nat.le_of_ble_eq_true rfl, Nat.le_of_ble_eq_true rfl⟩) ?_
            intro rv h1_ hp
            obtain ⟨hv, hf1, hx1_0⟩ := hp
            rw [hv]
            have hF1 := FR.tr hFw (FR.mo (A := Xt B vq) (A' := Xq B vq) hf1 (by intro a; unfold Xt Xq; omega))
            have hC1 := hC.fr (FR.mo (A := Xq B vq) (A' := Ay B vq) hF1 (by intro a; unfold Xq Ay; omega))
            clear hv
            have po1_0 : WO h1_ B S w q := po.fr (FR.mo (A := Xq B vq) (A' := Ay B vq) hF1 (by intro a; unfold Xq Ay; omega)) hC.2.1.2.2.2.2.2.2
            show AW V 0 0 h1_ 146 [(6, .int bv), (5, .int ((S (188 + w) - (beS S (fun t => dmS P S (fun _ => 0) hl (nI t) N.1) w N.2.1 lg m (nI w) r c i).2.1) - 0)), (8, .int 0), (0, .ref B), (1, .ref q), (2, .int r), (3, .int (nI m)), (4, .int c), (7, .int (nI i))] []
            refine a_iinc (v := ((nI i) + 1)) (L' := [(7, .int ((nI i) + 1)), (6, .int bv), (5, .int ((S (188 + w) - (beS S (fun t => dmS P S (fun _ => 0) hl (nI t) N.1) w N.2.1 lg m (nI w) r c i).2.1) - 0)), (8, .int 0), (0, .ref B), (1, .ref q), (2, .int r), (3, .int (nI m)), (4, .int c)]) hb dX11_firstByRule_146 8 rfl rfl (by rw [hml]; decide) rfl ?_
            refine a_goto hb 20 dX11_firstByRule_149 (by decide) ?_
            refine AW.sub (L' := [(0, .ref B), (1, .ref q), (2, .int r), (3, .int (nI m)), (4, .int c), (5, .int ((S (188 + w) - (beS S (fun t => dmS P S (fun _ => 0) hl (nI t) N.1) w N.2.1 lg m (nI w) r c i).2.1) - 0)), (6, .int bv), (7, .int ((nI i) + 1))]) [4, 5, 6, 7, 8, 2, 1, 0] rfl ?_
            exact AW.eq (ih (i + 1) h1_ hF1 (⟨fun j hj => by rw [hx1_0 j hj, show (beS S (fun t => dmS P S (fun _ => 0) hl (nI t) N.1) w N.2.1 lg m (nI w) r c (i + 1)).1 = beD (beS S (fun t => dmS P S (fun _ => 0) hl (nI t) N.1) w N.2.1 lg m (nI w) r c i).1 (i + 1 + lg) m from if_pos (by have z := lt64.mp (Int32.not_le.mp c129_2); rw [hb1] at z; exact z)]; unfold beD; split; rfl; rw [hWn (B + 24) (by omega)]; exact iv1 j hj, by rw [e2_, beF, if_neg (fun q => Int32.not_lt.mpr c119_1 (hbs.mpr q.2)), iv2], ⟨gN, gs, by rw [e3_, eG, eg, Int32.add_zero]⟩, by rw [e1_]; omega, by rw [e1_]; omega⟩) (by omega)) rfl rfl (by rw [show S (188 + w) - (beS S (fun t => dmS P S (fun _ => 0) hl (nI t) N.1) w N.2.1 lg m (nI w) r c (i + 1)).2.1 = _ from by rw [e3_, eG]]; rw [e1_, ← hb1, t32_64, nI_1]; first | rfl | (simp only [Int32.sub_eq_add_neg, Int32.neg_add, Int32.add_assoc]; done) | (rw [Int32.add_zero, Int32.sub_zero])) rfl
        · refine a_iload hb dX11_firstByRule_122 8 rfl ?_
          exact a_ireturn (ty := .int) hb hz dX11_firstByRule_124 hret rfl (by rw [hr]; exact Nat.le_of_ble_eq_true rfl) (by rw [hr]; exact Nat.le_of_ble_eq_true rfl) (⟨by rw [← hR, show 40 = i + 1 + (39 - i) by omega, be_kp (by rw [e2_]; exact if_pos ⟨iv2, hbs.mp (Int32.not_le.mp c119_1)⟩) (by omega)], hFw⟩)
      · refine a_iload hb dX11_firstByRule_37 5 rfl ?_
        refine a_if_le hb 46 dX11_firstByRule_39 (by decide) (fun c39_1 => ?_) (fun c39_1 => ?_)
        · refine a_iconst (v := 0) hb dX11_firstByRule_46 (by decide) ?_
          have hgv : ¬ (¬ (beS S (fun t => dmS P S (fun _ => 0) hl (nI t) N.1) w N.2.1 lg m (nI w) r c i).1 i = 0 ∧ (beS S (fun t => dmS P S (fun _ => 0) hl (nI t) N.1) w N.2.1 lg m (nI w) r c i).2.1 < S (188 + w)) := fun q => by have z := q.2; rw [eg, es] at z; have y := (nI_ltI (by omega) (by omega)).mp z; have u := c39_1; rw [hlf] at u; exact absurd ((nI_leI (a := s - gN) (b := 0) (by omega) (by decide)).mp u) (by omega)
          have eG : beG S w i (beS S (fun t => dmS P S (fun _ => 0) hl (nI t) N.1) w N.2.1 lg m (nI w) r c i) = 0 := if_neg hgv
          have eP : beP S w i (beS S (fun t => dmS P S (fun _ => 0) hl (nI t) N.1) w N.2.1 lg m (nI w) r c i) = 0 := if_neg hgv
          refine a_istore (L' := [(8, .int 0), (0, .ref B), (1, .ref q), (2, .int r), (3, .int (nI m)), (4, .int c), (5, .int (S (188 + w) - (beS S (fun t => dmS P S (fun _ => 0) hl (nI t) N.1) w N.2.1 lg m (nI w) r c i).2.1)), (6, .int ((beS S (fun t => dmS P S (fun _ => 0) hl (nI t) N.1) w N.2.1 lg m (nI w) r c i).2.2.1.toInt32)), (7, .int (nI i))]) hb dX11_firstByRule_47 (by rw [hml]; decide) rfl ?_
          refine a_iload hb dX11_firstByRule_49 6 rfl ?_
          refine a_iload hb dX11_firstByRule_51 0 rfl ?_
          refine a_if_eq hb 60 dX11_firstByRule_53 (by decide) (fun c53_2 => ?_) (fun c53_2 => absurd (by decide) c53_2)
          refine a_iconst (v := 0) hb dX11_firstByRule_60 (by decide) ?_
          refine a_isub hb dX11_firstByRule_61 ?_
          refine a_istore (L' := [(5, .int ((S (188 + w) - (beS S (fun t => dmS P S (fun _ => 0) hl (nI t) N.1) w N.2.1 lg m (nI w) r c i).2.1) - 0)), (8, .int 0), (0, .ref B), (1, .ref q), (2, .int r), (3, .int (nI m)), (4, .int c), (6, .int ((beS S (fun t => dmS P S (fun _ => 0) hl (nI t) N.1) w N.2.1 lg m (nI w) r c i).2.2.1.toInt32)), (7, .int (nI i))]) hb dX11_firstByRule_62 (by rw [hml]; decide) rfl ?_
          refine a_aload_n hb dX11_firstByRule_64 rfl 2 rfl ?_
          refine a_getQ (q := (B + 22)) hb dX11_firstByRule_65 (by rw [ow]; exact fl_RX11_36_11) (hClh1.1.1.1 0 (by decide)) (hClh1.1.1.2.1 (0, 5, 22) (by decide)) ?_
          refine a_iload hb dX11_firstByRule_68 8 rfl ?_
          refine a_aload_n hb dX11_firstByRule_70 rfl 2 rfl ?_
          refine a_getQ (q := (B + 23)) hb dX11_firstByRule_71 (by rw [ow]; exact fl_RX11_39_11) (hClh1.1.1.1 0 (by decide)) (hClh1.1.1.2.1 (0, 6, 23) (by decide)) ?_
          refine a_iload hb dX11_firstByRule_74 8 rfl ?_
          refine b_iald (j := i) hb dX11_firstByRule_76 (hClh1.1.1.1 23 (by decide)) (IX.n (by omega)) (by omega) ?_
          rw [show hI h1 (B + 23) = hI h (B + 23) from hFh1.2.2.2.2 _ (by unfold Xq; omega), hO i (by omega)]
          show AW V 0 0 h1 77 [(5, .int ((S (188 + w) - (beS S (fun t => dmS P S (fun _ => 0) hl (nI t) N.1) w N.2.1 lg m (nI w) r c i).2.1) - 0)), (8, .int 0), (0, .ref B), (1, .ref q), (2, .int r), (3, .int (nI m)), (4, .int c), (6, .int ((beS S (fun t => dmS P S (fun _ => 0) hl (nI t) N.1) w N.2.1 lg m (nI w) r c i).2.2.1.toInt32)), (7, .int (nI i))] [.int (mdB S (nI w) (nI i) N.2.1), .int (nI i), .ref (B + 22)]
          refine a_iload hb dX11_firstByRule_77 1 rfl ?_
          refine a_if_eq hb 89 dX11_firstByRule_79 (by decide) (fun c79_2 => ?_) (fun c79_2 => absurd (by decide) c79_2)
          refine a_iconst (v := 0) hb dX11_firstByRule_89 (by decide) ?_
          refine a_iadd hb dX11_firstByRule_90 ?_
          refine b_iast (j := i) hb dX11_firstByRule_91 (hClh1.1.1.1 22 (by decide)) (IX.n (by omega)) (by omega) ?_
          generalize eh : (setI h1 (B + 22) i ((mdB S (nI w) (nI i) N.2.1) + 0)) = hw
          have hFw : FR (Xq B vq) h hw := by rw [← eh]; exact (FR.I hFh1 (by unfold Xq; omega))
          have hWv : hI hw (B + 22) i = ((mdB S (nI w) (nI i) N.2.1) + 0) := by rw [← eh, hI_setI_s, upd_s]
          have hWn : ∀ b, b ≠ B + 22 → hI hw b = hI h1 b := fun b hb_ => by rw [← eh, hI_setI_n hb_]
          clear eh
          have hCw : CX g hw B vq lq hl S N P := hC.fr (FR.mo (A := Xq B vq) (A' := Ay B vq) hFw (by intro a; unfold Xq Ay; omega))
          have pow_0 : WO hw B S w q := po.fr (FR.mo (A := Xq B vq) (A' := Ay B vq) hFw (by intro a; unfold Xq Ay; omega)) hC.2.1.2.2.2.2.2.2
          show AW V 0 0 hw 92 [(5, .int ((S (188 + w) - (beS S (fun t => dmS P S (fun _ => 0) hl (nI t) N.1) w N.2.1 lg m (nI w) r c i).2.1) - 0)), (8, .int 0), (0, .ref B), (1, .ref q), (2, .int r), (3, .int (nI m)), (4, .int c), (6, .int ((beS S (fun t => dmS P S (fun _ => 0) hl (nI t) N.1) w N.2.1 lg m (nI w) r c i).2.2.1.toInt32)), (7, .int (nI i))] []
          refine a_iload hb dX11_firstByRule_92 7 rfl ?_
          refine a_aload_n hb dX11_firstByRule_94 rfl 2 rfl ?_
          refine a_iload hb dX11_firstByRule_95 8 rfl ?_
          refine a_aload_n hb dX11_firstByRule_97 rfl 2 rfl ?_
          refine a_getQ (q := (B + 1)) hb dX11_firstByRule_98 (by rw [ow]; exact fl_RX11_12_11) (hCw.1.1.1 0 (by decide)) (hCw.1.1.2.1 (0, 0, 1) (by decide)) ?_
          refine a_getQ (q := (B + 9)) hb dX11_firstByRule_101 (by rw [ow]; exact fl_RX11_96_7) (hCw.1.1.1 1 (by decide)) (hCw.1.1.2.1 (1, 12, 9) (by decide)) ?_
          refine a_iconst (v := 2) hb dX11_firstByRule_104 (by decide) ?_
          refine b_iald (j := 2) hb dX11_firstByRule_105 (hCw.1.1.1 9 (by decide)) ⟨by decide, by decide⟩ (by decide) ?_
          rw [hCw.1.st (i := 2) (by decide)]
          show AW V 0 0 hw 106 [(5, .int ((S (188 + w) - (beS S (fun t => dmS P S (fun _ => 0) hl (nI t) N.1) w N.2.1 lg m (nI w) r c i).2.1) - 0)), (8, .int 0), (0, .ref B), (1, .ref q), (2, .int r), (3, .int (nI m)), (4, .int c), (6, .int ((beS S (fun t => dmS P S (fun _ => 0) hl (nI t) N.1) w N.2.1 lg m (nI w) r c i).2.2.1.toInt32)), (7, .int (nI i))] [.int (S 7), .int (nI i), .ref B, .int ((beS S (fun t => dmS P S (fun _ => 0) hl (nI t) N.1) w N.2.1 lg m (nI w) r c i).2.2.1.toInt32)]
          refine a_callV hb dX11_firstByRule_106 (by rw [hg]; exact x_pushAt g hw B vq lq hl S N P hCw i (by omega) (S 7) hC.1.r7) (by rw [ow]; exact clv_RX11_197) (hCw.1.1.1 0 (by decide)) (by decide) rfl rfl rfl (Nat.le_of_ble_eq_true rfl) (by rw [hr]; exact ⟨by decide, by decide⟩) (by rw [hr]; exact ⟨Nat.le_of_ble_eq_true rfl, Nat.le_of_ble_eq_true rfl⟩) ?_
          intro rv h' hq_
          rw [hq_.1, hq_.2]
          show AW V 0 0 hw 109 [(5, .int ((S (188 + w) - (beS S (fun t => dmS P S (fun _ => 0) hl (nI t) N.1) w N.2.1 lg m (nI w) r c i).2.1) - 0)), (8, .int 0), (0, .ref B), (1, .ref q), (2, .int r), (3, .int (nI m)), (4, .int c), (6, .int ((beS S (fun t => dmS P S (fun _ => 0) hl (nI t) N.1) w N.2.1 lg m (nI w) r c i).2.2.1.toInt32)), (7, .int (nI i))] [.int (psh (hI hw (B + 22)) (hI hw (B + 21)) (S 7) i), .int ((beS S (fun t => dmS P S (fun _ => 0) hl (nI t) N.1) w N.2.1 lg m (nI w) r c i).2.2.1.toInt32)]
          rw [show psh (hI hw (B + 22)) (hI hw (B + 21)) (S 7) i = ((mdB S (nI w) (nI i) N.2.1 + 0) - (dmS P S (fun _ => 0) hl (nI i) N.1)) * 10 / S 7 from by unfold psh; rw [hWv, show hI hw (B + 21) = hI h (B + 21) from hFw.2.2.2.2 _ (by unfold Xq; omega), hD i (by omega)]]
          show AW V 0 0 hw 109 [(5, .int ((S (188 + w) - (beS S (fun t => dmS P S (fun _ => 0) hl (nI t) N.1) w N.2.1 lg m (nI w) r c i).2.1) - 0)), (8, .int 0), (0, .ref B), (1, .ref q), (2, .int r), (3, .int (nI m)), (4, .int c), (6, .int ((beS S (fun t => dmS P S (fun _ => 0) hl (nI t) N.1) w N.2.1 lg m (nI w) r c i).2.2.1.toInt32)), (7, .int (nI i))] [.int (((mdB S (nI w) (nI i) N.2.1 + 0) - (dmS P S (fun _ => 0) hl (nI i) N.1)) * 10 / S 7), .int ((beS S (fun t => dmS P S (fun _ => 0) hl (nI t) N.1) w N.2.1 lg m (nI w) r c i).2.2.1.toInt32)]
          refine a_iadd hb dX11_firstByRule_109 ?_
          have bX : -20000 ≤ (mdB S (nI w) (nI i) N.2.1 + 0).toInt ∧ (mdB S (nI w) (nI i) N.2.1 + 0).toInt ≤ 20000 := by have a := hC.md (nI w) (nI i); rw [ti_add (by first | omega | (rw [t0]; omega)) (by first | omega | (rw [t0]; omega))]; first | omega | (rw [t0]; omega)
          have bY : -20000 ≤ (dmS P S (fun _ => 0) hl (nI i) N.1).toInt ∧ (dmS P S (fun _ => 0) hl (nI i) N.1).toInt ≤ 20000 := by have a := hC.dm (fun _ => 0) (nI i); omega
          have hbt := be_t (b := (beS S (fun t => dmS P S (fun _ => 0) hl (nI t) N.1) w N.2.1 lg m (nI w) r c i).2.2.1) (M := 400000 * (i : Int)) (ine := S 7) (by omega) ⟨iv4, iv5⟩ bX bY hC.1.r7
          have eT : beT S (fun t => dmS P S (fun _ => 0) hl (nI t) N.1) w N.2.1 (nI w) i (beS S (fun t => dmS P S (fun _ => 0) hl (nI t) N.1) w N.2.1 lg m (nI w) r c i) = (beS S (fun t => dmS P S (fun _ => 0) hl (nI t) N.1) w N.2.1 lg m (nI w) r c i).2.2.1 + ((mdB S (nI w) (nI i) N.2.1 + 0) - (dmS P S (fun _ => 0) hl (nI i) N.1)).toInt64 * 10 / (S 7).toInt64 := by unfold beT; rw [eP]
          rw [← eT] at hbt
          generalize hbv : ((beS S (fun t => dmS P S (fun _ => 0) hl (nI t) N.1) w N.2.1 lg m (nI w) r c i).2.2.1.toInt32) + ((mdB S (nI w) (nI i) N.2.1 + 0) - (dmS P S (fun _ => 0) hl (nI i) N.1)) * 10 / S 7 = bv at hbt ⊢
          obtain ⟨hb1, hb2, hb3⟩ := hbt
          have hb4 : bv.toInt = (beT S (fun t => dmS P S (fun _ => 0) hl (nI t) N.1) w N.2.1 (nI w) i (beS S (fun t => dmS P S (fun _ => 0) hl (nI t) N.1) w N.2.1 lg m (nI w) r c i)).toInt := by rw [← hb1, ti64]
          have hbs := ab_j (b := bv) (c := c) (by omega) (by omega)
          rw [hb1] at hbs
          have e1_ : (beS S (fun t => dmS P S (fun _ => 0) hl (nI t) N.1) w N.2.1 lg m (nI w) r c (i + 1)).2.2.1 = beT S (fun t => dmS P S (fun _ => 0) hl (nI t) N.1) w N.2.1 (nI w) i (beS S (fun t => dmS P S (fun _ => 0) hl (nI t) N.1) w N.2.1 lg m (nI w) r c i) := rfl
          have e2_ : (beS S (fun t => dmS P S (fun _ => 0) hl (nI t) N.1) w N.2.1 lg m (nI w) r c (i + 1)).2.2.2 = beF S (fun t => dmS P S (fun _ => 0) hl (nI t) N.1) w N.2.1 (nI w) c i (beS S (fun t => dmS P S (fun _ => 0) hl (nI t) N.1) w N.2.1 lg m (nI w) r c i) := rfl
          have e3_ : (beS S (fun t => dmS P S (fun _ => 0) hl (nI t) N.1) w N.2.1 lg m (nI w) r c (i + 1)).2.1 = (beS S (fun t => dmS P S (fun _ => 0) hl (nI t) N.1) w N.2.1 lg m (nI w) r c i).2.1 + beG S w i (beS S (fun t => dmS P S (fun _ => 0) hl (nI t) N.1) w N.2.1 lg m (nI w) r c i) := rfl
          show AW V 0 0 hw 110 [(5, .int ((S (188 + w) - (beS S (fun t => dmS P S (fun _ => 0) hl (nI t) N.1) w N.2.1 lg m (nI w) r c i).2.1) - 0)), (8, .int 0), (0, .ref B), (1, .ref q), (2, .int r), (3, .int (nI m)), (4, .int c), (6, .int ((beS S (fun t => dmS P S (fun _ => 0) hl (nI t) N.1) w N.2.1 lg m (nI w) r c i).2.2.1.toInt32)), (7, .int (nI i))] [.int bv]
          refine a_istore (L' := [(6, .int bv), (5, .int ((S (188 + w) - (beS S (fun t => dmS P S (fun _ => 0) hl (nI t) N.1) w N.2.1 lg m (nI w) r c i).2.1) - 0)), (8, .int 0), (0, .ref B), (1, .ref q), (2, .int r), (3, .int (nI m)), (4, .int c), (7, .int (nI i))]) hb dX11_firstByRule_110 (by rw [hml]; decide) rfl ?_
          refine a_iload hb dX11_firstByRule_112 0 rfl ?_
          refine a_mabs hb dX11_firstByRule_114 (by rw [ow]; exact kw_799) kw_800 kw_94 kw_801 (by rw [hr]; exact ⟨by decide, Nat.le_of_ble_eq_true rfl⟩) (by rw [hr]; exact ⟨Nat.le_of_ble_eq_true rfl, Nat.le_of_ble_eq_true rfl⟩) ?_
          refine a_iload hb dX11_firstByRule_117 7 rfl ?_
          refine a_icmp_le hb 125 dX11_firstByRule_119 (by decide) (fun c119_2 => ?_) (fun c119_2 => ?_)
          · refine a_iload hb dX11_firstByRule_125 0 rfl ?_
            refine a_iload_n hb dX11_firstByRule_127 rfl 5 rfl ?_
            refine a_ineg hb dX11_firstByRule_128 ?_
            refine a_icmp_ge hb 146 dX11_firstByRule_129 (by decide) (fun c129_3 => ?_) (fun c129_3 => ?_)
            · refine a_iinc (v := ((nI i) + 1)) (L' := [(7, .int ((nI i) + 1)), (6, .int bv), (5, .int ((S (188 + w) - (beS S (fun t => dmS P S (fun _ => 0) hl (nI t) N.1) w N.2.1 lg m (nI w) r c i).2.1) - 0)), (8, .int 0), (0, .ref B), (1, .ref q), (2, .int r), (3, .int (nI m)), (4, .int c)]) hb dX11_firstByRule_146 8 rfl rfl (by rw [hml]; decide) rfl ?_
              refine a_goto hb 20 dX11_firstByRule_149 (by decide) ?_
              refine AW.sub (L' := [(0, .ref B), (1, .ref q), (2, .int r), (3, .int (nI m)), (4, .int c), (5, .int ((S (188 + w) - (beS S (fun t => dmS P S (fun _ => 0) hl (nI t) N.1) w N.2.1 lg m (nI w) r c i).2.1) - 0)), (6, .int bv), (7, .int ((nI i) + 1))]) [4, 5, 6, 7, 8, 2, 1, 0] rfl ?_
              exact AW.eq (ih (i + 1) hw hFw (⟨fun j hj => by rw [show (beS S (fun t => dmS P S (fun _ => 0) hl (nI t) N.1) w N.2.1 lg m (nI w) r c (i + 1)).1 = (beS S (fun t => dmS P S (fun _ => 0) hl (nI t) N.1) w N.2.1 lg m (nI w) r c i).1 from if_neg (fun q => Int32.not_lt.mpr c129_3 (lt64.mpr (by rw [hb1]; exact q))), hWn (B + 24) (by omega)]; exact iv1 j hj, by rw [e2_, beF, if_neg (fun q => Int32.not_lt.mpr c119_2 (hbs.mpr q.2)), iv2], ⟨gN, gs, by rw [e3_, eG, eg, Int32.add_zero]⟩, by rw [e1_]; omega, by rw [e1_]; omega⟩) (by omega)) rfl rfl (by rw [show S (188 + w) - (beS S (fun t => dmS P S (fun _ => 0) hl (nI t) N.1) w N.2.1 lg m (nI w) r c (i + 1)).2.1 = _ from by rw [e3_, eG]]; rw [e1_, ← hb1, t32_64, nI_1]; first | rfl | (simp only [Int32.sub_eq_add_neg, Int32.neg_add, Int32.add_assoc]; done) | (rw [Int32.add_zero, Int32.sub_zero])) rfl
            · refine a_aload_n hb dX11_firstByRule_132 rfl 3 rfl ?_
              refine a_iload hb dX11_firstByRule_133 8 rfl ?_
              refine a_iconst (v := 1) hb dX11_firstByRule_135 (by decide) ?_
              refine a_iadd hb dX11_firstByRule_136 ?_
              refine a_aload_n hb dX11_firstByRule_137 rfl 4 rfl ?_
              refine a_getI hb dX11_firstByRule_138 (by rw [ow]; exact fl_RX11_167_10) pow_0.2.1 ?_
              rw [pow_0.2.2.1]
              show AW V 0 0 hw 141 [(6, .int bv), (5, .int ((S (188 + w) - (beS S (fun t => dmS P S (fun _ => 0) hl (nI t) N.1) w N.2.1 lg m (nI w) r c i).2.1) - 0)), (8, .int 0), (0, .ref B), (1, .ref q), (2, .int r), (3, .int (nI m)), (4, .int c), (7, .int (nI i))] [.int (S (178 + w)), .int ((nI i) + 1), .ref B]
              rw [el]
              show AW V 0 0 hw 141 [(6, .int bv), (5, .int ((S (188 + w) - (beS S (fun t => dmS P S (fun _ => 0) hl (nI t) N.1) w N.2.1 lg m (nI w) r c i).2.1) - 0)), (8, .int 0), (0, .ref B), (1, .ref q), (2, .int r), (3, .int (nI m)), (4, .int c), (7, .int (nI i))] [.int (nI lg), .int ((nI i) + 1), .ref B]
              refine a_iadd hb dX11_firstByRule_141 ?_
              rw [show nI i + 1 + nI lg = nI (i + 1 + lg) from by rw [nI_1, nI_add]]
              show AW V 0 0 hw 142 [(6, .int bv), (5, .int ((S (188 + w) - (beS S (fun t => dmS P S (fun _ => 0) hl (nI t) N.1) w N.2.1 lg m (nI w) r c i).2.1) - 0)), (8, .int 0), (0, .ref B), (1, .ref q), (2, .int r), (3, .int (nI m)), (4, .int c), (7, .int (nI i))] [.int (nI (i + 1 + lg)), .ref B]
              refine a_iload_n hb dX11_firstByRule_142 rfl 6 rfl ?_
              refine a_callV hb dX11_firstByRule_143 (by rw [hg]; exact x_markDue g hw B vq lq hl S N P hCw (i + 1 + lg) m (by omega) (by omega)) (by rw [ow]; exact clv_RX11_332) (hCw.1.1.1 0 (by decide)) (by decide) rfl rfl rfl (Nat.le_of_ble_eq_true rfl) (by rw [hr]; exact ⟨by decide, by decide⟩) (by rw [hr]; exact ⟨Nat.le_of_ble_eq_true rfl, Nat.le_of_ble_eq_true rfl⟩) ?_
              intro rv h2_ hp
              obtain ⟨hv, hf2, hx2_0⟩ := hp
              rw [hv]
              have hF2 := FR.tr hFw (FR.mo (A := Xt B vq) (A' := Xq B vq) hf2 (by intro a; unfold Xt Xq; omega))
              have hC2 := hC.fr (FR.mo (A := Xq B vq) (A' := Ay B vq) hF2 (by intro a; unfold Xq Ay; omega))
              clear hv
              have po2_0 : WO h2_ B S w q := po.fr (FR.mo (A := Xq B vq) (A' := Ay B vq) hF2 (by intro a; unfold Xq Ay; omega)) hC.2.1.2.2.2.2.2.2
              show AW V 0 0 h2_ 146 [(6, .int bv), (5, .int ((S (188 + w) - (beS S (fun t => dmS P S (fun _ => 0) hl (nI t) N.1) w N.2.1 lg m (nI w) r c i).2.1) - 0)), (8, .int 0), (0, .ref B), (1, .ref q), (2, .int r), (3, .int (nI m)), (4, .int c), (7, .int (nI i))] []
              refine a_iinc (v := ((nI i) + 1)) (L' := [(7, .int ((nI i) + 1)), (6, .int bv), (5, .int ((S (188 + w) - (beS S (fun t => dmS P S (fun _ => 0) hl (nI t) N.1) w N.2.1 lg m (nI w) r c i).2.1) - 0)), (8, .int 0), (0, .ref B), (1, .ref q), (2, .int r), (3, .int (nI m)), (4, .int c)]) hb dX11_firstByRule_146 8 rfl rfl (by rw [hml]; decide) rfl ?_
              refine a_goto hb 20 dX11_firstByRule_149 (by decide) ?_
              refine AW.sub (L' := [(0, .ref B), (1, .ref q), (2, .int r), (3, .int (nI m)), (4, .int c), (5, .int ((S (188 + w) - (beS S (fun t => dmS P S (fun _ => 0) hl (nI t) N.1) w N.2.1 lg m (nI w) r c i).2.1) - 0)), (6, .int bv), (7, .int ((nI i) + 1))]) [4, 5, 6, 7, 8, 2, 1, 0] rfl ?_
              exact AW.eq (ih (i + 1) h2_ hF2 (⟨fun j hj => by rw [hx2_0 j hj, show (beS S (fun t => dmS P S (fun _ => 0) hl (nI t) N.1) w N.2.1 lg m (nI w) r c (i + 1)).1 = beD (beS S (fun t => dmS P S (fun _ => 0) hl (nI t) N.1) w N.2.1 lg m (nI w) r c i).1 (i + 1 + lg) m from if_pos (by have z := lt64.mp (Int32.not_le.mp c129_3); rw [hb1] at z; exact z)]; unfold beD; split; rfl; rw [hWn (B + 24) (by omega)]; exact iv1 j hj, by rw [e2_, beF, if_neg (fun q => Int32.not_lt.mpr c119_2 (hbs.mpr q.2)), iv2], ⟨gN, gs, by rw [e3_, eG, eg, Int32.add_zero]⟩, by rw [e1_]; omega, by rw [e1_]; omega⟩) (by omega)) rfl rfl (by rw [show S (188 + w) - (beS S (fun t => dmS P S (fun _ => 0) hl (nI t) N.1) w N.2.1 lg m (nI w) r c (i + 1)).2.1 = _ from by rw [e3_, eG]]; rw [e1_, ← hb1, t32_64, nI_1]; first | rfl | (simp only [Int32.sub_eq_add_neg, Int32.neg_add, Int32.add_assoc]; done) | (rw [Int32.add_zero, Int32.sub_zero])) rfl
          · refine a_iload hb dX11_firstByRule_122 8 rfl ?_
            exact a_ireturn (ty := .int) hb hz dX11_firstByRule_124 hret rfl (by rw [hr]; exact Nat.le_of_ble_eq_true rfl) (by rw [hr]; exact Nat.le_of_ble_eq_true rfl) (⟨by rw [← hR, show 40 = i + 1 + (39 - i) by omega, be_kp (by rw [e2_]; exact if_pos ⟨iv2, hbs.mp (Int32.not_le.mp c119_2)⟩) (by omega)], hFw⟩)
        · refine a_iconst (v := 1) hb dX11_firstByRule_42 (by decide) ?_
          refine a_goto hb 47 dX11_firstByRule_43 (by decide) ?_
          have hgv : ¬ (beS S (fun t => dmS P S (fun _ => 0) hl (nI t) N.1) w N.2.1 lg m (nI w) r c i).1 i = 0 ∧ (beS S (fun t => dmS P S (fun _ => 0) hl (nI t) N.1) w N.2.1 lg m (nI w) r c i).2.1 < S (188 + w) := ⟨by simpa using c34_0, by rw [eg, es]; have q := c39_1; rw [hlf] at q; exact (nI_ltI (by omega) (by omega)).mpr (Nat.lt_of_not_le (fun z => q (nI_le (a := 0) (b := 0) (by omega) (by omega) |> fun _ => by rw [show s - gN = 0 by omega]; decide)))⟩
          have eG : beG S w i (beS S (fun t => dmS P S (fun _ => 0) hl (nI t) N.1) w N.2.1 lg m (nI w) r c i) = 1 := if_pos hgv
          have eP : beP S w i (beS S (fun t => dmS P S (fun _ => 0) hl (nI t) N.1) w N.2.1 lg m (nI w) r c i) = S (183 + w) := if_pos hgv
          have hgs : gN + 1 ≤ s := by have q := hgv.2; rw [eg, es] at q; exact (nI_ltI (by omega) (by omega)).mp q
          refine a_istore (L' := [(8, .int 1), (0, .ref B), (1, .ref q), (2, .int r), (3, .int (nI m)), (4, .int c), (5, .int (S (188 + w) - (beS S (fun t => dmS P S (fun _ => 0) hl (nI t) N.1) w N.2.1 lg m (nI w) r c i).2.1)), (6, .int ((beS S (fun t => dmS P S (fun _ => 0) hl (nI t) N.1) w N.2.1 lg m (nI w) r c i).2.2.1.toInt32)), (7, .int (nI i))]) hb dX11_firstByRule_47 (by rw [hml]; decide) rfl ?_
          refine a_iload hb dX11_firstByRule_49 6 rfl ?_
          refine a_iload hb dX11_firstByRule_51 0 rfl ?_
          refine a_if_eq hb 60 dX11_firstByRule_53 (by decide) (fun c53_2 => absurd c53_2 (by decide)) (fun c53_2 => ?_)
          refine a_iconst (v := 1) hb dX11_firstByRule_56 (by decide) ?_
          refine a_goto hb 61 dX11_firstByRule_57 (by decide) ?_
          refine a_isub hb dX11_firstByRule_61 ?_
          refine a_istore (L' := [(5, .int ((S (188 + w) - (beS S (fun t => dmS P S (fun _ => 0) hl (nI t) N.1) w N.2.1 lg m (nI w) r c i).2.1) - 1)), (8, .int 1), (0, .ref B), (1, .ref q), (2, .int r), (3, .int (nI m)), (4, .int c), (6, .int ((beS S (fun t => dmS P S (fun _ => 0) hl (nI t) N.1) w N.2.1 lg m (nI w) r c i).2.2.1.toInt32)), (7, .int (nI i))]) hb dX11_firstByRule_62 (by rw [hml]; decide) rfl ?_
          refine a_aload_n hb dX11_firstByRule_64 rfl 2 rfl ?_
          refine a_getQ (q := (B + 22)) hb dX11_firstByRule_65 (by rw [ow]; exact fl_RX11_36_11) (hClh1.1.1.1 0 (by decide)) (hClh1.1.1.2.1 (0, 5, 22) (by decide)) ?_
          refine a_iload hb dX11_firstByRule_68 8 rfl ?_
          refine a_aload_n hb dX11_firstByRule_70 rfl 2 rfl ?_
          refine a_getQ (q := (B + 23)) hb dX11_firstByRule_71 (by rw [ow]; exact fl_RX11_39_11) (hClh1.1.1.1 0 (by decide)) (hClh1.1.1.2.1 (0, 6, 23) (by decide)) ?_
          refine a_iload hb dX11_firstByRule_74 8 rfl ?_
          refine b_iald (j := i) hb dX11_firstByRule_76 (hClh1.1.1.1 23 (by decide)) (IX.n (by omega)) (by omega) ?_
          rw [show hI h1 (B + 23) = hI h (B + 23) from hFh1.2.2.2.2 _ (by unfold Xq; omega), hO i (by omega)]
          show AW V 0 0 h1 77 [(5, .int ((S (188 + w) - (beS S (fun t => dmS P S (fun _ => 0) hl (nI t) N.1) w N.2.1 lg m (nI w) r c i).2.1) - 1)), (8, .int 1), (0, .ref B), (1, .ref q), (2, .int r), (3, .int (nI m)), (4, .int c), (6, .int ((beS S (fun t => dmS P S (fun _ => 0) hl (nI t) N.1) w N.2.1 lg m (nI w) r c i).2.2.1.toInt32)), (7, .int (nI i))] [.int (mdB S (nI w) (nI i) N.2.1), .int (nI i), .ref (B + 22)]
          refine a_iload hb dX11_firstByRule_77 1 rfl ?_
          refine a_if_eq hb 89 dX11_firstByRule_79 (by decide) (fun c79_2 => absurd c79_2 (by decide)) (fun c79_2 => ?_)
          refine a_aload_n hb dX11_firstByRule_82 rfl 3 rfl ?_
          refine a_getI hb dX11_firstByRule_83 (by rw [ow]; exact fl_RX11_170_10) polh1_0.2.1 ?_
          rw [polh1_0.2.2.2.1]
          show AW V 0 0 h1 86 [(5, .int ((S (188 + w) - (beS S (fun t => dmS P S (fun _ => 0) hl (nI t) N.1) w N.2.1 lg m (nI w) r c i).2.1) - 1)), (8, .int 1), (0, .ref B), (1, .ref q), (2, .int r), (3, .int (nI m)), (4, .int c), (6, .int ((beS S (fun t => dmS P S (fun _ => 0) hl (nI t) N.1) w N.2.1 lg m (nI w) r c i).2.2.1.toInt32)), (7, .int (nI i))] [.int (S (183 + w)), .int (mdB S (nI w) (nI i) N.2.1), .int (nI i), .ref (B + 22)]
          refine a_goto hb 90 dX11_firstByRule_86 (by decide) ?_
          refine a_iadd hb dX11_firstByRule_90 ?_
          refine b_iast (j := i) hb dX11_firstByRule_91 (hClh1.1.1.1 22 (by decide)) (IX.n (by omega)) (by omega) ?_
          generalize eh : (setI h1 (B + 22) i ((mdB S (nI w) (nI i) N.2.1) + (S (183 + w)))) = hw
          have hFw : FR (Xq B vq) h hw := by rw [← eh]; exact (FR.I hFh1 (by unfold Xq; omega))
          have hWv : hI hw (B + 22) i = ((mdB S (nI w) (nI i) N.2.1) + (S (183 + w))) := by rw [← eh, hI_setI_s, upd_s]
          have hWn : ∀ b, b ≠ B + 22 → hI hw b = hI h1 b := fun b hb_ => by rw [← eh, hI_setI_n hb_]
          clear eh
          have hCw : CX g hw B vq lq hl S N P := hC.fr (FR.mo (A := Xq B vq) (A' := Ay B vq) hFw (by intro a; unfold Xq Ay; omega))
          have pow_0 : WO hw B S w q := po.fr (FR.mo (A := Xq B vq) (A' := Ay B vq) hFw (by intro a; unfold Xq Ay; omega)) hC.2.1.2.2.2.2.2.2
          show AW V 0 0 hw 92 [(5, .int ((S (188 + w) - (beS S (fun t => dmS P S (fun _ => 0) hl (nI t) N.1) w N.2.1 lg m (nI w) r c i).2.1) - 1)), (8, .int 1), (0, .ref B), (1, .ref q), (2, .int r), (3, .int (nI m)), (4, .int c), (6, .int ((beS S (fun t => dmS P S (fun _ => 0) hl (nI t) N.1) w N.2.1 lg m (nI w) r c i).2.2.1.toInt32)), (7, .int (nI i))] []
          refine a_iload hb dX11_firstByRule_92 7 rfl ?_
          refine a_aload_n hb dX11_firstByRule_94 rfl 2 rfl ?_
          refine a_iload hb dX11_firstByRule_95 8 rfl ?_
          refine a_aload_n hb dX11_firstByRule_97 rfl 2 rfl ?_
          refine a_getQ (q := (B + 1)) hb dX11_firstByRule_98 (by rw [ow]; exact fl_RX11_12_11) (hCw.1.1.1 0 (by decide)) (hCw.1.1.2.1 (0, 0, 1) (by decide)) ?_
          refine a_getQ (q := (B + 9)) hb dX11_firstByRule_101 (by rw [ow]; exact fl_RX11_96_7) (hCw.1.1.1 1 (by decide)) (hCw.1.1.2.1 (1, 12, 9) (by decide)) ?_
          refine a_iconst (v := 2) hb dX11_firstByRule_104 (by decide) ?_
          refine b_iald (j := 2) hb dX11_firstByRule_105 (hCw.1.1.1 9 (by decide)) ⟨by decide, by decide⟩ (by decide) ?_
          rw [hCw.1.st (i := 2) (by decide)]
          show AW V 0 0 hw 106 [(5, .int ((S (188 + w) - (beS S (fun t => dmS P S (fun _ => 0) hl (nI t) N.1) w N.2.1 lg m (nI w) r c i).2.1) - 1)), (8, .int 1), (0, .ref B), (1, .ref q), (2, .int r), (3, .int (nI m)), (4, .int c), (6, .int ((beS S (fun t => dmS P S (fun _ => 0) hl (nI t) N.1) w N.2.1 lg m (nI w) r c i).2.2.1.toInt32)), (7, .int (nI i))] [.int (S 7), .int (nI i), .ref B, .int ((beS S (fun t => dmS P S (fun _ => 0) hl (nI t) N.1) w N.2.1 lg m (nI w) r c i).2.2.1.toInt32)]
          refine a_callV hb dX11_firstByRule_106 (by rw [hg]; exact x_pushAt g hw B vq lq hl S N P hCw i (by omega) (S 7) hC.1.r7) (by rw [ow]; exact clv_RX11_197) (hCw.1.1.1 0 (by decide)) (by decide) rfl rfl rfl (Nat.le_of_ble_eq_true rfl) (by rw [hr]; exact ⟨by decide, by decide⟩) (by rw [hr]; exact ⟨Nat.le_of_ble_eq_true rfl, Nat.le_of_ble_eq_true rfl⟩) ?_
          intro rv h' hq_
          rw [hq_.1, hq_.2]
          show AW V 0 0 hw 109 [(5, .int ((S (188 + w) - (beS S (fun t => dmS P S (fun _ => 0) hl (nI t) N.1) w N.2.1 lg m (nI w) r c i).2.1) - 1)), (8, .int 1), (0, .ref B), (1, .ref q), (2, .int r), (3, .int (nI m)), (4, .int c), (6, .int ((beS S (fun t => dmS P S (fun _ => 0) hl (nI t) N.1) w N.2.1 lg m (nI w) r c i).2.2.1.toInt32)), (7, .int (nI i))] [.int (psh (hI hw (B + 22)) (hI hw (B + 21)) (S 7) i), .int ((beS S (fun t => dmS P S (fun _ => 0) hl (nI t) N.1) w N.2.1 lg m (nI w) r c i).2.2.1.toInt32)]
          rw [show psh (hI hw (B + 22)) (hI hw (B + 21)) (S 7) i = ((mdB S (nI w) (nI i) N.2.1 + S (183 + w)) - (dmS P S (fun _ => 0) hl (nI i) N.1)) * 10 / S 7 from by unfold psh; rw [hWv, show hI hw (B + 21) = hI h (B + 21) from hFw.2.2.2.2 _ (by unfold Xq; omega), hD i (by omega)]]
          show AW V 0 0 hw 109 [(5, .int ((S (188 + w) - (beS S (fun t => dmS P S (fun _ => 0) hl (nI t) N.1) w N.2.1 lg m (nI w) r c i).2.1) - 1)), (8, .int 1), (0, .ref B), (1, .ref q), (2, .int r), (3, .int (nI m)), (4, .int c), (6, .int ((beS S (fun t => dmS P S (fun _ => 0) hl (nI t) N.1) w N.2.1 lg m (nI w) r c i).2.2.1.toInt32)), (7, .int (nI i))] [.int (((mdB S (nI w) (nI i) N.2.1 + S (183 + w)) - (dmS P S (fun _ => 0) hl (nI i) N.1)) * 10 / S 7), .int ((beS S (fun t => dmS P S (fun _ => 0) hl (nI t) N.1) w N.2.1 lg m (nI w) r c i).2.2.1.toInt32)]
          refine a_iadd hb dX11_firstByRule_109 ?_
          have bX : -20000 ≤ (mdB S (nI w) (nI i) N.2.1 + S (183 + w)).toInt ∧ (mdB S (nI w) (nI i) N.2.1 + S (183 + w)).toInt ≤ 20000 := by have a := hC.md (nI w) (nI i); rw [ti_add (by first | omega | (rw [t0]; omega)) (by first | omega | (rw [t0]; omega))]; first | omega | (rw [t0]; omega)
          have bY : -20000 ≤ (dmS P S (fun _ => 0) hl (nI i) N.1).toInt ∧ (dmS P S (fun _ => 0) hl (nI i) N.1).toInt ≤ 20000 := by have a := hC.dm (fun _ => 0) (nI i); omega
          have hbt := be_t (b := (beS S (fun t => dmS P S (fun _ => 0) hl (nI t) N.1) w N.2.1 lg m (nI w) r c i).2.2.1) (M := 400000 * (i : Int)) (ine := S 7) (by omega) ⟨iv4, iv5⟩ bX bY hC.1.r7
          have eT : beT S (fun t => dmS P S (fun _ => 0) hl (nI t) N.1) w N.2.1 (nI w) i (beS S (fun t => dmS P S (fun _ => 0) hl (nI t) N.1) w N.2.1 lg m (nI w) r c i) = (beS S (fun t => dmS P S (fun _ => 0) hl (nI t) N.1) w N.2.1 lg m (nI w) r c i).2.2.1 + ((mdB S (nI w) (nI i) N.2.1 + S (183 + w)) - (dmS P S (fun _ => 0) hl (nI i) N.1)).toInt64 * 10 / (S 7).toInt64 := by unfold beT; rw [eP]
          rw [← eT] at hbt
          generalize hbv : ((beS S (fun t => dmS P S (fun _ => 0) hl (nI t) N.1) w N.2.1 lg m (nI w) r c i).2.2.1.toInt32) + ((mdB S (nI w) (nI i) N.2.1 + S (183 + w)) - (dmS P S (fun _ => 0) hl (nI i) N.1)) * 10 / S 7 = bv at hbt ⊢
          obtain ⟨hb1, hb2, hb3⟩ := hbt
          have hb4 : bv.toInt = (beT S (fun t => dmS P S (fun _ => 0) hl (nI t) N.1) w N.2.1 (nI w) i (beS S (fun t => dmS P S (fun _ => 0) hl (nI t) N.1) w N.2.1 lg m (nI w) r c i)).toInt := by rw [← hb1, ti64]
          have hbs := ab_j (b := bv) (c := c) (by omega) (by omega)
          rw [hb1] at hbs
          have e1_ : (beS S (fun t => dmS P S (fun _ => 0) hl (nI t) N.1) w N.2.1 lg m (nI w) r c (i + 1)).2.2.1 = beT S (fun t => dmS P S (fun _ => 0) hl (nI t) N.1) w N.2.1 (nI w) i (beS S (fun t => dmS P S (fun _ => 0) hl (nI t) N.1) w N.2.1 lg m (nI w) r c i) := rfl
          have e2_ : (beS S (fun t => dmS P S (fun _ => 0) hl (nI t) N.1) w N.2.1 lg m (nI w) r c (i + 1)).2.2.2 = beF S (fun t => dmS P S (fun _ => 0) hl (nI t) N.1) w N.2.1 (nI w) c i (beS S (fun t => dmS P S (fun _ => 0) hl (nI t) N.1) w N.2.1 lg m (nI w) r c i) := rfl
          have e3_ : (beS S (fun t => dmS P S (fun _ => 0) hl (nI t) N.1) w N.2.1 lg m (nI w) r c (i + 1)).2.1 = (beS S (fun t => dmS P S (fun _ => 0) hl (nI t) N.1) w N.2.1 lg m (nI w) r c i).2.1 + beG S w i (beS S (fun t => dmS P S (fun _ => 0) hl (nI t) N.1) w N.2.1 lg m (nI w) r c i) := rfl
          show AW V 0 0 hw 110 [(5, .int ((S (188 + w) - (beS S (fun t => dmS P S (fun _ => 0) hl (nI t) N.1) w N.2.1 lg m (nI w) r c i).2.1) - 1)), (8, .int 1), (0, .ref B), (1, .ref q), (2, .int r), (3, .int (nI m)), (4, .int c), (6, .int ((beS S (fun t => dmS P S (fun _ => 0) hl (nI t) N.1) w N.2.1 lg m (nI w) r c i).2.2.1.toInt32)), (7, .int (nI i))] [.int bv]
          refine a_istore (L' := [(6, .int bv), (5, .int ((S (188 + w) - (beS S (fun t => dmS P S (fun _ => 0) hl (nI t) N.1) w N.2.1 lg m (nI w) r c i).2.1) - 1)), (8, .int 1), (0, .ref B), (1, .ref q), (2, .int r), (3, .int (nI m)), (4, .int c), (7, .int (nI i))]) hb dX11_firstByRule_110 (by rw [hml]; decide) rfl ?_
          refine a_iload hb dX11_firstByRule_112 0 rfl ?_
          refine a_mabs hb dX11_firstByRule_114 (by rw [ow]; exact kw_799) kw_800 kw_94 kw_801 (by rw [hr]; exact ⟨by decide, Nat.le_of_ble_eq_true rfl⟩) (by rw [hr]; exact ⟨Nat.le_of_ble_eq_true rfl, Nat.le_of_ble_eq_true rfl⟩) ?_
          refine a_iload hb dX11_firstByRule_117 7 rfl ?_
          refine a_icmp_le hb 125 dX11_firstByRule_119 (by decide) (fun c119_2 => ?_) (fun c119_2 => ?_)
          · refine a_iload hb dX11_firstByRule_125 0 rfl ?_
            refine a_iload_n hb dX11_firstByRule_127 rfl 5 rfl ?_
            refine a_ineg hb dX11_firstByRule_128 ?_
            refine a_icmp_ge hb 146 dX11_firstByRule_129 (by decide) (fun c129_3 => ?_) (fun c129_3 => ?_)
            · refine a_iinc (v := ((nI i) + 1)) (L' := [(7, .int ((nI i) + 1)), (6, .int bv), (5, .int ((S (188 + w) - (beS S (fun t => dmS P S (fun _ => 0) hl (nI t) N.1) w N.2.1 lg m (nI w) r c i).2.1) - 1)), (8, .int 1), (0, .ref B), (1, .ref q), (2, .int r), (3, .int (nI m)), (4, .int c)]) hb dX11_firstByRule_146 8 rfl rfl (by rw [hml]; decide) rfl ?_
              refine a_goto hb 20 dX11_firstByRule_149 (by decide) ?_
              refine AW.sub (L' := [(0, .ref B), (1, .ref q), (2, .int r), (3, .int (nI m)), (4, .int c), (5, .int ((S (188 + w) - (beS S (fun t => dmS P S (fun _ => 0) hl (nI t) N.1) w N.2.1 lg m (nI w) r c i).2.1) - 1)), (6, .int bv), (7, .int ((nI i) + 1))]) [4, 5, 6, 7, 8, 2, 1, 0] rfl ?_
              exact AW.eq (ih (i + 1) hw hFw (⟨fun j hj => by rw [show (beS S (fun t => dmS P S (fun _ => 0) hl (nI t) N.1) w N.2.1 lg m (nI w) r c (i + 1)).1 = (beS S (fun t => dmS P S (fun _ => 0) hl (nI t) N.1) w N.2.1 lg m (nI w) r c i).1 from if_neg (fun q => Int32.not_lt.mpr c129_3 (lt64.mpr (by rw [hb1]; exact q))), hWn (B + 24) (by omega)]; exact iv1 j hj, by rw [e2_, beF, if_neg (fun q => Int32.not_lt.mpr c119_2 (hbs.mpr q.2)), iv2], ⟨gN + 1, hgs, by rw [e3_, eG, eg, nI_1]⟩, by rw [e1_]; omega, by rw [e1_]; omega⟩) (by omega)) rfl rfl (by rw [show S (188 + w) - (beS S (fun t => dmS P S (fun _ => 0) hl (nI t) N.1) w N.2.1 lg m (nI w) r c (i + 1)).2.1 = _ from by rw [e3_, eG]]; rw [e1_, ← hb1, t32_64, nI_1]; first | rfl | (simp only [Int32.sub_eq_add_neg, Int32.neg_add, Int32.add_assoc]; done) | (rw [Int32.add_zero, Int32.sub_zero])) rfl
            · refine a_aload_n hb dX11_firstByRule_132 rfl 3 rfl ?_
              refine a_iload hb dX11_firstByRule_133 8 rfl ?_
              refine a_iconst (v := 1) hb dX11_firstByRule_135 (by decide) ?_
              refine a_iadd hb dX11_firstByRule_136 ?_
              refine a_aload_n hb dX11_firstByRule_137 rfl 4 rfl ?_
              refine a_getI hb dX11_firstByRule_138 (by rw [ow]; exact fl_RX11_167_10) pow_0.2.1 ?_
              rw [pow_0.2.2.1]
              show AW V 0 0 hw 141 [(6, .int bv), (5, .int ((S (188 + w) - (beS S (fun t => dmS P S (fun _ => 0) hl (nI t) N.1) w N.2.1 lg m (nI w) r c i).2.1) - 1)), (8, .int 1), (0, .ref B), (1, .ref q), (2, .int r), (3, .int (nI m)), (4, .int c), (7, .int (nI i))] [.int (S (178 + w)), .int ((nI i) + 1), .ref B]
              rw [el]
              show AW V 0 0 hw 141 [(6, .int bv), (5, .int ((S (188 + w) - (beS S (fun t => dmS P S (fun _ => 0) hl (nI t) N.1) w N.2.1 lg m (nI w) r c i).2.1) - 1)), (8, .int 1), (0, .ref B), (1, .ref q), (2, .int r), (3, .int (nI m)), (4, .int c), (7, .int (nI i))] [.int (nI lg), .int ((nI i) + 1), .ref B]
              refine a_iadd hb dX11_firstByRule_141 ?_
              rw [show nI i + 1 + nI lg = nI (i + 1 + lg) from by rw [nI_1, nI_add]]
              show AW V 0 0 hw 142 [(6, .int bv), (5, .int ((S (188 + w) - (beS S (fun t => dmS P S (fun _ => 0) hl (nI t) N.1) w N.2.1 lg m (nI w) r c i).2.1) - 1)), (8, .int 1), (0, .ref B), (1, .ref q), (2, .int r), (3, .int (nI m)), (4, .int c), (7, .int (nI i))] [.int (nI (i + 1 + lg)), .ref B]
              refine a_iload_n hb dX11_firstByRule_142 rfl 6 rfl ?_
              refine a_callV hb dX11_firstByRule_143 (by rw [hg]; exact x_markDue g hw B vq lq hl S N P hCw (i + 1 + lg) m (by omega) (by omega)) (by rw [ow]; exact clv_RX11_332) (hCw.1.1.1 0 (by decide)) (by decide) rfl rfl rfl (Nat.le_of_ble_eq_true rfl) (by rw [hr]; exact ⟨by decide, by decide⟩) (by rw [hr]; exact ⟨Nat.le_of_ble_eq_true rfl, Nat.le_of_ble_eq_true rfl⟩) ?_
              intro rv h3_ hp
              obtain ⟨hv, hf3, hx3_0⟩ := hp
              rw [hv]
              have hF3 := FR.tr hFw (FR.mo (A := Xt B vq) (A' := Xq B vq) hf3 (by intro a; unfold Xt Xq; omega))
              have hC3 := hC.fr (FR.mo (A := Xq B vq) (A' := Ay B vq) hF3 (by intro a; unfold Xq Ay; omega))
              clear hv
              have po3_0 : WO h3_ B S w q := po.fr (FR.mo (A := Xq B vq) (A' := Ay B vq) hF3 (by intro a; unfold Xq Ay; omega)) hC.2.1.2.2.2.2.2.2
              show AW V 0 0 h3_ 146 [(6, .int bv), (5, .int ((S (188 + w) - (beS S (fun t => dmS P S (fun _ => 0) hl (nI t) N.1) w N.2.1 lg m (nI w) r c i).2.1) - 1)), (8, .int 1), (0, .ref B), (1, .ref q), (2, .int r), (3, .int (nI m)), (4, .int c), (7, .int (nI i))] []
              refine a_iinc (v := ((nI i) + 1)) (L' := [(7, .int ((nI i) + 1)), (6, .int bv), (5, .int ((S (188 + w) - (beS S (fun t => dmS P S (fun _ => 0) hl (nI t) N.1) w N.2.1 lg m (nI w) r c i).2.1) - 1)), (8, .int 1), (0, .ref B), (1, .ref q), (2, .int r), (3, .int (nI m)), (4, .int c)]) hb dX11_firstByRule_146 8 rfl rfl (by rw [hml]; decide) rfl ?_
              refine a_goto hb 20 dX11_firstByRule_149 (by decide) ?_
              refine AW.sub (L' := [(0, .ref B), (1, .ref q), (2, .int r), (3, .int (nI m)), (4, .int c), (5, .int ((S (188 + w) - (beS S (fun t => dmS P S (fun _ => 0) hl (nI t) N.1) w N.2.1 lg m (nI w) r c i).2.1) - 1)), (6, .int bv), (7, .int ((nI i) + 1))]) [4, 5, 6, 7, 8, 2, 1, 0] rfl ?_
              exact AW.eq (ih (i + 1) h3_ hF3 (⟨fun j hj => by rw [hx3_0 j hj, show (beS S (fun t => dmS P S (fun _ => 0) hl (nI t) N.1) w N.2.1 lg m (nI w) r c (i + 1)).1 = beD (beS S (fun t => dmS P S (fun _ => 0) hl (nI t) N.1) w N.2.1 lg m (nI w) r c i).1 (i + 1 + lg) m from if_pos (by have z := lt64.mp (Int32.not_le.mp c129_3); rw [hb1] at z; exact z)]; unfold beD; split; rfl; rw [hWn (B + 24) (by omega)]; exact iv1 j hj, by rw [e2_, beF, if_neg (fun q => Int32.not_lt.mpr c119_2 (hbs.mpr q.2)), iv2], ⟨gN + 1, hgs, by rw [e3_, eG, eg, nI_1]⟩, by rw [e1_]; omega, by rw [e1_]; omega⟩) (by omega)) rfl rfl (by rw [show S (188 + w) - (beS S (fun t => dmS P S (fun _ => 0) hl (nI t) N.1) w N.2.1 lg m (nI w) r c (i + 1)).2.1 = _ from by rw [e3_, eG]]; rw [e1_, ← hb1, t32_64, nI_1]; first | rfl | (simp only [Int32.sub_eq_add_neg, Int32.neg_add, Int32.add_assoc]; done) | (rw [Int32.add_zero, Int32.sub_zero])) rfl
          · refine a_iload hb dX11_firstByRule_122 8 rfl ?_
            exact a_ireturn (ty := .int) hb hz dX11_firstByRule_124 hret rfl (by rw [hr]; exact Nat.le_of_ble_eq_true rfl) (by rw [hr]; exact Nat.le_of_ble_eq_true rfl) (⟨by rw [← hR, show 40 = i + 1 + (39 - i) by omega, be_kp (by rw [e2_]; exact if_pos ⟨iv2, hbs.mp (Int32.not_le.mp c119_2)⟩) (by omega)], hFw⟩)
  refine a_aload_n hb dX11_firstByRule_0 rfl 0 rfl ?_
  refine a_getQ (q := (B + 24)) hb dX11_firstByRule_1 (by rw [ow]; exact fl_RX11_42_11) (hC.1.1.1 0 (by decide)) (hC.1.1.2.1 (0, 7, 24) (by decide)) ?_
  refine a_iconst (v := 0) hb dX11_firstByRule_4 (by decide) ?_
  refine a_callS hb dX11_firstByRule_5 (by rw [hg]; exact x_fill g h B vq lq hl S N P hC) (by rw [ow]; exact cls_RX11_329) rfl rfl (Nat.le_of_ble_eq_true rfl) (by rw [hr]; exact ⟨by decide, by decide⟩) (by rw [hr]; exact ⟨Nat.le_of_ble_eq_true rfl, Nat.le_of_ble_eq_true rfl⟩) ?_
  intro rv h1_ hp
  obtain ⟨hv, hf1, hx1_0⟩ := hp
  rw [hv]
  have hF1 := FR.tr FR.rf (FR.mo (A := Xt B vq) (A' := Xq B vq) hf1 (by intro a; unfold Xt Xq; omega))
  have hC1 := hC.fr (FR.mo (A := Xq B vq) (A' := Ay B vq) hF1 (by intro a; unfold Xq Ay; omega))
  clear hv
  have po1_0 : WO h1_ B S w q := po.fr (FR.mo (A := Xq B vq) (A' := Ay B vq) hF1 (by intro a; unfold Xq Ay; omega)) hC.2.1.2.2.2.2.2.2
  show AW V 0 0 h1_ 8 [(0, .ref B), (1, .ref q), (2, .int r), (3, .int (nI m)), (4, .int c)] []
  refine a_aload_n hb dX11_firstByRule_8 rfl 1 rfl ?_
  refine a_getI hb dX11_firstByRule_9 (by rw [ow]; exact fl_RX11_173_10) po1_0.2.1 ?_
  rw [po1_0.2.2.2.2.1]
  show AW V 0 0 h1_ 12 [(0, .ref B), (1, .ref q), (2, .int r), (3, .int (nI m)), (4, .int c)] [.int (S (188 + w))]
  refine a_istore (L' := [(5, .int (S (188 + w))), (0, .ref B), (1, .ref q), (2, .int r), (3, .int (nI m)), (4, .int c)]) hb dX11_firstByRule_12 (by rw [hml]; decide) rfl ?_
  refine a_iconst (v := 0) hb dX11_firstByRule_14 (by decide) ?_
  refine a_istore (L' := [(6, .int 0), (5, .int (S (188 + w))), (0, .ref B), (1, .ref q), (2, .int r), (3, .int (nI m)), (4, .int c)]) hb dX11_firstByRule_15 (by rw [hml]; decide) rfl ?_
  refine a_iconst (v := 0) hb dX11_firstByRule_17 (by decide) ?_
  refine a_istore (L' := [(7, .int 0), (6, .int 0), (5, .int (S (188 + w))), (0, .ref B), (1, .ref q), (2, .int r), (3, .int (nI m)), (4, .int c)]) hb dX11_firstByRule_18 (by rw [hml]; decide) rfl ?_
  refine AW.sub (L' := [(0, .ref B), (1, .ref q), (2, .int r), (3, .int (nI m)), (4, .int c), (5, .int (S (188 + w))), (6, .int 0), (7, .int 0)]) [3, 4, 5, 6, 7, 2, 1, 0] rfl ?_
  exact AW.eq (loop 40 0 h1_ hF1 ⟨fun j hj => hx1_0 j hj, rfl, ⟨0, by omega, rfl⟩, by show -(400000 * (0 : Int)) ≤ (0 : Int64).toInt; decide, by show (0 : Int64).toInt ≤ 400000 * (0 : Int); decide⟩ (by omega)) rfl rfl (by rw [show S (188 + w) - (beS S (fun t => dmS P S (fun _ => 0) hl (nI t) N.1) w N.2.1 lg m (nI w) r c 0).2.1 = S (188 + w) from Int32.sub_zero _]; rfl) rfl
