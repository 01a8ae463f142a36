/-! ===== the class: works, sums ===== -/
def mn (n s : Int32) : Int32 := if s < n then s else n
theorem mn_gv {a b : Int32} : mn a b = if a < b then a else b := by
  unfold mn
  by_cases h : b < a
  · rw [if_pos h, if_neg (fun q => Int32.lt_irrefl (Int32.lt_trans h q))]
  · rw [if_neg h]
    by_cases q : a < b
    · rw [if_pos q]
    · rw [if_neg q]; exact Int32.le_antisymm (Int32.not_lt.mp h) (Int32.not_lt.mp q)
def wgS (S : Nat → Int32) (w : Nat) (tick n t : Int32) : Int32 := if t < tick + S (178 + w) then 0 else if tick + S (178 + w) + mn n (S (188 + w)) ≤ t then 0 else S (183 + w)
theorem oO_ti {x lo hi : Int32} (h : oO x lo hi = false) : lo.toInt ≤ x.toInt ∧ x.toInt ≤ hi.toInt := by
  simp only [oO, Bool.or_eq_false_iff, decide_eq_false_iff_not, Int32.not_lt] at h
  exact ⟨Int32.le_iff_toInt_le.mp h.1, Int32.le_iff_toInt_le.mp h.2⟩
theorem t0 : (0 : Int32).toInt = 0 := by decide
theorem t1 : (1 : Int32).toInt = 1 := by decide
theorem t9 : (9 : Int32).toInt = 9 := by decide
theorem t10 : (10 : Int32).toInt = 10 := by decide
theorem t39 : (39 : Int32).toInt = 39 := by decide
theorem t40 : (40 : Int32).toInt = 40 := by decide
theorem t99 : (99 : Int32).toInt = 99 := by decide
theorem t999 : (999 : Int32).toInt = 999 := by decide
theorem ti_add {a b : Int32} (h1 : -2147483648 ≤ a.toInt + b.toInt) (h2 : a.toInt + b.toInt ≤ 2147483647) : (a + b).toInt = a.toInt + b.toInt := by
  rw [Int32.toInt_add]; exact Int.bmod_eq_of_le (by omega) (by omega)
theorem ti_sub {a b : Int32} (h1 : -2147483648 ≤ a.toInt - b.toInt) (h2 : a.toInt - b.toInt ≤ 2147483647) : (a - b).toInt = a.toInt - b.toInt := by
  rw [Int32.toInt_sub]; exact Int.bmod_eq_of_le (by omega) (by omega)
theorem ti_mul {a b : Int32} (h1 : -2147483648 ≤ a.toInt * b.toInt) (h2 : a.toInt * b.toInt ≤ 2147483647) : (a * b).toInt = a.toInt * b.toInt := by
  rw [Int32.toInt_mul]; exact Int.bmod_eq_of_le (by omega) (by omega)
theorem gv_r {S : Nat → Int32} {w : Nat} (h : RGw S w) : 0 ≤ (gv S w).toInt ∧ (gv S w).toInt ≤ 40 := by
  have a := oO_ti h.2.2.1
  have b := oO_ti h.2.2.2.2.2
  rw [t1, t40] at a
  rw [t0, t40] at b
  unfold gv
  split
  · exact b
  · exact ⟨by omega, a.2⟩
theorem wg_md {S : Nat → Int32} {w : Nat} {t : Int32} (h : RGw S w) : wgS S w (S (198 + w)) (S (203 + w)) t = if oO t (S (198 + w) + S (178 + w)) (S (198 + w) + S (178 + w) + gv S w - 1) then 0 else S (183 + w) := by
  have l := oO_ti h.1
  have f := oO_ti h.2.2.2.2.1
  have gg := gv_r h
  rw [t0, t9] at l
  rw [t0, t39] at f
  have e1 := ti_add (a := S (198 + w)) (b := S (178 + w)) (by omega) (by omega)
  have e2 := ti_add (a := S (198 + w) + S (178 + w)) (b := gv S w) (by omega) (by omega)
  have e3 := ti_sub (a := S (198 + w) + S (178 + w) + gv S w) (b := 1) (by rw [t1]; omega) (by rw [t1]; omega)
  rw [t1] at e3
  unfold wgS oO
  rw [mn_gv]
  change (if _ then _ else if S (198 + w) + S (178 + w) + gv S w ≤ t then _ else _) = _
  by_cases c1 : t < S (198 + w) + S (178 + w)
  · simp [c1]
  · rw [if_neg c1]
    by_cases c2 : S (198 + w) + S (178 + w) + gv S w ≤ t
    · have : S (198 + w) + S (178 + w) + gv S w - 1 < t := by
        rw [Int32.lt_iff_toInt_lt, e3]
        have := Int32.le_iff_toInt_le.mp c2
        omega
      simp [c2, this]
    · have : ¬ S (198 + w) + S (178 + w) + gv S w - 1 < t := fun q => c2 (by
        rw [Int32.le_iff_toInt_le]
        have := Int32.lt_iff_toInt_lt.mp q
        rw [e3] at this
        omega)
      simp [c1, c2, this]
theorem md_w {S : Nat → Int32} {w : Nat} {but t : Int32} (h : RGw S w) (c : ¬ nI w = but) : mdB S but t w + wgS S w (S (198 + w)) (S (203 + w)) t = mdB S but t (w + 1) := by
  show _ = mdB S but t w + mdW S but t w
  rw [mdW, if_neg c, wg_md h]
theorem md_0 {S : Nat → Int32} {w : Nat} {but t : Int32} (c : nI w = but) : mdB S but t w = mdB S but t (w + 1) := by
  show _ = mdB S but t w + mdW S but t w
  rw [mdW, if_pos c, Int32.add_zero]
def csB (S : Nat → Int32) (but : Int32) : Nat → Int32
  | 0 => 0
  | w + 1 => csB S but w + (if nI w = but then 0 else mn (S (203 + w)) (S (188 + w)) * S (193 + w))
theorem cs_w {S : Nat → Int32} {w : Nat} {but : Int32} (c : ¬ nI w = but) : csB S but w + mn (S (203 + w)) (S (188 + w)) * S (193 + w) = csB S but (w + 1) := by
  show _ = csB S but w + (if _ then _ else _)
  rw [if_neg c]
theorem cs_0 {S : Nat → Int32} {w : Nat} {but : Int32} (c : nI w = but) : csB S but w = csB S but (w + 1) := by
  show _ = csB S but w + (if _ then _ else _)
  rw [if_pos c, Int32.add_zero]
theorem csB_m {S : Nat → Int32} : ∀ n, n ≤ 5 → csB S (-1) n = cst S n
  | 0, _ => rfl
  | w + 1, h => by
    rw [← cs_w (fun q => nI_pos (n := w) (by omega) (by rw [q]; decide)), csB_m w (by omega), mn_gv]; rfl
set_option maxRecDepth 100000 in
theorem x_price (g : GG) (h : AH) (B : Nat) (S : Nat → Int32) (N : NN) (hX : XN h B S N) (w q : Nat) (hw : w < N.2.1) (po : WO h B S w q) (n : Int32) : AM g 1 0 0 mX10_price [.ref q, .int n] h (fun rv h' => rv = some (.int (mn n (S (188 + w)) * S (193 + w))) ∧ h' = h) := by
  refine AM.of [(0, .ref q), (1, .int n)] (by decide) (Nat.le_of_ble_eq_true rfl) rfl ?_
  intro V hV
  have hb : V.2.1.2.1 = cX10_price := by subst hV; rfl
  have ow : V.2.1.1.cls = RX10 := by subst hV; rfl
  have hr : V.2.2.1 = aw_rm 1 0 0 := by subst hV; rfl
  have hz : V.2.2.2 = aw_Z V.1 (fun rv h' => rv = some (.int (mn n (S (188 + w)) * S (193 + w))) ∧ h' = h) V.2.2.1 := by subst hV; rfl
  have hg : V.1 = g := by subst hV; rfl
  have hret : V.2.1.2.2.2 = (some .int) := by subst hV; rfl
  have hml : V.2.1.2.2.1 = 2 := by subst hV; rfl
  clear hV
  have hnp := hX.np
  have hnw := hX.nw
  refine a_iload_n hb dX10_price_0 rfl 1 rfl ?_
  refine a_aload_n hb dX10_price_1 rfl 0 rfl ?_
  refine a_getI hb dX10_price_2 (by rw [ow]; exact fl_RX10_16_10) po.2.1 ?_
  rw [po.2.2.2.2.1]
  show AW V 0 0 h 5 [(0, .ref q), (1, .int n)] [.int (S (188 + w)), .int n]
  refine a_mmin hb dX10_price_5 (by rw [ow]; exact kw_745) kw_407 kw_94 kw_408 (by rw [hr]; exact ⟨by decide, Nat.le_of_ble_eq_true rfl⟩) (by rw [hr]; exact ⟨Nat.le_of_ble_eq_true rfl, Nat.le_of_ble_eq_true rfl⟩) ?_
  refine a_aload_n hb dX10_price_8 rfl 0 rfl ?_
  refine a_getI hb dX10_price_9 (by rw [ow]; exact fl_RX10_19_10) po.2.1 ?_
  rw [po.2.2.2.2.2.1]
  show AW V 0 0 h 12 [(0, .ref q), (1, .int n)] [.int (S (193 + w)), .int (if (S (188 + w)) < n then (S (188 + w)) else n)]
  refine a_imul hb dX10_price_12 ?_
  exact a_ireturn (ty := .int) hb hz dX10_price_13 hret rfl (by rw [hr]; exact Nat.le_of_ble_eq_true rfl) (by rw [hr]; exact Nat.le_of_ble_eq_true rfl) (⟨rfl, rfl⟩)
set_option maxRecDepth 100000 in
theorem x_wouldGive (g : GG) (h : AH) (B : Nat) (S : Nat → Int32) (N : NN) (hX : XN h B S N) (w q : Nat) (hw : w < N.2.1) (po : WO h B S w q) (a n t : Int32) : AM g 1 0 0 mX10_wouldGive [.ref q, .int a, .int n, .int t] h (fun rv h' => rv = some (.int (wgS S w a n t)) ∧ h' = h) := by
  refine AM.of [(0, .ref q), (1, .int a), (2, .int n), (3, .int t)] (by decide) (Nat.le_of_ble_eq_true rfl) rfl ?_
  intro V hV
  have hb : V.2.1.2.1 = cX10_wouldGive := by subst hV; rfl
  have ow : V.2.1.1.cls = RX10 := by subst hV; rfl
  have hr : V.2.2.1 = aw_rm 1 0 0 := by subst hV; rfl
  have hz : V.2.2.2 = aw_Z V.1 (fun rv h' => rv = some (.int (wgS S w a n t)) ∧ h' = h) V.2.2.1 := by subst hV; rfl
  have hg : V.1 = g := by subst hV; rfl
  have hret : V.2.1.2.2.2 = (some .int) := by subst hV; rfl
  have hml : V.2.1.2.2.1 = 5 := by subst hV; rfl
  clear hV
  have hnp := hX.np
  have hnw := hX.nw
  refine a_iload_n hb dX10_wouldGive_0 rfl 1 rfl ?_
  refine a_aload_n hb dX10_wouldGive_1 rfl 0 rfl ?_
  refine a_getI hb dX10_wouldGive_2 (by rw [ow]; exact fl_RX10_7_10) po.2.1 ?_
  rw [po.2.2.1]
  show AW V 0 0 h 5 [(0, .ref q), (1, .int a), (2, .int n), (3, .int t)] [.int (S (178 + w)), .int a]
  refine a_iadd hb dX10_wouldGive_5 ?_
  refine a_istore (L' := [(4, .int (a + (S (178 + w)))), (0, .ref q), (1, .int a), (2, .int n), (3, .int t)]) hb dX10_wouldGive_6 (by rw [hml]; decide) rfl ?_
  refine a_iload_n hb dX10_wouldGive_8 rfl 4 rfl ?_
  refine a_iload hb dX10_wouldGive_9 0 rfl ?_
  refine a_icmp_lt hb 36 dX10_wouldGive_11 (by decide) (fun c11 => ?_) (fun c11 => ?_)
  · refine a_iconst (v := 0) hb dX10_wouldGive_36 (by decide) ?_
    exact a_ireturn (ty := .int) hb hz dX10_wouldGive_37 hret rfl (by rw [hr]; exact Nat.le_of_ble_eq_true rfl) (by rw [hr]; exact Nat.le_of_ble_eq_true rfl) (⟨by rw [wgS, if_pos c11], rfl⟩)
  · refine a_iload_n hb dX10_wouldGive_14 rfl 4 rfl ?_
    refine a_iload hb dX10_wouldGive_15 0 rfl ?_
    refine a_iload_n hb dX10_wouldGive_17 rfl 3 rfl ?_
    refine a_aload_n hb dX10_wouldGive_18 rfl 1 rfl ?_
    refine a_getI hb dX10_wouldGive_19 (by rw [ow]; exact fl_RX10_16_10) po.2.1 ?_
    rw [po.2.2.2.2.1]
    show AW V 0 0 h 22 [(4, .int (a + (S (178 + w)))), (0, .ref q), (1, .int a), (2, .int n), (3, .int t)] [.int (S (188 + w)), .int n, .int (a + (S (178 + w))), .int t]
    refine a_mmin hb dX10_wouldGive_22 (by rw [ow]; exact kw_745) kw_407 kw_94 kw_408 (by rw [hr]; exact ⟨by decide, Nat.le_of_ble_eq_true rfl⟩) (by rw [hr]; exact ⟨Nat.le_of_ble_eq_true rfl, Nat.le_of_ble_eq_true rfl⟩) ?_
    refine a_iadd hb dX10_wouldGive_25 ?_
    refine a_icmp_ge hb 36 dX10_wouldGive_26 (by decide) (fun c26 => ?_) (fun c26 => ?_)
    · refine a_iconst (v := 0) hb dX10_wouldGive_36 (by decide) ?_
      exact a_ireturn (ty := .int) hb hz dX10_wouldGive_37 hret rfl (by rw [hr]; exact Nat.le_of_ble_eq_true rfl) (by rw [hr]; exact Nat.le_of_ble_eq_true rfl) (⟨by rw [wgS, if_neg (Int32.not_lt.mpr (Int32.not_lt.mp c11)), mn, if_pos c26], rfl⟩)
    · refine a_aload_n hb dX10_wouldGive_29 rfl 1 rfl ?_
      refine a_getI hb dX10_wouldGive_30 (by rw [ow]; exact fl_RX10_13_10) po.2.1 ?_
      rw [po.2.2.2.1]
      show AW V 0 0 h 33 [(4, .int (a + (S (178 + w)))), (0, .ref q), (1, .int a), (2, .int n), (3, .int t)] [.int (S (183 + w))]
      refine a_goto hb 37 dX10_wouldGive_33 (by decide) ?_
      exact a_ireturn (ty := .int) hb hz dX10_wouldGive_37 hret rfl (by rw [hr]; exact Nat.le_of_ble_eq_true rfl) (by rw [hr]; exact Nat.le_of_ble_eq_true rfl) (⟨by rw [wgS, if_neg c11, mn, if_neg c26], rfl⟩)
set_option maxRecDepth 100000 in
theorem x_givesAt (g : GG) (h : AH) (B : Nat) (S : Nat → Int32) (N : NN) (hX : XN h B S N) (w q : Nat) (hw : w < N.2.1) (po : WO h B S w q) (t : Int32) : AM g 2 0 0 mX10_givesAt [.ref q, .int t] h (fun rv h' => rv = some (.int (wgS S w (S (198 + w)) (S (203 + w)) t)) ∧ h' = h) := by
  refine AM.of [(0, .ref q), (1, .int t)] (by decide) (Nat.le_of_ble_eq_true rfl) rfl ?_
  intro V hV
  have hb : V.2.1.2.1 = cX10_givesAt := by subst hV; rfl
  have ow : V.2.1.1.cls = RX10 := by subst hV; rfl
  have hr : V.2.2.1 = aw_rm 2 0 0 := by subst hV; rfl
  have hz : V.2.2.2 = aw_Z V.1 (fun rv h' => rv = some (.int (wgS S w (S (198 + w)) (S (203 + w)) t)) ∧ h' = h) V.2.2.1 := by subst hV; rfl
  have hg : V.1 = g := by subst hV; rfl
  have hret : V.2.1.2.2.2 = (some .int) := by subst hV; rfl
  have hml : V.2.1.2.2.1 = 2 := by subst hV; rfl
  clear hV
  have hnp := hX.np
  have hnw := hX.nw
  refine a_aload_n hb dX10_givesAt_0 rfl 0 rfl ?_
  refine a_aload_n hb dX10_givesAt_1 rfl 0 rfl ?_
  refine a_getI hb dX10_givesAt_2 (by rw [ow]; exact fl_RX10_22_10) po.2.1 ?_
  rw [po.2.2.2.2.2.2.1]
  show AW V 0 0 h 5 [(0, .ref q), (1, .int t)] [.int (S (198 + w)), .ref q]
  refine a_aload_n hb dX10_givesAt_5 rfl 0 rfl ?_
  refine a_getI hb dX10_givesAt_6 (by rw [ow]; exact fl_RX10_25_10) po.2.1 ?_
  rw [po.2.2.2.2.2.2.2]
  show AW V 0 0 h 9 [(0, .ref q), (1, .int t)] [.int (S (203 + w)), .int (S (198 + w)), .ref q]
  refine a_iload_n hb dX10_givesAt_9 rfl 1 rfl ?_
  refine a_callV hb dX10_givesAt_10 (by rw [hg]; exact x_wouldGive g h B S N hX w q (by omega) po (S (198 + w)) (S (203 + w)) t) (by rw [ow]; exact clv_RX10_34) po.2.1 (by decide) rfl rfl rfl (Nat.le_of_ble_eq_true rfl) (by rw [hr]; exact ⟨by decide, by decide⟩) (by rw [hr]; exact ⟨Nat.le_of_ble_eq_true rfl, Nat.le_of_ble_eq_true rfl⟩) ?_
  intro rv h' hq_
  rw [hq_.1, hq_.2]
  show AW V 0 0 h 13 [(0, .ref q), (1, .int t)] [.int (wgS S w (S (198 + w)) (S (203 + w)) t)]
  exact a_ireturn (ty := .int) hb hz dX10_givesAt_13 hret rfl (by rw [hr]; exact Nat.le_of_ble_eq_true rfl) (by rw [hr]; exact Nat.le_of_ble_eq_true rfl) (⟨rfl, rfl⟩)
set_option maxRecDepth 100000 in
theorem x_madeAt (g : GG) (h : AH) (B : Nat) (S : Nat → Int32) (N : NN) (hX : XN h B S N) (t lo : Int32) : AM g 3 0 0 mX11_madeAt [.ref B, .int t, .int lo] h (fun rv h' => rv = some (.int (mdB S lo t N.2.1)) ∧ h' = h) := by
  refine AM.of [(0, .ref B), (1, .int t), (2, .int lo)] (by decide) (Nat.le_of_ble_eq_true rfl) rfl ?_
  intro V hV
  have hb : V.2.1.2.1 = cX11_madeAt := by subst hV; rfl
  have ow : V.2.1.1.cls = RX11 := by subst hV; rfl
  have hr : V.2.2.1 = aw_rm 3 0 0 := by subst hV; rfl
  have hz : V.2.2.2 = aw_Z V.1 (fun rv h' => rv = some (.int (mdB S lo t N.2.1)) ∧ h' = h) V.2.2.1 := by subst hV; rfl
  have hg : V.1 = g := by subst hV; rfl
  have hret : V.2.1.2.2.2 = (some .int) := by subst hV; rfl
  have hml : V.2.1.2.2.1 = 5 := by subst hV; rfl
  clear hV
  have hnp := hX.np
  have hnw := hX.nw
  have loop : ∀ (k i : Nat), i + k = N.2.1 → AW V 0 0 h 5 [(0, .ref B), (1, .int t), (2, .int lo), (3, .int (mdB S lo t i)), (4, .int (nI i))] [] := by
    intro k
    induction k with
    | zero =>
      intro i hi
      refine a_iload hb dX11_madeAt_5 4 rfl ?_
      refine a_aload_n hb dX11_madeAt_7 rfl 0 rfl ?_
      refine a_getQ (q := (B + 1)) hb dX11_madeAt_8 (by rw [ow]; exact fl_RX11_12_11) (hX.1.1 0 (by decide)) (hX.1.2.1 (0, 0, 1) (by decide)) ?_
      refine a_getI hb dX11_madeAt_11 (by rw [ow]; exact fl_RX11_152_7) (hX.1.1 1 (by decide)) ?_
      rw [hX.f7]
      show AW V 0 0 h 14 [(0, .ref B), (1, .int t), (2, .int lo), (3, .int (mdB S lo t i)), (4, .int (nI i))] [.int (nI N.2.1), .int (nI i)]
      refine a_icmp_ge hb 46 dX11_madeAt_14 (by decide) (fun c14 => ?_) (fun c14 => absurd (nI_le (by omega) (by omega)) c14)
      refine a_iload_n hb dX11_madeAt_46 rfl 3 rfl ?_
      exact a_ireturn (ty := .int) hb hz dX11_madeAt_47 hret rfl (by rw [hr]; exact Nat.le_of_ble_eq_true rfl) (by rw [hr]; exact Nat.le_of_ble_eq_true rfl) (⟨by rw [show N.2.1 = i by omega], rfl⟩)
    | succ k ih =>
      intro i hi
      refine a_iload hb dX11_madeAt_5 4 rfl ?_
      refine a_aload_n hb dX11_madeAt_7 rfl 0 rfl ?_
      refine a_getQ (q := (B + 1)) hb dX11_madeAt_8 (by rw [ow]; exact fl_RX11_12_11) (hX.1.1 0 (by decide)) (hX.1.2.1 (0, 0, 1) (by decide)) ?_
      refine a_getI hb dX11_madeAt_11 (by rw [ow]; exact fl_RX11_152_7) (hX.1.1 1 (by decide)) ?_
      rw [hX.f7]
      show AW V 0 0 h 14 [(0, .ref B), (1, .int t), (2, .int lo), (3, .int (mdB S lo t i)), (4, .int (nI i))] [.int (nI N.2.1), .int (nI i)]
      refine a_icmp_ge hb 46 dX11_madeAt_14 (by decide) (fun c14 => absurd c14 (nI_ge (by omega) (by omega))) (fun c14 => ?_)
      refine a_iload hb dX11_madeAt_17 4 rfl ?_
      refine a_iload_n hb dX11_madeAt_19 rfl 2 rfl ?_
      refine a_icmp_eq hb 40 dX11_madeAt_20 (by decide) (fun c20 => ?_) (fun c20 => ?_)
      · refine a_iinc (v := ((nI i) + 1)) (L' := [(4, .int ((nI i) + 1)), (0, .ref B), (1, .int t), (2, .int lo), (3, .int (mdB S lo t i))]) hb dX11_madeAt_40 4 rfl rfl (by rw [hml]; decide) rfl ?_
        refine a_goto hb 5 dX11_madeAt_43 (by decide) ?_
        refine AW.sub (L' := [(0, .ref B), (1, .int t), (2, .int lo), (3, .int (mdB S lo t i)), (4, .int ((nI i) + 1))]) [1, 2, 3, 4, 0] rfl ?_
        exact AW.eq (ih (i + 1) (by omega)) rfl rfl (by first | (rw [← md_0 c20, nI_1]; done) | (rw [← md_w (hX.rw_ (by omega)) c20, nI_1]; done)) rfl
      · refine a_iload_n hb dX11_madeAt_23 rfl 3 rfl ?_
        refine a_aload_n hb dX11_madeAt_24 rfl 0 rfl ?_
        refine a_getQ (q := (B + 1)) hb dX11_madeAt_25 (by rw [ow]; exact fl_RX11_12_11) (hX.1.1 0 (by decide)) (hX.1.2.1 (0, 0, 1) (by decide)) ?_
        refine a_getQ (q := (B + 6)) hb dX11_madeAt_28 (by rw [ow]; exact fl_RX11_155_7) (hX.1.1 1 (by decide)) (hX.1.2.1 (1, 6, 6) (by decide)) ?_
        refine a_iload hb dX11_madeAt_31 4 rfl ?_
        obtain ⟨q1, hq1, po1⟩ := hX.ws (w := i) (by omega)
        refine b_aaldS (j := i) (q := q1) hb dX11_madeAt_33 (hX.1.1 6 (by decide)) (by decide) (by decide) (IX.n (by omega)) (by omega) hq1 ?_
        refine a_iload_n hb dX11_madeAt_34 rfl 1 rfl ?_
        refine a_callV hb dX11_madeAt_35 (by rw [hg]; exact x_givesAt g h B S N hX i q1 (by omega) po1 t) (by rw [ow]; exact clv_RX11_312) po1.2.1 (by decide) rfl rfl rfl (Nat.le_of_ble_eq_true rfl) (by rw [hr]; exact ⟨by decide, by decide⟩) (by rw [hr]; exact ⟨Nat.le_of_ble_eq_true rfl, Nat.le_of_ble_eq_true rfl⟩) ?_
        intro rv h' hq_
        rw [hq_.1, hq_.2]
        show AW V 0 0 h 38 [(0, .ref B), (1, .int t), (2, .int lo), (3, .int (mdB S lo t i)), (4, .int (nI i))] [.int (wgS S i (S (198 + i)) (S (203 + i)) t), .int (mdB S lo t i)]
        refine a_iadd hb dX11_madeAt_38 ?_
        refine a_istore_n (L' := [(3, .int ((mdB S lo t i) + (wgS S i (S (198 + i)) (S (203 + i)) t))), (0, .ref B), (1, .int t), (2, .int lo), (4, .int (nI i))]) hb dX11_madeAt_39 rfl (by rw [hml]; decide) rfl ?_
        refine a_iinc (v := ((nI i) + 1)) (L' := [(4, .int ((nI i) + 1)), (3, .int ((mdB S lo t i) + (wgS S i (S (198 + i)) (S (203 + i)) t))), (0, .ref B), (1, .int t), (2, .int lo)]) hb dX11_madeAt_40 4 rfl rfl (by rw [hml]; decide) rfl ?_
        refine a_goto hb 5 dX11_madeAt_43 (by decide) ?_
        refine AW.sub (L' := [(0, .ref B), (1, .int t), (2, .int lo), (3, .int ((mdB S lo t i) + (wgS S i (S (198 + i)) (S (203 + i)) t))), (4, .int ((nI i) + 1))]) [2, 3, 4, 1, 0] rfl ?_
        exact AW.eq (ih (i + 1) (by omega)) rfl rfl (by first | (rw [← md_0 c20, nI_1]; done) | (rw [← md_w (hX.rw_ (by omega)) c20, nI_1]; done)) rfl
  refine a_iconst (v := 0) hb dX11_madeAt_0 (by decide) ?_
  refine a_istore_n (L' := [(3, .int 0), (0, .ref B), (1, .int t), (2, .int lo)]) hb dX11_madeAt_1 rfl (by rw [hml]; decide) rfl ?_
  refine a_iconst (v := 0) hb dX11_madeAt_2 (by decide) ?_
  refine a_istore (L' := [(4, .int 0), (3, .int 0), (0, .ref B), (1, .int t), (2, .int lo)]) hb dX11_madeAt_3 (by rw [hml]; decide) rfl ?_
  refine AW.sub (L' := [(0, .ref B), (1, .int t), (2, .int lo), (3, .int 0), (4, .int 0)]) [2, 3, 4, 1, 0] rfl ?_
  exact AW.eq (loop N.2.1 0 (by omega)) rfl rfl (rfl) rfl
set_option maxRecDepth 100000 in
theorem x_costsBut (g : GG) (h : AH) (B : Nat) (S : Nat → Int32) (N : NN) (hX : XN h B S N) (lo : Int32) : AM g 2 0 0 mX11_costsBut [.ref B, .int lo] h (fun rv h' => rv = some (.int (csB S lo N.2.1)) ∧ h' = h) := by
  refine AM.of [(0, .ref B), (1, .int lo)] (by decide) (Nat.le_of_ble_eq_true rfl) rfl ?_
  intro V hV
  have hb : V.2.1.2.1 = cX11_costsBut := by subst hV; rfl
  have ow : V.2.1.1.cls = RX11 := by subst hV; rfl
  have hr : V.2.2.1 = aw_rm 2 0 0 := by subst hV; rfl
  have hz : V.2.2.2 = aw_Z V.1 (fun rv h' => rv = some (.int (csB S lo N.2.1)) ∧ h' = h) V.2.2.1 := by subst hV; rfl
  have hg : V.1 = g := by subst hV; rfl
  have hret : V.2.1.2.2.2 = (some .int) := by subst hV; rfl
  have hml : V.2.1.2.2.1 = 4 := by subst hV; rfl
  clear hV
  have hnp := hX.np
  have hnw := hX.nw
  have loop : ∀ (k i : Nat), i + k = N.2.1 → AW V 0 0 h 4 [(0, .ref B), (1, .int lo), (2, .int (csB S lo i)), (3, .int (nI i))] [] := by
    intro k
    induction k with
    | zero =>
      intro i hi
      refine a_iload_n hb dX11_costsBut_4 rfl 3 rfl ?_
      refine a_aload_n hb dX11_costsBut_5 rfl 0 rfl ?_
      refine a_getQ (q := (B + 1)) hb dX11_costsBut_6 (by rw [ow]; exact fl_RX11_12_11) (hX.1.1 0 (by decide)) (hX.1.2.1 (0, 0, 1) (by decide)) ?_
      refine a_getI hb dX11_costsBut_9 (by rw [ow]; exact fl_RX11_152_7) (hX.1.1 1 (by decide)) ?_
      rw [hX.f7]
      show AW V 0 0 h 12 [(0, .ref B), (1, .int lo), (2, .int (csB S lo i)), (3, .int (nI i))] [.int (nI N.2.1), .int (nI i)]
      refine a_icmp_ge hb 53 dX11_costsBut_12 (by decide) (fun c12 => ?_) (fun c12 => absurd (nI_le (by omega) (by omega)) c12)
      refine a_iload_n hb dX11_costsBut_53 rfl 2 rfl ?_
      exact a_ireturn (ty := .int) hb hz dX11_costsBut_54 hret rfl (by rw [hr]; exact Nat.le_of_ble_eq_true rfl) (by rw [hr]; exact Nat.le_of_ble_eq_true rfl) (⟨by rw [show N.2.1 = i by omega], rfl⟩)
    | succ k ih =>
      intro i hi
      refine a_iload_n hb dX11_costsBut_4 rfl 3 rfl ?_
      refine a_aload_n hb dX11_costsBut_5 rfl 0 rfl ?_
      refine a_getQ (q := (B + 1)) hb dX11_costsBut_6 (by rw [ow]; exact fl_RX11_12_11) (hX.1.1 0 (by decide)) (hX.1.2.1 (0, 0, 1) (by decide)) ?_
      refine a_getI hb dX11_costsBut_9 (by rw [ow]; exact fl_RX11_152_7) (hX.1.1 1 (by decide)) ?_
      rw [hX.f7]
      show AW V 0 0 h 12 [(0, .ref B), (1, .int lo), (2, .int (csB S lo i)), (3, .int (nI i))] [.int (nI N.2.1), .int (nI i)]
      refine a_icmp_ge hb 53 dX11_costsBut_12 (by decide) (fun c12 => absurd c12 (nI_ge (by omega) (by omega))) (fun c12 => ?_)
      refine a_iload_n hb dX11_costsBut_15 rfl 3 rfl ?_
      refine a_iload_n hb dX11_costsBut_16 rfl 1 rfl ?_
      refine a_icmp_eq hb 47 dX11_costsBut_17 (by decide) (fun c17 => ?_) (fun c17 => ?_)
      · refine a_iinc (v := ((nI i) + 1)) (L' := [(3, .int ((nI i) + 1)), (0, .ref B), (1, .int lo), (2, .int (csB S lo i))]) hb dX11_costsBut_47 3 rfl rfl (by rw [hml]; decide) rfl ?_
        refine a_goto hb 4 dX11_costsBut_50 (by decide) ?_
        refine AW.sub (L' := [(0, .ref B), (1, .int lo), (2, .int (csB S lo i)), (3, .int ((nI i) + 1))]) [1, 2, 3, 0] rfl ?_
        exact AW.eq (ih (i + 1) (by omega)) rfl rfl (by first | (rw [← cs_0 c17, nI_1]; done) | (rw [← cs_w c17, nI_1]; done)) rfl
      · refine a_iload_n hb dX11_costsBut_20 rfl 2 rfl ?_
        refine a_aload_n hb dX11_costsBut_21 rfl 0 rfl ?_
        refine a_getQ (q := (B + 1)) hb dX11_costsBut_22 (by rw [ow]; exact fl_RX11_12_11) (hX.1.1 0 (by decide)) (hX.1.2.1 (0, 0, 1) (by decide)) ?_
        refine a_getQ (q := (B + 6)) hb dX11_costsBut_25 (by rw [ow]; exact fl_RX11_155_7) (hX.1.1 1 (by decide)) (hX.1.2.1 (1, 6, 6) (by decide)) ?_
        refine a_iload_n hb dX11_costsBut_28 rfl 3 rfl ?_
        obtain ⟨q1, hq1, po1⟩ := hX.ws (w := i) (by omega)
        refine b_aaldS (j := i) (q := q1) hb dX11_costsBut_29 (hX.1.1 6 (by decide)) (by decide) (by decide) (IX.n (by omega)) (by omega) hq1 ?_
        refine a_aload_n hb dX11_costsBut_30 rfl 0 rfl ?_
        refine a_getQ (q := (B + 1)) hb dX11_costsBut_31 (by rw [ow]; exact fl_RX11_12_11) (hX.1.1 0 (by decide)) (hX.1.2.1 (0, 0, 1) (by decide)) ?_
        refine a_getQ (q := (B + 6)) hb dX11_costsBut_34 (by rw [ow]; exact fl_RX11_155_7) (hX.1.1 1 (by decide)) (hX.1.2.1 (1, 6, 6) (by decide)) ?_
        refine a_iload_n hb dX11_costsBut_37 rfl 3 rfl ?_
        obtain ⟨q2, hq2, po2⟩ := hX.ws (w := i) (by omega)
        refine b_aaldS (j := i) (q := q2) hb dX11_costsBut_38 (hX.1.1 6 (by decide)) (by decide) (by decide) (IX.n (by omega)) (by omega) hq2 ?_
        refine a_getI hb dX11_costsBut_39 (by rw [ow]; exact fl_RX11_315_10) po2.2.1 ?_
        rw [po2.2.2.2.2.2.2.2]
        show AW V 0 0 h 42 [(0, .ref B), (1, .int lo), (2, .int (csB S lo i)), (3, .int (nI i))] [.int (S (203 + i)), .ref q1, .int (csB S lo i)]
        refine a_callV hb dX11_costsBut_42 (by rw [hg]; exact x_price g h B S N hX i q1 (by omega) po1 (S (203 + i))) (by rw [ow]; exact clv_RX11_179) po1.2.1 (by decide) rfl rfl rfl (Nat.le_of_ble_eq_true rfl) (by rw [hr]; exact ⟨by decide, by decide⟩) (by rw [hr]; exact ⟨Nat.le_of_ble_eq_true rfl, Nat.le_of_ble_eq_true rfl⟩) ?_
        intro rv h' hq_
        rw [hq_.1, hq_.2]
        show AW V 0 0 h 45 [(0, .ref B), (1, .int lo), (2, .int (csB S lo i)), (3, .int (nI i))] [.int (mn (S (203 + i)) (S (188 + i)) * S (193 + i)), .int (csB S lo i)]
        refine a_iadd hb dX11_costsBut_45 ?_
        refine a_istore_n (L' := [(2, .int ((csB S lo i) + (mn (S (203 + i)) (S (188 + i)) * S (193 + i)))), (0, .ref B), (1, .int lo), (3, .int (nI i))]) hb dX11_costsBut_46 rfl (by rw [hml]; decide) rfl ?_
        refine a_iinc (v := ((nI i) + 1)) (L' := [(3, .int ((nI i) + 1)), (2, .int ((csB S lo i) + (mn (S (203 + i)) (S (188 + i)) * S (193 + i)))), (0, .ref B), (1, .int lo)]) hb dX11_costsBut_47 3 rfl rfl (by rw [hml]; decide) rfl ?_
        refine a_goto hb 4 dX11_costsBut_50 (by decide) ?_
        refine AW.sub (L' := [(0, .ref B), (1, .int lo), (2, .int ((csB S lo i) + (mn (S (203 + i)) (S (188 + i)) * S (193 + i)))), (3, .int ((nI i) + 1))]) [2, 3, 1, 0] rfl ?_
        exact AW.eq (ih (i + 1) (by omega)) rfl rfl (by first | (rw [← cs_0 c17, nI_1]; done) | (rw [← cs_w c17, nI_1]; done)) rfl
  refine a_iconst (v := 0) hb dX11_costsBut_0 (by decide) ?_
  refine a_istore_n (L' := [(2, .int 0), (0, .ref B), (1, .int lo)]) hb dX11_costsBut_1 rfl (by rw [hml]; decide) rfl ?_
  refine a_iconst (v := 0) hb dX11_costsBut_2 (by decide) ?_
  refine a_istore_n (L' := [(3, .int 0), (2, .int 0), (0, .ref B), (1, .int lo)]) hb dX11_costsBut_3 rfl (by rw [hml]; decide) rfl ?_
  refine AW.sub (L' := [(0, .ref B), (1, .int lo), (2, .int 0), (3, .int 0)]) [2, 3, 1, 0] rfl ?_
  exact AW.eq (loop N.2.1 0 (by omega)) rfl rfl (rfl) rfl
set_option maxRecDepth 100000 in
theorem x_demandAt (g : GG) (h : AH) (B vq lq hl : Nat) (S : Nat → Int32) (N : NN) (P : PF) (hC : CX g h B vq lq hl S N P) (t : Int32) : AM g 6 0 0 mX11_demandAt [.ref B, .int t] h (fun rv h' => rv = some (.int (dmS P S (fun _ => 0) hl t N.1)) ∧ FR (Xv B vq) h h') := by
  refine AM.of [(0, .ref B), (1, .int t)] (by decide) (Nat.le_of_ble_eq_true rfl) rfl ?_
  intro V hV
  have hb : V.2.1.2.1 = cX11_demandAt := by subst hV; rfl
  have ow : V.2.1.1.cls = RX11 := by subst hV; rfl
  have hr : V.2.2.1 = aw_rm 6 0 0 := by subst hV; rfl
  have hz : V.2.2.2 = aw_Z V.1 (fun rv h' => rv = some (.int (dmS P S (fun _ => 0) hl t N.1)) ∧ FR (Xv B vq) h h') V.2.2.1 := by subst hV; rfl
  have hg : V.1 = g := by subst hV; rfl
  have hret : V.2.1.2.2.2 = (some .int) := by subst hV; rfl
  have hml : V.2.1.2.2.1 = 5 := by subst hV; rfl
  clear hV
  have hvq : B + 62 ≤ vq := hC.2.1.2.2.2.2.2.1
  have hnp := hC.1.np
  have hnw := hC.1.nw
  have loop : ∀ (k i : Nat) (h1 : AH) (hFh1 : FR (Xv B vq) h h1), i + k = N.1 → AW V 0 0 h1 4 [(0, .ref B), (1, .int t), (2, .int (dmS P S (fun _ => 0) hl t i)), (3, .int (nI i))] [] := by
    intro k
    induction k with
    | zero =>
      intro i h1 hFh1 hi
      have hClh1 : CX g h1 B vq lq hl S N P := hC.fr (FR.mo (A := Xv B vq) (A' := Ay B vq) hFh1 (by intro a; unfold Xv Ay; omega))
      refine a_iload_n hb dX11_demandAt_4 rfl 3 rfl ?_
      refine a_aload_n hb dX11_demandAt_5 rfl 0 rfl ?_
      refine a_getQ (q := (B + 1)) hb dX11_demandAt_6 (by rw [ow]; exact fl_RX11_12_11) (hClh1.1.1.1 0 (by decide)) (hClh1.1.1.2.1 (0, 0, 1) (by decide)) ?_
      refine a_getI hb dX11_demandAt_9 (by rw [ow]; exact fl_RX11_61_7) (hClh1.1.1.1 1 (by decide)) ?_
      rw [hClh1.1.f3]
      show AW V 0 0 h1 12 [(0, .ref B), (1, .int t), (2, .int (dmS P S (fun _ => 0) hl t i)), (3, .int (nI i))] [.int (nI N.1), .int (nI i)]
      refine a_icmp_ge hb 52 dX11_demandAt_12 (by decide) (fun c12 => ?_) (fun c12 => absurd (nI_le (by omega) (by omega)) c12)
      refine a_iload_n hb dX11_demandAt_52 rfl 2 rfl ?_
      exact a_ireturn (ty := .int) hb hz dX11_demandAt_53 hret rfl (by rw [hr]; exact Nat.le_of_ble_eq_true rfl) (by rw [hr]; exact Nat.le_of_ble_eq_true rfl) (⟨by rw [show N.1 = i by omega], hFh1⟩)
    | succ k ih =>
      intro i h1 hFh1 hi
      have hClh1 : CX g h1 B vq lq hl S N P := hC.fr (FR.mo (A := Xv B vq) (A' := Ay B vq) hFh1 (by intro a; unfold Xv Ay; omega))
      refine a_iload_n hb dX11_demandAt_4 rfl 3 rfl ?_
      refine a_aload_n hb dX11_demandAt_5 rfl 0 rfl ?_
      refine a_getQ (q := (B + 1)) hb dX11_demandAt_6 (by rw [ow]; exact fl_RX11_12_11) (hClh1.1.1.1 0 (by decide)) (hClh1.1.1.2.1 (0, 0, 1) (by decide)) ?_
      refine a_getI hb dX11_demandAt_9 (by rw [ow]; exact fl_RX11_61_7) (hClh1.1.1.1 1 (by decide)) ?_
      rw [hClh1.1.f3]
      show AW V 0 0 h1 12 [(0, .ref B), (1, .int t), (2, .int (dmS P S (fun _ => 0) hl t i)), (3, .int (nI i))] [.int (nI N.1), .int (nI i)]
      refine a_icmp_ge hb 52 dX11_demandAt_12 (by decide) (fun c12 => absurd c12 (nI_ge (by omega) (by omega))) (fun c12 => ?_)
      refine a_aload_n hb dX11_demandAt_15 rfl 0 rfl ?_
      refine a_getQ (q := (B + 1)) hb dX11_demandAt_16 (by rw [ow]; exact fl_RX11_12_11) (hClh1.1.1.1 0 (by decide)) (hClh1.1.1.2.1 (0, 0, 1) (by decide)) ?_
      refine a_getQ (q := (B + 2)) hb dX11_demandAt_19 (by rw [ow]; exact fl_RX11_65_7) (hClh1.1.1.1 1 (by decide)) (hClh1.1.1.2.1 (1, 0, 2) (by decide)) ?_
      refine a_iload_n hb dX11_demandAt_22 rfl 3 rfl ?_
      obtain ⟨q1, hq1, po1⟩ := hC.1.ps (p := i) (by omega)
      have hr1 : hQ h1 (B + 2) i = some q1 := by rw [(hFh1).2.2.1]; exact hq1
      have pr1 : PO h1 B S i q1 := po1.fr (FR.mo (A := Xv B vq) (A' := Ay B vq) hFh1 (by intro a; unfold Xv Ay; omega)) hC.2.1.2.2.2.2.2.2
      refine b_aaldS (j := i) (q := q1) hb dX11_demandAt_23 (hClh1.1.1.1 2 (by decide)) (by decide) (by decide) (IX.n (by omega)) (by omega) hr1 ?_
      refine a_astore (L' := [(4, .ref q1), (0, .ref B), (1, .int t), (2, .int (dmS P S (fun _ => 0) hl t i)), (3, .int (nI i))]) hb dX11_demandAt_24 (by rw [hml]; decide) rfl ?_
      refine a_iload_n hb dX11_demandAt_26 rfl 3 rfl ?_
      refine a_aload hb dX11_demandAt_27 0 rfl ?_
      refine a_aload_n hb dX11_demandAt_29 rfl 1 rfl ?_
      refine a_getQ (q := (B + 1)) hb dX11_demandAt_30 (by rw [ow]; exact fl_RX11_12_11) (hClh1.1.1.1 0 (by decide)) (hClh1.1.1.2.1 (0, 0, 1) (by decide)) ?_
      refine a_aload hb dX11_demandAt_33 0 rfl ?_
      refine a_iload_n hb dX11_demandAt_35 rfl 2 rfl ?_
      refine a_iconst (v := 0) hb dX11_demandAt_36 (by decide) ?_
      have kont2 : ∀ rv h', (fun rv h' => rv = some (.int (t - S (138 + i) - 0)) ∧ h' = h1) rv h' → AW V 0 0 h' 40 [(4, .ref q1), (0, .ref B), (1, .int t), (2, .int (dmS P S (fun _ => 0) hl t i)), (3, .int (nI i))] (rv.toList ++ [.ref (B + 1), .ref q1, .int (dmS P S (fun _ => 0) hl t i)]) := by
        intro rv h' hq_
        rw [hq_.1, hq_.2]
        show AW V 0 0 h1 40 [(4, .ref q1), (0, .ref B), (1, .int t), (2, .int (dmS P S (fun _ => 0) hl t i)), (3, .int (nI i))] [.int (t - S (138 + i) - 0), .ref (B + 1), .ref q1, .int (dmS P S (fun _ => 0) hl t i)]
        refine a_iload_n hb dX11_demandAt_40 rfl 2 rfl ?_
        have kont3 : ∀ rv h', (fun rv h' => rv = some (.int (drS P S hl (S (130 + i)) (S (146 + i)) (S (154 + i)) (t - S (138 + i) - 0) t)) ∧ FR (Xv B vq) h1 h') rv h' → AW V 0 0 h' 44 [(4, .ref q1), (0, .ref B), (1, .int t), (2, .int (dmS P S (fun _ => 0) hl t i)), (3, .int (nI i))] (rv.toList ++ [.int (dmS P S (fun _ => 0) hl t i)]) := by
          intro rv h4_ hp
          obtain ⟨hv, hf4⟩ := hp
          rw [hv]
          have hF4 := FR.tr hFh1 hf4
          have hC4 := hC.fr (FR.mo (A := Xv B vq) (A' := Ay B vq) hF4 (by intro a; unfold Xv Ay; omega))
          clear hv
          have po4_0 : PO h4_ B S i q1 := po1.fr (FR.mo (A := Xv B vq) (A' := Ay B vq) hF4 (by intro a; unfold Xv Ay; omega)) hC.2.1.2.2.2.2.2.2
          show AW V 0 0 h4_ 44 [(4, .ref q1), (0, .ref B), (1, .int t), (2, .int (dmS P S (fun _ => 0) hl t i)), (3, .int (nI i))] [.int (drS P S hl (S (130 + i)) (S (146 + i)) (S (154 + i)) (t - S (138 + i) - 0) t), .int (dmS P S (fun _ => 0) hl t i)]
          refine a_iadd hb dX11_demandAt_44 ?_
          refine a_istore_n (L' := [(2, .int ((dmS P S (fun _ => 0) hl t i) + (drS P S hl (S (130 + i)) (S (146 + i)) (S (154 + i)) (t - S (138 + i) - 0) t))), (4, .ref q1), (0, .ref B), (1, .int t), (3, .int (nI i))]) hb dX11_demandAt_45 rfl (by rw [hml]; decide) rfl ?_
          refine a_iinc (v := ((nI i) + 1)) (L' := [(3, .int ((nI i) + 1)), (2, .int ((dmS P S (fun _ => 0) hl t i) + (drS P S hl (S (130 + i)) (S (146 + i)) (S (154 + i)) (t - S (138 + i) - 0) t))), (4, .ref q1), (0, .ref B), (1, .int t)]) hb dX11_demandAt_46 4 rfl rfl (by rw [hml]; decide) rfl ?_
          refine a_goto hb 4 dX11_demandAt_49 (by decide) ?_
          refine AW.sub (L' := [(0, .ref B), (1, .int t), (2, .int ((dmS P S (fun _ => 0) hl t i) + (drS P S hl (S (130 + i)) (S (146 + i)) (S (154 + i)) (t - S (138 + i) - 0) t))), (3, .int ((nI i) + 1))]) [3, 4, 1, 0] rfl ?_
          exact AW.eq (ih (i + 1) h4_ hF4 (by omega)) rfl rfl (by first | (simp only [nI_1]; done) | (simp only [nI_1]; rfl)) rfl
        rcases kd_c (hClh1.1.rp (p := i) (by omega)).1 with ek0 | ek1 | ek2 | ek3 | ek4 | ek5 | ek6
        · exact a_callU (len := 0) (kd := 2) hb dX11_demandAt_41 (by rw [hg]; exact x_dr0 g h1 B vq lq hl S N P hClh1 i q1 (by omega) pr1 ek0 (t - S (138 + i) - 0) t) (by rw [ow]; exact clu_RX11_144_2) (by have z := pr1.2.1; rw [ek0] at z; exact z) (by decide) rfl rfl rfl (Nat.le_of_ble_eq_true rfl) (by rw [hr]; exact ⟨by decide, by decide⟩) (by rw [hr]; exact ⟨Nat.le_of_ble_eq_true rfl, Nat.le_of_ble_eq_true rfl⟩) kont3
        · exact a_callU (len := 0) (kd := 9) hb dX11_demandAt_41 (by rw [hg]; exact x_dr1 g h1 B vq lq hl S N P hClh1 i q1 (by omega) pr1 ek1 (t - S (138 + i) - 0) t) (by rw [ow]; exact clu_RX11_144_9) (by have z := pr1.2.1; rw [ek1] at z; exact z) (by decide) rfl rfl rfl (Nat.le_of_ble_eq_true rfl) (by rw [hr]; exact ⟨by decide, by decide⟩) (by rw [hr]; exact ⟨Nat.le_of_ble_eq_true rfl, Nat.le_of_ble_eq_true rfl⟩) kont3
        · exact a_callU (len := 0) (kd := 0) hb dX11_demandAt_41 (by rw [hg]; exact x_dr2 g h1 B vq lq hl S N P hClh1 i q1 (by omega) pr1 ek2 (t - S (138 + i) - 0) t) (by rw [ow]; exact clu_RX11_144_0) (by have z := pr1.2.1; rw [ek2] at z; exact z) (by decide) rfl rfl rfl (Nat.le_of_ble_eq_true rfl) (by rw [hr]; exact ⟨by decide, by decide⟩) (by rw [hr]; exact ⟨Nat.le_of_ble_eq_true rfl, Nat.le_of_ble_eq_true rfl⟩) kont3
        · exact a_callU (len := 0) (kd := 3) hb dX11_demandAt_41 (by rw [hg]; exact x_dr3 g h1 B vq lq hl S N P hClh1 i q1 (by omega) pr1 ek3 (t - S (138 + i) - 0) t) (by rw [ow]; exact clu_RX11_144_3) (by have z := pr1.2.1; rw [ek3] at z; exact z) (by decide) rfl rfl rfl (Nat.le_of_ble_eq_true rfl) (by rw [hr]; exact ⟨by decide, by decide⟩) (by rw [hr]; exact ⟨Nat.le_of_ble_eq_true rfl, Nat.le_of_ble_eq_true rfl⟩) kont3
        · exact a_callU (len := 0) (kd := 4) hb dX11_demandAt_41 (by rw [hg]; exact x_dr4 g h1 B vq lq hl S N P hClh1 i q1 (by omega) pr1 ek4 (t - S (138 + i) - 0) t) (by rw [ow]; exact clu_RX11_144_4) (by have z := pr1.2.1; rw [ek4] at z; exact z) (by decide) rfl rfl rfl (Nat.le_of_ble_eq_true rfl) (by rw [hr]; exact ⟨by decide, by decide⟩) (by rw [hr]; exact ⟨Nat.le_of_ble_eq_true rfl, Nat.le_of_ble_eq_true rfl⟩) kont3
        · exact a_callU (len := 0) (kd := 5) hb dX11_demandAt_41 (by rw [hg]; exact x_dr5 g h1 B vq lq hl S N P hClh1 i q1 (by omega) pr1 ek5 (t - S (138 + i) - 0) t) (by rw [ow]; exact clu_RX11_144_5) (by have z := pr1.2.1; rw [ek5] at z; exact z) (by decide) rfl rfl rfl (Nat.le_of_ble_eq_true rfl) (by rw [hr]; exact ⟨by decide, by decide⟩) (by rw [hr]; exact ⟨Nat.le_of_ble_eq_true rfl, Nat.le_of_ble_eq_true rfl⟩) kont3
        · exact a_callU (len := 0) (kd := 6) hb dX11_demandAt_41 (by rw [hg]; exact x_dr6 g h1 B vq lq hl S N P hClh1 i q1 (by omega) pr1 ek6 (t - S (138 + i) - 0) t) (by rw [ow]; exact clu_RX11_144_6) (by have z := pr1.2.1; rw [ek6] at z; exact z) (by decide) rfl rfl rfl (Nat.le_of_ble_eq_true rfl) (by rw [hr]; exact ⟨by decide, by decide⟩) (by rw [hr]; exact ⟨Nat.le_of_ble_eq_true rfl, Nat.le_of_ble_eq_true rfl⟩) kont3
      rcases kd_c (hClh1.1.rp (p := i) (by omega)).1 with ek0 | ek1 | ek2 | ek3 | ek4 | ek5 | ek6
      · exact a_callU (len := 0) (kd := 2) hb dX11_demandAt_37 (by rw [hg]; exact x_age0 g h1 B vq lq hl S N P hClh1 i q1 (by omega) pr1 ek0 t 0) (by rw [ow]; exact clu_RX11_140_2) (by have z := pr1.2.1; rw [ek0] at z; exact z) (by decide) rfl rfl rfl (Nat.le_of_ble_eq_true rfl) (by rw [hr]; exact ⟨by decide, by decide⟩) (by rw [hr]; exact ⟨Nat.le_of_ble_eq_true rfl, Nat.le_of_ble_eq_true rfl⟩) kont2
      · exact a_callU (len := 0) (kd := 9) hb dX11_demandAt_37 (by rw [hg]; exact x_age1 g h1 B vq lq hl S N P hClh1 i q1 (by omega) pr1 ek1 t 0) (by rw [ow]; exact clu_RX11_140_9) (by have z := pr1.2.1; rw [ek1] at z; exact z) (by decide) rfl rfl rfl (Nat.le_of_ble_eq_true rfl) (by rw [hr]; exact ⟨by decide, by decide⟩) (by rw [hr]; exact ⟨Nat.le_of_ble_eq_true rfl, Nat.le_of_ble_eq_true rfl⟩) kont2
      · exact a_callU (len := 0) (kd := 0) hb dX11_demandAt_37 (by rw [hg]; exact x_age2 g h1 B vq lq hl S N P hClh1 i q1 (by omega) pr1 ek2 t 0) (by rw [ow]; exact clu_RX11_140_0) (by have z := pr1.2.1; rw [ek2] at z; exact z) (by decide) rfl rfl rfl (Nat.le_of_ble_eq_true rfl) (by rw [hr]; exact ⟨by decide, by decide⟩) (by rw [hr]; exact ⟨Nat.le_of_ble_eq_true rfl, Nat.le_of_ble_eq_true rfl⟩) kont2
      · exact a_callU (len := 0) (kd := 3) hb dX11_demandAt_37 (by rw [hg]; exact x_age3 g h1 B vq lq hl S N P hClh1 i q1 (by omega) pr1 ek3 t 0) (by rw [ow]; exact clu_RX11_140_3) (by have z := pr1.2.1; rw [ek3] at z; exact z) (by decide) rfl rfl rfl (Nat.le_of_ble_eq_true rfl) (by rw [hr]; exact ⟨by decide, by decide⟩) (by rw [hr]; exact ⟨Nat.le_of_ble_eq_true rfl, Nat.le_of_ble_eq_true rfl⟩) kont2
      · exact a_callU (len := 0) (kd := 4) hb dX11_demandAt_37 (by rw [hg]; exact x_age4 g h1 B vq lq hl S N P hClh1 i q1 (by omega) pr1 ek4 t 0) (by rw [ow]; exact clu_RX11_140_4) (by have z := pr1.2.1; rw [ek4] at z; exact z) (by decide) rfl rfl rfl (Nat.le_of_ble_eq_true rfl) (by rw [hr]; exact ⟨by decide, by decide⟩) (by rw [hr]; exact ⟨Nat.le_of_ble_eq_true rfl, Nat.le_of_ble_eq_true rfl⟩) kont2
      · exact a_callU (len := 0) (kd := 5) hb dX11_demandAt_37 (by rw [hg]; exact x_age5 g h1 B vq lq hl S N P hClh1 i q1 (by omega) pr1 ek5 t 0) (by rw [ow]; exact clu_RX11_140_5) (by have z := pr1.2.1; rw [ek5] at z; exact z) (by decide) rfl rfl rfl (Nat.le_of_ble_eq_true rfl) (by rw [hr]; exact ⟨by decide, by decide⟩) (by rw [hr]; exact ⟨Nat.le_of_ble_eq_true rfl, Nat.le_of_ble_eq_true rfl⟩) kont2
      · exact a_callU (len := 0) (kd := 6) hb dX11_demandAt_37 (by rw [hg]; exact x_age6 g h1 B vq lq hl S N P hClh1 i q1 (by omega) pr1 ek6 t 0) (by rw [ow]; exact clu_RX11_140_6) (by have z := pr1.2.1; rw [ek6] at z; exact z) (by decide) rfl rfl rfl (Nat.le_of_ble_eq_true rfl) (by rw [hr]; exact ⟨by decide, by decide⟩) (by rw [hr]; exact ⟨Nat.le_of_ble_eq_true rfl, Nat.le_of_ble_eq_true rfl⟩) kont2
  refine a_iconst (v := 0) hb dX11_demandAt_0 (by decide) ?_
  refine a_istore_n (L' := [(2, .int 0), (0, .ref B), (1, .int t)]) hb dX11_demandAt_1 rfl (by rw [hml]; decide) rfl ?_
  refine a_iconst (v := 0) hb dX11_demandAt_2 (by decide) ?_
  refine a_istore_n (L' := [(3, .int 0), (2, .int 0), (0, .ref B), (1, .int t)]) hb dX11_demandAt_3 rfl (by rw [hml]; decide) rfl ?_
  refine AW.sub (L' := [(0, .ref B), (1, .int t), (2, .int 0), (3, .int 0)]) [2, 3, 1, 0] rfl ?_
  exact AW.eq (loop N.1 0 h FR.rf (by omega)) rfl rfl (rfl) rfl
