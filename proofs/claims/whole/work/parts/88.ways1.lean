/-! ===== the class: breaks that may come later ===== -/
def nwS (S : Nat → Int32) : Nat → Int32
  | 0 => 1
  | p + 1 => nwS S p * (if S (162 + p) < 10 then 3 else 1)
/-- delays as digits -/
def dgS (dl : Nat → Int32) : Nat → Int32
  | 0 => 0
  | p + 1 => dgS dl p * 10 + dl p
/-- the sum of the drawn rows that the delays choose -/
def swS (R : Nat → Nat → Int32) (dl : Nat → Nat) (t : Nat) : Nat → Int32
  | 0 => 0
  | p + 1 => swS R dl t p + R (3 * p + dl p) t
set_option maxRecDepth 100000 in
theorem x_mayBeLater (g : GG) (h : AH) (B : Nat) (S : Nat → Int32) (N : NN) (hX : XN h B S N) (p : Nat) (hp : p < N.1) : AM g 1 0 0 mX11_mayBeLater [.ref B, .int (nI p)] h (fun rv h' => rv = some (.int (b2i (decide (S (162 + p) < 10)))) ∧ h' = h) := by
  refine AM.of [(0, .ref B), (1, .int (nI p))] (by decide) (Nat.le_of_ble_eq_true rfl) rfl ?_
  intro V hV
  have hb : V.2.1.2.1 = cX11_mayBeLater := by subst hV; rfl
  have ow : V.2.1.1.cls = RX11 := by subst hV; rfl
  have hr : V.2.2.1 = aw_rm 1 0 0 := by subst hV; rfl
  have hz : V.2.2.2 = aw_Z V.1 (fun rv h' => rv = some (.int (b2i (decide (S (162 + p) < 10)))) ∧ h' = h) V.2.2.1 := by subst hV; rfl
  have hg : V.1 = g := by subst hV; rfl
  have hret : V.2.1.2.2.2 = (some .boolean) := by subst hV; rfl
  have hml : V.2.1.2.2.1 = 2 := by subst hV; rfl
  clear hV
  have hnp := hX.np
  have hnw := hX.nw
  refine a_aload_n hb dX11_mayBeLater_0 rfl 0 rfl ?_
  refine a_getQ (q := (B + 1)) hb dX11_mayBeLater_1 (by rw [ow]; exact fl_RX11_12_11) (hX.1.1 0 (by decide)) (hX.1.2.1 (0, 0, 1) (by decide)) ?_
  refine a_getQ (q := (B + 3)) hb dX11_mayBeLater_4 (by rw [ow]; exact fl_RX11_73_7) (hX.1.1 1 (by decide)) (hX.1.2.1 (1, 1, 3) (by decide)) ?_
  refine a_iload_n hb dX11_mayBeLater_7 rfl 1 rfl ?_
  refine b_iald (j := p) hb dX11_mayBeLater_8 (hX.1.1 3 (by decide)) (IX.n (by omega)) (by omega) ?_
  rw [hX.on (i := p) (by omega)]
  show AW V 0 0 h 9 [(0, .ref B), (1, .int (nI p))] [.int (S (162 + p))]
  refine a_bipush (v := 10) hb dX11_mayBeLater_9 (by decide) ?_
  refine a_icmp_ge hb 18 dX11_mayBeLater_11 (by decide) (fun c11 => ?_) (fun c11 => ?_)
  · refine a_iconst (v := 0) hb dX11_mayBeLater_18 (by decide) ?_
    exact a_ireturn (ty := .boolean) hb hz dX11_mayBeLater_19 hret (by first | rfl | (simp only [narrow]; done) | exact aw_nb _) (by rw [hr]; exact Nat.le_of_ble_eq_true rfl) (by rw [hr]; exact Nat.le_of_ble_eq_true rfl) (⟨by rw [decide_eq_false (Int32.not_lt.mpr c11)]; rfl, rfl⟩)
  · refine a_iconst (v := 1) hb dX11_mayBeLater_14 (by decide) ?_
    refine a_goto hb 19 dX11_mayBeLater_15 (by decide) ?_
    exact a_ireturn (ty := .boolean) hb hz dX11_mayBeLater_19 hret (by first | rfl | (simp only [narrow]; done) | exact aw_nb _) (by rw [hr]; exact Nat.le_of_ble_eq_true rfl) (by rw [hr]; exact Nat.le_of_ble_eq_true rfl) (⟨by rw [decide_eq_true (Int32.not_le.mp c11)]; rfl, rfl⟩)
set_option maxRecDepth 100000 in
theorem x_laterPauses (g : GG) (h : AH) (B : Nat) (S : Nat → Int32) (N : NN) (hX : XN h B S N) : AM g 2 0 0 mX11_laterPauses [.ref B] h (fun rv h' => rv = some (.int (ltM S N.1)) ∧ h' = h) := by
  refine AM.of [(0, .ref B)] (by decide) (Nat.le_of_ble_eq_true rfl) rfl ?_
  intro V hV
  have hb : V.2.1.2.1 = cX11_laterPauses := by subst hV; rfl
  have ow : V.2.1.1.cls = RX11 := by subst hV; rfl
  have hr : V.2.2.1 = aw_rm 2 0 0 := by subst hV; rfl
  have hz : V.2.2.2 = aw_Z V.1 (fun rv h' => rv = some (.int (ltM S N.1)) ∧ h' = h) V.2.2.1 := by subst hV; rfl
  have hg : V.1 = g := by subst hV; rfl
  have hret : V.2.1.2.2.2 = (some .int) := by subst hV; rfl
  have hml : V.2.1.2.2.1 = 3 := by subst hV; rfl
  clear hV
  have hnp := hX.np
  have hnw := hX.nw
  have loop : ∀ (k i : Nat), i + k = N.1 → AW V 0 0 h 4 [(0, .ref B), (1, .int (ltM S i)), (2, .int (nI i))] [] := by
    intro k
    induction k with
    | zero =>
      intro i hi
      refine a_iload_n hb dX11_laterPauses_4 rfl 2 rfl ?_
      refine a_aload_n hb dX11_laterPauses_5 rfl 0 rfl ?_
      refine a_getQ (q := (B + 1)) hb dX11_laterPauses_6 (by rw [ow]; exact fl_RX11_12_11) (hX.1.1 0 (by decide)) (hX.1.2.1 (0, 0, 1) (by decide)) ?_
      refine a_getI hb dX11_laterPauses_9 (by rw [ow]; exact fl_RX11_61_7) (hX.1.1 1 (by decide)) ?_
      rw [hX.f3]
      show AW V 0 0 h 12 [(0, .ref B), (1, .int (ltM S i)), (2, .int (nI i))] [.int (nI N.1), .int (nI i)]
      refine a_icmp_ge hb 37 dX11_laterPauses_12 (by decide) (fun c12 => ?_) (fun c12 => absurd (nI_le (by omega) (by omega)) c12)
      refine a_iload_n hb dX11_laterPauses_37 rfl 1 rfl ?_
      exact a_ireturn (ty := .int) hb hz dX11_laterPauses_38 hret rfl (by rw [hr]; exact Nat.le_of_ble_eq_true rfl) (by rw [hr]; exact Nat.le_of_ble_eq_true rfl) (⟨by rw [show N.1 = i by omega], rfl⟩)
    | succ k ih =>
      intro i hi
      refine a_iload_n hb dX11_laterPauses_4 rfl 2 rfl ?_
      refine a_aload_n hb dX11_laterPauses_5 rfl 0 rfl ?_
      refine a_getQ (q := (B + 1)) hb dX11_laterPauses_6 (by rw [ow]; exact fl_RX11_12_11) (hX.1.1 0 (by decide)) (hX.1.2.1 (0, 0, 1) (by decide)) ?_
      refine a_getI hb dX11_laterPauses_9 (by rw [ow]; exact fl_RX11_61_7) (hX.1.1 1 (by decide)) ?_
      rw [hX.f3]
      show AW V 0 0 h 12 [(0, .ref B), (1, .int (ltM S i)), (2, .int (nI i))] [.int (nI N.1), .int (nI i)]
      refine a_icmp_ge hb 37 dX11_laterPauses_12 (by decide) (fun c12 => absurd c12 (nI_ge (by omega) (by omega))) (fun c12 => ?_)
      refine a_iload_n hb dX11_laterPauses_15 rfl 1 rfl ?_
      refine a_aload_n hb dX11_laterPauses_16 rfl 0 rfl ?_
      refine a_iload_n hb dX11_laterPauses_17 rfl 2 rfl ?_
      refine a_callV hb dX11_laterPauses_18 (by rw [hg]; exact x_mayBeLater g h B S N hX i (by omega)) (by rw [ow]; exact clv_RX11_336) (hX.1.1 0 (by decide)) (by decide) rfl rfl rfl (Nat.le_of_ble_eq_true rfl) (by rw [hr]; exact ⟨by decide, by decide⟩) (by rw [hr]; exact ⟨Nat.le_of_ble_eq_true rfl, Nat.le_of_ble_eq_true rfl⟩) ?_
      intro rv h' hq_
      rw [hq_.1, hq_.2]
      show AW V 0 0 h 21 [(0, .ref B), (1, .int (ltM S i)), (2, .int (nI i))] [.int (b2i (decide (S (162 + i) < 10))), .int (ltM S i)]
      refine a_if_eq hb 28 dX11_laterPauses_21 (by decide) (fun c21 => ?_) (fun c21 => ?_)
      · simp [b2i_0] at c21
        refine a_iconst (v := 0) hb dX11_laterPauses_28 (by decide) ?_
        refine a_iadd hb dX11_laterPauses_29 ?_
        refine a_istore_n (L' := [(1, .int ((ltM S i) + 0)), (0, .ref B), (2, .int (nI i))]) hb dX11_laterPauses_30 rfl (by rw [hml]; decide) rfl ?_
        refine a_iinc (v := ((nI i) + 1)) (L' := [(2, .int ((nI i) + 1)), (1, .int ((ltM S i) + 0)), (0, .ref B)]) hb dX11_laterPauses_31 2 rfl rfl (by rw [hml]; decide) rfl ?_
        refine a_goto hb 4 dX11_laterPauses_34 (by decide) ?_
        refine AW.sub (L' := [(0, .ref B), (1, .int ((ltM S i) + 0)), (2, .int ((nI i) + 1))]) [2, 1, 0] rfl ?_
        exact AW.eq (ih (i + 1) (by omega)) rfl rfl (by rw [show ltM S (i + 1) = ltM S i + (if S (162 + i) < 10 then 1 else 0) from rfl]; first | (rw [if_pos (show S (162 + i) < 10 by simpa using c21), nI_1]; done) | (rw [if_neg (show ¬ S (162 + i) < 10 by simpa using c21), nI_1]; done)) rfl
      · simp [b2i_0] at c21
        refine a_iconst (v := 1) hb dX11_laterPauses_24 (by decide) ?_
        refine a_goto hb 29 dX11_laterPauses_25 (by decide) ?_
        refine a_iadd hb dX11_laterPauses_29 ?_
        refine a_istore_n (L' := [(1, .int ((ltM S i) + 1)), (0, .ref B), (2, .int (nI i))]) hb dX11_laterPauses_30 rfl (by rw [hml]; decide) rfl ?_
        refine a_iinc (v := ((nI i) + 1)) (L' := [(2, .int ((nI i) + 1)), (1, .int ((ltM S i) + 1)), (0, .ref B)]) hb dX11_laterPauses_31 2 rfl rfl (by rw [hml]; decide) rfl ?_
        refine a_goto hb 4 dX11_laterPauses_34 (by decide) ?_
        refine AW.sub (L' := [(0, .ref B), (1, .int ((ltM S i) + 1)), (2, .int ((nI i) + 1))]) [2, 1, 0] rfl ?_
        exact AW.eq (ih (i + 1) (by omega)) rfl rfl (by rw [show ltM S (i + 1) = ltM S i + (if S (162 + i) < 10 then 1 else 0) from rfl]; first | (rw [if_pos (show S (162 + i) < 10 by simpa using c21), nI_1]; done) | (rw [if_neg (show ¬ S (162 + i) < 10 by simpa using c21), nI_1]; done)) rfl
  refine a_iconst (v := 0) hb dX11_laterPauses_0 (by decide) ?_
  refine a_istore_n (L' := [(1, .int 0), (0, .ref B)]) hb dX11_laterPauses_1 rfl (by rw [hml]; decide) rfl ?_
  refine a_iconst (v := 0) hb dX11_laterPauses_2 (by decide) ?_
  refine a_istore_n (L' := [(2, .int 0), (1, .int 0), (0, .ref B)]) hb dX11_laterPauses_3 rfl (by rw [hml]; decide) rfl ?_
  refine AW.sub (L' := [(0, .ref B), (1, .int 0), (2, .int 0)]) [2, 1, 0] rfl ?_
  exact AW.eq (loop N.1 0 (by omega)) rfl rfl (rfl) rfl
set_option maxRecDepth 100000 in
theorem x_countWays (g : GG) (h : AH) (B : Nat) (S : Nat → Int32) (N : NN) (hX : XN h B S N) : AM g 2 0 0 mX11_countWays [.ref B] h (fun rv h' => rv = some (.int (nwS S N.1)) ∧ h' = h) := by
  refine AM.of [(0, .ref B)] (by decide) (Nat.le_of_ble_eq_true rfl) rfl ?_
  intro V hV
  have hb : V.2.1.2.1 = cX11_countWays := by subst hV; rfl
  have ow : V.2.1.1.cls = RX11 := by subst hV; rfl
  have hr : V.2.2.1 = aw_rm 2 0 0 := by subst hV; rfl
  have hz : V.2.2.2 = aw_Z V.1 (fun rv h' => rv = some (.int (nwS S N.1)) ∧ h' = h) V.2.2.1 := by subst hV; rfl
  have hg : V.1 = g := by subst hV; rfl
  have hret : V.2.1.2.2.2 = (some .int) := by subst hV; rfl
  have hml : V.2.1.2.2.1 = 3 := by subst hV; rfl
  clear hV
  have hnp := hX.np
  have hnw := hX.nw
  have loop : ∀ (k i : Nat), i + k = N.1 → AW V 0 0 h 4 [(0, .ref B), (1, .int (nwS S i)), (2, .int (nI i))] [] := by
    intro k
    induction k with
    | zero =>
      intro i hi
      refine a_iload_n hb dX11_countWays_4 rfl 2 rfl ?_
      refine a_aload_n hb dX11_countWays_5 rfl 0 rfl ?_
      refine a_getQ (q := (B + 1)) hb dX11_countWays_6 (by rw [ow]; exact fl_RX11_12_11) (hX.1.1 0 (by decide)) (hX.1.2.1 (0, 0, 1) (by decide)) ?_
      refine a_getI hb dX11_countWays_9 (by rw [ow]; exact fl_RX11_61_7) (hX.1.1 1 (by decide)) ?_
      rw [hX.f3]
      show AW V 0 0 h 12 [(0, .ref B), (1, .int (nwS S i)), (2, .int (nI i))] [.int (nI N.1), .int (nI i)]
      refine a_icmp_ge hb 37 dX11_countWays_12 (by decide) (fun c12 => ?_) (fun c12 => absurd (nI_le (by omega) (by omega)) c12)
      refine a_iload_n hb dX11_countWays_37 rfl 1 rfl ?_
      exact a_ireturn (ty := .int) hb hz dX11_countWays_38 hret rfl (by rw [hr]; exact Nat.le_of_ble_eq_true rfl) (by rw [hr]; exact Nat.le_of_ble_eq_true rfl) (⟨by rw [show N.1 = i by omega], rfl⟩)
    | succ k ih =>
      intro i hi
      refine a_iload_n hb dX11_countWays_4 rfl 2 rfl ?_
      refine a_aload_n hb dX11_countWays_5 rfl 0 rfl ?_
      refine a_getQ (q := (B + 1)) hb dX11_countWays_6 (by rw [ow]; exact fl_RX11_12_11) (hX.1.1 0 (by decide)) (hX.1.2.1 (0, 0, 1) (by decide)) ?_
      refine a_getI hb dX11_countWays_9 (by rw [ow]; exact fl_RX11_61_7) (hX.1.1 1 (by decide)) ?_
      rw [hX.f3]
      show AW V 0 0 h 12 [(0, .ref B), (1, .int (nwS S i)), (2, .int (nI i))] [.int (nI N.1), .int (nI i)]
      refine a_icmp_ge hb 37 dX11_countWays_12 (by decide) (fun c12 => absurd c12 (nI_ge (by omega) (by omega))) (fun c12 => ?_)
      refine a_iload_n hb dX11_countWays_15 rfl 1 rfl ?_
      refine a_aload_n hb dX11_countWays_16 rfl 0 rfl ?_
      refine a_iload_n hb dX11_countWays_17 rfl 2 rfl ?_
      refine a_callV hb dX11_countWays_18 (by rw [hg]; exact x_mayBeLater g h B S N hX i (by omega)) (by rw [ow]; exact clv_RX11_336) (hX.1.1 0 (by decide)) (by decide) rfl rfl rfl (Nat.le_of_ble_eq_true rfl) (by rw [hr]; exact ⟨by decide, by decide⟩) (by rw [hr]; exact ⟨Nat.le_of_ble_eq_true rfl, Nat.le_of_ble_eq_true rfl⟩) ?_
      intro rv h' hq_
      rw [hq_.1, hq_.2]
      show AW V 0 0 h 21 [(0, .ref B), (1, .int (nwS S i)), (2, .int (nI i))] [.int (b2i (decide (S (162 + i) < 10))), .int (nwS S i)]
      refine a_if_eq hb 28 dX11_countWays_21 (by decide) (fun c21 => ?_) (fun c21 => ?_)
      · simp [b2i_0] at c21
        refine a_iconst (v := 1) hb dX11_countWays_28 (by decide) ?_
        refine a_imul hb dX11_countWays_29 ?_
        refine a_istore_n (L' := [(1, .int ((nwS S i) * 1)), (0, .ref B), (2, .int (nI i))]) hb dX11_countWays_30 rfl (by rw [hml]; decide) rfl ?_
        refine a_iinc (v := ((nI i) + 1)) (L' := [(2, .int ((nI i) + 1)), (1, .int ((nwS S i) * 1)), (0, .ref B)]) hb dX11_countWays_31 2 rfl rfl (by rw [hml]; decide) rfl ?_
        refine a_goto hb 4 dX11_countWays_34 (by decide) ?_
        refine AW.sub (L' := [(0, .ref B), (1, .int ((nwS S i) * 1)), (2, .int ((nI i) + 1))]) [2, 1, 0] rfl ?_
        exact AW.eq (ih (i + 1) (by omega)) rfl rfl (by rw [show nwS S (i + 1) = nwS S i * (if S (162 + i) < 10 then 3 else 1) from rfl]; first | (rw [if_pos (show S (162 + i) < 10 by simpa using c21), nI_1]; done) | (rw [if_neg (show ¬ S (162 + i) < 10 by simpa using c21), nI_1]; done)) rfl
      · simp [b2i_0] at c21
        refine a_iconst (v := 3) hb dX11_countWays_24 (by decide) ?_
        refine a_goto hb 29 dX11_countWays_25 (by decide) ?_
        refine a_imul hb dX11_countWays_29 ?_
        refine a_istore_n (L' := [(1, .int ((nwS S i) * 3)), (0, .ref B), (2, .int (nI i))]) hb dX11_countWays_30 rfl (by rw [hml]; decide) rfl ?_
        refine a_iinc (v := ((nI i) + 1)) (L' := [(2, .int ((nI i) + 1)), (1, .int ((nwS S i) * 3)), (0, .ref B)]) hb dX11_countWays_31 2 rfl rfl (by rw [hml]; decide) rfl ?_
        refine a_goto hb 4 dX11_countWays_34 (by decide) ?_
        refine AW.sub (L' := [(0, .ref B), (1, .int ((nwS S i) * 3)), (2, .int ((nI i) + 1))]) [2, 1, 0] rfl ?_
        exact AW.eq (ih (i + 1) (by omega)) rfl rfl (by rw [show nwS S (i + 1) = nwS S i * (if S (162 + i) < 10 then 3 else 1) from rfl]; first | (rw [if_pos (show S (162 + i) < 10 by simpa using c21), nI_1]; done) | (rw [if_neg (show ¬ S (162 + i) < 10 by simpa using c21), nI_1]; done)) rfl
  refine a_iconst (v := 1) hb dX11_countWays_0 (by decide) ?_
  refine a_istore_n (L' := [(1, .int 1), (0, .ref B)]) hb dX11_countWays_1 rfl (by rw [hml]; decide) rfl ?_
  refine a_iconst (v := 0) hb dX11_countWays_2 (by decide) ?_
  refine a_istore_n (L' := [(2, .int 0), (1, .int 1), (0, .ref B)]) hb dX11_countWays_3 rfl (by rw [hml]; decide) rfl ?_
  refine AW.sub (L' := [(0, .ref B), (1, .int 1), (2, .int 0)]) [2, 1, 0] rfl ?_
  exact AW.eq (loop N.1 0 (by omega)) rfl rfl (rfl) rfl
set_option maxRecDepth 100000 in
theorem x_oddsOf (g : GG) (h : AH) (B : Nat) (S : Nat → Int32) (N : NN) (hX : XN h B S N) (p : Nat) (hp : p < N.1) (d : Int32) : AM g 1 0 0 mX11_oddsOf [.ref B, .int (nI p), .int d] h (fun rv h' => rv = some (.int (odS S p d)) ∧ h' = h) := by
  refine AM.of [(0, .ref B), (1, .int (nI p)), (2, .int d)] (by decide) (Nat.le_of_ble_eq_true rfl) rfl ?_
  intro V hV
  have hb : V.2.1.2.1 = cX11_oddsOf := by subst hV; rfl
  have ow : V.2.1.1.cls = RX11 := by subst hV; rfl
  have hr : V.2.2.1 = aw_rm 1 0 0 := by subst hV; rfl
  have hz : V.2.2.2 = aw_Z V.1 (fun rv h' => rv = some (.int (odS S p d)) ∧ h' = h) V.2.2.1 := by subst hV; rfl
  have hg : V.1 = g := by subst hV; rfl
  have hret : V.2.1.2.2.2 = (some .int) := by subst hV; rfl
  have hml : V.2.1.2.2.1 = 5 := by subst hV; rfl
  clear hV
  have hnp := hX.np
  have hnw := hX.nw
  refine a_aload_n hb dX11_oddsOf_0 rfl 0 rfl ?_
  refine a_getQ (q := (B + 1)) hb dX11_oddsOf_1 (by rw [ow]; exact fl_RX11_12_11) (hX.1.1 0 (by decide)) (hX.1.2.1 (0, 0, 1) (by decide)) ?_
  refine a_getQ (q := (B + 3)) hb dX11_oddsOf_4 (by rw [ow]; exact fl_RX11_73_7) (hX.1.1 1 (by decide)) (hX.1.2.1 (1, 1, 3) (by decide)) ?_
  refine a_iload_n hb dX11_oddsOf_7 rfl 1 rfl ?_
  refine b_iald (j := p) hb dX11_oddsOf_8 (hX.1.1 3 (by decide)) (IX.n (by omega)) (by omega) ?_
  rw [hX.on (i := p) (by omega)]
  show AW V 0 0 h 9 [(0, .ref B), (1, .int (nI p)), (2, .int d)] [.int (S (162 + p))]
  refine a_istore_n (L' := [(3, .int (S (162 + p))), (0, .ref B), (1, .int (nI p)), (2, .int d)]) hb dX11_oddsOf_9 rfl (by rw [hml]; decide) rfl ?_
  refine a_aload_n hb dX11_oddsOf_10 rfl 1 rfl ?_
  refine a_getQ (q := (B + 1)) hb dX11_oddsOf_11 (by rw [ow]; exact fl_RX11_12_11) (hX.1.1 0 (by decide)) (hX.1.2.1 (0, 0, 1) (by decide)) ?_
  refine a_getQ (q := (B + 4)) hb dX11_oddsOf_14 (by rw [ow]; exact fl_RX11_76_7) (hX.1.1 1 (by decide)) (hX.1.2.1 (1, 2, 4) (by decide)) ?_
  refine a_iload_n hb dX11_oddsOf_17 rfl 2 rfl ?_
  refine b_iald (j := p) hb dX11_oddsOf_18 (hX.1.1 4 (by decide)) (IX.n (by omega)) (by omega) ?_
  rw [hX.oe (i := p) (by omega)]
  show AW V 0 0 h 19 [(3, .int (S (162 + p))), (0, .ref B), (1, .int (nI p)), (2, .int d)] [.int (S (170 + p))]
  refine a_istore (L' := [(4, .int (S (170 + p))), (3, .int (S (162 + p))), (0, .ref B), (1, .int (nI p)), (2, .int d)]) hb dX11_oddsOf_19 (by rw [hml]; decide) rfl ?_
  refine a_iload_n hb dX11_oddsOf_21 rfl 4 rfl ?_
  by_cases q22_0 : d = 0
  · refine a_lookup (off := 26) hb 48 dX11_oddsOf_22 (by decide) (by rw [q22_0]; decide) (by decide) ?_
    refine a_iload_n hb dX11_oddsOf_48 rfl 1 rfl ?_
    exact a_ireturn (ty := .int) hb hz dX11_oddsOf_49 hret rfl (by rw [hr]; exact Nat.le_of_ble_eq_true rfl) (by rw [hr]; exact Nat.le_of_ble_eq_true rfl) (⟨by rw [odS, if_pos q22_0], rfl⟩)
  by_cases q22_1 : d = 1
  · refine a_lookup (off := 28) hb 50 dX11_oddsOf_22 (by decide) (by rw [q22_1]; decide) (by decide) ?_
    refine a_iload hb dX11_oddsOf_50 0 rfl ?_
    exact a_ireturn (ty := .int) hb hz dX11_oddsOf_52 hret rfl (by rw [hr]; exact Nat.le_of_ble_eq_true rfl) (by rw [hr]; exact Nat.le_of_ble_eq_true rfl) (⟨by rw [odS, if_neg (by rw [q22_1]; decide), if_pos q22_1], rfl⟩)
  refine a_lookup (off := 31) hb 53 dX11_oddsOf_22 (by decide) (by have z0 := lv_neT (k := 0) (a := 0) q22_0 (by decide); have z1 := lv_neT (k := 1) (a := 1) q22_1 (by decide); simp [Op.lookupswitch.offset]; omega) (by decide) ?_
  refine a_bipush (v := 10) hb dX11_oddsOf_53 (by decide) ?_
  refine a_iload_n hb dX11_oddsOf_55 rfl 1 rfl ?_
  refine a_isub hb dX11_oddsOf_56 ?_
  refine a_iload hb dX11_oddsOf_57 0 rfl ?_
  refine a_isub hb dX11_oddsOf_59 ?_
  exact a_ireturn (ty := .int) hb hz dX11_oddsOf_60 hret rfl (by rw [hr]; exact Nat.le_of_ble_eq_true rfl) (by rw [hr]; exact Nat.le_of_ble_eq_true rfl) (⟨by rw [odS, if_neg q22_0, if_neg q22_1], rfl⟩)
set_option maxRecDepth 100000 in
theorem x_digits (g : GG) (h : AH) (B : Nat) (S : Nat → Int32) (N : NN) (hX : XN h B S N) : AM g 1 0 0 mX11_delaysAsDigits [.ref B] h (fun rv h' => rv = some (.int (dgS (hI h (B + 50)) N.1)) ∧ h' = h) := by
  refine AM.of [(0, .ref B)] (by decide) (Nat.le_of_ble_eq_true rfl) rfl ?_
  intro V hV
  have hb : V.2.1.2.1 = cX11_delaysAsDigits := by subst hV; rfl
  have ow : V.2.1.1.cls = RX11 := by subst hV; rfl
  have hr : V.2.2.1 = aw_rm 1 0 0 := by subst hV; rfl
  have hz : V.2.2.2 = aw_Z V.1 (fun rv h' => rv = some (.int (dgS (hI h (B + 50)) N.1)) ∧ h' = h) V.2.2.1 := by subst hV; rfl
  have hg : V.1 = g := by subst hV; rfl
  have hret : V.2.1.2.2.2 = (some .int) := by subst hV; rfl
  have hml : V.2.1.2.2.1 = 3 := by subst hV; rfl
  clear hV
  have hnp := hX.np
  have hnw := hX.nw
  have loop : ∀ (k i : Nat), i + k = N.1 → AW V 0 0 h 4 [(0, .ref B), (1, .int (dgS (hI h (B + 50)) i)), (2, .int (nI i))] [] := by
    intro k
    induction k with
    | zero =>
      intro i hi
      refine a_iload_n hb dX11_delaysAsDigits_4 rfl 2 rfl ?_
      refine a_aload_n hb dX11_delaysAsDigits_5 rfl 0 rfl ?_
      refine a_getQ (q := (B + 1)) hb dX11_delaysAsDigits_6 (by rw [ow]; exact fl_RX11_12_11) (hX.1.1 0 (by decide)) (hX.1.2.1 (0, 0, 1) (by decide)) ?_
      refine a_getI hb dX11_delaysAsDigits_9 (by rw [ow]; exact fl_RX11_61_7) (hX.1.1 1 (by decide)) ?_
      rw [hX.f3]
      show AW V 0 0 h 12 [(0, .ref B), (1, .int (dgS (hI h (B + 50)) i)), (2, .int (nI i))] [.int (nI N.1), .int (nI i)]
      refine a_icmp_ge hb 33 dX11_delaysAsDigits_12 (by decide) (fun c12 => ?_) (fun c12 => absurd (nI_le (by omega) (by omega)) c12)
      refine a_iload_n hb dX11_delaysAsDigits_33 rfl 1 rfl ?_
      exact a_ireturn (ty := .int) hb hz dX11_delaysAsDigits_34 hret rfl (by rw [hr]; exact Nat.le_of_ble_eq_true rfl) (by rw [hr]; exact Nat.le_of_ble_eq_true rfl) (⟨by rw [show N.1 = i by omega], rfl⟩)
    | succ k ih =>
      intro i hi
      refine a_iload_n hb dX11_delaysAsDigits_4 rfl 2 rfl ?_
      refine a_aload_n hb dX11_delaysAsDigits_5 rfl 0 rfl ?_
      refine a_getQ (q := (B + 1)) hb dX11_delaysAsDigits_6 (by rw [ow]; exact fl_RX11_12_11) (hX.1.1 0 (by decide)) (hX.1.2.1 (0, 0, 1) (by decide)) ?_
      refine a_getI hb dX11_delaysAsDigits_9 (by rw [ow]; exact fl_RX11_61_7) (hX.1.1 1 (by decide)) ?_
      rw [hX.f3]
      show AW V 0 0 h 12 [(0, .ref B), (1, .int (dgS (hI h (B + 50)) i)), (2, .int (nI i))] [.int (nI N.1), .int (nI i)]
      refine a_icmp_ge hb 33 dX11_delaysAsDigits_12 (by decide) (fun c12 => absurd c12 (nI_ge (by omega) (by omega))) (fun c12 => ?_)
      refine a_iload_n hb dX11_delaysAsDigits_15 rfl 1 rfl ?_
      refine a_bipush (v := 10) hb dX11_delaysAsDigits_16 (by decide) ?_
      refine a_imul hb dX11_delaysAsDigits_18 ?_
      refine a_aload_n hb dX11_delaysAsDigits_19 rfl 0 rfl ?_
      refine a_getQ (q := (B + 50)) hb dX11_delaysAsDigits_20 (by rw [ow]; exact fl_RX11_50_11) (hX.1.1 0 (by decide)) (hX.1.2.1 (0, 9, 50) (by decide)) ?_
      refine a_iload_n hb dX11_delaysAsDigits_23 rfl 2 rfl ?_
      refine b_iald (j := i) hb dX11_delaysAsDigits_24 (hX.1.1 50 (by decide)) (IX.n (by omega)) (by omega) ?_
      refine a_iadd hb dX11_delaysAsDigits_25 ?_
      refine a_istore_n (L' := [(1, .int (((dgS (hI h (B + 50)) i) * 10) + (hI h (B + 50) i))), (0, .ref B), (2, .int (nI i))]) hb dX11_delaysAsDigits_26 rfl (by rw [hml]; decide) rfl ?_
      refine a_iinc (v := ((nI i) + 1)) (L' := [(2, .int ((nI i) + 1)), (1, .int (((dgS (hI h (B + 50)) i) * 10) + (hI h (B + 50) i))), (0, .ref B)]) hb dX11_delaysAsDigits_27 2 rfl rfl (by rw [hml]; decide) rfl ?_
      refine a_goto hb 4 dX11_delaysAsDigits_30 (by decide) ?_
      refine AW.sub (L' := [(0, .ref B), (1, .int (((dgS (hI h (B + 50)) i) * 10) + (hI h (B + 50) i))), (2, .int ((nI i) + 1))]) [2, 1, 0] rfl ?_
      exact AW.eq (ih (i + 1) (by omega)) rfl rfl (by rw [nI_1]; rfl) rfl
  refine a_iconst (v := 0) hb dX11_delaysAsDigits_0 (by decide) ?_
  refine a_istore_n (L' := [(1, .int 0), (0, .ref B)]) hb dX11_delaysAsDigits_1 rfl (by rw [hml]; decide) rfl ?_
  refine a_iconst (v := 0) hb dX11_delaysAsDigits_2 (by decide) ?_
  refine a_istore_n (L' := [(2, .int 0), (1, .int 0), (0, .ref B)]) hb dX11_delaysAsDigits_3 rfl (by rw [hml]; decide) rfl ?_
  refine AW.sub (L' := [(0, .ref B), (1, .int 0), (2, .int 0)]) [2, 1, 0] rfl ?_
  exact AW.eq (loop N.1 0 (by omega)) rfl rfl (rfl) rfl
