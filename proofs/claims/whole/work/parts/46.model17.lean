/-! ===== acts: what runs, and in which order ===== -/
def wrL : (Nat → Int32) → Nat → List Int32 → Nat → Int32
  | f, _, [] => f
  | f, k, b :: l => wrL (upd f k b) (k + 1) l
theorem wrL_app : ∀ (l l' : List Int32) (f : Nat → Int32) (k : Nat), wrL f k (l ++ l') = wrL (wrL f k l) (k + l.length) l'
  | [], l', f, k => rfl
  | b :: l, l', f, k => by
    show wrL (upd f k b) (k + 1) (l ++ l') = wrL (wrL (upd f k b) (k + 1) l) (k + (l.length + 1)) l'
    rw [wrL_app l l' _ (k + 1), show k + 1 + l.length = k + (l.length + 1) by omega]
theorem wrL_lt : ∀ (l : List Int32) (f : Nat → Int32) (k j : Nat), j < k → wrL f k l j = f j
  | [], _, _, _, _ => rfl
  | b :: l, f, k, j, h => by
    show wrL (upd f k b) (k + 1) l j = f j
    rw [wrL_lt l _ (k + 1) j (by omega), upd_n (by omega)]
theorem wrL_ge : ∀ (l : List Int32) (f : Nat → Int32) (k j : Nat), k + l.length ≤ j → wrL f k l j = f j
  | [], _, _, _, _ => rfl
  | b :: l, f, k, j, h => by
    have h' : k + (l.length + 1) ≤ j := h
    show wrL (upd f k b) (k + 1) l j = f j
    rw [wrL_ge l _ (k + 1) j (by omega), upd_n (by omega)]
theorem wrL_at : ∀ (l : List Int32) (f : Nat → Int32) (k j : Nat), j < l.length → wrL f k l (k + j) = l.getD j 0
  | [], _, _, _, h => absurd h (Nat.not_lt_zero _)
  | b :: l, f, k, 0, _ => by
    show wrL (upd f k b) (k + 1) l (k + 0) = b
    rw [wrL_lt l _ (k + 1) _ (by omega)]
    exact upd_s
  | b :: l, f, k, j + 1, h => by
    have h' : j < l.length := Nat.lt_of_succ_lt_succ h
    show wrL (upd f k b) (k + 1) l (k + (j + 1)) = l.getD j 0
    rw [← wrL_at l (upd f k b) (k + 1) j h', show k + (j + 1) = k + 1 + j by omega]
theorem wrL_1 {f : Nat → Int32} {k : Nat} {b : Int32} : wrL f k [b] = upd f k b := rfl
/-- a list written into a row at R from place n on, its end into the field f at T -/
def trH (R T f : Nat) (h : AH) (n : Nat) (l : List Int32) : AH := setI (setR h R (wrL (hI h R) n l)) T f (nI (n + l.length))
section TRS
variable {R T f : Nat} {h : AH} {n : Nat} {l l' : List Int32}
theorem trH_r (e : R ≠ T) : hI (trH R T f h n l) R = wrL (hI h R) n l := by
  unfold trH; rw [setI_R, hI_Rn e, hI_R]
theorem trH_t (e : T ≠ R) : hI (trH R T f h n l) T = upd (hI h T) f (nI (n + l.length)) := by
  unfold trH; rw [hI_setI_s, hI_Rn e]
theorem trH_n {a : Nat} (e1 : a ≠ R) (e2 : a ≠ T) : hI (trH R T f h n l) a = hI h a := by
  unfold trH; rw [setI_R, hI_Rn e2, hI_Rn e1]
theorem trH_f {k : Nat} (e : T ≠ R) (hk : k ≠ f) : hI (trH R T f h n l) T k = hI h T k := by
  rw [trH_t e, upd_n hk]
theorem trH_g (e : T ≠ R) : hI (trH R T f h n l) T f = nI (n + l.length) := by
  rw [trH_t e, upd_s]
theorem AH_ext {h h' : AH} (e1 : hN h = hN h') (e2 : hT h = hT h') (e3 : ∀ a, hI h a = hI h' a) (e4 : hJ h = hJ h') (e5 : hQ h = hQ h') : h = h' := by
  obtain ⟨a, b, c, d, e⟩ := h
  obtain ⟨a', b', c', d', e'⟩ := h'
  have e3' : c = c' := funext e3
  cases e1; cases e2; cases e3'; cases e4; cases e5; rfl
theorem trH_tr (e : T ≠ R) : trH R T f (trH R T f h n l) (n + l.length) l' = trH R T f h n (l ++ l') := by
  refine AH_ext rfl rfl (fun a => ?_) rfl rfl
  by_cases ha : a = R
  · subst ha; rw [trH_r (Ne.symm e), trH_r (Ne.symm e), trH_r (Ne.symm e), wrL_app]
  · by_cases hb : a = T
    · subst hb; rw [trH_t e, trH_t e, trH_t e, upd_u, List.length_append, Nat.add_assoc]
    · rw [trH_n ha hb, trH_n ha hb, trH_n ha hb]
theorem trH_1 {b : Int32} : setI (setI h R n b) T f (nI n + 1) = trH R T f h n [b] := by
  show _ = setI (setR h R (upd (hI h R) n b)) T f (nI (n + 1))
  rw [show setI h R n b = setR h R (upd (hI h R) n b) from setI_R, nI_1]
theorem LY.tr {B : Nat} (hL : LY h B) : LY (trH R T f h n l) B := hL
end TRS
/-- value and numbers of the bodies, by kind, number, v -/
abbrev AC : Type := Int32 × List Int32
def acD (N x : Int32) : AC := (x + N, [1])
def acW (N x : Int32) : AC := (x * 3 + N, [11, 1])
def acDA (K N x : Int32) : AC := if K = 6 then ((acW N x).1 ^^^ N, [51] ++ (acW N x).2) else if spUnder K 1 = true then acW N x else acD N x
def acR (K N Q x : Int32) : AC := ((acDA K N x).1 - Q, [2] ++ (acDA K N x).2)
def acRA (K N Q x : Int32) : AC := if K = 3 then (-(acR K N Q x).1, [21] ++ (acR K N Q x).2) else if K = 5 then ((acR K N Q x).1 + Q, [61] ++ (acR K N Q x).2) else acR K N Q x
def acT (K N Q x : Int32) : AC := ((acRA K N Q x).1 * 2, [3] ++ (acRA K N Q x).2)
def acTA (K N Q x : Int32) : AC := if spUnder K 4 = true then ((acT K N Q x).1 ^^^ 7, [31] ++ (acT K N Q x).2) else if K = 2 then ((acT K N Q (x - 1)).1 + (acDA K N 2).1, [41] ++ (acT K N Q (x - 1)).2 ++ (acDA K N 2).2) else acT K N Q x
theorem acDA_l {K N x : Int32} : (acDA K N x).2.length ≤ 3 := by
  unfold acDA
  split
  · exact Nat.le_refl _
  · split
    · exact Nat.le_succ 2
    · exact Nat.le_add_right 1 2
theorem acR_l {K N Q x : Int32} : (acR K N Q x).2.length ≤ 4 := by
  have := @acDA_l K N x
  simp only [acR, List.length_append, List.length_cons, List.length_nil]; omega
theorem acRA_l {K N Q x : Int32} : (acRA K N Q x).2.length ≤ 5 := by
  have := @acR_l K N Q x
  unfold acRA
  split
  · simp only [List.length_append, List.length_cons, List.length_nil]; omega
  · split
    · simp only [List.length_append, List.length_cons, List.length_nil]; omega
    · omega
theorem acT_l {K N Q x : Int32} : (acT K N Q x).2.length ≤ 6 := by
  have := @acRA_l K N Q x
  simp only [acT, List.length_append, List.length_cons, List.length_nil]; omega
theorem acTA_l {K N Q x : Int32} : (acTA K N Q x).2.length ≤ 10 := by
  have h1 := @acT_l K N Q x
  have h2 := @acT_l K N Q (x - 1)
  have h3 := @acDA_l K N 2
  unfold acTA
  split
  · simp only [List.length_append, List.length_cons, List.length_nil]; omega
  · split
    · simp only [List.length_append, List.length_cons, List.length_nil]; omega
    · omega
/-- an act of break p -/
def acS (S : Nat → Int32) (p a x : Int32) : AC := if oO p 0 (S 0 - 1) then (0, []) else if oO a 0 2 then (0, []) else if a = 0 then acDA (S (130 + p.toNatClampNeg)) p x else if a = 1 then acRA (S (130 + p.toNatClampNeg)) p (S (154 + p.toNatClampNeg)) x else acTA (S (130 + p.toNatClampNeg)) p (S (154 + p.toNatClampNeg)) x
theorem acS_l {S : Nat → Int32} {p a x : Int32} : (acS S p a x).2.length ≤ 10 := by
  unfold acS
  split
  · exact Nat.zero_le _
  · split
    · exact Nat.zero_le _
    · split
      · exact Nat.le_trans acDA_l (by decide)
      · split
        · exact Nat.le_trans acRA_l (by decide)
        · exact acTA_l
set_option maxRecDepth 100000 in
theorem m_runs (g : GG) (h : AH) (B : Nat) (hL : LY h B) (rn : Nat) (hrn : hI h (B + 51) 21 = nI rn) (lrn : rn + 1 ≤ 20) (K N Q : Int32) (hK : hI h (B + 51) 22 = K) (hN0 : hI h (B + 51) 23 = N) (hV : hI h (B + 51) 24 = Q) (x : Int32) : AM g 1 0 0 mX12_runs [.ref (B + 51), .int x] h (fun rv h' => rv = none ∧ h' = (trH (B + 61) (B + 51) 21 h rn ([x]))) := by
  refine AM.of [(0, .ref (B + 51)), (1, .int x)] (by decide) (Nat.le_of_ble_eq_true rfl) rfl ?_
  intro V hV
  have hb : V.2.1.2.1 = cX12_runs := by subst hV; rfl
  have ow : V.2.1.1.cls = RX12 := by subst hV; rfl
  have hr : V.2.2.1 = aw_rm 1 0 0 := by subst hV; rfl
  have hz : V.2.2.2 = aw_Z V.1 (fun rv h' => rv = none ∧ h' = (trH (B + 61) (B + 51) 21 h rn ([x]))) V.2.2.1 := by subst hV; rfl
  have hg : V.1 = g := by subst hV; rfl
  have hret : V.2.1.2.2.2 = none := by subst hV; rfl
  have hml : V.2.1.2.2.1 = 2 := by subst hV; rfl
  clear hV
  refine a_aload_n hb dX12_runs_0 rfl 0 rfl ?_
  refine a_getI hb dX12_runs_1 (by rw [ow]; exact fl_RX12_231_12) (hL.1 51 (by decide)) ?_
  refine a_bipush (v := 20) hb dX12_runs_4 (by decide) ?_
  refine a_icmp_ge hb 19 dX12_runs_6 (by decide) (fun c6 => absurd c6 (by rw [hrn]; exact nI_ge (b := 20) (a := rn) (by omega) (by omega))) (fun c6 => ?_)
  refine a_aload_n hb dX12_runs_9 rfl 0 rfl ?_
  refine a_getQ (q := (B + 61)) hb dX12_runs_10 (by rw [ow]; exact fl_RX12_41_12) (hL.1 51 (by decide)) (hL.2.1 (51, 20, 61) (by decide)) ?_
  refine a_aload_n hb dX12_runs_13 rfl 0 rfl ?_
  refine a_getI hb dX12_runs_14 (by rw [ow]; exact fl_RX12_231_12) (hL.1 51 (by decide)) ?_
  refine a_iload_n hb dX12_runs_17 rfl 1 rfl ?_
  refine b_iast (j := rn) hb dX12_runs_18 (hL.1 61 (by decide)) (by rw [hrn]; exact IX.n (by omega)) (by omega) ?_
  refine a_aload_n hb dX12_runs_19 rfl 0 rfl ?_
  refine a_dup hb dX12_runs_20 rfl ?_
  refine a_getI hb dX12_runs_21 (by rw [ow]; exact fl_RX12_231_12) (hL.1 51 (by decide)) ?_
  refine a_iconst (v := 1) hb dX12_runs_24 (by decide) ?_
  refine a_iadd hb dX12_runs_25 ?_
  refine a_putI (fty := .int) hb dX12_runs_26 (by rw [ow]; exact fp_RX12_231_12) (Or.inr (fun C T N hq => by cases hq; rfl)) (hL.1 51 (by decide)) rfl rfl ?_
  exact a_return hb hz dX12_runs_29 hret (by rw [hr]; exact Nat.le_of_ble_eq_true rfl) (by rw [hr]; exact Nat.le_of_ble_eq_true rfl) (⟨rfl, by rw [hI_setI_n (by omega), hrn]; exact trH_1⟩)
set_option maxRecDepth 100000 in
theorem m_plainDraws (g : GG) (h : AH) (B : Nat) (hL : LY h B) (rn : Nat) (hrn : hI h (B + 51) 21 = nI rn) (lrn : rn + 1 ≤ 20) (K N Q : Int32) (hK : hI h (B + 51) 22 = K) (hN0 : hI h (B + 51) 23 = N) (hV : hI h (B + 51) 24 = Q) (x : Int32) : AM g 2 0 0 mX12_plainDraws [.ref (B + 51), .int x] h (fun rv h' => rv = some (.int (acD N x).1) ∧ h' = (trH (B + 61) (B + 51) 21 h rn ((acD N x).2))) := by
  refine AM.of [(0, .ref (B + 51)), (1, .int x)] (by decide) (Nat.le_of_ble_eq_true rfl) rfl ?_
  intro V hV
  have hb : V.2.1.2.1 = cX12_plainDraws := by subst hV; rfl
  have ow : V.2.1.1.cls = RX12 := by subst hV; rfl
  have hr : V.2.2.1 = aw_rm 2 0 0 := by subst hV; rfl
  have hz : V.2.2.2 = aw_Z V.1 (fun rv h' => rv = some (.int (acD N x).1) ∧ h' = (trH (B + 61) (B + 51) 21 h rn ((acD N x).2))) V.2.2.1 := by subst hV; rfl
  have hg : V.1 = g := by subst hV; rfl
  have hret : V.2.1.2.2.2 = (some .int) := by subst hV; rfl
  have hml : V.2.1.2.2.1 = 2 := by subst hV; rfl
  clear hV
  refine a_aload_n hb dX12_plainDraws_0 rfl 0 rfl ?_
  refine a_iconst (v := 1) hb dX12_plainDraws_1 (by decide) ?_
  refine a_callV hb dX12_plainDraws_2 (by rw [hg]; exact m_runs g h B hL rn hrn (by omega) K N Q hK hN0 hV 1) (by rw [ow]; exact clv_RX12_234) (hL.1 51 (by decide)) (by decide) rfl rfl rfl (Nat.le_of_ble_eq_true rfl) (by rw [hr]; exact ⟨by decide, by decide⟩) (by rw [hr]; exact ⟨Nat.le_of_ble_eq_true rfl, Nat.le_of_ble_eq_true rfl⟩) ?_
  intro rv h' hp
  rw [hp.1, hp.2]
  show AW V 0 0 (trH (B + 61) (B + 51) 21 h rn ([1])) 5 [(0, .ref (B + 51)), (1, .int x)] []
  refine a_iload_n hb dX12_plainDraws_5 rfl 1 rfl ?_
  refine a_aload_n hb dX12_plainDraws_6 rfl 0 rfl ?_
  refine a_getI hb dX12_plainDraws_7 (by rw [ow]; exact fl_RX12_237_12) (hL.1 51 (by decide)) ?_
  rw [trH_f (k := 23) (by omega) (by decide), hN0]
  show AW V 0 0 (trH (B + 61) (B + 51) 21 h rn ([1])) 10 [(0, .ref (B + 51)), (1, .int x)] [.int N, .int x]
  refine a_iadd hb dX12_plainDraws_10 ?_
  exact a_ireturn (ty := .int) hb hz dX12_plainDraws_11 hret rfl (by rw [hr]; exact Nat.le_of_ble_eq_true rfl) (by rw [hr]; exact Nat.le_of_ble_eq_true rfl) (⟨rfl, rfl⟩)
set_option maxRecDepth 100000 in
theorem m_whistleDraws (g : GG) (h : AH) (B : Nat) (hL : LY h B) (rn : Nat) (hrn : hI h (B + 51) 21 = nI rn) (lrn : rn + 2 ≤ 20) (K N Q : Int32) (hK : hI h (B + 51) 22 = K) (hN0 : hI h (B + 51) 23 = N) (hV : hI h (B + 51) 24 = Q) (x : Int32) : AM g 3 0 0 mX12_whistleDraws [.ref (B + 51), .int x] h (fun rv h' => rv = some (.int (acW N x).1) ∧ h' = (trH (B + 61) (B + 51) 21 h rn ((acW N x).2))) := by
  refine AM.of [(0, .ref (B + 51)), (1, .int x)] (by decide) (Nat.le_of_ble_eq_true rfl) rfl ?_
  intro V hV
  have hb : V.2.1.2.1 = cX12_whistleDraws := by subst hV; rfl
  have ow : V.2.1.1.cls = RX12 := by subst hV; rfl
  have hr : V.2.2.1 = aw_rm 3 0 0 := by subst hV; rfl
  have hz : V.2.2.2 = aw_Z V.1 (fun rv h' => rv = some (.int (acW N x).1) ∧ h' = (trH (B + 61) (B + 51) 21 h rn ((acW N x).2))) V.2.2.1 := by subst hV; rfl
  have hg : V.1 = g := by subst hV; rfl
  have hret : V.2.1.2.2.2 = (some .int) := by subst hV; rfl
  have hml : V.2.1.2.2.1 = 2 := by subst hV; rfl
  clear hV
  refine a_aload_n hb dX12_whistleDraws_0 rfl 0 rfl ?_
  refine a_bipush (v := 11) hb dX12_whistleDraws_1 (by decide) ?_
  refine a_callV hb dX12_whistleDraws_3 (by rw [hg]; exact m_runs g h B hL rn hrn (by omega) K N Q hK hN0 hV 11) (by rw [ow]; exact clv_RX12_234) (hL.1 51 (by decide)) (by decide) rfl rfl rfl (Nat.le_of_ble_eq_true rfl) (by rw [hr]; exact ⟨by decide, by decide⟩) (by rw [hr]; exact ⟨Nat.le_of_ble_eq_true rfl, Nat.le_of_ble_eq_true rfl⟩) ?_
  intro rv h' hp
  rw [hp.1, hp.2]
  show AW V 0 0 (trH (B + 61) (B + 51) 21 h rn ([11])) 6 [(0, .ref (B + 51)), (1, .int x)] []
  refine a_aload_n hb dX12_whistleDraws_6 rfl 0 rfl ?_
  refine a_iload_n hb dX12_whistleDraws_7 rfl 1 rfl ?_
  refine a_iconst (v := 3) hb dX12_whistleDraws_8 (by decide) ?_
  refine a_imul hb dX12_whistleDraws_9 ?_
  refine a_callV hb dX12_whistleDraws_10 (by rw [hg]; exact m_plainDraws g (trH (B + 61) (B + 51) 21 h rn ([11])) B (LY.tr hL) (rn + ([11]).length) (trH_g (by omega)) (by simp only [List.length_append, List.length_cons, List.length_nil]; (try have q1 := @acT_l K N Q (x - 1)); omega) K N Q ((trH_f (by omega) (by decide)).trans hK) ((trH_f (by omega) (by decide)).trans hN0) ((trH_f (by omega) (by decide)).trans hV) (x * 3)) (by rw [ow]; exact clv_RX12_240) (hL.1 51 (by decide)) (by decide) rfl rfl rfl (Nat.le_of_ble_eq_true rfl) (by rw [hr]; exact ⟨by decide, by decide⟩) (by rw [hr]; exact ⟨Nat.le_of_ble_eq_true rfl, Nat.le_of_ble_eq_true rfl⟩) ?_
  intro rv h' hp
  rw [hp.1, hp.2]
  rw [trH_tr (by omega)]
  show AW V 0 0 (trH (B + 61) (B + 51) 21 h rn ([11] ++ (acD N (x * 3)).2)) 13 [(0, .ref (B + 51)), (1, .int x)] [.int ((acD N (x * 3)).1)]
  exact a_ireturn (ty := .int) hb hz dX12_whistleDraws_13 hret rfl (by rw [hr]; exact Nat.le_of_ble_eq_true rfl) (by rw [hr]; exact Nat.le_of_ble_eq_true rfl) (⟨rfl, rfl⟩)
set_option maxRecDepth 100000 in
theorem m_drawsActs (g : GG) (h : AH) (B : Nat) (hL : LY h B) (rn : Nat) (hrn : hI h (B + 51) 21 = nI rn) (lrn : rn + 3 ≤ 20) (K N Q : Int32) (hK : hI h (B + 51) 22 = K) (hN0 : hI h (B + 51) 23 = N) (hV : hI h (B + 51) 24 = Q) (x : Int32) : AM g 4 0 0 mX12_drawsActs [.ref (B + 51), .int x] h (fun rv h' => rv = some (.int (acDA K N x).1) ∧ h' = (trH (B + 61) (B + 51) 21 h rn ((acDA K N x).2))) := by
  refine AM.of [(0, .ref (B + 51)), (1, .int x)] (by decide) (Nat.le_of_ble_eq_true rfl) rfl ?_
  intro V hV
  have hb : V.2.1.2.1 = cX12_drawsActs := by subst hV; rfl
  have ow : V.2.1.1.cls = RX12 := by subst hV; rfl
  have hr : V.2.2.1 = aw_rm 4 0 0 := by subst hV; rfl
  have hz : V.2.2.2 = aw_Z V.1 (fun rv h' => rv = some (.int (acDA K N x).1) ∧ h' = (trH (B + 61) (B + 51) 21 h rn ((acDA K N x).2))) V.2.2.1 := by subst hV; rfl
  have hg : V.1 = g := by subst hV; rfl
  have hret : V.2.1.2.2.2 = (some .int) := by subst hV; rfl
  have hml : V.2.1.2.2.1 = 2 := by subst hV; rfl
  clear hV
  refine a_aload_n hb dX12_drawsActs_0 rfl 0 rfl ?_
  refine a_getI hb dX12_drawsActs_1 (by rw [ow]; exact fl_RX12_243_12) (hL.1 51 (by decide)) ?_
  rw [hK]
  show AW V 0 0 h 4 [(0, .ref (B + 51)), (1, .int x)] [.int K]
  refine a_bipush (v := 6) hb dX12_drawsActs_4 (by decide) ?_
  refine a_icmp_ne hb 26 dX12_drawsActs_6 (by decide) (fun c6 => ?_) (fun c6 => ?_)
  · refine a_aload_n hb dX12_drawsActs_26 rfl 0 rfl ?_
    refine a_getI hb dX12_drawsActs_27 (by rw [ow]; exact fl_RX12_243_12) (hL.1 51 (by decide)) ?_
    rw [hK]
    show AW V 0 0 h 30 [(0, .ref (B + 51)), (1, .int x)] [.int K]
    refine a_iconst (v := 1) hb dX12_drawsActs_30 (by decide) ?_
    refine a_callS hb dX12_drawsActs_31 (by rw [hg]; exact m_isUnder g h K 1) (by rw [ow]; exact cls_RX12_249) rfl rfl (Nat.le_of_ble_eq_true rfl) (by rw [hr]; exact ⟨by decide, by decide⟩) (by rw [hr]; exact ⟨Nat.le_of_ble_eq_true rfl, Nat.le_of_ble_eq_true rfl⟩) ?_
    intro rv h' hp
    rw [hp.1, hp.2]
    show AW V 0 0 h 34 [(0, .ref (B + 51)), (1, .int x)] [.int (b2i (spUnder K 1))]
    refine a_if_eq hb 45 dX12_drawsActs_34 (by decide) (fun c34 => ?_) (fun c34 => ?_)
    · simp [b2i_0] at c34
      refine a_aload_n hb dX12_drawsActs_45 rfl 0 rfl ?_
      refine a_iload_n hb dX12_drawsActs_46 rfl 1 rfl ?_
      refine a_callV hb dX12_drawsActs_47 (by rw [hg]; exact m_plainDraws g h B hL rn hrn (by omega) K N Q hK hN0 hV x) (by rw [ow]; exact clv_RX12_240) (hL.1 51 (by decide)) (by decide) rfl rfl rfl (Nat.le_of_ble_eq_true rfl) (by rw [hr]; exact ⟨by decide, by decide⟩) (by rw [hr]; exact ⟨Nat.le_of_ble_eq_true rfl, Nat.le_of_ble_eq_true rfl⟩) ?_
      intro rv h' hp
      rw [hp.1, hp.2]
      show AW V 0 0 (trH (B + 61) (B + 51) 21 h rn ((acD N x).2)) 50 [(0, .ref (B + 51)), (1, .int x)] [.int ((acD N x).1)]
      exact a_ireturn (ty := .int) hb hz dX12_drawsActs_50 hret rfl (by rw [hr]; exact Nat.le_of_ble_eq_true rfl) (by rw [hr]; exact Nat.le_of_ble_eq_true rfl) (⟨by rw [acDA, if_neg c6, if_neg (by rw [c34]; decide)], by rw [acDA, if_neg c6, if_neg (by rw [c34]; decide)]⟩)
    · simp [b2i_0] at c34
      refine a_aload_n hb dX12_drawsActs_37 rfl 0 rfl ?_
      refine a_iload_n hb dX12_drawsActs_38 rfl 1 rfl ?_
      refine a_callV hb dX12_drawsActs_39 (by rw [hg]; exact m_whistleDraws g h B hL rn hrn (by omega) K N Q hK hN0 hV x) (by rw [ow]; exact clv_RX12_246) (hL.1 51 (by decide)) (by decide) rfl rfl rfl (Nat.le_of_ble_eq_true rfl) (by rw [hr]; exact ⟨by decide, by decide⟩) (by rw [hr]; exact ⟨Nat.le_of_ble_eq_true rfl, Nat.le_of_ble_eq_true rfl⟩) ?_
      intro rv h' hp
      rw [hp.1, hp.2]
      show AW V 0 0 (trH (B + 61) (B + 51) 21 h rn ((acW N x).2)) 42 [(0, .ref (B + 51)), (1, .int x)] [.int ((acW N x).1)]
      refine a_goto hb 50 dX12_drawsActs_42 (by decide) ?_
      exact a_ireturn (ty := .int) hb hz dX12_drawsActs_50 hret rfl (by rw [hr]; exact Nat.le_of_ble_eq_true rfl) (by rw [hr]; exact Nat.le_of_ble_eq_true rfl) (⟨by rw [acDA, if_neg c6, if_pos c34], by rw [acDA, if_neg c6, if_pos c34]⟩)
  · refine a_aload_n hb dX12_drawsActs_9 rfl 0 rfl ?_
    refine a_bipush (v := 51) hb dX12_drawsActs_10 (by decide) ?_
    refine a_callV hb dX12_drawsActs_12 (by rw [hg]; exact m_runs g h B hL rn hrn (by omega) K N Q hK hN0 hV 51) (by rw [ow]; exact clv_RX12_234) (hL.1 51 (by decide)) (by decide) rfl rfl rfl (Nat.le_of_ble_eq_true rfl) (by rw [hr]; exact ⟨by decide, by decide⟩) (by rw [hr]; exact ⟨Nat.le_of_ble_eq_true rfl, Nat.le_of_ble_eq_true rfl⟩) ?_
    intro rv h' hp
    rw [hp.1, hp.2]
    show AW V 0 0 (trH (B + 61) (B + 51) 21 h rn ([51])) 15 [(0, .ref (B + 51)), (1, .int x)] []
    refine a_aload_n hb dX12_drawsActs_15 rfl 0 rfl ?_
    refine a_iload_n hb dX12_drawsActs_16 rfl 1 rfl ?_
    refine a_callV hb dX12_drawsActs_17 (by rw [hg]; exact m_whistleDraws g (trH (B + 61) (B + 51) 21 h rn ([51])) B (LY.tr hL) (rn + ([51]).length) (trH_g (by omega)) (by simp only [List.length_append, List.length_cons, List.length_nil]; (try have q1 := @acT_l K N Q (x - 1)); omega) K N Q ((trH_f (by omega) (by decide)).trans hK) ((trH_f (by omega) (by decide)).trans hN0) ((trH_f (by omega) (by decide)).trans hV) x) (by rw [ow]; exact clv_RX12_246) (hL.1 51 (by decide)) (by decide) rfl rfl rfl (Nat.le_of_ble_eq_true rfl) (by rw [hr]; exact ⟨by decide, by decide⟩) (by rw [hr]; exact ⟨Nat.le_of_ble_eq_true rfl, Nat.le_of_ble_eq_true rfl⟩) ?_
    intro rv h' hp
    rw [hp.1, hp.2]
    rw [trH_tr (by omega)]
    show AW V 0 0 (trH (B + 61) (B + 51) 21 h rn ([51] ++ (acW N x).2)) 20 [(0, .ref (B + 51)), (1, .int x)] [.int ((acW N x).1)]
    refine a_aload_n hb dX12_drawsActs_20 rfl 0 rfl ?_
    refine a_getI hb dX12_drawsActs_21 (by rw [ow]; exact fl_RX12_237_12) (hL.1 51 (by decide)) ?_
    rw [trH_f (k := 23) (by omega) (by decide), hN0]
    show AW V 0 0 (trH (B + 61) (B + 51) 21 h rn ([51] ++ (acW N x).2)) 24 [(0, .ref (B + 51)), (1, .int x)] [.int N, .int ((acW N x).1)]
    refine a_ixor hb dX12_drawsActs_24 ?_
    exact a_ireturn (ty := .int) hb hz dX12_drawsActs_25 hret rfl (by rw [hr]; exact Nat.le_of_ble_eq_true rfl) (by rw [hr]; exact Nat.le_of_ble_eq_true rfl) (⟨by rw [acDA, if_pos c6], by rw [acDA, if_pos c6]⟩)
set_option maxRecDepth 100000 in
theorem m_plainRises (g : GG) (h : AH) (B : Nat) (hL : LY h B) (rn : Nat) (hrn : hI h (B + 51) 21 = nI rn) (lrn : rn + 4 ≤ 20) (K N Q : Int32) (hK : hI h (B + 51) 22 = K) (hN0 : hI h (B + 51) 23 = N) (hV : hI h (B + 51) 24 = Q) (x : Int32) : AM g 5 0 0 mX12_plainRises [.ref (B + 51), .int x] h (fun rv h' => rv = some (.int (acR K N Q x).1) ∧ h' = (trH (B + 61) (B + 51) 21 h rn ((acR K N Q x).2))) := by
  refine AM.of [(0, .ref (B + 51)), (1, .int x)] (by decide) (Nat.le_of_ble_eq_true rfl) rfl ?_
  intro V hV
  have hb : V.2.1.2.1 = cX12_plainRises := by subst hV; rfl
  have ow : V.2.1.1.cls = RX12 := by subst hV; rfl
  have hr : V.2.2.1 = aw_rm 5 0 0 := by subst hV; rfl
  have hz : V.2.2.2 = aw_Z V.1 (fun rv h' => rv = some (.int (acR K N Q x).1) ∧ h' = (trH (B + 61) (B + 51) 21 h rn ((acR K N Q x).2))) V.2.2.1 := by subst hV; rfl
  have hg : V.1 = g := by subst hV; rfl
  have hret : V.2.1.2.2.2 = (some .int) := by subst hV; rfl
  have hml : V.2.1.2.2.1 = 2 := by subst hV; rfl
  clear hV
  refine a_aload_n hb dX12_plainRises_0 rfl 0 rfl ?_
  refine a_iconst (v := 2) hb dX12_plainRises_1 (by decide) ?_
  refine a_callV hb dX12_plainRises_2 (by rw [hg]; exact m_runs g h B hL rn hrn (by omega) K N Q hK hN0 hV 2) (by rw [ow]; exact clv_RX12_234) (hL.1 51 (by decide)) (by decide) rfl rfl rfl (Nat.le_of_ble_eq_true rfl) (by rw [hr]; exact ⟨by decide, by decide⟩) (by rw [hr]; exact ⟨Nat.le_of_ble_eq_true rfl, Nat.le_of_ble_eq_true rfl⟩) ?_
  intro rv h' hp
  rw [hp.1, hp.2]
  show AW V 0 0 (trH (B + 61) (B + 51) 21 h rn ([2])) 5 [(0, .ref (B + 51)), (1, .int x)] []
  refine a_aload_n hb dX12_plainRises_5 rfl 0 rfl ?_
  refine a_iload_n hb dX12_plainRises_6 rfl 1 rfl ?_
  refine a_callV hb dX12_plainRises_7 (by rw [hg]; exact m_drawsActs g (trH (B + 61) (B + 51) 21 h rn ([2])) B (LY.tr hL) (rn + ([2]).length) (trH_g (by omega)) (by simp only [List.length_append, List.length_cons, List.length_nil]; (try have q1 := @acT_l K N Q (x - 1)); omega) K N Q ((trH_f (by omega) (by decide)).trans hK) ((trH_f (by omega) (by decide)).trans hN0) ((trH_f (by omega) (by decide)).trans hV) x) (by rw [ow]; exact clv_RX12_253) (hL.1 51 (by decide)) (by decide) rfl rfl rfl (Nat.le_of_ble_eq_true rfl) (by rw [hr]; exact ⟨by decide, by decide⟩) (by rw [hr]; exact ⟨Nat.le_of_ble_eq_true rfl, Nat.le_of_ble_eq_true rfl⟩) ?_
  intro rv h' hp
  rw [hp.1, hp.2]
  rw [trH_tr (by omega)]
  show AW V 0 0 (trH (B + 61) (B + 51) 21 h rn ([2] ++ (acDA K N x).2)) 10 [(0, .ref (B + 51)), (1, .int x)] [.int ((acDA K N x).1)]
  refine a_aload_n hb dX12_plainRises_10 rfl 0 rfl ?_
  refine a_getI hb dX12_plainRises_11 (by rw [ow]; exact fl_RX12_256_12) (hL.1 51 (by decide)) ?_
  rw [trH_f (k := 24) (by omega) (by decide), hV]
  show AW V 0 0 (trH (B + 61) (B + 51) 21 h rn ([2] ++ (acDA K N x).2)) 14 [(0, .ref (B + 51)), (1, .int x)] [.int Q, .int ((acDA K N x).1)]
  refine a_isub hb dX12_plainRises_14 ?_
  exact a_ireturn (ty := .int) hb hz dX12_plainRises_15 hret rfl (by rw [hr]; exact Nat.le_of_ble_eq_true rfl) (by rw [hr]; exact Nat.le_of_ble_eq_true rfl) (⟨rfl, rfl⟩)
set_option maxRecDepth 100000 in
theorem m_risesActs (g : GG) (h : AH) (B : Nat) (hL : LY h B) (rn : Nat) (hrn : hI h (B + 51) 21 = nI rn) (lrn : rn + 5 ≤ 20) (K N Q : Int32) (hK : hI h (B + 51) 22 = K) (hN0 : hI h (B + 51) 23 = N) (hV : hI h (B + 51) 24 = Q) (x : Int32) : AM g 6 0 0 mX12_risesActs [.ref (B + 51), .int x] h (fun rv h' => rv = some (.int (acRA K N Q x).1) ∧ h' = (trH (B + 61) (B + 51) 21 h rn ((acRA K N Q x).2))) := by
  refine AM.of [(0, .ref (B + 51)), (1, .int x)] (by decide) (Nat.le_of_ble_eq_true rfl) rfl ?_
  intro V hV
  have hb : V.2.1.2.1 = cX12_risesActs := by subst hV; rfl
  have ow : V.2.1.1.cls = RX12 := by subst hV; rfl
  have hr : V.2.2.1 = aw_rm 6 0 0 := by subst hV; rfl
  have hz : V.2.2.2 = aw_Z V.1 (fun rv h' => rv = some (.int (acRA K N Q x).1) ∧ h' = (trH (B + 61) (B + 51) 21 h rn ((acRA K N Q x).2))) V.2.2.1 := by subst hV; rfl
  have hg : V.1 = g := by subst hV; rfl
  have hret : V.2.1.2.2.2 = (some .int) := by subst hV; rfl
  have hml : V.2.1.2.2.1 = 2 := by subst hV; rfl
  clear hV
  refine a_aload_n hb dX12_risesActs_0 rfl 0 rfl ?_
  refine a_getI hb dX12_risesActs_1 (by rw [ow]; exact fl_RX12_243_12) (hL.1 51 (by decide)) ?_
  rw [hK]
  show AW V 0 0 h 4 [(0, .ref (B + 51)), (1, .int x)] [.int K]
  refine a_iconst (v := 3) hb dX12_risesActs_4 (by decide) ?_
  refine a_icmp_ne hb 21 dX12_risesActs_5 (by decide) (fun c5 => ?_) (fun c5 => ?_)
  · refine a_aload_n hb dX12_risesActs_21 rfl 0 rfl ?_
    refine a_getI hb dX12_risesActs_22 (by rw [ow]; exact fl_RX12_243_12) (hL.1 51 (by decide)) ?_
    rw [hK]
    show AW V 0 0 h 25 [(0, .ref (B + 51)), (1, .int x)] [.int K]
    refine a_iconst (v := 5) hb dX12_risesActs_25 (by decide) ?_
    refine a_icmp_ne hb 46 dX12_risesActs_26 (by decide) (fun c26 => ?_) (fun c26 => ?_)
    · refine a_aload_n hb dX12_risesActs_46 rfl 0 rfl ?_
      refine a_iload_n hb dX12_risesActs_47 rfl 1 rfl ?_
      refine a_callV hb dX12_risesActs_48 (by rw [hg]; exact m_plainRises g h B hL rn hrn (by omega) K N Q hK hN0 hV x) (by rw [ow]; exact clv_RX12_259) (hL.1 51 (by decide)) (by decide) rfl rfl rfl (Nat.le_of_ble_eq_true rfl) (by rw [hr]; exact ⟨by decide, by decide⟩) (by rw [hr]; exact ⟨Nat.le_of_ble_eq_true rfl, Nat.le_of_ble_eq_true rfl⟩) ?_
      intro rv h' hp
      rw [hp.1, hp.2]
      show AW V 0 0 (trH (B + 61) (B + 51) 21 h rn ((acR K N Q x).2)) 51 [(0, .ref (B + 51)), (1, .int x)] [.int ((acR K N Q x).1)]
      exact a_ireturn (ty := .int) hb hz dX12_risesActs_51 hret rfl (by rw [hr]; exact Nat.le_of_ble_eq_true rfl) (by rw [hr]; exact Nat.le_of_ble_eq_true rfl) (⟨by rw [acRA, if_neg c5, if_neg c26], by rw [acRA, if_neg c5, if_neg c26]⟩)
    · refine a_aload_n hb dX12_risesActs_29 rfl 0 rfl ?_
      refine a_bipush (v := 61) hb dX12_risesActs_30 (by decide) ?_
      refine a_callV hb dX12_risesActs_32 (by rw [hg]; exact m_runs g h B hL rn hrn (by omega) K N Q hK hN0 hV 61) (by rw [ow]; exact clv_RX12_234) (hL.1 51 (by decide)) (by decide) rfl rfl rfl (Nat.le_of_ble_eq_true rfl) (by rw [hr]; exact ⟨by decide, by decide⟩) (by rw [hr]; exact ⟨Nat.le_of_ble_eq_true rfl, Nat.le_of_ble_eq_true rfl⟩) ?_
      intro rv h' hp
      rw [hp.1, hp.2]
      show AW V 0 0 (trH (B + 61) (B + 51) 21 h rn ([61])) 35 [(0, .ref (B + 51)), (1, .int x)] []
      refine a_aload_n hb dX12_risesActs_35 rfl 0 rfl ?_
      refine a_iload_n hb dX12_risesActs_36 rfl 1 rfl ?_
      refine a_callV hb dX12_risesActs_37 (by rw [hg]; exact m_plainRises g (trH (B + 61) (B + 51) 21 h rn ([61])) B (LY.tr hL) (rn + ([61]).length) (trH_g (by omega)) (by simp only [List.length_append, List.length_cons, List.length_nil]; (try have q1 := @acT_l K N Q (x - 1)); omega) K N Q ((trH_f (by omega) (by decide)).trans hK) ((trH_f (by omega) (by decide)).trans hN0) ((trH_f (by omega) (by decide)).trans hV) x) (by rw [ow]; exact clv_RX12_259) (hL.1 51 (by decide)) (by decide) rfl rfl rfl (Nat.le_of_ble_eq_true rfl) (by rw [hr]; exact ⟨by decide, by decide⟩) (by rw [hr]; exact ⟨Nat.le_of_ble_eq_true rfl, Nat.le_of_ble_eq_true rfl⟩) ?_
      intro rv h' hp
      rw [hp.1, hp.2]
      rw [trH_tr (by omega)]
      show AW V 0 0 (trH (B + 61) (B + 51) 21 h rn ([61] ++ (acR K N Q x).2)) 40 [(0, .ref (B + 51)), (1, .int x)] [.int ((acR K N Q x).1)]
      refine a_aload_n hb dX12_risesActs_40 rfl 0 rfl ?_
      refine a_getI hb dX12_risesActs_41 (by rw [ow]; exact fl_RX12_256_12) (hL.1 51 (by decide)) ?_
      rw [trH_f (k := 24) (by omega) (by decide), hV]
      show AW V 0 0 (trH (B + 61) (B + 51) 21 h rn ([61] ++ (acR K N Q x).2)) 44 [(0, .ref (B + 51)), (1, .int x)] [.int Q, .int ((acR K N Q x).1)]
      refine a_iadd hb dX12_risesActs_44 ?_
      exact a_ireturn (ty := .int) hb hz dX12_risesActs_45 hret rfl (by rw [hr]; exact Nat.le_of_ble_eq_true rfl) (by rw [hr]; exact Nat.le_of_ble_eq_true rfl) (⟨by rw [acRA, if_neg c5, if_pos c26], by rw [acRA, if_neg c5, if_pos c26]⟩)
  · refine a_aload_n hb dX12_risesActs_8 rfl 0 rfl ?_
    refine a_bipush (v := 21) hb dX12_risesActs_9 (by decide) ?_
    refine a_callV hb dX12_risesActs_11 (by rw [hg]; exact m_runs g h B hL rn hrn (by omega) K N Q hK hN0 hV 21) (by rw [ow]; exact clv_RX12_234) (hL.1 51 (by decide)) (by decide) rfl rfl rfl (Nat.le_of_ble_eq_true rfl) (by rw [hr]; exact ⟨by decide, by decide⟩) (by rw [hr]; exact ⟨Nat.le_of_ble_eq_true rfl, Nat.le_of_ble_eq_true rfl⟩) ?_
    intro rv h' hp
    rw [hp.1, hp.2]
    show AW V 0 0 (trH (B + 61) (B + 51) 21 h rn ([21])) 14 [(0, .ref (B + 51)), (1, .int x)] []
    refine a_aload_n hb dX12_risesActs_14 rfl 0 rfl ?_
    refine a_iload_n hb dX12_risesActs_15 rfl 1 rfl ?_
    refine a_callV hb dX12_risesActs_16 (by rw [hg]; exact m_plainRises g (trH (B + 61) (B + 51) 21 h rn ([21])) B (LY.tr hL) (rn + ([21]).length) (trH_g (by omega)) (by simp only [List.length_append, List.length_cons, List.length_nil]; (try have q1 := @acT_l K N Q (x - 1)); omega) K N Q ((trH_f (by omega) (by decide)).trans hK) ((trH_f (by omega) (by decide)).trans hN0) ((trH_f (by omega) (by decide)).trans hV) x) (by rw [ow]; exact clv_RX12_259) (hL.1 51 (by decide)) (by decide) rfl rfl rfl (Nat.le_of_ble_eq_true rfl) (by rw [hr]; exact ⟨by decide, by decide⟩) (by rw [hr]; exact ⟨Nat.le_of_ble_eq_true rfl, Nat.le_of_ble_eq_true rfl⟩) ?_
    intro rv h' hp
    rw [hp.1, hp.2]
    rw [trH_tr (by omega)]
    show AW V 0 0 (trH (B + 61) (B + 51) 21 h rn ([21] ++ (acR K N Q x).2)) 19 [(0, .ref (B + 51)), (1, .int x)] [.int ((acR K N Q x).1)]
    refine a_ineg hb dX12_risesActs_19 ?_
    exact a_ireturn (ty := .int) hb hz dX12_risesActs_20 hret rfl (by rw [hr]; exact Nat.le_of_ble_eq_true rfl) (by rw [hr]; exact Nat.le_of_ble_eq_true rfl) (⟨by rw [acRA, if_pos c5], by rw [acRA, if_pos c5]⟩)
set_option maxRecDepth 100000 in
theorem m_plainTells (g : GG) (h : AH) (B : Nat) (hL : LY h B) (rn : Nat) (hrn : hI h (B + 51) 21 = nI rn) (lrn : rn + 6 ≤ 20) (K N Q : Int32) (hK : hI h (B + 51) 22 = K) (hN0 : hI h (B + 51) 23 = N) (hV : hI h (B + 51) 24 = Q) (x : Int32) : AM g 7 0 0 mX12_plainTells [.ref (B + 51), .int x] h (fun rv h' => rv = some (.int (acT K N Q x).1) ∧ h' = (trH (B + 61) (B + 51) 21 h rn ((acT K N Q x).2))) := by
  refine AM.of [(0, .ref (B + 51)), (1, .int x)] (by decide) (Nat.le_of_ble_eq_true rfl) rfl ?_
  intro V hV
  have hb : V.2.1.2.1 = cX12_plainTells := by subst hV; rfl
  have ow : V.2.1.1.cls = RX12 := by subst hV; rfl
  have hr : V.2.2.1 = aw_rm 7 0 0 := by subst hV; rfl
  have hz : V.2.2.2 = aw_Z V.1 (fun rv h' => rv = some (.int (acT K N Q x).1) ∧ h' = (trH (B + 61) (B + 51) 21 h rn ((acT K N Q x).2))) V.2.2.1 := by subst hV; rfl
  have hg : V.1 = g := by subst hV; rfl
  have hret : V.2.1.2.2.2 = (some .int) := by subst hV; rfl
  have hml : V.2.1.2.2.1 = 2 := by subst hV; rfl
  clear hV
  refine a_aload_n hb dX12_plainTells_0 rfl 0 rfl ?_
  refine a_iconst (v := 3) hb dX12_plainTells_1 (by decide) ?_
  refine a_callV hb dX12_plainTells_2 (by rw [hg]; exact m_runs g h B hL rn hrn (by omega) K N Q hK hN0 hV 3) (by rw [ow]; exact clv_RX12_234) (hL.1 51 (by decide)) (by decide) rfl rfl rfl (Nat.le_of_ble_eq_true rfl) (by rw [hr]; exact ⟨by decide, by decide⟩) (by rw [hr]; exact ⟨Nat.le_of_ble_eq_true rfl, Nat.le_of_ble_eq_true rfl⟩) ?_
  intro rv h' hp
  rw [hp.1, hp.2]
  show AW V 0 0 (trH (B + 61) (B + 51) 21 h rn ([3])) 5 [(0, .ref (B + 51)), (1, .int x)] []
  refine a_aload_n hb dX12_plainTells_5 rfl 0 rfl ?_
  refine a_iload_n hb dX12_plainTells_6 rfl 1 rfl ?_
  refine a_callV hb dX12_plainTells_7 (by rw [hg]; exact m_risesActs g (trH (B + 61) (B + 51) 21 h rn ([3])) B (LY.tr hL) (rn + ([3]).length) (trH_g (by omega)) (by simp only [List.length_append, List.length_cons, List.length_nil]; (try have q1 := @acT_l K N Q (x - 1)); omega) K N Q ((trH_f (by omega) (by decide)).trans hK) ((trH_f (by omega) (by decide)).trans hN0) ((trH_f (by omega) (by decide)).trans hV) x) (by rw [ow]; exact clv_RX12_262) (hL.1 51 (by decide)) (by decide) rfl rfl rfl (Nat.le_of_ble_eq_true rfl) (by rw [hr]; exact ⟨by decide, by decide⟩) (by rw [hr]; exact ⟨Nat.le_of_ble_eq_true rfl, Nat.le_of_ble_eq_true rfl⟩) ?_
  intro rv h' hp
  rw [hp.1, hp.2]
  rw [trH_tr (by omega)]
  show AW V 0 0 (trH (B + 61) (B + 51) 21 h rn ([3] ++ (acRA K N Q x).2)) 10 [(0, .ref (B + 51)), (1, .int x)] [.int ((acRA K N Q x).1)]
  refine a_iconst (v := 2) hb dX12_plainTells_10 (by decide) ?_
  refine a_imul hb dX12_plainTells_11 ?_
  exact a_ireturn (ty := .int) hb hz dX12_plainTells_12 hret rfl (by rw [hr]; exact Nat.le_of_ble_eq_true rfl) (by rw [hr]; exact Nat.le_of_ble_eq_true rfl) (⟨rfl, rfl⟩)
set_option maxRecDepth 100000 in
theorem m_tellsActs (g : GG) (h : AH) (B : Nat) (hL : LY h B) (rn : Nat) (hrn : hI h (B + 51) 21 = nI rn) (lrn : rn + 10 ≤ 20) (K N Q : Int32) (hK : hI h (B + 51) 22 = K) (hN0 : hI h (B + 51) 23 = N) (hV : hI h (B + 51) 24 = Q) (x : Int32) : AM g 8 0 0 mX12_tellsActs [.ref (B + 51), .int x] h (fun rv h' => rv = some (.int (acTA K N Q x).1) ∧ h' = (trH (B + 61) (B + 51) 21 h rn ((acTA K N Q x).2))) := by
  refine AM.of [(0, .ref (B + 51)), (1, .int x)] (by decide) (Nat.le_of_ble_eq_true rfl) rfl ?_
  intro V hV
  have hb : V.2.1.2.1 = cX12_tellsActs := by subst hV; rfl
  have ow : V.2.1.1.cls = RX12 := by subst hV; rfl
  have hr : V.2.2.1 = aw_rm 8 0 0 := by subst hV; rfl
  have hz : V.2.2.2 = aw_Z V.1 (fun rv h' => rv = some (.int (acTA K N Q x).1) ∧ h' = (trH (B + 61) (B + 51) 21 h rn ((acTA K N Q x).2))) V.2.2.1 := by subst hV; rfl
  have hg : V.1 = g := by subst hV; rfl
  have hret : V.2.1.2.2.2 = (some .int) := by subst hV; rfl
  have hml : V.2.1.2.2.1 = 3 := by subst hV; rfl
  clear hV
  refine a_aload_n hb dX12_tellsActs_0 rfl 0 rfl ?_
  refine a_getI hb dX12_tellsActs_1 (by rw [ow]; exact fl_RX12_243_12) (hL.1 51 (by decide)) ?_
  rw [hK]
  show AW V 0 0 h 4 [(0, .ref (B + 51)), (1, .int x)] [.int K]
  refine a_iconst (v := 4) hb dX12_tellsActs_4 (by decide) ?_
  refine a_callS hb dX12_tellsActs_5 (by rw [hg]; exact m_isUnder g h K 4) (by rw [ow]; exact cls_RX12_249) rfl rfl (Nat.le_of_ble_eq_true rfl) (by rw [hr]; exact ⟨by decide, by decide⟩) (by rw [hr]; exact ⟨Nat.le_of_ble_eq_true rfl, Nat.le_of_ble_eq_true rfl⟩) ?_
  intro rv h' hp
  rw [hp.1, hp.2]
  show AW V 0 0 h 8 [(0, .ref (B + 51)), (1, .int x)] [.int (b2i (spUnder K 4))]
  refine a_if_eq hb 26 dX12_tellsActs_8 (by decide) (fun c8 => ?_) (fun c8 => ?_)
  · simp [b2i_0] at c8
    refine a_aload_n hb dX12_tellsActs_26 rfl 0 rfl ?_
    refine a_getI hb dX12_tellsActs_27 (by rw [ow]; exact fl_RX12_243_12) (hL.1 51 (by decide)) ?_
    rw [hK]
    show AW V 0 0 h 30 [(0, .ref (B + 51)), (1, .int x)] [.int K]
    refine a_iconst (v := 2) hb dX12_tellsActs_30 (by decide) ?_
    refine a_icmp_ne hb 56 dX12_tellsActs_31 (by decide) (fun c31 => ?_) (fun c31 => ?_)
    · refine a_aload_n hb dX12_tellsActs_56 rfl 0 rfl ?_
      refine a_iload_n hb dX12_tellsActs_57 rfl 1 rfl ?_
      refine a_callV hb dX12_tellsActs_58 (by rw [hg]; exact m_plainTells g h B hL rn hrn (by omega) K N Q hK hN0 hV x) (by rw [ow]; exact clv_RX12_265) (hL.1 51 (by decide)) (by decide) rfl rfl rfl (Nat.le_of_ble_eq_true rfl) (by rw [hr]; exact ⟨by decide, by decide⟩) (by rw [hr]; exact ⟨Nat.le_of_ble_eq_true rfl, Nat.le_of_ble_eq_true rfl⟩) ?_
      intro rv h' hp
      rw [hp.1, hp.2]
      show AW V 0 0 (trH (B + 61) (B + 51) 21 h rn ((acT K N Q x).2)) 61 [(0, .ref (B + 51)), (1, .int x)] [.int ((acT K N Q x).1)]
      exact a_ireturn (ty := .int) hb hz dX12_tellsActs_61 hret rfl (by rw [hr]; exact Nat.le_of_ble_eq_true rfl) (by rw [hr]; exact Nat.le_of_ble_eq_true rfl) (⟨by rw [acTA, if_neg (by rw [c8]; decide), if_neg c31], by rw [acTA, if_neg (by rw [c8]; decide), if_neg c31]⟩)
    · refine a_aload_n hb dX12_tellsActs_34 rfl 0 rfl ?_
      refine a_bipush (v := 41) hb dX12_tellsActs_35 (by decide) ?_
      refine a_callV hb dX12_tellsActs_37 (by rw [hg]; exact m_runs g h B hL rn hrn (by omega) K N Q hK hN0 hV 41) (by rw [ow]; exact clv_RX12_234) (hL.1 51 (by decide)) (by decide) rfl rfl rfl (Nat.le_of_ble_eq_true rfl) (by rw [hr]; exact ⟨by decide, by decide⟩) (by rw [hr]; exact ⟨Nat.le_of_ble_eq_true rfl, Nat.le_of_ble_eq_true rfl⟩) ?_
      intro rv h' hp
      rw [hp.1, hp.2]
      show AW V 0 0 (trH (B + 61) (B + 51) 21 h rn ([41])) 40 [(0, .ref (B + 51)), (1, .int x)] []
      refine a_aload_n hb dX12_tellsActs_40 rfl 0 rfl ?_
      refine a_iload_n hb dX12_tellsActs_41 rfl 1 rfl ?_
      refine a_iconst (v := 1) hb dX12_tellsActs_42 (by decide) ?_
      refine a_isub hb dX12_tellsActs_43 ?_
      refine a_callV hb dX12_tellsActs_44 (by rw [hg]; exact m_plainTells g (trH (B + 61) (B + 51) 21 h rn ([41])) B (LY.tr hL) (rn + ([41]).length) (trH_g (by omega)) (by simp only [List.length_append, List.length_cons, List.length_nil]; (try have q1 := @acT_l K N Q (x - 1)); omega) K N Q ((trH_f (by omega) (by decide)).trans hK) ((trH_f (by omega) (by decide)).trans hN0) ((trH_f (by omega) (by decide)).trans hV) (x - 1)) (by rw [ow]; exact clv_RX12_265) (hL.1 51 (by decide)) (by decide) rfl rfl rfl (Nat.le_of_ble_eq_true rfl) (by rw [hr]; exact ⟨by decide, by decide⟩) (by rw [hr]; exact ⟨Nat.le_of_ble_eq_true rfl, Nat.le_of_ble_eq_true rfl⟩) ?_
      intro rv h' hp
      rw [hp.1, hp.2]
      rw [trH_tr (by omega)]
      show AW V 0 0 (trH (B + 61) (B + 51) 21 h rn ([41] ++ (acT K N Q (x - 1)).2)) 47 [(0, .ref (B + 51)), (1, .int x)] [.int ((acT K N Q (x - 1)).1)]
      refine a_istore_n (L' := [(2, .int ((acT K N Q (x - 1)).1)), (0, .ref (B + 51)), (1, .int x)]) hb dX12_tellsActs_47 rfl (by rw [hml]; decide) rfl ?_
      refine a_iload_n hb dX12_tellsActs_48 rfl 0 rfl ?_
      refine a_aload_n hb dX12_tellsActs_49 rfl 1 rfl ?_
      refine a_iconst (v := 2) hb dX12_tellsActs_50 (by decide) ?_
      refine a_callV hb dX12_tellsActs_51 (by rw [hg]; exact m_drawsActs g (trH (B + 61) (B + 51) 21 h rn ([41] ++ (acT K N Q (x - 1)).2)) B (LY.tr hL) (rn + ([41] ++ (acT K N Q (x - 1)).2).length) (trH_g (by omega)) (by simp only [List.length_append, List.length_cons, List.length_nil]; (try have q1 := @acT_l K N Q (x - 1)); omega) K N Q ((trH_f (by omega) (by decide)).trans hK) ((trH_f (by omega) (by decide)).trans hN0) ((trH_f (by omega) (by decide)).trans hV) 2) (by rw [ow]; exact clv_RX12_253) (hL.1 51 (by decide)) (by decide) rfl rfl rfl (Nat.le_of_ble_eq_true rfl) (by rw [hr]; exact ⟨by decide, by decide⟩) (by rw [hr]; exact ⟨Nat.le_of_ble_eq_true rfl, Nat.le_of_ble_eq_true rfl⟩) ?_
      intro rv h' hp
      rw [hp.1, hp.2]
      rw [trH_tr (by omega)]
      show AW V 0 0 (trH (B + 61) (B + 51) 21 h rn ([41] ++ (acT K N Q (x - 1)).2 ++ (acDA K N 2).2)) 54 [(2, .int ((acT K N Q (x - 1)).1)), (0, .ref (B + 51)), (1, .int x)] [.int ((acDA K N 2).1), .int ((acT K N Q (x - 1)).1)]
      refine a_iadd hb dX12_tellsActs_54 ?_
      exact a_ireturn (ty := .int) hb hz dX12_tellsActs_55 hret rfl (by rw [hr]; exact Nat.le_of_ble_eq_true rfl) (by rw [hr]; exact Nat.le_of_ble_eq_true rfl) (⟨by rw [acTA, if_neg (by rw [c8]; decide), if_pos c31], by rw [acTA, if_neg (by rw [c8]; decide), if_pos c31]⟩)
  · simp [b2i_0] at c8
    refine a_aload_n hb dX12_tellsActs_11 rfl 0 rfl ?_
    refine a_bipush (v := 31) hb dX12_tellsActs_12 (by decide) ?_
    refine a_callV hb dX12_tellsActs_14 (by rw [hg]; exact m_runs g h B hL rn hrn (by omega) K N Q hK hN0 hV 31) (by rw [ow]; exact clv_RX12_234) (hL.1 51 (by decide)) (by decide) rfl rfl rfl (Nat.le_of_ble_eq_true rfl) (by rw [hr]; exact ⟨by decide, by decide⟩) (by rw [hr]; exact ⟨Nat.le_of_ble_eq_true rfl, Nat.le_of_ble_eq_true rfl⟩) ?_
    intro rv h' hp
    rw [hp.1, hp.2]
    show AW V 0 0 (trH (B + 61) (B + 51) 21 h rn ([31])) 17 [(0, .ref (B + 51)), (1, .int x)] []
    refine a_aload_n hb dX12_tellsActs_17 rfl 0 rfl ?_
    refine a_iload_n hb dX12_tellsActs_18 rfl 1 rfl ?_
    refine a_callV hb dX12_tellsActs_19 (by rw [hg]; exact m_plainTells g (trH (B + 61) (B + 51) 21 h rn ([31])) B (LY.tr hL) (rn + ([31]).length) (trH_g (by omega)) (by simp only [List.length_append, List.length_cons, List.length_nil]; (try have q1 := @acT_l K N Q (x - 1)); omega) K N Q ((trH_f (by omega) (by decide)).trans hK) ((trH_f (by omega) (by decide)).trans hN0) ((trH_f (by omega) (by decide)).trans hV) x) (by rw [ow]; exact clv_RX12_265) (hL.1 51 (by decide)) (by decide) rfl rfl rfl (Nat.le_of_ble_eq_true rfl) (by rw [hr]; exact ⟨by decide, by decide⟩) (by rw [hr]; exact ⟨Nat.le_of_ble_eq_true rfl, Nat.le_of_ble_eq_true rfl⟩) ?_
    intro rv h' hp
    rw [hp.1, hp.2]
    rw [trH_tr (by omega)]
    show AW V 0 0 (trH (B + 61) (B + 51) 21 h rn ([31] ++ (acT K N Q x).2)) 22 [(0, .ref (B + 51)), (1, .int x)] [.int ((acT K N Q x).1)]
    refine a_bipush (v := 7) hb dX12_tellsActs_22 (by decide) ?_
    refine a_ixor hb dX12_tellsActs_24 ?_
    exact a_ireturn (ty := .int) hb hz dX12_tellsActs_25 hret rfl (by rw [hr]; exact Nat.le_of_ble_eq_true rfl) (by rw [hr]; exact Nat.le_of_ble_eq_true rfl) (⟨by rw [acTA, if_pos c8], by rw [acTA, if_pos c8]⟩)
def Ac (B : Nat) (a : Nat) : Prop := a = B + 51 ∨ a = B + 61
set_option maxRecDepth 100000 in
theorem m_act (g : GG) (h : AH) (B : Nat) (hL : LY h B) (np : Nat) (hnp : IX (hI h (B + 52) 0) np) (lnp : np ≤ 8) (p a x : Int32) : AM g 9 0 0 mX12_act [.ref (B + 51), .int p, .int a, .int x] h (fun rv h' => rv = some (.int (acS (hI h (B + 52)) p a x).1) ∧ FR (Ac B) h h' ∧ (∀ j, j < 21 → hI h' (B + 51) j = hI h (B + 51) j) ∧ hI h' (B + 51) 21 = nI (acS (hI h (B + 52)) p a x).2.length ∧ (∀ j, j < (acS (hI h (B + 52)) p a x).2.length → hI h' (B + 61) j = (acS (hI h (B + 52)) p a x).2.getD j 0)) := by
  refine AM.of [(0, .ref (B + 51)), (1, .int p), (2, .int a), (3, .int x)] (by decide) (Nat.le_of_ble_eq_true rfl) rfl ?_
  intro V hV
  have hb : V.2.1.2.1 = cX12_act := by subst hV; rfl
  have ow : V.2.1.1.cls = RX12 := by subst hV; rfl
  have hr : V.2.2.1 = aw_rm 9 0 0 := by subst hV; rfl
  have hz : V.2.2.2 = aw_Z V.1 (fun rv h' => rv = some (.int (acS (hI h (B + 52)) p a x).1) ∧ FR (Ac B) h h' ∧ (∀ j, j < 21 → hI h' (B + 51) j = hI h (B + 51) j) ∧ hI h' (B + 51) 21 = nI (acS (hI h (B + 52)) p a x).2.length ∧ (∀ j, j < (acS (hI h (B + 52)) p a x).2.length → hI h' (B + 61) j = (acS (hI h (B + 52)) p a x).2.getD j 0)) V.2.2.1 := by subst hV; rfl
  have hg : V.1 = g := by subst hV; rfl
  have hret : V.2.1.2.2.2 = (some .int) := by subst hV; rfl
  have hml : V.2.1.2.2.1 = 4 := by subst hV; rfl
  clear hV
  refine a_aload_n hb dX12_act_0 rfl 0 rfl ?_
  refine a_iconst (v := 0) hb dX12_act_1 (by decide) ?_
  refine a_putI (fty := .int) hb dX12_act_2 (by rw [ow]; exact fp_RX12_231_12) (Or.inr (fun C T N hq => by cases hq; rfl)) (hL.1 51 (by decide)) rfl rfl ?_
  have hR2 : hI (setI h (B + 51) 21 0) (B + 52) = hI h (B + 52) := hI_setI_n (by omega)
  refine a_aload_n hb dX12_act_5 rfl 0 rfl ?_
  refine a_iload_n hb dX12_act_6 rfl 1 rfl ?_
  refine a_callV hb dX12_act_7 (by rw [hg]; have h0 := w_isBreak g (setI h (B + 51) 21 0) B hL p; rw [hR2] at h0; exact h0) (by rw [ow]; exact clv_RX12_56) (hL.1 51 (by decide)) (by decide) rfl rfl rfl (Nat.le_of_ble_eq_true rfl) (by rw [hr]; exact ⟨by decide, by decide⟩) (by rw [hr]; exact ⟨Nat.le_of_ble_eq_true rfl, Nat.le_of_ble_eq_true rfl⟩) ?_
  intro rv h' hp
  rw [hp.1, hp.2]
  show AW V 0 0 (setI h (B + 51) 21 0) 10 [(0, .ref (B + 51)), (1, .int p), (2, .int a), (3, .int x)] [.int (b2i (!oO p 0 (hI h (B + 52) 0 - 1)))]
  refine a_if_eq hb 22 dX12_act_10 (by decide) (fun c10 => ?_) (fun c10 => ?_)
  · simp [b2i_0] at c10
    refine a_iconst (v := 0) hb dX12_act_22 (by decide) ?_
    exact a_ireturn (ty := .int) hb hz dX12_act_23 hret rfl (by rw [hr]; exact Nat.le_of_ble_eq_true rfl) (by rw [hr]; exact Nat.le_of_ble_eq_true rfl) (by have e : (acS (hI h (B + 52)) p a x) = (0, []) := (by simp [acS, *]); rw [e]; exact ⟨rfl, (FR.I FR.rf (by unfold Ac; omega)), fun j q => by rw [hI_setI_s, upd_n (by omega)], by rw [hI_setI_s, upd_s]; rfl, fun j q => absurd q (Nat.not_lt_zero _)⟩)
  · simp [b2i_0] at c10
    obtain ⟨ix_p, lt_p⟩ : IX p p.toNatClampNeg ∧ p.toNatClampNeg < np := oO_lt hnp c10
    refine a_iload_n hb dX12_act_13 rfl 2 rfl ?_
    refine a_iconst (v := 0) hb dX12_act_14 (by decide) ?_
    refine a_iconst (v := 2) hb dX12_act_15 (by decide) ?_
    refine a_callS hb dX12_act_16 (by rw [hg]; exact w_in g (setI h (B + 51) 21 0) a 0 2) (by rw [ow]; exact cls_RX12_48) rfl rfl (Nat.le_of_ble_eq_true rfl) (by rw [hr]; exact ⟨by decide, by decide⟩) (by rw [hr]; exact ⟨Nat.le_of_ble_eq_true rfl, Nat.le_of_ble_eq_true rfl⟩) ?_
    intro rv h' hp
    rw [hp.1, hp.2]
    show AW V 0 0 (setI h (B + 51) 21 0) 19 [(0, .ref (B + 51)), (1, .int p), (2, .int a), (3, .int x)] [.int (b2i (!oO a 0 2))]
    refine a_if_ne hb 24 dX12_act_19 (by decide) (fun c19 => ?_) (fun c19 => ?_)
    · simp [b2i_0] at c19
      refine a_aload_n hb dX12_act_24 rfl 0 rfl ?_
      refine a_aload_n hb dX12_act_25 rfl 0 rfl ?_
      refine a_getQ (q := (B + 52)) hb dX12_act_26 (by rw [ow]; exact fl_RX12_9_12) (hL.1 51 (by decide)) (hL.2.1 (51, 1, 52) (by decide)) ?_
      refine a_sipush (v := 130) hb dX12_act_29 (by decide) ?_
      refine a_iload_n hb dX12_act_32 rfl 1 rfl ?_
      refine a_iadd hb dX12_act_33 ?_
      refine b_iald (j := (130 + p.toNatClampNeg)) hb dX12_act_34 (hL.1 52 (by decide)) (IX.add ⟨by decide, by decide⟩ ix_p (by omega)) (by omega) ?_
      rw [hR2]
      refine a_putI (fty := .int) hb dX12_act_35 (by rw [ow]; exact fp_RX12_243_12) (Or.inr (fun C T N hq => by cases hq; rfl)) (hL.1 51 (by decide)) rfl rfl ?_
      refine a_aload_n hb dX12_act_38 rfl 0 rfl ?_
      refine a_iload_n hb dX12_act_39 rfl 1 rfl ?_
      refine a_putI (fty := .int) hb dX12_act_40 (by rw [ow]; exact fp_RX12_237_12) (Or.inr (fun C T N hq => by cases hq; rfl)) (hL.1 51 (by decide)) rfl rfl ?_
      refine a_aload_n hb dX12_act_43 rfl 0 rfl ?_
      refine a_aload_n hb dX12_act_44 rfl 0 rfl ?_
      refine a_getQ (q := (B + 52)) hb dX12_act_45 (by rw [ow]; exact fl_RX12_9_12) (hL.1 51 (by decide)) (hL.2.1 (51, 1, 52) (by decide)) ?_
      refine a_sipush (v := 154) hb dX12_act_48 (by decide) ?_
      refine a_iload_n hb dX12_act_51 rfl 1 rfl ?_
      refine a_iadd hb dX12_act_52 ?_
      refine b_iald (j := (154 + p.toNatClampNeg)) hb dX12_act_53 (hL.1 52 (by decide)) (IX.add ⟨by decide, by decide⟩ ix_p (by omega)) (by omega) ?_
      refine a_putI (fty := .int) hb dX12_act_54 (by rw [ow]; exact fp_RX12_256_12) (Or.inr (fun C T N hq => by cases hq; rfl)) (hL.1 51 (by decide)) rfl rfl ?_
      generalize eh : (setI (setI (setI (setI h (B + 51) 21 0) (B + 51) 22 (hI h (B + 52) (130 + p.toNatClampNeg))) (B + 51) 23 p) (B + 51) 24 (hI (setI (setI (setI h (B + 51) 21 0) (B + 51) 22 (hI h (B + 52) (130 + p.toNatClampNeg))) (B + 51) 23 p) (B + 52) (154 + p.toNatClampNeg))) = h4_
      have hF4 : FR (Ac B) h h4_ := by rw [← eh]; exact (FR.I (FR.I (FR.I (FR.I FR.rf (by unfold Ac; omega)) (by unfold Ac; omega)) (by unfold Ac; omega)) (by unfold Ac; omega))
      have hL4 : LY h4_ B := FR.ly hF4 hL
      have hrn : hI h4_ (B + 51) 21 = nI 0 := by rw [← eh]; simp [hI_setI_s, upd]; rfl
      have hK : hI h4_ (B + 51) 22 = (hI h (B + 52) (130 + p.toNatClampNeg)) := by rw [← eh]; simp [hI_setI_s, hI_setI_n, upd]
      have hN0 : hI h4_ (B + 51) 23 = p := by rw [← eh]; simp [hI_setI_s, upd]
      have hV : hI h4_ (B + 51) 24 = (hI h (B + 52) (154 + p.toNatClampNeg)) := by rw [← eh]; simp [hI_setI_s, hI_setI_n, upd]
      have hO4 : ∀ j, j < 21 → hI h4_ (B + 51) j = hI h (B + 51) j := by intro j q; rw [← eh]; simp only [hI_setI_s]; rw [upd_n (by omega), upd_n (by omega), upd_n (by omega), upd_n (by omega)]
      clear eh
      refine a_iload_n hb dX12_act_57 rfl 2 rfl ?_
      refine a_if_ne hb 69 dX12_act_58 (by decide) (fun c58 => ?_) (fun c58 => ?_)
      · refine a_iload_n hb dX12_act_69 rfl 2 rfl ?_
        refine a_iconst (v := 1) hb dX12_act_70 (by decide) ?_
        refine a_icmp_ne hb 82 dX12_act_71 (by decide) (fun c71 => ?_) (fun c71 => ?_)
        · refine a_aload_n hb dX12_act_82 rfl 0 rfl ?_
          refine a_iload_n hb dX12_act_83 rfl 3 rfl ?_
          refine a_callV hb dX12_act_84 (by rw [hg]; exact m_tellsActs g h4_ B hL4 0 hrn (by omega) (hI h (B + 52) (130 + p.toNatClampNeg)) p (hI h (B + 52) (154 + p.toNatClampNeg)) hK hN0 hV x) (by rw [ow]; exact clv_RX12_268) (hL4.1 51 (by decide)) (by decide) rfl rfl rfl (Nat.le_of_ble_eq_true rfl) (by rw [hr]; exact ⟨by decide, by decide⟩) (by rw [hr]; exact ⟨Nat.le_of_ble_eq_true rfl, Nat.le_of_ble_eq_true rfl⟩) ?_
          intro rv h' hp
          rw [hp.1, hp.2]
          show AW V 0 0 (trH (B + 61) (B + 51) 21 h4_ 0 ((acTA (hI h (B + 52) (130 + p.toNatClampNeg)) p (hI h (B + 52) (154 + p.toNatClampNeg)) x).2)) 87 [(0, .ref (B + 51)), (1, .int p), (2, .int a), (3, .int x)] [.int ((acTA (hI h (B + 52) (130 + p.toNatClampNeg)) p (hI h (B + 52) (154 + p.toNatClampNeg)) x).1)]
          exact a_ireturn (ty := .int) hb hz dX12_act_87 hret rfl (by rw [hr]; exact Nat.le_of_ble_eq_true rfl) (by rw [hr]; exact Nat.le_of_ble_eq_true rfl) (by have e : (acS (hI h (B + 52)) p a x) = (acTA (hI h (B + 52) (130 + p.toNatClampNeg)) p (hI h (B + 52) (154 + p.toNatClampNeg)) x) := (by rw [acS, if_neg (by rw [c10]; decide), if_neg (by rw [c19]; decide), if_neg c58, if_neg c71]); rw [e]; exact ⟨rfl, hF4.tr ((FR.R FR.rf (Or.inr rfl)).I (Or.inl rfl)), fun j q => by rw [trH_f (by omega) (by omega)]; exact hO4 j q, by rw [trH_g (by omega), Nat.zero_add], fun j q => by rw [trH_r (by omega)]; have := wrL_at (acTA (hI h (B + 52) (130 + p.toNatClampNeg)) p (hI h (B + 52) (154 + p.toNatClampNeg)) x).2 (hI h4_ (B + 61)) 0 j q; rw [Nat.zero_add] at this; exact this⟩)
        · refine a_aload_n hb dX12_act_74 rfl 0 rfl ?_
          refine a_iload_n hb dX12_act_75 rfl 3 rfl ?_
          refine a_callV hb dX12_act_76 (by rw [hg]; exact m_risesActs g h4_ B hL4 0 hrn (by omega) (hI h (B + 52) (130 + p.toNatClampNeg)) p (hI h (B + 52) (154 + p.toNatClampNeg)) hK hN0 hV x) (by rw [ow]; exact clv_RX12_262) (hL4.1 51 (by decide)) (by decide) rfl rfl rfl (Nat.le_of_ble_eq_true rfl) (by rw [hr]; exact ⟨by decide, by decide⟩) (by rw [hr]; exact ⟨Nat.le_of_ble_eq_true rfl, Nat.le_of_ble_eq_true rfl⟩) ?_
          intro rv h' hp
          rw [hp.1, hp.2]
          show AW V 0 0 (trH (B + 61) (B + 51) 21 h4_ 0 ((acRA (hI h (B + 52) (130 + p.toNatClampNeg)) p (hI h (B + 52) (154 + p.toNatClampNeg)) x).2)) 79 [(0, .ref (B + 51)), (1, .int p), (2, .int a), (3, .int x)] [.int ((acRA (hI h (B + 52) (130 + p.toNatClampNeg)) p (hI h (B + 52) (154 + p.toNatClampNeg)) x).1)]
          refine a_goto hb 87 dX12_act_79 (by decide) ?_
          exact a_ireturn (ty := .int) hb hz dX12_act_87 hret rfl (by rw [hr]; exact Nat.le_of_ble_eq_true rfl) (by rw [hr]; exact Nat.le_of_ble_eq_true rfl) (by have e : (acS (hI h (B + 52)) p a x) = (acRA (hI h (B + 52) (130 + p.toNatClampNeg)) p (hI h (B + 52) (154 + p.toNatClampNeg)) x) := (by rw [acS, if_neg (by rw [c10]; decide), if_neg (by rw [c19]; decide), if_neg c58, if_pos c71]); rw [e]; exact ⟨rfl, hF4.tr ((FR.R FR.rf (Or.inr rfl)).I (Or.inl rfl)), fun j q => by rw [trH_f (by omega) (by omega)]; exact hO4 j q, by rw [trH_g (by omega), Nat.zero_add], fun j q => by rw [trH_r (by omega)]; have := wrL_at (acRA (hI h (B + 52) (130 + p.toNatClampNeg)) p (hI h (B + 52) (154 + p.toNatClampNeg)) x).2 (hI h4_ (B + 61)) 0 j q; rw [Nat.zero_add] at this; exact this⟩)
      · refine a_aload_n hb dX12_act_61 rfl 0 rfl ?_
        refine a_iload_n hb dX12_act_62 rfl 3 rfl ?_
        refine a_callV hb dX12_act_63 (by rw [hg]; exact m_drawsActs g h4_ B hL4 0 hrn (by omega) (hI h (B + 52) (130 + p.toNatClampNeg)) p (hI h (B + 52) (154 + p.toNatClampNeg)) hK hN0 hV x) (by rw [ow]; exact clv_RX12_253) (hL4.1 51 (by decide)) (by decide) rfl rfl rfl (Nat.le_of_ble_eq_true rfl) (by rw [hr]; exact ⟨by decide, by decide⟩) (by rw [hr]; exact ⟨Nat.le_of_ble_eq_true rfl, Nat.le_of_ble_eq_true rfl⟩) ?_
        intro rv h' hp
        rw [hp.1, hp.2]
        show AW V 0 0 (trH (B + 61) (B + 51) 21 h4_ 0 ((acDA (hI h (B + 52) (130 + p.toNatClampNeg)) p x).2)) 66 [(0, .ref (B + 51)), (1, .int p), (2, .int a), (3, .int x)] [.int ((acDA (hI h (B + 52) (130 + p.toNatClampNeg)) p x).1)]
        refine a_goto hb 87 dX12_act_66 (by decide) ?_
        exact a_ireturn (ty := .int) hb hz dX12_act_87 hret rfl (by rw [hr]; exact Nat.le_of_ble_eq_true rfl) (by rw [hr]; exact Nat.le_of_ble_eq_true rfl) (by have e : (acS (hI h (B + 52)) p a x) = (acDA (hI h (B + 52) (130 + p.toNatClampNeg)) p x) := (by rw [acS, if_neg (by rw [c10]; decide), if_neg (by rw [c19]; decide), if_pos c58]); rw [e]; exact ⟨rfl, hF4.tr ((FR.R FR.rf (Or.inr rfl)).I (Or.inl rfl)), fun j q => by rw [trH_f (by omega) (by omega)]; exact hO4 j q, by rw [trH_g (by omega), Nat.zero_add], fun j q => by rw [trH_r (by omega)]; have := wrL_at (acDA (hI h (B + 52) (130 + p.toNatClampNeg)) p x).2 (hI h4_ (B + 61)) 0 j q; rw [Nat.zero_add] at this; exact this⟩)
    · simp [b2i_0] at c19
      refine a_iconst (v := 0) hb dX12_act_22 (by decide) ?_
      exact a_ireturn (ty := .int) hb hz dX12_act_23 hret rfl (by rw [hr]; exact Nat.le_of_ble_eq_true rfl) (by rw [hr]; exact Nat.le_of_ble_eq_true rfl) (by have e : (acS (hI h (B + 52)) p a x) = (0, []) := (by simp [acS, *]); rw [e]; exact ⟨rfl, (FR.I FR.rf (by unfold Ac; omega)), fun j q => by rw [hI_setI_s, upd_n (by omega)], by rw [hI_setI_s, upd_s]; rfl, fun j q => absurd q (Nat.not_lt_zero _)⟩)
