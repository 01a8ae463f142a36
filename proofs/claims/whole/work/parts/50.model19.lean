/-! ===== the model reads expressions, clauses, laws ===== -/
theorem ix5_le {c : Int32} : ix5 c ≤ 5 := by unfold ix5; (repeat' split) <;> decide
theorem ix3_le {c : Int32} : ix3 c ≤ 3 := by unfold ix3; (repeat' split) <;> decide
theorem nI_m1 {k : Nat} (h : k ≤ 5) : ¬ nI k = -1 := fun q => nI_pos (n := k) (by omega) (by rw [q]; decide)
theorem emL_m {w : Bool} {l : List Int32} {s t : List St} {st : St} : emL w (l ++ s.map encM ++ t.map encM) (encM st) = l ++ (s ++ t ++ if w = true then [] else [st]).map encM := by cases w <;> simp [emL]
theorem emL_2 {w : Bool} {l : List Int32} {t : List St} {st : St} : emL w (l ++ t.map encM) (encM st) = l ++ (t ++ if w = true then [] else [st]).map encM := by cases w <;> simp [emL]
theorem emL_1 {w : Bool} {l : List Int32} {st : St} : emL w l (encM st) = l ++ (if w = true then [] else [st] : List St).map encM := by cases w <;> simp [emL]
section FAC
variable {h : AH} {B a n k o p : Nat} {l : List Int32} {mo : Int32} {H : Nat → Int32}
def mpG (h : AH) (B a o : Nat) (l : List Int32) (mo : Int32) (r : PR) : AH := mpH h B a r.2.1 r.1 o (l ++ r.2.2.map encM) mo
theorem pF_T (h33 : ¬ H p = 33) (h40 : ¬ H p = 40) : pF H k p = pT H p := by
  cases k with
  | zero => rw [pF, if_neg h33, if_neg h40]
  | succ k => rw [pF, if_neg h33, if_neg h40]
theorem fac_t (h33 : ¬ H p = 33) (h40 : ¬ H p = 40) (t5 : ¬ ix5 (H p) = 5) (t3 : ¬ ix3 (H (p + 1)) = 3) : mpH h B a (fgP H false (p + 2)).2.1 (fgP H false (p + 2)).1 o (emL (fgP H false (p + 2)).1 l (nI (ix5 (H p)) + 8 * nI (ix3 (H (p + 1))) + 32 * nI (fgP H false (p + 2)).2.2)) mo = mpG h B a o l mo (pF H k p) := by
  rw [pF_T h33 h40, pT, if_neg t5, if_neg t3, show fgP H false (p + 2) = pN H (p + 2) from rfl]
  show _ = mpH h B a _ _ o (l ++ List.map encM (if _ then _ else _)) mo
  rw [← emL_1]; rfl
theorem fac_5 (h33 : ¬ H p = 33) (h40 : ¬ H p = 40) (t5 : ix5 (H p) = 5) : mpH h B a p true o l mo = mpG h B a o l mo (pF H k p) := by
  rw [pF_T h33 h40, pT, if_pos t5]
  show _ = mpH h B a p true o (l ++ []) mo
  rw [List.append_nil]
theorem fac_3 (h33 : ¬ H p = 33) (h40 : ¬ H p = 40) (t5 : ¬ ix5 (H p) = 5) (t3 : ix3 (H (p + 1)) = 3) : mpH h B a (p + 1) true o l mo = mpG h B a o l mo (pF H k p) := by
  rw [pF_T h33 h40, pT, if_neg t5, if_pos t3]
  show _ = mpH h B a (p + 1) true o (l ++ []) mo
  rw [List.append_nil]
theorem fac_0 (hc : H p = 33 ∨ H p = 40) : mpH h B a p true o l mo = mpG h B a o l mo (pF H 0 p) := by
  have e : pF H 0 p = (true, p, []) := by
    rw [pF]
    split
    · rfl
    · rw [if_pos (hc.resolve_left (by assumption))]
  rw [e]
  show _ = mpH h B a p true o (l ++ []) mo
  rw [List.append_nil]
theorem fac_n (h33 : H p = 33) : mpH h B a (pF H k (p + 1)).2.1 (pF H k (p + 1)).1 o (emL (pF H k (p + 1)).1 (l ++ (pF H k (p + 1)).2.2.map encM) (-1)) mo = mpG h B a o l mo (pF H (k + 1) p) := by
  rw [show pF H (k + 1) p = apS (pF H k (p + 1)) (1, 0, 0, 0) by rw [pF, if_pos h33]]
  show _ = mpH h B a _ _ o (l ++ List.map encM (_ ++ if _ then _ else _)) mo
  rw [← emL_2]; rfl
theorem clR_mu {r : PR} : clR H r = ((muP H 41 r.1 r.2.1).1, (muP H 41 r.1 r.2.1).2, r.2.2) := by
  obtain ⟨w, q, s⟩ := r
  cases w
  · show (if false = true then _ else if H q = 41 then _ else _) = _
    by_cases e : H q = 41 <;> simp [muP, e]
  · rfl
theorem fac_p (h33 : ¬ H p = 33) (h40 : H p = 40) : mpH h B a (muP H 41 (pE (pF H k) H (p + 1)).1 (pE (pF H k) H (p + 1)).2.1).2 (muP H 41 (pE (pF H k) H (p + 1)).1 (pE (pF H k) H (p + 1)).2.1).1 o (l ++ (pE (pF H k) H (p + 1)).2.2.map encM) mo = mpG h B a o l mo (pF H (k + 1) p) := by
  rw [show pF H (k + 1) p = clR H (pE (pF H k) H (p + 1)) by rw [pF, if_neg h33, if_pos h40], clR_mu]; rfl
end FAC
theorem pV_d {F : Nat → PR} {H : Nat → Int32} {p : Nat} {q : PR} (e : F p = q) : lpR F H 38 (2, 0, 0, 0) 120 q = pV F H p := by subst e; unfold pV; rfl
theorem pE_d {F : Nat → PR} {H : Nat → Int32} {p : Nat} {q : PR} (e : pV F H p = q) : lpR (pV F H) H 124 (3, 0, 0, 0) 120 q = pE F H p := by subst e; unfold pE; rfl
theorem enc_2 : encM (2, 0, 0, 0) = -2 := rfl
theorem enc_3 : encM (3, 0, 0, 0) = -3 := rfl
theorem seq_h {h : AH} {B a p o : Nat} {w : Bool} {l : List Int32} {mo : Int32} {s t : List St} {st : St} {x : Int32} (e : encM st = x) : mpH h B a p w o (emL w (l ++ s.map encM ++ t.map encM) x) mo = mpG h B a o l mo (w, p, s ++ t ++ if w = true then [] else [st]) := by
  subst e
  unfold mpG
  rw [emL_m]
theorem lpR_w {F : Nat → PR} {H : Nat → Int32} {c : Int32} {st : St} {k : Nat} {r : PR} (h : r.1 = true) : lpR F H c st k r = r := by
  cases k with
  | zero => rfl
  | succ k => rw [lpR, if_pos h]
theorem lpR_n {F : Nat → PR} {H : Nat → Int32} {c : Int32} {st : St} {k : Nat} {r : PR} (h : ¬ H r.2.1 = c) : lpR F H c st k r = r := by
  cases k with
  | zero => rfl
  | succ k =>
    rw [lpR]
    split
    · rfl
    · first | rfl | rw [if_neg h]
theorem lpR_s {F : Nat → PR} {H : Nat → Int32} {c : Int32} {st : St} {k : Nat} {r q : PR} (h : r.1 = false) (h2 : H r.2.1 = c) (hq : F (r.2.1 + 1) = q) : lpR F H c st (k + 1) r = lpR F H c st k (q.1, q.2.1, r.2.2 ++ q.2.2 ++ if q.1 = true then [] else [st]) := by
  subst hq
  rw [lpR, if_neg (by rw [h]; decide), if_pos h2]
theorem mpG_e {h : AH} {B a o : Nat} {l : List Int32} {mo : Int32} {r R : PR} (e : r = R) : mpH h B a r.2.1 r.1 o (l ++ r.2.2.map encM) mo = mpG h B a o l mo R := by subst e; rfl
theorem hrH {tx : Nat → Int32} {n p : Nat} {H : Nat → Int32} {c : Int32} (hH : H = hrT tx n) (h : H p = c) (hc : c ≠ -1 := by decide) : p < n := by subst hH; exact hrT_n hc h
theorem gdl {n p : Nat} {r : PR} {l : List Int32} (hg : gdP n p r) (hl : l.length ≤ p) : (l ++ r.2.2.map encM).length ≤ r.2.1 := by
  have := hg.1
  rw [List.length_append, List.length_map]; omega
set_option maxRecDepth 100000 in
theorem m_facT (g : GG) (h : AH) (B : Nat) (hL : LY h B) (a n : Nat) (ha : a < 5) (hac : hI h (B + 51) 4 = nI a) (he : hI h (B + 51) 6 = nI n) (hn : n ≤ 120) (H : Nat → Int32) (hH : H = hrT (fun i => hI h (B + 52) (10 + i)) n) (p o : Nat) (l : List Int32) (mo : Int32) (hp : p ≤ n) : AM g 1 0 0 mX12_factor [.ref (B + 51)] (mpH h B a p true o l mo) (fun rv h' => rv = none ∧ h' = (mpH h B a p true o l mo)) := by
  refine AM.of [(0, .ref (B + 51))] (by decide) (Nat.le_of_ble_eq_true rfl) rfl ?_
  intro V hV
  have hb : V.2.1.2.1 = cX12_factor := by subst hV; rfl
  have ow : V.2.1.1.cls = RX12 := by subst hV; rfl
  have hr : V.2.2.1 = aw_rm 1 0 0 := by subst hV; rfl
  have hz : V.2.2.2 = aw_Z V.1 (fun rv h' => rv = none ∧ h' = (mpH h B a p true o l mo)) V.2.2.1 := by subst hV; rfl
  have hg : V.1 = g := by subst hV; rfl
  have hret : V.2.1.2.2.2 = none := by subst hV; rfl
  have hml : V.2.1.2.2.1 = 5 := by subst hV; rfl
  clear hV
  refine a_aload_n hb dX12_factor_0 rfl 0 rfl ?_
  refine a_getI hb dX12_factor_1 (by rw [ow]; exact fl_RX12_67_12) ((LY.mp hL : LY (mpH h B a p true o l mo) B).1 51 (by decide)) ?_
  rw [mp_f7]
  show AW V 0 0 (mpH h B a p true o l mo) 4 [(0, .ref (B + 51))] [.int 1]
  refine a_if_eq hb 8 dX12_factor_4 (by decide) (fun c4 => absurd c4 (by decide)) (fun c4 => ?_)
  exact a_return hb hz dX12_factor_7 hret (by rw [hr]; exact Nat.le_of_ble_eq_true rfl) (by rw [hr]; exact Nat.le_of_ble_eq_true rfl) (⟨rfl, rfl⟩)
set_option maxRecDepth 100000 in
theorem m_evT (g : GG) (h : AH) (B : Nat) (hL : LY h B) (a n : Nat) (ha : a < 5) (hac : hI h (B + 51) 4 = nI a) (he : hI h (B + 51) 6 = nI n) (hn : n ≤ 120) (H : Nat → Int32) (hH : H = hrT (fun i => hI h (B + 52) (10 + i)) n) (p o : Nat) (l : List Int32) (mo : Int32) (hp : p ≤ n) : AM g 2 0 0 mX12_every [.ref (B + 51)] (mpH h B a p true o l mo) (fun rv h' => rv = none ∧ h' = (mpH h B a p true o l mo)) := by
  refine AM.of [(0, .ref (B + 51))] (by decide) (Nat.le_of_ble_eq_true rfl) rfl ?_
  intro V hV
  have hb : V.2.1.2.1 = cX12_every := by subst hV; rfl
  have ow : V.2.1.1.cls = RX12 := by subst hV; rfl
  have hr : V.2.2.1 = aw_rm 2 0 0 := by subst hV; rfl
  have hz : V.2.2.2 = aw_Z V.1 (fun rv h' => rv = none ∧ h' = (mpH h B a p true o l mo)) V.2.2.1 := by subst hV; rfl
  have hg : V.1 = g := by subst hV; rfl
  have hret : V.2.1.2.2.2 = none := by subst hV; rfl
  have hml : V.2.1.2.2.1 = 1 := by subst hV; rfl
  clear hV
  refine a_aload_n hb dX12_every_0 rfl 0 rfl ?_
  refine a_callV hb dX12_every_1 (by rw [hg]; exact m_facT g h B hL a n ha hac he hn H hH p o l mo hp) (by rw [ow]; exact clv_RX12_94) ((LY.mp hL : LY (mpH h B a p true o l mo) B).1 51 (by decide)) (by decide) rfl rfl rfl (Nat.le_of_ble_eq_true rfl) (by rw [hr]; exact ⟨by decide, by decide⟩) (by rw [hr]; exact ⟨Nat.le_of_ble_eq_true rfl, Nat.le_of_ble_eq_true rfl⟩) ?_
  intro rv h' hp_
  rw [hp_.1, hp_.2]
  show AW V 0 0 (mpH h B a p true o l mo) 4 [(0, .ref (B + 51))] []
  refine a_aload_n hb dX12_every_4 rfl 0 rfl ?_
  refine a_getI hb dX12_every_5 (by rw [ow]; exact fl_RX12_67_12) ((LY.mp hL : LY (mpH h B a p true o l mo) B).1 51 (by decide)) ?_
  rw [mp_f7]
  show AW V 0 0 (mpH h B a p true o l mo) 8 [(0, .ref (B + 51))] [.int 1]
  refine a_if_ne hb 43 dX12_every_8 (by decide) (fun c8 => ?_) (fun c8 => absurd c8 (by decide))
  exact a_return hb hz dX12_every_43 hret (by rw [hr]; exact Nat.le_of_ble_eq_true rfl) (by rw [hr]; exact Nat.le_of_ble_eq_true rfl) (⟨rfl, rfl⟩)
set_option maxRecDepth 100000 in
theorem m_soT (g : GG) (h : AH) (B : Nat) (hL : LY h B) (a n : Nat) (ha : a < 5) (hac : hI h (B + 51) 4 = nI a) (he : hI h (B + 51) 6 = nI n) (hn : n ≤ 120) (H : Nat → Int32) (hH : H = hrT (fun i => hI h (B + 52) (10 + i)) n) (p o : Nat) (l : List Int32) (mo : Int32) (hp : p ≤ n) : AM g 3 0 0 mX12_some [.ref (B + 51)] (mpH h B a p true o l mo) (fun rv h' => rv = none ∧ h' = (mpH h B a p true o l mo)) := by
  refine AM.of [(0, .ref (B + 51))] (by decide) (Nat.le_of_ble_eq_true rfl) rfl ?_
  intro V hV
  have hb : V.2.1.2.1 = cX12_some := by subst hV; rfl
  have ow : V.2.1.1.cls = RX12 := by subst hV; rfl
  have hr : V.2.2.1 = aw_rm 3 0 0 := by subst hV; rfl
  have hz : V.2.2.2 = aw_Z V.1 (fun rv h' => rv = none ∧ h' = (mpH h B a p true o l mo)) V.2.2.1 := by subst hV; rfl
  have hg : V.1 = g := by subst hV; rfl
  have hret : V.2.1.2.2.2 = none := by subst hV; rfl
  have hml : V.2.1.2.2.1 = 1 := by subst hV; rfl
  clear hV
  refine a_aload_n hb dX12_some_0 rfl 0 rfl ?_
  refine a_callV hb dX12_some_1 (by rw [hg]; exact m_evT g h B hL a n ha hac he hn H hH p o l mo hp) (by rw [ow]; exact clv_RX12_114) ((LY.mp hL : LY (mpH h B a p true o l mo) B).1 51 (by decide)) (by decide) rfl rfl rfl (Nat.le_of_ble_eq_true rfl) (by rw [hr]; exact ⟨by decide, by decide⟩) (by rw [hr]; exact ⟨Nat.le_of_ble_eq_true rfl, Nat.le_of_ble_eq_true rfl⟩) ?_
  intro rv h' hp_
  rw [hp_.1, hp_.2]
  show AW V 0 0 (mpH h B a p true o l mo) 4 [(0, .ref (B + 51))] []
  refine a_aload_n hb dX12_some_4 rfl 0 rfl ?_
  refine a_getI hb dX12_some_5 (by rw [ow]; exact fl_RX12_67_12) ((LY.mp hL : LY (mpH h B a p true o l mo) B).1 51 (by decide)) ?_
  rw [mp_f7]
  show AW V 0 0 (mpH h B a p true o l mo) 8 [(0, .ref (B + 51))] [.int 1]
  refine a_if_ne hb 43 dX12_some_8 (by decide) (fun c8 => ?_) (fun c8 => absurd c8 (by decide))
  exact a_return hb hz dX12_some_43 hret (by rw [hr]; exact Nat.le_of_ble_eq_true rfl) (by rw [hr]; exact Nat.le_of_ble_eq_true rfl) (⟨rfl, rfl⟩)
set_option maxRecDepth 100000 in
theorem m_soT23 (g : GG) (h : AH) (B : Nat) (hL : LY h B) (a n : Nat) (ha : a < 5) (hac : hI h (B + 51) 4 = nI a) (he : hI h (B + 51) 6 = nI n) (hn : n ≤ 120) (H : Nat → Int32) (hH : H = hrT (fun i => hI h (B + 52) (10 + i)) n) (p o : Nat) (l : List Int32) (mo : Int32) (hp : p ≤ n) : AM g 23 0 0 mX12_some [.ref (B + 51)] (mpH h B a p true o l mo) (fun rv h' => rv = none ∧ h' = (mpH h B a p true o l mo)) := by
  refine AM.of [(0, .ref (B + 51))] (by decide) (Nat.le_of_ble_eq_true rfl) rfl ?_
  intro V hV
  have hb : V.2.1.2.1 = cX12_some := by subst hV; rfl
  have ow : V.2.1.1.cls = RX12 := by subst hV; rfl
  have hr : V.2.2.1 = aw_rm 23 0 0 := by subst hV; rfl
  have hz : V.2.2.2 = aw_Z V.1 (fun rv h' => rv = none ∧ h' = (mpH h B a p true o l mo)) V.2.2.1 := by subst hV; rfl
  have hg : V.1 = g := by subst hV; rfl
  have hret : V.2.1.2.2.2 = none := by subst hV; rfl
  have hml : V.2.1.2.2.1 = 1 := by subst hV; rfl
  clear hV
  refine a_aload_n hb dX12_some_0 rfl 0 rfl ?_
  refine a_callV hb dX12_some_1 (by rw [hg]; exact m_evT g h B hL a n ha hac he hn H hH p o l mo hp) (by rw [ow]; exact clv_RX12_114) ((LY.mp hL : LY (mpH h B a p true o l mo) B).1 51 (by decide)) (by decide) rfl rfl rfl (Nat.le_of_ble_eq_true rfl) (by rw [hr]; exact ⟨by decide, by decide⟩) (by rw [hr]; exact ⟨Nat.le_of_ble_eq_true rfl, Nat.le_of_ble_eq_true rfl⟩) ?_
  intro rv h' hp_
  rw [hp_.1, hp_.2]
  show AW V 0 0 (mpH h B a p true o l mo) 4 [(0, .ref (B + 51))] []
  refine a_aload_n hb dX12_some_4 rfl 0 rfl ?_
  refine a_getI hb dX12_some_5 (by rw [ow]; exact fl_RX12_67_12) ((LY.mp hL : LY (mpH h B a p true o l mo) B).1 51 (by decide)) ?_
  rw [mp_f7]
  show AW V 0 0 (mpH h B a p true o l mo) 8 [(0, .ref (B + 51))] [.int 1]
  refine a_if_ne hb 43 dX12_some_8 (by decide) (fun c8 => ?_) (fun c8 => absurd c8 (by decide))
  exact a_return hb hz dX12_some_43 hret (by rw [hr]; exact Nat.le_of_ble_eq_true rfl) (by rw [hr]; exact Nat.le_of_ble_eq_true rfl) (⟨rfl, rfl⟩)
theorem pFgH {tx : Nat → Int32} {n : Nat} {H : Nat → Int32} (hH : H = hrT tx n) (k p : Nat) : gdP n p (pF H k p) := by subst hH; exact pF_g k p
theorem pVgH {tx : Nat → Int32} {n : Nat} {H : Nat → Int32} (hH : H = hrT tx n) (k p : Nat) : gdP n p (pV (pF H k) H p) := by subst hH; exact pV_g (pF_g k) p
theorem pEgH {tx : Nat → Int32} {n : Nat} {H : Nat → Int32} (hH : H = hrT tx n) (k p : Nat) : gdP n p (pE (pF H k) H p) := by subst hH; exact pE_g (pF_g k) p
theorem soPgH {tx : Nat → Int32} {n : Nat} {H : Nat → Int32} (hH : H = hrT tx n) (k : Nat) (w : Bool) (p : Nat) : gdP n p (soP H k w p) := by subst hH; exact soP_g
set_option maxRecDepth 100000 in
theorem m_fac0 (g : GG) (h : AH) (B : Nat) (hL : LY h B) (a n : Nat) (ha : a < 5) (hac : hI h (B + 51) 4 = nI a) (he : hI h (B + 51) 6 = nI n) (hn : n ≤ 120) (H : Nat → Int32) (hH : H = hrT (fun i => hI h (B + 52) (10 + i)) n) (p : Nat) (l : List Int32) (mo : Int32) (hp : p ≤ n) (hll : l.length ≤ p) : AM g 6 0 0 mX12_factor [.ref (B + 51)] (mpH h B a p false 5 l mo) (fun rv h' => rv = none ∧ h' = mpG h B a 5 l mo (pF H 0 p)) := by
  refine AM.of [(0, .ref (B + 51))] (by decide) (Nat.le_of_ble_eq_true rfl) rfl ?_
  intro V hV
  have hb : V.2.1.2.1 = cX12_factor := by subst hV; rfl
  have ow : V.2.1.1.cls = RX12 := by subst hV; rfl
  have hr : V.2.2.1 = aw_rm 6 0 0 := by subst hV; rfl
  have hz : V.2.2.2 = aw_Z V.1 (fun rv h' => rv = none ∧ h' = mpG h B a 5 l mo (pF H 0 p)) V.2.2.1 := by subst hV; rfl
  have hg : V.1 = g := by subst hV; rfl
  have hret : V.2.1.2.2.2 = none := by subst hV; rfl
  have hml : V.2.1.2.2.1 = 5 := by subst hV; rfl
  clear hV
  refine a_aload_n hb dX12_factor_0 rfl 0 rfl ?_
  refine a_getI hb dX12_factor_1 (by rw [ow]; exact fl_RX12_67_12) ((LY.mp hL : LY (mpH h B a p false 5 l mo) B).1 51 (by decide)) ?_
  rw [mp_f7]
  show AW V 0 0 (mpH h B a p false 5 l mo) 4 [(0, .ref (B + 51))] [.int 0]
  refine a_if_eq hb 8 dX12_factor_4 (by decide) (fun c4 => ?_) (fun c4 => absurd (by decide) c4)
  refine a_aload_n hb dX12_factor_8 rfl 0 rfl ?_
  refine a_callV hb dX12_factor_9 (by rw [hg]; exact m_here g h B hL a n ha hac he hn H hH p 5 false l mo hp) (by rw [ow]; exact clv_RX12_71) ((LY.mp hL : LY (mpH h B a p false 5 l mo) B).1 51 (by decide)) (by decide) rfl rfl rfl (Nat.le_of_ble_eq_true rfl) (by rw [hr]; exact ⟨by decide, by decide⟩) (by rw [hr]; exact ⟨Nat.le_of_ble_eq_true rfl, Nat.le_of_ble_eq_true rfl⟩) ?_
  intro rv h' hp_
  rw [hp_.1, hp_.2]
  show AW V 0 0 (mpH h B a p false 5 l mo) 12 [(0, .ref (B + 51))] [.int (H p)]
  refine a_istore_n (L' := [(1, .int (H p)), (0, .ref (B + 51))]) hb dX12_factor_12 rfl (by rw [hml]; decide) rfl ?_
  refine a_iload_n hb dX12_factor_13 rfl 0 rfl ?_
  refine a_bipush (v := 33) hb dX12_factor_14 (by decide) ?_
  refine a_icmp_eq hb 25 dX12_factor_16 (by decide) (fun c16 => ?_) (fun c16 => ?_)
  · have pl : p < n := by rw [hH] at c16; exact hrT_n (by decide) c16
    refine a_aload_n hb dX12_factor_25 rfl 1 rfl ?_
    refine a_aload_n hb dX12_factor_26 rfl 1 rfl ?_
    refine a_getI hb dX12_factor_27 (by rw [ow]; exact fl_RX12_91_12) ((LY.mp hL : LY (mpH h B a p false 5 l mo) B).1 51 (by decide)) ?_
    rw [mp_f8]
    show AW V 0 0 (mpH h B a p false 5 l mo) 30 [(1, .int (H p)), (0, .ref (B + 51))] [.int 5, .ref (B + 51)]
    refine a_iconst (v := 5) hb dX12_factor_30 (by decide) ?_
    refine a_icmp_ne hb 38 dX12_factor_31 (by decide) (fun c31 => absurd c31 (by decide)) (fun c31 => ?_)
    refine a_iconst (v := 1) hb dX12_factor_34 (by decide) ?_
    refine a_goto hb 39 dX12_factor_35 (by decide) ?_
    refine a_putI (fty := .boolean) hb dX12_factor_39 (by rw [ow]; exact fp_RX12_67_12) (Or.inr (fun C T N hq => by cases hq; rfl)) ((LY.mp hL : LY (mpH h B a p false 5 l mo) B).1 51 (by decide)) rfl rfl ?_
    rw [mp_7 (q := true) (v := 1) rfl]
    show AW V 0 0 (mpH h B a p true 5 l mo) 42 [(1, .int (H p)), (0, .ref (B + 51))] []
    refine a_aload_n hb dX12_factor_42 rfl 1 rfl ?_
    refine a_dup hb dX12_factor_43 rfl ?_
    refine a_getI hb dX12_factor_44 (by rw [ow]; exact fl_RX12_91_12) ((LY.mp hL : LY (mpH h B a p true 5 l mo) B).1 51 (by decide)) ?_
    rw [mp_f8]
    show AW V 0 0 (mpH h B a p true 5 l mo) 47 [(1, .int (H p)), (0, .ref (B + 51))] [.int 5, .ref (B + 51)]
    refine a_iconst (v := 1) hb dX12_factor_47 (by decide) ?_
    refine a_iadd hb dX12_factor_48 ?_
    refine a_putI (fty := .int) hb dX12_factor_49 (by rw [ow]; exact fp_RX12_91_12) (Or.inr (fun C T N hq => by cases hq; rfl)) ((LY.mp hL : LY (mpH h B a p true 5 l mo) B).1 51 (by decide)) rfl rfl ?_
    rw [mp_8 (q := 6) (by decide)]
    show AW V 0 0 (mpH h B a p true 6 l mo) 52 [(1, .int (H p)), (0, .ref (B + 51))] []
    refine a_aload_n hb dX12_factor_52 rfl 1 rfl ?_
    refine a_dup hb dX12_factor_53 rfl ?_
    refine a_getI hb dX12_factor_54 (by rw [ow]; exact fl_RX12_61_12) ((LY.mp hL : LY (mpH h B a p true 6 l mo) B).1 51 (by decide)) ?_
    rw [mp_f5]
    show AW V 0 0 (mpH h B a p true 6 l mo) 57 [(1, .int (H p)), (0, .ref (B + 51))] [.int (nI p), .ref (B + 51)]
    refine a_aload_n hb dX12_factor_57 rfl 1 rfl ?_
    refine a_getI hb dX12_factor_58 (by rw [ow]; exact fl_RX12_67_12) ((LY.mp hL : LY (mpH h B a p true 6 l mo) B).1 51 (by decide)) ?_
    rw [mp_f7]
    show AW V 0 0 (mpH h B a p true 6 l mo) 61 [(1, .int (H p)), (0, .ref (B + 51))] [.int 1, .int (nI p), .ref (B + 51)]
    refine a_if_eq hb 68 dX12_factor_61 (by decide) (fun c61 => absurd c61 (by decide)) (fun c61 => ?_)
    refine a_iconst (v := 0) hb dX12_factor_64 (by decide) ?_
    refine a_goto hb 69 dX12_factor_65 (by decide) ?_
    refine a_iadd hb dX12_factor_69 ?_
    refine a_putI (fty := .int) hb dX12_factor_70 (by rw [ow]; exact fp_RX12_61_12) (Or.inr (fun C T N hq => by cases hq; rfl)) ((LY.mp hL : LY (mpH h B a p true 6 l mo) B).1 51 (by decide)) rfl rfl ?_
    rw [mp_5 (q := p) (by rw [Int32.add_zero])]
    show AW V 0 0 (mpH h B a p true 6 l mo) 73 [(1, .int (H p)), (0, .ref (B + 51))] []
    refine a_iload_n hb dX12_factor_73 rfl 0 rfl ?_
    refine a_bipush (v := 33) hb dX12_factor_74 (by decide) ?_
    refine a_icmp_ne hb 91 dX12_factor_76 (by decide) (fun c76 => absurd c76 (not_not_intro c16)) (fun c76 => ?_)
    refine a_aload_n hb dX12_factor_79 rfl 1 rfl ?_
    refine a_callV hb dX12_factor_80 (by rw [hg]; exact m_facT g h B hL a n ha hac he hn H hH p 6 l mo hp) (by rw [ow]; exact clv_RX12_94) ((LY.mp hL : LY (mpH h B a p true 6 l mo) B).1 51 (by decide)) (by decide) rfl rfl rfl (Nat.le_of_ble_eq_true rfl) (by rw [hr]; exact ⟨by decide, by decide⟩) (by rw [hr]; exact ⟨Nat.le_of_ble_eq_true rfl, Nat.le_of_ble_eq_true rfl⟩) ?_
    intro rv h' hp_
    rw [hp_.1, hp_.2]
    show AW V 0 0 (mpH h B a p true 6 l mo) 83 [(1, .int (H p)), (0, .ref (B + 51))] []
    refine a_aload_n hb dX12_factor_83 rfl 1 rfl ?_
    refine a_iconst (v := (-1)) hb dX12_factor_84 (by decide) ?_
    refine a_callV hb dX12_factor_85 (by rw [hg]; exact m_emits g h B hL a n ha hac he hn H hH p 6 true l mo hp (-1) (Nat.lt_of_le_of_lt (Nat.le_trans hll (Nat.le_trans hp hn)) (by decide))) (by rw [ow]; exact clv_RX12_97) ((LY.mp hL : LY (mpH h B a p true 6 l mo) B).1 51 (by decide)) (by decide) rfl rfl rfl (Nat.le_of_ble_eq_true rfl) (by rw [hr]; exact ⟨by decide, by decide⟩) (by rw [hr]; exact ⟨Nat.le_of_ble_eq_true rfl, Nat.le_of_ble_eq_true rfl⟩) ?_
    intro rv h' hp_
    rw [hp_.1, hp_.2]
    show AW V 0 0 (mpH h B a p true 6 l mo) 88 [(1, .int (H p)), (0, .ref (B + 51))] []
    refine a_goto hb 101 dX12_factor_88 (by decide) ?_
    refine a_aload_n hb dX12_factor_101 rfl 1 rfl ?_
    refine a_dup hb dX12_factor_102 rfl ?_
    refine a_getI hb dX12_factor_103 (by rw [ow]; exact fl_RX12_91_12) ((LY.mp hL : LY (mpH h B a p true 6 l mo) B).1 51 (by decide)) ?_
    rw [mp_f8]
    show AW V 0 0 (mpH h B a p true 6 l mo) 106 [(1, .int (H p)), (0, .ref (B + 51))] [.int 6, .ref (B + 51)]
    refine a_iconst (v := 1) hb dX12_factor_106 (by decide) ?_
    refine a_isub hb dX12_factor_107 ?_
    refine a_putI (fty := .int) hb dX12_factor_108 (by rw [ow]; exact fp_RX12_91_12) (Or.inr (fun C T N hq => by cases hq; rfl)) ((LY.mp hL : LY (mpH h B a p true 6 l mo) B).1 51 (by decide)) rfl rfl ?_
    rw [mp_8 (q := 5) (by decide)]
    show AW V 0 0 (mpH h B a p true 5 l mo) 111 [(1, .int (H p)), (0, .ref (B + 51))] []
    exact a_return hb hz dX12_factor_111 hret (by rw [hr]; exact Nat.le_of_ble_eq_true rfl) (by rw [hr]; exact Nat.le_of_ble_eq_true rfl) (⟨rfl, fac_0 (Or.inl c16)⟩)
  · refine a_iload_n hb dX12_factor_19 rfl 0 rfl ?_
    refine a_bipush (v := 40) hb dX12_factor_20 (by decide) ?_
    refine a_icmp_ne hb 112 dX12_factor_22 (by decide) (fun c22 => ?_) (fun c22 => ?_)
    · refine a_aload_n hb dX12_factor_112 rfl 1 rfl ?_
      refine a_ldcS (i := 0) hb dX12_factor_113 (by rw [ow]; exact List.mem_of_getElem? (i := 5) rfl) ?_
      refine a_callV hb dX12_factor_115 (by have z_ := m_among0 g h B hL a n ha hac he hn H hH p 5 false l mo hp; rw [← hg] at z_; exact z_) (by rw [ow]; exact clv_RX12_105) ((LY.mp hL : LY (mpH h B a p false 5 l mo) B).1 51 (by decide)) (by decide) rfl rfl rfl (Nat.le_of_ble_eq_true rfl) (by rw [hr]; exact ⟨by decide, by decide⟩) (by rw [hr]; exact ⟨Nat.le_of_ble_eq_true rfl, Nat.le_of_ble_eq_true rfl⟩) ?_
      intro rv h' hp_
      rw [hp_.1, hp_.2]
      by_cases t5 : ix5 (H p) = 5
      · rw [if_pos t5, if_pos t5]
        show AW V 0 0 (mpH h B a p false 5 l mo) 118 [(1, .int (H p)), (0, .ref (B + 51))] [.int (-1)]
        refine a_istore_n (L' := [(2, .int (-1)), (1, .int (H p)), (0, .ref (B + 51))]) hb dX12_factor_118 rfl (by rw [hml]; decide) rfl ?_
        refine a_aload_n hb dX12_factor_119 rfl 2 rfl ?_
        refine a_iload_n hb dX12_factor_120 rfl 0 rfl ?_
        refine a_iconst (v := (-1)) hb dX12_factor_121 (by decide) ?_
        refine a_icmp_ne hb 129 dX12_factor_122 (by decide) (fun c122 => absurd c122 (by decide)) (fun c122 => ?_)
        refine a_iconst (v := 1) hb dX12_factor_125 (by decide) ?_
        refine a_goto hb 130 dX12_factor_126 (by decide) ?_
        refine a_putI (fty := .boolean) hb dX12_factor_130 (by rw [ow]; exact fp_RX12_67_12) (Or.inr (fun C T N hq => by cases hq; rfl)) ((LY.mp hL : LY (mpH h B a p false 5 l mo) B).1 51 (by decide)) rfl rfl ?_
        rw [mp_7 (q := true) (v := 1) rfl]
        show AW V 0 0 (mpH h B a p true 5 l mo) 133 [(2, .int (-1)), (1, .int (H p)), (0, .ref (B + 51))] []
        refine a_aload_n hb dX12_factor_133 rfl 2 rfl ?_
        refine a_getI hb dX12_factor_134 (by rw [ow]; exact fl_RX12_67_12) ((LY.mp hL : LY (mpH h B a p true 5 l mo) B).1 51 (by decide)) ?_
        rw [mp_f7]
        show AW V 0 0 (mpH h B a p true 5 l mo) 137 [(2, .int (-1)), (1, .int (H p)), (0, .ref (B + 51))] [.int 1]
        refine a_if_eq hb 144 dX12_factor_137 (by decide) (fun c137 => absurd c137 (by decide)) (fun c137 => ?_)
        refine a_iconst (v := 0) hb dX12_factor_140 (by decide) ?_
        refine a_goto hb 150 dX12_factor_141 (by decide) ?_
        refine a_istore_n (L' := [(3, .int 0), (2, .int (-1)), (1, .int (H p)), (0, .ref (B + 51))]) hb dX12_factor_150 rfl (by rw [hml]; decide) rfl ?_
        refine a_aload_n hb dX12_factor_151 rfl 3 rfl ?_
        refine a_aload_n hb dX12_factor_152 rfl 3 rfl ?_
        refine a_getI hb dX12_factor_153 (by rw [ow]; exact fl_RX12_67_12) ((LY.mp hL : LY (mpH h B a p true 5 l mo) B).1 51 (by decide)) ?_
        rw [mp_f7]
        show AW V 0 0 (mpH h B a p true 5 l mo) 156 [(3, .int 0), (2, .int (-1)), (1, .int (H p)), (0, .ref (B + 51))] [.int 1, .ref (B + 51)]
        refine a_if_ne hb 164 dX12_factor_156 (by decide) (fun c156 => ?_) (fun c156 => absurd c156 (by decide))
        refine a_iconst (v := 1) hb dX12_factor_164 (by decide) ?_
        refine a_goto hb 169 dX12_factor_165 (by decide) ?_
        refine a_putI (fty := .boolean) hb dX12_factor_169 (by rw [ow]; exact fp_RX12_67_12) (Or.inr (fun C T N hq => by cases hq; rfl)) ((LY.mp hL : LY (mpH h B a p true 5 l mo) B).1 51 (by decide)) rfl rfl ?_
        rw [mp_7 (q := true) (v := 1) rfl]
        show AW V 0 0 (mpH h B a p true 5 l mo) 172 [(3, .int 0), (2, .int (-1)), (1, .int (H p)), (0, .ref (B + 51))] []
        refine a_aload_n hb dX12_factor_172 rfl 3 rfl ?_
        refine a_callV hb dX12_factor_173 (by rw [hg]; exact m_figures g h B hL a n ha hac he hn H hH p 5 true l mo hp) (by rw [ow]; exact clv_RX12_111) ((LY.mp hL : LY (mpH h B a p true 5 l mo) B).1 51 (by decide)) (by decide) rfl rfl rfl (Nat.le_of_ble_eq_true rfl) (by rw [hr]; exact ⟨by decide, by decide⟩) (by rw [hr]; exact ⟨Nat.le_of_ble_eq_true rfl, Nat.le_of_ble_eq_true rfl⟩) ?_
        intro rv h' hp_
        rw [hp_.1, hp_.2]
        show AW V 0 0 (mpH h B a p true 5 l mo) 176 [(3, .int 0), (2, .int (-1)), (1, .int (H p)), (0, .ref (B + 51))] [.int (nI 0)]
        refine a_istore (L' := [(4, .int (nI 0)), (3, .int 0), (2, .int (-1)), (1, .int (H p)), (0, .ref (B + 51))]) hb dX12_factor_176 (by rw [hml]; decide) rfl ?_
        refine a_aload_n hb dX12_factor_178 rfl 4 rfl ?_
        refine a_iload_n hb dX12_factor_179 rfl 2 rfl ?_
        refine a_bipush (v := 8) hb dX12_factor_180 (by decide) ?_
        refine a_iload_n hb dX12_factor_182 rfl 1 rfl ?_
        refine a_imul hb dX12_factor_183 ?_
        refine a_iadd hb dX12_factor_184 ?_
        refine a_bipush (v := 32) hb dX12_factor_185 (by decide) ?_
        refine a_iload hb dX12_factor_187 0 rfl ?_
        refine a_imul hb dX12_factor_189 ?_
        refine a_iadd hb dX12_factor_190 ?_
        refine a_callV hb dX12_factor_191 (by rw [hg]; exact m_emits g h B hL a n ha hac he hn H hH p 5 true l mo hp (((-1) + (8 * 0)) + (32 * (nI 0))) (Nat.lt_of_le_of_lt (Nat.le_trans hll (Nat.le_trans hp hn)) (by decide))) (by rw [ow]; exact clv_RX12_97) ((LY.mp hL : LY (mpH h B a p true 5 l mo) B).1 51 (by decide)) (by decide) rfl rfl rfl (Nat.le_of_ble_eq_true rfl) (by rw [hr]; exact ⟨by decide, by decide⟩) (by rw [hr]; exact ⟨Nat.le_of_ble_eq_true rfl, Nat.le_of_ble_eq_true rfl⟩) ?_
        intro rv h' hp_
        rw [hp_.1, hp_.2]
        show AW V 0 0 (mpH h B a p true 5 l mo) 194 [(4, .int (nI 0)), (3, .int 0), (2, .int (-1)), (1, .int (H p)), (0, .ref (B + 51))] []
        exact a_return hb hz dX12_factor_194 hret (by rw [hr]; exact Nat.le_of_ble_eq_true rfl) (by rw [hr]; exact Nat.le_of_ble_eq_true rfl) (⟨rfl, fac_5 c16 c22 t5⟩)
      rw [if_neg t5, if_neg t5]
      have ltt5 : p < n := by rw [hH] at t5; exact hrT_5 t5
      show AW V 0 0 (mpH h B a (p + 1) false 5 l mo) 118 [(1, .int (H p)), (0, .ref (B + 51))] [.int (nI (ix5 (H p)))]
      refine a_istore_n (L' := [(2, .int (nI (ix5 (H p)))), (1, .int (H p)), (0, .ref (B + 51))]) hb dX12_factor_118 rfl (by rw [hml]; decide) rfl ?_
      refine a_aload_n hb dX12_factor_119 rfl 2 rfl ?_
      refine a_iload_n hb dX12_factor_120 rfl 0 rfl ?_
      refine a_iconst (v := (-1)) hb dX12_factor_121 (by decide) ?_
      refine a_icmp_ne hb 129 dX12_factor_122 (by decide) (fun c122 => ?_) (fun c122 => absurd c122 ((nI_m1 ix5_le)))
      refine a_iconst (v := 0) hb dX12_factor_129 (by decide) ?_
      refine a_putI (fty := .boolean) hb dX12_factor_130 (by rw [ow]; exact fp_RX12_67_12) (Or.inr (fun C T N hq => by cases hq; rfl)) ((LY.mp hL : LY (mpH h B a (p + 1) false 5 l mo) B).1 51 (by decide)) rfl rfl ?_
      rw [mp_7 (q := false) (v := 0) rfl]
      show AW V 0 0 (mpH h B a (p + 1) false 5 l mo) 133 [(2, .int (nI (ix5 (H p)))), (1, .int (H p)), (0, .ref (B + 51))] []
      refine a_aload_n hb dX12_factor_133 rfl 2 rfl ?_
      refine a_getI hb dX12_factor_134 (by rw [ow]; exact fl_RX12_67_12) ((LY.mp hL : LY (mpH h B a (p + 1) false 5 l mo) B).1 51 (by decide)) ?_
      rw [mp_f7]
      show AW V 0 0 (mpH h B a (p + 1) false 5 l mo) 137 [(2, .int (nI (ix5 (H p)))), (1, .int (H p)), (0, .ref (B + 51))] [.int 0]
      refine a_if_eq hb 144 dX12_factor_137 (by decide) (fun c137 => ?_) (fun c137 => absurd (by decide) c137)
      refine a_aload_n hb dX12_factor_144 rfl 2 rfl ?_
      refine a_ldcS (i := 1) hb dX12_factor_145 (by rw [ow]; exact List.mem_of_getElem? (i := 6) rfl) ?_
      refine a_callV hb dX12_factor_147 (by have z_ := m_among1 g h B hL a n ha hac he hn H hH (p + 1) 5 false l mo (by omega); rw [← hg] at z_; exact z_) (by rw [ow]; exact clv_RX12_105) ((LY.mp hL : LY (mpH h B a (p + 1) false 5 l mo) B).1 51 (by decide)) (by decide) rfl rfl rfl (Nat.le_of_ble_eq_true rfl) (by rw [hr]; exact ⟨by decide, by decide⟩) (by rw [hr]; exact ⟨Nat.le_of_ble_eq_true rfl, Nat.le_of_ble_eq_true rfl⟩) ?_
      intro rv h' hp_
      rw [hp_.1, hp_.2]
      by_cases t3 : ix3 (H (p + 1)) = 3
      · rw [if_pos t3, if_pos t3]
        show AW V 0 0 (mpH h B a (p + 1) false 5 l mo) 150 [(2, .int (nI (ix5 (H p)))), (1, .int (H p)), (0, .ref (B + 51))] [.int (-1)]
        refine a_istore_n (L' := [(3, .int (-1)), (2, .int (nI (ix5 (H p)))), (1, .int (H p)), (0, .ref (B + 51))]) hb dX12_factor_150 rfl (by rw [hml]; decide) rfl ?_
        refine a_aload_n hb dX12_factor_151 rfl 3 rfl ?_
        refine a_aload_n hb dX12_factor_152 rfl 3 rfl ?_
        refine a_getI hb dX12_factor_153 (by rw [ow]; exact fl_RX12_67_12) ((LY.mp hL : LY (mpH h B a (p + 1) false 5 l mo) B).1 51 (by decide)) ?_
        rw [mp_f7]
        show AW V 0 0 (mpH h B a (p + 1) false 5 l mo) 156 [(3, .int (-1)), (2, .int (nI (ix5 (H p)))), (1, .int (H p)), (0, .ref (B + 51))] [.int 0, .ref (B + 51)]
        refine a_if_ne hb 164 dX12_factor_156 (by decide) (fun c156 => absurd c156 (by decide)) (fun c156 => ?_)
        refine a_iload_n hb dX12_factor_159 rfl 0 rfl ?_
        refine a_iconst (v := (-1)) hb dX12_factor_160 (by decide) ?_
        refine a_icmp_ne hb 168 dX12_factor_161 (by decide) (fun c161 => absurd c161 (by decide)) (fun c161 => ?_)
        refine a_iconst (v := 1) hb dX12_factor_164 (by decide) ?_
        refine a_goto hb 169 dX12_factor_165 (by decide) ?_
        refine a_putI (fty := .boolean) hb dX12_factor_169 (by rw [ow]; exact fp_RX12_67_12) (Or.inr (fun C T N hq => by cases hq; rfl)) ((LY.mp hL : LY (mpH h B a (p + 1) false 5 l mo) B).1 51 (by decide)) rfl rfl ?_
        rw [mp_7 (q := true) (v := 1) rfl]
        show AW V 0 0 (mpH h B a (p + 1) true 5 l mo) 172 [(3, .int (-1)), (2, .int (nI (ix5 (H p)))), (1, .int (H p)), (0, .ref (B + 51))] []
        refine a_aload_n hb dX12_factor_172 rfl 3 rfl ?_
        refine a_callV hb dX12_factor_173 (by rw [hg]; exact m_figures g h B hL a n ha hac he hn H hH (p + 1) 5 true l mo (by omega)) (by rw [ow]; exact clv_RX12_111) ((LY.mp hL : LY (mpH h B a (p + 1) true 5 l mo) B).1 51 (by decide)) (by decide) rfl rfl rfl (Nat.le_of_ble_eq_true rfl) (by rw [hr]; exact ⟨by decide, by decide⟩) (by rw [hr]; exact ⟨Nat.le_of_ble_eq_true rfl, Nat.le_of_ble_eq_true rfl⟩) ?_
        intro rv h' hp_
        rw [hp_.1, hp_.2]
        show AW V 0 0 (mpH h B a (p + 1) true 5 l mo) 176 [(3, .int (-1)), (2, .int (nI (ix5 (H p)))), (1, .int (H p)), (0, .ref (B + 51))] [.int (nI 0)]
        refine a_istore (L' := [(4, .int (nI 0)), (3, .int (-1)), (2, .int (nI (ix5 (H p)))), (1, .int (H p)), (0, .ref (B + 51))]) hb dX12_factor_176 (by rw [hml]; decide) rfl ?_
        refine a_aload_n hb dX12_factor_178 rfl 4 rfl ?_
        refine a_iload_n hb dX12_factor_179 rfl 2 rfl ?_
        refine a_bipush (v := 8) hb dX12_factor_180 (by decide) ?_
        refine a_iload_n hb dX12_factor_182 rfl 1 rfl ?_
        refine a_imul hb dX12_factor_183 ?_
        refine a_iadd hb dX12_factor_184 ?_
        refine a_bipush (v := 32) hb dX12_factor_185 (by decide) ?_
        refine a_iload hb dX12_factor_187 0 rfl ?_
        refine a_imul hb dX12_factor_189 ?_
        refine a_iadd hb dX12_factor_190 ?_
        refine a_callV hb dX12_factor_191 (by rw [hg]; exact m_emits g h B hL a n ha hac he hn H hH (p + 1) 5 true l mo (by omega) (((nI (ix5 (H p))) + (8 * (-1))) + (32 * (nI 0))) (Nat.lt_of_le_of_lt (Nat.le_trans hll (Nat.le_trans hp hn)) (by decide))) (by rw [ow]; exact clv_RX12_97) ((LY.mp hL : LY (mpH h B a (p + 1) true 5 l mo) B).1 51 (by decide)) (by decide) rfl rfl rfl (Nat.le_of_ble_eq_true rfl) (by rw [hr]; exact ⟨by decide, by decide⟩) (by rw [hr]; exact ⟨Nat.le_of_ble_eq_true rfl, Nat.le_of_ble_eq_true rfl⟩) ?_
        intro rv h' hp_
        rw [hp_.1, hp_.2]
        show AW V 0 0 (mpH h B a (p + 1) true 5 l mo) 194 [(4, .int (nI 0)), (3, .int (-1)), (2, .int (nI (ix5 (H p)))), (1, .int (H p)), (0, .ref (B + 51))] []
        exact a_return hb hz dX12_factor_194 hret (by rw [hr]; exact Nat.le_of_ble_eq_true rfl) (by rw [hr]; exact Nat.le_of_ble_eq_true rfl) (⟨rfl, fac_3 c16 c22 t5 t3⟩)
      rw [if_neg t3, if_neg t3]
      have ltt3 : (p + 1) < n := by rw [hH] at t3; exact hrT_3 t3
      show AW V 0 0 (mpH h B a (p + 2) false 5 l mo) 150 [(2, .int (nI (ix5 (H p)))), (1, .int (H p)), (0, .ref (B + 51))] [.int (nI (ix3 (H (p + 1))))]
      refine a_istore_n (L' := [(3, .int (nI (ix3 (H (p + 1))))), (2, .int (nI (ix5 (H p)))), (1, .int (H p)), (0, .ref (B + 51))]) hb dX12_factor_150 rfl (by rw [hml]; decide) rfl ?_
      refine a_aload_n hb dX12_factor_151 rfl 3 rfl ?_
      refine a_aload_n hb dX12_factor_152 rfl 3 rfl ?_
      refine a_getI hb dX12_factor_153 (by rw [ow]; exact fl_RX12_67_12) ((LY.mp hL : LY (mpH h B a (p + 2) false 5 l mo) B).1 51 (by decide)) ?_
      rw [mp_f7]
      show AW V 0 0 (mpH h B a (p + 2) false 5 l mo) 156 [(3, .int (nI (ix3 (H (p + 1))))), (2, .int (nI (ix5 (H p)))), (1, .int (H p)), (0, .ref (B + 51))] [.int 0, .ref (B + 51)]
      refine a_if_ne hb 164 dX12_factor_156 (by decide) (fun c156 => absurd c156 (by decide)) (fun c156 => ?_)
      refine a_iload_n hb dX12_factor_159 rfl 0 rfl ?_
      refine a_iconst (v := (-1)) hb dX12_factor_160 (by decide) ?_
      refine a_icmp_ne hb 168 dX12_factor_161 (by decide) (fun c161 => ?_) (fun c161 => absurd c161 ((nI_m1 (Nat.le_trans ix3_le (by decide)))))
      refine a_iconst (v := 0) hb dX12_factor_168 (by decide) ?_
      refine a_putI (fty := .boolean) hb dX12_factor_169 (by rw [ow]; exact fp_RX12_67_12) (Or.inr (fun C T N hq => by cases hq; rfl)) ((LY.mp hL : LY (mpH h B a (p + 2) false 5 l mo) B).1 51 (by decide)) rfl rfl ?_
      rw [mp_7 (q := false) (v := 0) rfl]
      show AW V 0 0 (mpH h B a (p + 2) false 5 l mo) 172 [(3, .int (nI (ix3 (H (p + 1))))), (2, .int (nI (ix5 (H p)))), (1, .int (H p)), (0, .ref (B + 51))] []
      refine a_aload_n hb dX12_factor_172 rfl 3 rfl ?_
      refine a_callV hb dX12_factor_173 (by rw [hg]; exact m_figures g h B hL a n ha hac he hn H hH (p + 2) 5 false l mo (by omega)) (by rw [ow]; exact clv_RX12_111) ((LY.mp hL : LY (mpH h B a (p + 2) false 5 l mo) B).1 51 (by decide)) (by decide) rfl rfl rfl (Nat.le_of_ble_eq_true rfl) (by rw [hr]; exact ⟨by decide, by decide⟩) (by rw [hr]; exact ⟨Nat.le_of_ble_eq_true rfl, Nat.le_of_ble_eq_true rfl⟩) ?_
      intro rv h' hp_
      rw [hp_.1, hp_.2]
      show AW V 0 0 (mpH h B a ((fgP H false (p + 2)).2.1) ((fgP H false (p + 2)).1) 5 l mo) 176 [(3, .int (nI (ix3 (H (p + 1))))), (2, .int (nI (ix5 (H p)))), (1, .int (H p)), (0, .ref (B + 51))] [.int (nI (fgP H false (p + 2)).2.2)]
      refine a_istore (L' := [(4, .int (nI (fgP H false (p + 2)).2.2)), (3, .int (nI (ix3 (H (p + 1))))), (2, .int (nI (ix5 (H p)))), (1, .int (H p)), (0, .ref (B + 51))]) hb dX12_factor_176 (by rw [hml]; decide) rfl ?_
      refine a_aload_n hb dX12_factor_178 rfl 4 rfl ?_
      refine a_iload_n hb dX12_factor_179 rfl 2 rfl ?_
      refine a_bipush (v := 8) hb dX12_factor_180 (by decide) ?_
      refine a_iload_n hb dX12_factor_182 rfl 1 rfl ?_
      refine a_imul hb dX12_factor_183 ?_
      refine a_iadd hb dX12_factor_184 ?_
      refine a_bipush (v := 32) hb dX12_factor_185 (by decide) ?_
      refine a_iload hb dX12_factor_187 0 rfl ?_
      refine a_imul hb dX12_factor_189 ?_
      refine a_iadd hb dX12_factor_190 ?_
      refine a_callV hb dX12_factor_191 (by rw [hg]; exact m_emits g h B hL a n ha hac he hn H hH ((fgP H false (p + 2)).2.1) 5 ((fgP H false (p + 2)).1) l mo (fgG hH (w := false) (by omega)) (((nI (ix5 (H p))) + (8 * (nI (ix3 (H (p + 1)))))) + (32 * (nI (fgP H false (p + 2)).2.2))) (Nat.lt_of_le_of_lt (Nat.le_trans hll (Nat.le_trans hp hn)) (by decide))) (by rw [ow]; exact clv_RX12_97) ((LY.mp hL : LY (mpH h B a ((fgP H false (p + 2)).2.1) ((fgP H false (p + 2)).1) 5 l mo) B).1 51 (by decide)) (by decide) rfl rfl rfl (Nat.le_of_ble_eq_true rfl) (by rw [hr]; exact ⟨by decide, by decide⟩) (by rw [hr]; exact ⟨Nat.le_of_ble_eq_true rfl, Nat.le_of_ble_eq_true rfl⟩) ?_
      intro rv h' hp_
      rw [hp_.1, hp_.2]
      show AW V 0 0 (mpH h B a ((fgP H false (p + 2)).2.1) ((fgP H false (p + 2)).1) 5 (emL ((fgP H false (p + 2)).1) l (((nI (ix5 (H p))) + (8 * (nI (ix3 (H (p + 1)))))) + (32 * (nI (fgP H false (p + 2)).2.2)))) mo) 194 [(4, .int (nI (fgP H false (p + 2)).2.2)), (3, .int (nI (ix3 (H (p + 1))))), (2, .int (nI (ix5 (H p)))), (1, .int (H p)), (0, .ref (B + 51))] []
      exact a_return hb hz dX12_factor_194 hret (by rw [hr]; exact Nat.le_of_ble_eq_true rfl) (by rw [hr]; exact Nat.le_of_ble_eq_true rfl) (⟨rfl, fac_t c16 c22 t5 t3⟩)
    · have pl : p < n := by rw [hH] at c22; exact hrT_n (by decide) c22
      refine a_aload_n hb dX12_factor_25 rfl 1 rfl ?_
      refine a_aload_n hb dX12_factor_26 rfl 1 rfl ?_
      refine a_getI hb dX12_factor_27 (by rw [ow]; exact fl_RX12_91_12) ((LY.mp hL : LY (mpH h B a p false 5 l mo) B).1 51 (by decide)) ?_
      rw [mp_f8]
      show AW V 0 0 (mpH h B a p false 5 l mo) 30 [(1, .int (H p)), (0, .ref (B + 51))] [.int 5, .ref (B + 51)]
      refine a_iconst (v := 5) hb dX12_factor_30 (by decide) ?_
      refine a_icmp_ne hb 38 dX12_factor_31 (by decide) (fun c31 => absurd c31 (by decide)) (fun c31 => ?_)
      refine a_iconst (v := 1) hb dX12_factor_34 (by decide) ?_
      refine a_goto hb 39 dX12_factor_35 (by decide) ?_
      refine a_putI (fty := .boolean) hb dX12_factor_39 (by rw [ow]; exact fp_RX12_67_12) (Or.inr (fun C T N hq => by cases hq; rfl)) ((LY.mp hL : LY (mpH h B a p false 5 l mo) B).1 51 (by decide)) rfl rfl ?_
      rw [mp_7 (q := true) (v := 1) rfl]
      show AW V 0 0 (mpH h B a p true 5 l mo) 42 [(1, .int (H p)), (0, .ref (B + 51))] []
      refine a_aload_n hb dX12_factor_42 rfl 1 rfl ?_
      refine a_dup hb dX12_factor_43 rfl ?_
      refine a_getI hb dX12_factor_44 (by rw [ow]; exact fl_RX12_91_12) ((LY.mp hL : LY (mpH h B a p true 5 l mo) B).1 51 (by decide)) ?_
      rw [mp_f8]
      show AW V 0 0 (mpH h B a p true 5 l mo) 47 [(1, .int (H p)), (0, .ref (B + 51))] [.int 5, .ref (B + 51)]
      refine a_iconst (v := 1) hb dX12_factor_47 (by decide) ?_
      refine a_iadd hb dX12_factor_48 ?_
      refine a_putI (fty := .int) hb dX12_factor_49 (by rw [ow]; exact fp_RX12_91_12) (Or.inr (fun C T N hq => by cases hq; rfl)) ((LY.mp hL : LY (mpH h B a p true 5 l mo) B).1 51 (by decide)) rfl rfl ?_
      rw [mp_8 (q := 6) (by decide)]
      show AW V 0 0 (mpH h B a p true 6 l mo) 52 [(1, .int (H p)), (0, .ref (B + 51))] []
      refine a_aload_n hb dX12_factor_52 rfl 1 rfl ?_
      refine a_dup hb dX12_factor_53 rfl ?_
      refine a_getI hb dX12_factor_54 (by rw [ow]; exact fl_RX12_61_12) ((LY.mp hL : LY (mpH h B a p true 6 l mo) B).1 51 (by decide)) ?_
      rw [mp_f5]
      show AW V 0 0 (mpH h B a p true 6 l mo) 57 [(1, .int (H p)), (0, .ref (B + 51))] [.int (nI p), .ref (B + 51)]
      refine a_aload_n hb dX12_factor_57 rfl 1 rfl ?_
      refine a_getI hb dX12_factor_58 (by rw [ow]; exact fl_RX12_67_12) ((LY.mp hL : LY (mpH h B a p true 6 l mo) B).1 51 (by decide)) ?_
      rw [mp_f7]
      show AW V 0 0 (mpH h B a p true 6 l mo) 61 [(1, .int (H p)), (0, .ref (B + 51))] [.int 1, .int (nI p), .ref (B + 51)]
      refine a_if_eq hb 68 dX12_factor_61 (by decide) (fun c61 => absurd c61 (by decide)) (fun c61 => ?_)
      refine a_iconst (v := 0) hb dX12_factor_64 (by decide) ?_
      refine a_goto hb 69 dX12_factor_65 (by decide) ?_
      refine a_iadd hb dX12_factor_69 ?_
      refine a_putI (fty := .int) hb dX12_factor_70 (by rw [ow]; exact fp_RX12_61_12) (Or.inr (fun C T N hq => by cases hq; rfl)) ((LY.mp hL : LY (mpH h B a p true 6 l mo) B).1 51 (by decide)) rfl rfl ?_
      rw [mp_5 (q := p) (by rw [Int32.add_zero])]
      show AW V 0 0 (mpH h B a p true 6 l mo) 73 [(1, .int (H p)), (0, .ref (B + 51))] []
      refine a_iload_n hb dX12_factor_73 rfl 0 rfl ?_
      refine a_bipush (v := 33) hb dX12_factor_74 (by decide) ?_
      refine a_icmp_ne hb 91 dX12_factor_76 (by decide) (fun c76 => ?_) (fun c76 => absurd c76 (c16))
      refine a_aload_n hb dX12_factor_91 rfl 1 rfl ?_
      refine a_callV hb dX12_factor_92 (by rw [hg]; exact m_soT g h B hL a n ha hac he hn H hH p 6 l mo hp) (by rw [ow]; exact clv_RX12_100) ((LY.mp hL : LY (mpH h B a p true 6 l mo) B).1 51 (by decide)) (by decide) rfl rfl rfl (Nat.le_of_ble_eq_true rfl) (by rw [hr]; exact ⟨by decide, by decide⟩) (by rw [hr]; exact ⟨Nat.le_of_ble_eq_true rfl, Nat.le_of_ble_eq_true rfl⟩) ?_
      intro rv h' hp_
      rw [hp_.1, hp_.2]
      show AW V 0 0 (mpH h B a p true 6 l mo) 95 [(1, .int (H p)), (0, .ref (B + 51))] []
      refine a_aload_n hb dX12_factor_95 rfl 1 rfl ?_
      refine a_bipush (v := 41) hb dX12_factor_96 (by decide) ?_
      refine a_callV hb dX12_factor_98 (by rw [hg]; exact m_must g h B hL a n ha hac he hn H hH p 6 true l mo hp 41) (by rw [ow]; exact clv_RX12_84) ((LY.mp hL : LY (mpH h B a p true 6 l mo) B).1 51 (by decide)) (by decide) rfl rfl rfl (Nat.le_of_ble_eq_true rfl) (by rw [hr]; exact ⟨by decide, by decide⟩) (by rw [hr]; exact ⟨Nat.le_of_ble_eq_true rfl, Nat.le_of_ble_eq_true rfl⟩) ?_
      intro rv h' hp_
      rw [hp_.1, hp_.2]
      show AW V 0 0 (mpH h B a p true 6 l mo) 101 [(1, .int (H p)), (0, .ref (B + 51))] []
      refine a_aload_n hb dX12_factor_101 rfl 1 rfl ?_
      refine a_dup hb dX12_factor_102 rfl ?_
      refine a_getI hb dX12_factor_103 (by rw [ow]; exact fl_RX12_91_12) ((LY.mp hL : LY (mpH h B a p true 6 l mo) B).1 51 (by decide)) ?_
      rw [mp_f8]
      show AW V 0 0 (mpH h B a p true 6 l mo) 106 [(1, .int (H p)), (0, .ref (B + 51))] [.int 6, .ref (B + 51)]
      refine a_iconst (v := 1) hb dX12_factor_106 (by decide) ?_
      refine a_isub hb dX12_factor_107 ?_
      refine a_putI (fty := .int) hb dX12_factor_108 (by rw [ow]; exact fp_RX12_91_12) (Or.inr (fun C T N hq => by cases hq; rfl)) ((LY.mp hL : LY (mpH h B a p true 6 l mo) B).1 51 (by decide)) rfl rfl ?_
      rw [mp_8 (q := 5) (by decide)]
      show AW V 0 0 (mpH h B a p true 5 l mo) 111 [(1, .int (H p)), (0, .ref (B + 51))] []
      exact a_return hb hz dX12_factor_111 hret (by rw [hr]; exact Nat.le_of_ble_eq_true rfl) (by rw [hr]; exact Nat.le_of_ble_eq_true rfl) (⟨rfl, fac_0 (Or.inr c22)⟩)
set_option maxRecDepth 100000 in
theorem m_ev0 (g : GG) (h : AH) (B : Nat) (hL : LY h B) (a n : Nat) (ha : a < 5) (hac : hI h (B + 51) 4 = nI a) (he : hI h (B + 51) 6 = nI n) (hn : n ≤ 120) (H : Nat → Int32) (hH : H = hrT (fun i => hI h (B + 52) (10 + i)) n) (p : Nat) (l : List Int32) (mo : Int32) (hp : p ≤ n) (hll : l.length ≤ p) : AM g 7 0 0 mX12_every [.ref (B + 51)] (mpH h B a p false 5 l mo) (fun rv h' => rv = none ∧ h' = mpG h B a 5 l mo (pV (pF H 0) H p)) := by
  refine AM.of [(0, .ref (B + 51))] (by decide) (Nat.le_of_ble_eq_true rfl) rfl ?_
  intro V hV
  have hb : V.2.1.2.1 = cX12_every := by subst hV; rfl
  have ow : V.2.1.1.cls = RX12 := by subst hV; rfl
  have hr : V.2.2.1 = aw_rm 7 0 0 := by subst hV; rfl
  have hz : V.2.2.2 = aw_Z V.1 (fun rv h' => rv = none ∧ h' = mpG h B a 5 l mo (pV (pF H 0) H p)) V.2.2.1 := by subst hV; rfl
  have hg : V.1 = g := by subst hV; rfl
  have hret : V.2.1.2.2.2 = none := by subst hV; rfl
  have hml : V.2.1.2.2.1 = 1 := by subst hV; rfl
  clear hV
  generalize hR : pV (pF H 0) H p = R at hz
  have loop : ∀ (k : Nat) (r : PR), r.2.1 ≤ n → (l ++ r.2.2.map encM).length ≤ r.2.1 → n ≤ r.2.1 + k → lpR (pF H 0) H 38 (2, 0, 0, 0) k r = R → AW V 0 0 (mpG h B a 5 l mo r) 4 [(0, .ref (B + 51))] [] := by
    intro k
    induction k with
    | zero =>
      intro r h1 h2 h3 h4
      show AW V 0 0 (mpH h B a r.2.1 r.1 5 (l ++ r.2.2.map encM) mo) 4 [(0, .ref (B + 51))] []
      refine a_aload_n hb dX12_every_4 rfl 0 rfl ?_
      refine a_getI hb dX12_every_5 (by rw [ow]; exact fl_RX12_67_12) ((LY.mp hL : LY (mpH h B a r.2.1 r.1 5 (l ++ r.2.2.map encM) mo) B).1 51 (by decide)) ?_
      rw [mp_f7]
      show AW V 0 0 (mpH h B a r.2.1 r.1 5 (l ++ r.2.2.map encM) mo) 8 [(0, .ref (B + 51))] [.int (b2i r.1)]
      refine a_if_ne hb 43 dX12_every_8 (by decide) (fun c8 => ?_) (fun c8 => ?_)
      · simp [b2i_0] at c8
        exact a_return hb hz dX12_every_43 hret (by rw [hr]; exact Nat.le_of_ble_eq_true rfl) (by rw [hr]; exact Nat.le_of_ble_eq_true rfl) (⟨rfl, mpG_e ((lpR_w c8).symm.trans h4)⟩)
      · simp [b2i_0] at c8
        refine a_aload_n hb dX12_every_11 rfl 0 rfl ?_
        refine a_callV hb dX12_every_12 (by rw [hg]; exact m_here g h B hL a n ha hac he hn H hH r.2.1 5 r.1 (l ++ r.2.2.map encM) mo h1) (by rw [ow]; exact clv_RX12_71) ((LY.mp hL : LY (mpH h B a r.2.1 r.1 5 (l ++ r.2.2.map encM) mo) B).1 51 (by decide)) (by decide) rfl rfl rfl (Nat.le_of_ble_eq_true rfl) (by rw [hr]; exact ⟨by decide, by decide⟩) (by rw [hr]; exact ⟨Nat.le_of_ble_eq_true rfl, Nat.le_of_ble_eq_true rfl⟩) ?_
        intro rv h' hp_
        rw [hp_.1, hp_.2]
        show AW V 0 0 (mpH h B a r.2.1 r.1 5 (l ++ r.2.2.map encM) mo) 15 [(0, .ref (B + 51))] [.int (H r.2.1)]
        refine a_bipush (v := 38) hb dX12_every_15 (by decide) ?_
        refine a_icmp_ne hb 43 dX12_every_17 (by decide) (fun c17 => ?_) (fun c17 => absurd c17 ((fun q => absurd (hrH hH q) (Nat.not_lt.mpr h3))))
        exact a_return hb hz dX12_every_43 hret (by rw [hr]; exact Nat.le_of_ble_eq_true rfl) (by rw [hr]; exact Nat.le_of_ble_eq_true rfl) (⟨rfl, mpG_e ((lpR_n c17).symm.trans h4)⟩)
    | succ k ih =>
      intro r h1 h2 h3 h4
      show AW V 0 0 (mpH h B a r.2.1 r.1 5 (l ++ r.2.2.map encM) mo) 4 [(0, .ref (B + 51))] []
      refine a_aload_n hb dX12_every_4 rfl 0 rfl ?_
      refine a_getI hb dX12_every_5 (by rw [ow]; exact fl_RX12_67_12) ((LY.mp hL : LY (mpH h B a r.2.1 r.1 5 (l ++ r.2.2.map encM) mo) B).1 51 (by decide)) ?_
      rw [mp_f7]
      show AW V 0 0 (mpH h B a r.2.1 r.1 5 (l ++ r.2.2.map encM) mo) 8 [(0, .ref (B + 51))] [.int (b2i r.1)]
      refine a_if_ne hb 43 dX12_every_8 (by decide) (fun c8 => ?_) (fun c8 => ?_)
      · simp [b2i_0] at c8
        exact a_return hb hz dX12_every_43 hret (by rw [hr]; exact Nat.le_of_ble_eq_true rfl) (by rw [hr]; exact Nat.le_of_ble_eq_true rfl) (⟨rfl, mpG_e ((lpR_w c8).symm.trans h4)⟩)
      · simp [b2i_0] at c8
        refine a_aload_n hb dX12_every_11 rfl 0 rfl ?_
        refine a_callV hb dX12_every_12 (by rw [hg]; exact m_here g h B hL a n ha hac he hn H hH r.2.1 5 r.1 (l ++ r.2.2.map encM) mo h1) (by rw [ow]; exact clv_RX12_71) ((LY.mp hL : LY (mpH h B a r.2.1 r.1 5 (l ++ r.2.2.map encM) mo) B).1 51 (by decide)) (by decide) rfl rfl rfl (Nat.le_of_ble_eq_true rfl) (by rw [hr]; exact ⟨by decide, by decide⟩) (by rw [hr]; exact ⟨Nat.le_of_ble_eq_true rfl, Nat.le_of_ble_eq_true rfl⟩) ?_
        intro rv h' hp_
        rw [hp_.1, hp_.2]
        show AW V 0 0 (mpH h B a r.2.1 r.1 5 (l ++ r.2.2.map encM) mo) 15 [(0, .ref (B + 51))] [.int (H r.2.1)]
        refine a_bipush (v := 38) hb dX12_every_15 (by decide) ?_
        refine a_icmp_ne hb 43 dX12_every_17 (by decide) (fun c17 => ?_) (fun c17 => ?_)
        · exact a_return hb hz dX12_every_43 hret (by rw [hr]; exact Nat.le_of_ble_eq_true rfl) (by rw [hr]; exact Nat.le_of_ble_eq_true rfl) (⟨rfl, mpG_e ((lpR_n c17).symm.trans h4)⟩)
        · have rl : r.2.1 < n := by rw [hH] at c17; exact hrT_n (by decide) c17
          rw [c8]
          show AW V 0 0 (mpH h B a r.2.1 false 5 (l ++ r.2.2.map encM) mo) 20 [(0, .ref (B + 51))] []
          refine a_aload_n hb dX12_every_20 rfl 0 rfl ?_
          refine a_dup hb dX12_every_21 rfl ?_
          refine a_getI hb dX12_every_22 (by rw [ow]; exact fl_RX12_61_12) ((LY.mp hL : LY (mpH h B a r.2.1 false 5 (l ++ r.2.2.map encM) mo) B).1 51 (by decide)) ?_
          rw [mp_f5]
          show AW V 0 0 (mpH h B a r.2.1 false 5 (l ++ r.2.2.map encM) mo) 25 [(0, .ref (B + 51))] [.int (nI r.2.1), .ref (B + 51)]
          refine a_iconst (v := 1) hb dX12_every_25 (by decide) ?_
          refine a_iadd hb dX12_every_26 ?_
          refine a_putI (fty := .int) hb dX12_every_27 (by rw [ow]; exact fp_RX12_61_12) (Or.inr (fun C T N hq => by cases hq; rfl)) ((LY.mp hL : LY (mpH h B a r.2.1 false 5 (l ++ r.2.2.map encM) mo) B).1 51 (by decide)) rfl rfl ?_
          rw [mp_5 (q := (r.2.1 + 1)) (by rw [nI_1])]
          show AW V 0 0 (mpH h B a (r.2.1 + 1) false 5 (l ++ r.2.2.map encM) mo) 30 [(0, .ref (B + 51))] []
          refine a_aload_n hb dX12_every_30 rfl 0 rfl ?_
          refine a_callV hb dX12_every_31 (by rw [hg]; exact m_fac0 g h B hL a n ha hac he hn H hH (r.2.1 + 1) (l ++ r.2.2.map encM) mo (by omega) (Nat.le_succ_of_le h2)) (by rw [ow]; exact clv_RX12_94) ((LY.mp hL : LY (mpH h B a (r.2.1 + 1) false 5 (l ++ r.2.2.map encM) mo) B).1 51 (by decide)) (by decide) rfl rfl rfl (Nat.le_of_ble_eq_true rfl) (by rw [hr]; exact ⟨by decide, by decide⟩) (by rw [hr]; exact ⟨Nat.le_of_ble_eq_true rfl, Nat.le_of_ble_eq_true rfl⟩) ?_
          intro rv h' hp_
          rw [hp_.1, hp_.2]
          clear hp_ rv h'
          have q1 := gdl (pFgH hH 0 (r.2.1 + 1)) (Nat.le_succ_of_le h2)
          have q2 := (pFgH hH 0 (r.2.1 + 1)).2 rl
          have gg := (pFgH hH 0 (r.2.1 + 1)).1
          have hq := @lpR_s (pF H 0) H 38 (2, 0, 0, 0) k r _ c8 c17 rfl
          rw [h4] at hq
          generalize pF H 0 (r.2.1 + 1) = q at *
          show AW V 0 0 (mpG h B a 5 (l ++ r.2.2.map encM) mo q) 34 [(0, .ref (B + 51))] []
          show AW V 0 0 (mpH h B a q.2.1 q.1 5 ((l ++ r.2.2.map encM) ++ q.2.2.map encM) mo) 34 [(0, .ref (B + 51))] []
          refine a_aload_n hb dX12_every_34 rfl 0 rfl ?_
          refine a_bipush (v := (-2)) hb dX12_every_35 (by decide) ?_
          refine a_callV hb dX12_every_37 (by rw [hg]; exact m_emits g h B hL a n ha hac he hn H hH q.2.1 5 q.1 ((l ++ r.2.2.map encM) ++ q.2.2.map encM) mo q2 (-2) (Nat.lt_of_le_of_lt (Nat.le_trans q1 (Nat.le_trans q2 hn)) (by decide))) (by rw [ow]; exact clv_RX12_97) ((LY.mp hL : LY (mpH h B a q.2.1 q.1 5 ((l ++ r.2.2.map encM) ++ q.2.2.map encM) mo) B).1 51 (by decide)) (by decide) rfl rfl rfl (Nat.le_of_ble_eq_true rfl) (by rw [hr]; exact ⟨by decide, by decide⟩) (by rw [hr]; exact ⟨Nat.le_of_ble_eq_true rfl, Nat.le_of_ble_eq_true rfl⟩) ?_
          intro rv h' hp_
          rw [hp_.1, hp_.2]
          show AW V 0 0 (mpH h B a q.2.1 q.1 5 (emL q.1 ((l ++ r.2.2.map encM) ++ q.2.2.map encM) (-2)) mo) 40 [(0, .ref (B + 51))] []
          refine a_goto hb 4 dX12_every_40 (by decide) ?_
          refine AW.eq (ih (q.1, q.2.1, r.2.2 ++ q.2.2 ++ if q.1 = true then [] else [(2, 0, 0, 0)]) q2 ?_ ?_ hq.symm) (seq_h enc_2) rfl rfl rfl
          · show (l ++ List.map encM (r.2.2 ++ q.2.2 ++ if q.1 = true then [] else [(2, 0, 0, 0)])).length ≤ q.2.1
            rw [List.length_append, List.length_map] at h2 ⊢
            rw [List.length_append, List.length_append]
            split <;> simp only [List.length_cons, List.length_nil] <;> omega
          · show n ≤ q.2.1 + k
            omega
  refine a_aload_n hb dX12_every_0 rfl 0 rfl ?_
  refine a_callV hb dX12_every_1 (by rw [hg]; exact m_fac0 g h B hL a n ha hac he hn H hH p l mo hp hll) (by rw [ow]; exact clv_RX12_94) ((LY.mp hL : LY (mpH h B a p false 5 l mo) B).1 51 (by decide)) (by decide) rfl rfl rfl (Nat.le_of_ble_eq_true rfl) (by rw [hr]; exact ⟨by decide, by decide⟩) (by rw [hr]; exact ⟨Nat.le_of_ble_eq_true rfl, Nat.le_of_ble_eq_true rfl⟩) ?_
  intro rv h' hp_
  rw [hp_.1, hp_.2]
  clear hp_ rv h'
  have gd1_ := pFgH hH 0 p
  generalize eQ1 : (pF H 0 p) = q1_ at gd1_ ⊢
  show AW V 0 0 (mpG h B a 5 l mo q1_) 4 [(0, .ref (B + 51))] []
  show AW V 0 0 (mpH h B a q1_.2.1 q1_.1 5 (l ++ q1_.2.2.map encM) mo) 4 [(0, .ref (B + 51))] []
  exact loop 120 q1_ (gd1_.2 hp) (gdl gd1_ hll) (by have z : n ≤ 120 := hn; clear hz loop; omega) ((pV_d eQ1).trans hR)
set_option maxRecDepth 100000 in
theorem m_so0 (g : GG) (h : AH) (B : Nat) (hL : LY h B) (a n : Nat) (ha : a < 5) (hac : hI h (B + 51) 4 = nI a) (he : hI h (B + 51) 6 = nI n) (hn : n ≤ 120) (H : Nat → Int32) (hH : H = hrT (fun i => hI h (B + 52) (10 + i)) n) (p : Nat) (l : List Int32) (mo : Int32) (hp : p ≤ n) (hll : l.length ≤ p) : AM g 8 0 0 mX12_some [.ref (B + 51)] (mpH h B a p false 5 l mo) (fun rv h' => rv = none ∧ h' = mpG h B a 5 l mo (pE (pF H 0) H p)) := by
  refine AM.of [(0, .ref (B + 51))] (by decide) (Nat.le_of_ble_eq_true rfl) rfl ?_
  intro V hV
  have hb : V.2.1.2.1 = cX12_some := by subst hV; rfl
  have ow : V.2.1.1.cls = RX12 := by subst hV; rfl
  have hr : V.2.2.1 = aw_rm 8 0 0 := by subst hV; rfl
  have hz : V.2.2.2 = aw_Z V.1 (fun rv h' => rv = none ∧ h' = mpG h B a 5 l mo (pE (pF H 0) H p)) V.2.2.1 := by subst hV; rfl
  have hg : V.1 = g := by subst hV; rfl
  have hret : V.2.1.2.2.2 = none := by subst hV; rfl
  have hml : V.2.1.2.2.1 = 1 := by subst hV; rfl
  clear hV
  generalize hR : pE (pF H 0) H p = R at hz
  have loop : ∀ (k : Nat) (r : PR), r.2.1 ≤ n → (l ++ r.2.2.map encM).length ≤ r.2.1 → n ≤ r.2.1 + k → lpR (pV (pF H 0) H) H 124 (3, 0, 0, 0) k r = R → AW V 0 0 (mpG h B a 5 l mo r) 4 [(0, .ref (B + 51))] [] := by
    intro k
    induction k with
    | zero =>
      intro r h1 h2 h3 h4
      show AW V 0 0 (mpH h B a r.2.1 r.1 5 (l ++ r.2.2.map encM) mo) 4 [(0, .ref (B + 51))] []
      refine a_aload_n hb dX12_some_4 rfl 0 rfl ?_
      refine a_getI hb dX12_some_5 (by rw [ow]; exact fl_RX12_67_12) ((LY.mp hL : LY (mpH h B a r.2.1 r.1 5 (l ++ r.2.2.map encM) mo) B).1 51 (by decide)) ?_
      rw [mp_f7]
      show AW V 0 0 (mpH h B a r.2.1 r.1 5 (l ++ r.2.2.map encM) mo) 8 [(0, .ref (B + 51))] [.int (b2i r.1)]
      refine a_if_ne hb 43 dX12_some_8 (by decide) (fun c8 => ?_) (fun c8 => ?_)
      · simp [b2i_0] at c8
        exact a_return hb hz dX12_some_43 hret (by rw [hr]; exact Nat.le_of_ble_eq_true rfl) (by rw [hr]; exact Nat.le_of_ble_eq_true rfl) (⟨rfl, mpG_e ((lpR_w c8).symm.trans h4)⟩)
      · simp [b2i_0] at c8
        refine a_aload_n hb dX12_some_11 rfl 0 rfl ?_
        refine a_callV hb dX12_some_12 (by rw [hg]; exact m_here g h B hL a n ha hac he hn H hH r.2.1 5 r.1 (l ++ r.2.2.map encM) mo h1) (by rw [ow]; exact clv_RX12_71) ((LY.mp hL : LY (mpH h B a r.2.1 r.1 5 (l ++ r.2.2.map encM) mo) B).1 51 (by decide)) (by decide) rfl rfl rfl (Nat.le_of_ble_eq_true rfl) (by rw [hr]; exact ⟨by decide, by decide⟩) (by rw [hr]; exact ⟨Nat.le_of_ble_eq_true rfl, Nat.le_of_ble_eq_true rfl⟩) ?_
        intro rv h' hp_
        rw [hp_.1, hp_.2]
        show AW V 0 0 (mpH h B a r.2.1 r.1 5 (l ++ r.2.2.map encM) mo) 15 [(0, .ref (B + 51))] [.int (H r.2.1)]
        refine a_bipush (v := 124) hb dX12_some_15 (by decide) ?_
        refine a_icmp_ne hb 43 dX12_some_17 (by decide) (fun c17 => ?_) (fun c17 => absurd c17 ((fun q => absurd (hrH hH q) (Nat.not_lt.mpr h3))))
        exact a_return hb hz dX12_some_43 hret (by rw [hr]; exact Nat.le_of_ble_eq_true rfl) (by rw [hr]; exact Nat.le_of_ble_eq_true rfl) (⟨rfl, mpG_e ((lpR_n c17).symm.trans h4)⟩)
    | succ k ih =>
      intro r h1 h2 h3 h4
      show AW V 0 0 (mpH h B a r.2.1 r.1 5 (l ++ r.2.2.map encM) mo) 4 [(0, .ref (B + 51))] []
      refine a_aload_n hb dX12_some_4 rfl 0 rfl ?_
      refine a_getI hb dX12_some_5 (by rw [ow]; exact fl_RX12_67_12) ((LY.mp hL : LY (mpH h B a r.2.1 r.1 5 (l ++ r.2.2.map encM) mo) B).1 51 (by decide)) ?_
      rw [mp_f7]
      show AW V 0 0 (mpH h B a r.2.1 r.1 5 (l ++ r.2.2.map encM) mo) 8 [(0, .ref (B + 51))] [.int (b2i r.1)]
      refine a_if_ne hb 43 dX12_some_8 (by decide) (fun c8 => ?_) (fun c8 => ?_)
      · simp [b2i_0] at c8
        exact a_return hb hz dX12_some_43 hret (by rw [hr]; exact Nat.le_of_ble_eq_true rfl) (by rw [hr]; exact Nat.le_of_ble_eq_true rfl) (⟨rfl, mpG_e ((lpR_w c8).symm.trans h4)⟩)
      · simp [b2i_0] at c8
        refine a_aload_n hb dX12_some_11 rfl 0 rfl ?_
        refine a_callV hb dX12_some_12 (by rw [hg]; exact m_here g h B hL a n ha hac he hn H hH r.2.1 5 r.1 (l ++ r.2.2.map encM) mo h1) (by rw [ow]; exact clv_RX12_71) ((LY.mp hL : LY (mpH h B a r.2.1 r.1 5 (l ++ r.2.2.map encM) mo) B).1 51 (by decide)) (by decide) rfl rfl rfl (Nat.le_of_ble_eq_true rfl) (by rw [hr]; exact ⟨by decide, by decide⟩) (by rw [hr]; exact ⟨Nat.le_of_ble_eq_true rfl, Nat.le_of_ble_eq_true rfl⟩) ?_
        intro rv h' hp_
        rw [hp_.1, hp_.2]
        show AW V 0 0 (mpH h B a r.2.1 r.1 5 (l ++ r.2.2.map encM) mo) 15 [(0, .ref (B + 51))] [.int (H r.2.1)]
        refine a_bipush (v := 124) hb dX12_some_15 (by decide) ?_
        refine a_icmp_ne hb 43 dX12_some_17 (by decide) (fun c17 => ?_) (fun c17 => ?_)
        · exact a_return hb hz dX12_some_43 hret (by rw [hr]; exact Nat.le_of_ble_eq_true rfl) (by rw [hr]; exact Nat.le_of_ble_eq_true rfl) (⟨rfl, mpG_e ((lpR_n c17).symm.trans h4)⟩)
        · have rl : r.2.1 < n := by rw [hH] at c17; exact hrT_n (by decide) c17
          rw [c8]
          show AW V 0 0 (mpH h B a r.2.1 false 5 (l ++ r.2.2.map encM) mo) 20 [(0, .ref (B + 51))] []
          refine a_aload_n hb dX12_some_20 rfl 0 rfl ?_
          refine a_dup hb dX12_some_21 rfl ?_
          refine a_getI hb dX12_some_22 (by rw [ow]; exact fl_RX12_61_12) ((LY.mp hL : LY (mpH h B a r.2.1 false 5 (l ++ r.2.2.map encM) mo) B).1 51 (by decide)) ?_
          rw [mp_f5]
          show AW V 0 0 (mpH h B a r.2.1 false 5 (l ++ r.2.2.map encM) mo) 25 [(0, .ref (B + 51))] [.int (nI r.2.1), .ref (B + 51)]
          refine a_iconst (v := 1) hb dX12_some_25 (by decide) ?_
          refine a_iadd hb dX12_some_26 ?_
          refine a_putI (fty := .int) hb dX12_some_27 (by rw [ow]; exact fp_RX12_61_12) (Or.inr (fun C T N hq => by cases hq; rfl)) ((LY.mp hL : LY (mpH h B a r.2.1 false 5 (l ++ r.2.2.map encM) mo) B).1 51 (by decide)) rfl rfl ?_
          rw [mp_5 (q := (r.2.1 + 1)) (by rw [nI_1])]
          show AW V 0 0 (mpH h B a (r.2.1 + 1) false 5 (l ++ r.2.2.map encM) mo) 30 [(0, .ref (B + 51))] []
          refine a_aload_n hb dX12_some_30 rfl 0 rfl ?_
          refine a_callV hb dX12_some_31 (by rw [hg]; exact m_ev0 g h B hL a n ha hac he hn H hH (r.2.1 + 1) (l ++ r.2.2.map encM) mo (by omega) (Nat.le_succ_of_le h2)) (by rw [ow]; exact clv_RX12_114) ((LY.mp hL : LY (mpH h B a (r.2.1 + 1) false 5 (l ++ r.2.2.map encM) mo) B).1 51 (by decide)) (by decide) rfl rfl rfl (Nat.le_of_ble_eq_true rfl) (by rw [hr]; exact ⟨by decide, by decide⟩) (by rw [hr]; exact ⟨Nat.le_of_ble_eq_true rfl, Nat.le_of_ble_eq_true rfl⟩) ?_
          intro rv h' hp_
          rw [hp_.1, hp_.2]
          clear hp_ rv h'
          have q1 := gdl (pVgH hH 0 (r.2.1 + 1)) (Nat.le_succ_of_le h2)
          have q2 := (pVgH hH 0 (r.2.1 + 1)).2 rl
          have gg := (pVgH hH 0 (r.2.1 + 1)).1
          have hq := @lpR_s (pV (pF H 0) H) H 124 (3, 0, 0, 0) k r _ c8 c17 rfl
          rw [h4] at hq
          generalize pV (pF H 0) H (r.2.1 + 1) = q at *
          show AW V 0 0 (mpG h B a 5 (l ++ r.2.2.map encM) mo q) 34 [(0, .ref (B + 51))] []
          show AW V 0 0 (mpH h B a q.2.1 q.1 5 ((l ++ r.2.2.map encM) ++ q.2.2.map encM) mo) 34 [(0, .ref (B + 51))] []
          refine a_aload_n hb dX12_some_34 rfl 0 rfl ?_
          refine a_bipush (v := (-3)) hb dX12_some_35 (by decide) ?_
          refine a_callV hb dX12_some_37 (by rw [hg]; exact m_emits g h B hL a n ha hac he hn H hH q.2.1 5 q.1 ((l ++ r.2.2.map encM) ++ q.2.2.map encM) mo q2 (-3) (Nat.lt_of_le_of_lt (Nat.le_trans q1 (Nat.le_trans q2 hn)) (by decide))) (by rw [ow]; exact clv_RX12_97) ((LY.mp hL : LY (mpH h B a q.2.1 q.1 5 ((l ++ r.2.2.map encM) ++ q.2.2.map encM) mo) B).1 51 (by decide)) (by decide) rfl rfl rfl (Nat.le_of_ble_eq_true rfl) (by rw [hr]; exact ⟨by decide, by decide⟩) (by rw [hr]; exact ⟨Nat.le_of_ble_eq_true rfl, Nat.le_of_ble_eq_true rfl⟩) ?_
          intro rv h' hp_
          rw [hp_.1, hp_.2]
          show AW V 0 0 (mpH h B a q.2.1 q.1 5 (emL q.1 ((l ++ r.2.2.map encM) ++ q.2.2.map encM) (-3)) mo) 40 [(0, .ref (B + 51))] []
          refine a_goto hb 4 dX12_some_40 (by decide) ?_
          refine AW.eq (ih (q.1, q.2.1, r.2.2 ++ q.2.2 ++ if q.1 = true then [] else [(3, 0, 0, 0)]) q2 ?_ ?_ hq.symm) (seq_h enc_3) rfl rfl rfl
          · show (l ++ List.map encM (r.2.2 ++ q.2.2 ++ if q.1 = true then [] else [(3, 0, 0, 0)])).length ≤ q.2.1
            rw [List.length_append, List.length_map] at h2 ⊢
            rw [List.length_append, List.length_append]
            split <;> simp only [List.length_cons, List.length_nil] <;> omega
          · show n ≤ q.2.1 + k
            omega
  refine a_aload_n hb dX12_some_0 rfl 0 rfl ?_
  refine a_callV hb dX12_some_1 (by rw [hg]; exact m_ev0 g h B hL a n ha hac he hn H hH p l mo hp hll) (by rw [ow]; exact clv_RX12_114) ((LY.mp hL : LY (mpH h B a p false 5 l mo) B).1 51 (by decide)) (by decide) rfl rfl rfl (Nat.le_of_ble_eq_true rfl) (by rw [hr]; exact ⟨by decide, by decide⟩) (by rw [hr]; exact ⟨Nat.le_of_ble_eq_true rfl, Nat.le_of_ble_eq_true rfl⟩) ?_
  intro rv h' hp_
  rw [hp_.1, hp_.2]
  clear hp_ rv h'
  have gd1_ := pVgH hH 0 p
  generalize eQ1 : (pV (pF H 0) H p) = q1_ at gd1_ ⊢
  show AW V 0 0 (mpG h B a 5 l mo q1_) 4 [(0, .ref (B + 51))] []
  show AW V 0 0 (mpH h B a q1_.2.1 q1_.1 5 (l ++ q1_.2.2.map encM) mo) 4 [(0, .ref (B + 51))] []
  exact loop 120 q1_ (gd1_.2 hp) (gdl gd1_ hll) (by have z : n ≤ 120 := hn; clear hz loop; omega) ((pE_d eQ1).trans hR)
set_option maxRecDepth 100000 in
theorem m_fac1 (g : GG) (h : AH) (B : Nat) (hL : LY h B) (a n : Nat) (ha : a < 5) (hac : hI h (B + 51) 4 = nI a) (he : hI h (B + 51) 6 = nI n) (hn : n ≤ 120) (H : Nat → Int32) (hH : H = hrT (fun i => hI h (B + 52) (10 + i)) n) (p : Nat) (l : List Int32) (mo : Int32) (hp : p ≤ n) (hll : l.length ≤ p) : AM g 9 0 0 mX12_factor [.ref (B + 51)] (mpH h B a p false 4 l mo) (fun rv h' => rv = none ∧ h' = mpG h B a 4 l mo (pF H 1 p)) := by
  refine AM.of [(0, .ref (B + 51))] (by decide) (Nat.le_of_ble_eq_true rfl) rfl ?_
  intro V hV
  have hb : V.2.1.2.1 = cX12_factor := by subst hV; rfl
  have ow : V.2.1.1.cls = RX12 := by subst hV; rfl
  have hr : V.2.2.1 = aw_rm 9 0 0 := by subst hV; rfl
  have hz : V.2.2.2 = aw_Z V.1 (fun rv h' => rv = none ∧ h' = mpG h B a 4 l mo (pF H 1 p)) V.2.2.1 := by subst hV; rfl
  have hg : V.1 = g := by subst hV; rfl
  have hret : V.2.1.2.2.2 = none := by subst hV; rfl
  have hml : V.2.1.2.2.1 = 5 := by subst hV; rfl
  clear hV
  refine a_aload_n hb dX12_factor_0 rfl 0 rfl ?_
  refine a_getI hb dX12_factor_1 (by rw [ow]; exact fl_RX12_67_12) ((LY.mp hL : LY (mpH h B a p false 4 l mo) B).1 51 (by decide)) ?_
  rw [mp_f7]
  show AW V 0 0 (mpH h B a p false 4 l mo) 4 [(0, .ref (B + 51))] [.int 0]
  refine a_if_eq hb 8 dX12_factor_4 (by decide) (fun c4 => ?_) (fun c4 => absurd (by decide) c4)
  refine a_aload_n hb dX12_factor_8 rfl 0 rfl ?_
  refine a_callV hb dX12_factor_9 (by rw [hg]; exact m_here g h B hL a n ha hac he hn H hH p 4 false l mo hp) (by rw [ow]; exact clv_RX12_71) ((LY.mp hL : LY (mpH h B a p false 4 l mo) B).1 51 (by decide)) (by decide) rfl rfl rfl (Nat.le_of_ble_eq_true rfl) (by rw [hr]; exact ⟨by decide, by decide⟩) (by rw [hr]; exact ⟨Nat.le_of_ble_eq_true rfl, Nat.le_of_ble_eq_true rfl⟩) ?_
  intro rv h' hp_
  rw [hp_.1, hp_.2]
  show AW V 0 0 (mpH h B a p false 4 l mo) 12 [(0, .ref (B + 51))] [.int (H p)]
  refine a_istore_n (L' := [(1, .int (H p)), (0, .ref (B + 51))]) hb dX12_factor_12 rfl (by rw [hml]; decide) rfl ?_
  refine a_iload_n hb dX12_factor_13 rfl 0 rfl ?_
  refine a_bipush (v := 33) hb dX12_factor_14 (by decide) ?_
  refine a_icmp_eq hb 25 dX12_factor_16 (by decide) (fun c16 => ?_) (fun c16 => ?_)
  · have pl : p < n := by rw [hH] at c16; exact hrT_n (by decide) c16
    refine a_aload_n hb dX12_factor_25 rfl 1 rfl ?_
    refine a_aload_n hb dX12_factor_26 rfl 1 rfl ?_
    refine a_getI hb dX12_factor_27 (by rw [ow]; exact fl_RX12_91_12) ((LY.mp hL : LY (mpH h B a p false 4 l mo) B).1 51 (by decide)) ?_
    rw [mp_f8]
    show AW V 0 0 (mpH h B a p false 4 l mo) 30 [(1, .int (H p)), (0, .ref (B + 51))] [.int 4, .ref (B + 51)]
    refine a_iconst (v := 5) hb dX12_factor_30 (by decide) ?_
    refine a_icmp_ne hb 38 dX12_factor_31 (by decide) (fun c31 => ?_) (fun c31 => absurd c31 (by decide))
    refine a_iconst (v := 0) hb dX12_factor_38 (by decide) ?_
    refine a_putI (fty := .boolean) hb dX12_factor_39 (by rw [ow]; exact fp_RX12_67_12) (Or.inr (fun C T N hq => by cases hq; rfl)) ((LY.mp hL : LY (mpH h B a p false 4 l mo) B).1 51 (by decide)) rfl rfl ?_
    rw [mp_7 (q := false) (v := 0) rfl]
    show AW V 0 0 (mpH h B a p false 4 l mo) 42 [(1, .int (H p)), (0, .ref (B + 51))] []
    refine a_aload_n hb dX12_factor_42 rfl 1 rfl ?_
    refine a_dup hb dX12_factor_43 rfl ?_
    refine a_getI hb dX12_factor_44 (by rw [ow]; exact fl_RX12_91_12) ((LY.mp hL : LY (mpH h B a p false 4 l mo) B).1 51 (by decide)) ?_
    rw [mp_f8]
    show AW V 0 0 (mpH h B a p false 4 l mo) 47 [(1, .int (H p)), (0, .ref (B + 51))] [.int 4, .ref (B + 51)]
    refine a_iconst (v := 1) hb dX12_factor_47 (by decide) ?_
    refine a_iadd hb dX12_factor_48 ?_
    refine a_putI (fty := .int) hb dX12_factor_49 (by rw [ow]; exact fp_RX12_91_12) (Or.inr (fun C T N hq => by cases hq; rfl)) ((LY.mp hL : LY (mpH h B a p false 4 l mo) B).1 51 (by decide)) rfl rfl ?_
    rw [mp_8 (q := 5) (by decide)]
    show AW V 0 0 (mpH h B a p false 5 l mo) 52 [(1, .int (H p)), (0, .ref (B + 51))] []
    refine a_aload_n hb dX12_factor_52 rfl 1 rfl ?_
    refine a_dup hb dX12_factor_53 rfl ?_
    refine a_getI hb dX12_factor_54 (by rw [ow]; exact fl_RX12_61_12) ((LY.mp hL : LY (mpH h B a p false 5 l mo) B).1 51 (by decide)) ?_
    rw [mp_f5]
    show AW V 0 0 (mpH h B a p false 5 l mo) 57 [(1, .int (H p)), (0, .ref (B + 51))] [.int (nI p), .ref (B + 51)]
    refine a_aload_n hb dX12_factor_57 rfl 1 rfl ?_
    refine a_getI hb dX12_factor_58 (by rw [ow]; exact fl_RX12_67_12) ((LY.mp hL : LY (mpH h B a p false 5 l mo) B).1 51 (by decide)) ?_
    rw [mp_f7]
    show AW V 0 0 (mpH h B a p false 5 l mo) 61 [(1, .int (H p)), (0, .ref (B + 51))] [.int 0, .int (nI p), .ref (B + 51)]
    refine a_if_eq hb 68 dX12_factor_61 (by decide) (fun c61 => ?_) (fun c61 => absurd (by decide) c61)
    refine a_iconst (v := 1) hb dX12_factor_68 (by decide) ?_
    refine a_iadd hb dX12_factor_69 ?_
    refine a_putI (fty := .int) hb dX12_factor_70 (by rw [ow]; exact fp_RX12_61_12) (Or.inr (fun C T N hq => by cases hq; rfl)) ((LY.mp hL : LY (mpH h B a p false 5 l mo) B).1 51 (by decide)) rfl rfl ?_
    rw [mp_5 (q := (p + 1)) (by rw [nI_1])]
    show AW V 0 0 (mpH h B a (p + 1) false 5 l mo) 73 [(1, .int (H p)), (0, .ref (B + 51))] []
    refine a_iload_n hb dX12_factor_73 rfl 0 rfl ?_
    refine a_bipush (v := 33) hb dX12_factor_74 (by decide) ?_
    refine a_icmp_ne hb 91 dX12_factor_76 (by decide) (fun c76 => absurd c76 (not_not_intro c16)) (fun c76 => ?_)
    refine a_aload_n hb dX12_factor_79 rfl 1 rfl ?_
    refine a_callV hb dX12_factor_80 (by rw [hg]; exact m_fac0 g h B hL a n ha hac he hn H hH (p + 1) l mo (by omega) (Nat.le_succ_of_le hll)) (by rw [ow]; exact clv_RX12_94) ((LY.mp hL : LY (mpH h B a (p + 1) false 5 l mo) B).1 51 (by decide)) (by decide) rfl rfl rfl (Nat.le_of_ble_eq_true rfl) (by rw [hr]; exact ⟨by decide, by decide⟩) (by rw [hr]; exact ⟨Nat.le_of_ble_eq_true rfl, Nat.le_of_ble_eq_true rfl⟩) ?_
    intro rv h' hp_
    rw [hp_.1, hp_.2]
    clear hp_ rv h'
    have gd1_ := pFgH hH 0 (p + 1)
    generalize eQ1 : (pF H 0 (p + 1)) = q1_ at gd1_ ⊢
    show AW V 0 0 (mpG h B a 5 l mo q1_) 83 [(1, .int (H p)), (0, .ref (B + 51))] []
    show AW V 0 0 (mpH h B a q1_.2.1 q1_.1 5 (l ++ q1_.2.2.map encM) mo) 83 [(1, .int (H p)), (0, .ref (B + 51))] []
    refine a_aload_n hb dX12_factor_83 rfl 1 rfl ?_
    refine a_iconst (v := (-1)) hb dX12_factor_84 (by decide) ?_
    refine a_callV hb dX12_factor_85 (by rw [hg]; exact m_emits g h B hL a n ha hac he hn H hH q1_.2.1 5 q1_.1 (l ++ q1_.2.2.map encM) mo (gd1_.2 (by omega)) (-1) (Nat.lt_of_le_of_lt (Nat.le_trans (gdl gd1_ (Nat.le_succ_of_le hll)) (Nat.le_trans (gd1_.2 (by omega)) hn)) (by decide))) (by rw [ow]; exact clv_RX12_97) ((LY.mp hL : LY (mpH h B a q1_.2.1 q1_.1 5 (l ++ q1_.2.2.map encM) mo) B).1 51 (by decide)) (by decide) rfl rfl rfl (Nat.le_of_ble_eq_true rfl) (by rw [hr]; exact ⟨by decide, by decide⟩) (by rw [hr]; exact ⟨Nat.le_of_ble_eq_true rfl, Nat.le_of_ble_eq_true rfl⟩) ?_
    intro rv h' hp_
    rw [hp_.1, hp_.2]
    show AW V 0 0 (mpH h B a q1_.2.1 q1_.1 5 (emL q1_.1 (l ++ q1_.2.2.map encM) (-1)) mo) 88 [(1, .int (H p)), (0, .ref (B + 51))] []
    refine a_goto hb 101 dX12_factor_88 (by decide) ?_
    refine a_aload_n hb dX12_factor_101 rfl 1 rfl ?_
    refine a_dup hb dX12_factor_102 rfl ?_
    refine a_getI hb dX12_factor_103 (by rw [ow]; exact fl_RX12_91_12) ((LY.mp hL : LY (mpH h B a q1_.2.1 q1_.1 5 (emL q1_.1 (l ++ q1_.2.2.map encM) (-1)) mo) B).1 51 (by decide)) ?_
    rw [mp_f8]
    show AW V 0 0 (mpH h B a q1_.2.1 q1_.1 5 (emL q1_.1 (l ++ q1_.2.2.map encM) (-1)) mo) 106 [(1, .int (H p)), (0, .ref (B + 51))] [.int 5, .ref (B + 51)]
    refine a_iconst (v := 1) hb dX12_factor_106 (by decide) ?_
    refine a_isub hb dX12_factor_107 ?_
    refine a_putI (fty := .int) hb dX12_factor_108 (by rw [ow]; exact fp_RX12_91_12) (Or.inr (fun C T N hq => by cases hq; rfl)) ((LY.mp hL : LY (mpH h B a q1_.2.1 q1_.1 5 (emL q1_.1 (l ++ q1_.2.2.map encM) (-1)) mo) B).1 51 (by decide)) rfl rfl ?_
    rw [mp_8 (q := 4) (by decide)]
    show AW V 0 0 (mpH h B a q1_.2.1 q1_.1 4 (emL q1_.1 (l ++ q1_.2.2.map encM) (-1)) mo) 111 [(1, .int (H p)), (0, .ref (B + 51))] []
    exact a_return hb hz dX12_factor_111 hret (by rw [hr]; exact Nat.le_of_ble_eq_true rfl) (by rw [hr]; exact Nat.le_of_ble_eq_true rfl) (⟨rfl, by subst eQ1; exact fac_n c16⟩)
  · refine a_iload_n hb dX12_factor_19 rfl 0 rfl ?_
    refine a_bipush (v := 40) hb dX12_factor_20 (by decide) ?_
    refine a_icmp_ne hb 112 dX12_factor_22 (by decide) (fun c22 => ?_) (fun c22 => ?_)
    · refine a_aload_n hb dX12_factor_112 rfl 1 rfl ?_
      refine a_ldcS (i := 0) hb dX12_factor_113 (by rw [ow]; exact List.mem_of_getElem? (i := 5) rfl) ?_
      refine a_callV hb dX12_factor_115 (by have z_ := m_among0 g h B hL a n ha hac he hn H hH p 4 false l mo hp; rw [← hg] at z_; exact z_) (by rw [ow]; exact clv_RX12_105) ((LY.mp hL : LY (mpH h B a p false 4 l mo) B).1 51 (by decide)) (by decide) rfl rfl rfl (Nat.le_of_ble_eq_true rfl) (by rw [hr]; exact ⟨by decide, by decide⟩) (by rw [hr]; exact ⟨Nat.le_of_ble_eq_true rfl, Nat.le_of_ble_eq_true rfl⟩) ?_
      intro rv h' hp_
      rw [hp_.1, hp_.2]
      by_cases t5 : ix5 (H p) = 5
      · rw [if_pos t5, if_pos t5]
        show AW V 0 0 (mpH h B a p false 4 l mo) 118 [(1, .int (H p)), (0, .ref (B + 51))] [.int (-1)]
        refine a_istore_n (L' := [(2, .int (-1)), (1, .int (H p)), (0, .ref (B + 51))]) hb dX12_factor_118 rfl (by rw [hml]; decide) rfl ?_
        refine a_aload_n hb dX12_factor_119 rfl 2 rfl ?_
        refine a_iload_n hb dX12_factor_120 rfl 0 rfl ?_
        refine a_iconst (v := (-1)) hb dX12_factor_121 (by decide) ?_
        refine a_icmp_ne hb 129 dX12_factor_122 (by decide) (fun c122 => absurd c122 (by decide)) (fun c122 => ?_)
        refine a_iconst (v := 1) hb dX12_factor_125 (by decide) ?_
        refine a_goto hb 130 dX12_factor_126 (by decide) ?_
        refine a_putI (fty := .boolean) hb dX12_factor_130 (by rw [ow]; exact fp_RX12_67_12) (Or.inr (fun C T N hq => by cases hq; rfl)) ((LY.mp hL : LY (mpH h B a p false 4 l mo) B).1 51 (by decide)) rfl rfl ?_
        rw [mp_7 (q := true) (v := 1) rfl]
        show AW V 0 0 (mpH h B a p true 4 l mo) 133 [(2, .int (-1)), (1, .int (H p)), (0, .ref (B + 51))] []
        refine a_aload_n hb dX12_factor_133 rfl 2 rfl ?_
        refine a_getI hb dX12_factor_134 (by rw [ow]; exact fl_RX12_67_12) ((LY.mp hL : LY (mpH h B a p true 4 l mo) B).1 51 (by decide)) ?_
        rw [mp_f7]
        show AW V 0 0 (mpH h B a p true 4 l mo) 137 [(2, .int (-1)), (1, .int (H p)), (0, .ref (B + 51))] [.int 1]
        refine a_if_eq hb 144 dX12_factor_137 (by decide) (fun c137 => absurd c137 (by decide)) (fun c137 => ?_)
        refine a_iconst (v := 0) hb dX12_factor_140 (by decide) ?_
        refine a_goto hb 150 dX12_factor_141 (by decide) ?_
        refine a_istore_n (L' := [(3, .int 0), (2, .int (-1)), (1, .int (H p)), (0, .ref (B + 51))]) hb dX12_factor_150 rfl (by rw [hml]; decide) rfl ?_
        refine a_aload_n hb dX12_factor_151 rfl 3 rfl ?_
        refine a_aload_n hb dX12_factor_152 rfl 3 rfl ?_
        refine a_getI hb dX12_factor_153 (by rw [ow]; exact fl_RX12_67_12) ((LY.mp hL : LY (mpH h B a p true 4 l mo) B).1 51 (by decide)) ?_
        rw [mp_f7]
        show AW V 0 0 (mpH h B a p true 4 l mo) 156 [(3, .int 0), (2, .int (-1)), (1, .int (H p)), (0, .ref (B + 51))] [.int 1, .ref (B + 51)]
        refine a_if_ne hb 164 dX12_factor_156 (by decide) (fun c156 => ?_) (fun c156 => absurd c156 (by decide))
        refine a_iconst (v := 1) hb dX12_factor_164 (by decide) ?_
        refine a_goto hb 169 dX12_factor_165 (by decide) ?_
        refine a_putI (fty := .boolean) hb dX12_factor_169 (by rw [ow]; exact fp_RX12_67_12) (Or.inr (fun C T N hq => by cases hq; rfl)) ((LY.mp hL : LY (mpH h B a p true 4 l mo) B).1 51 (by decide)) rfl rfl ?_
        rw [mp_7 (q := true) (v := 1) rfl]
        show AW V 0 0 (mpH h B a p true 4 l mo) 172 [(3, .int 0), (2, .int (-1)), (1, .int (H p)), (0, .ref (B + 51))] []
        refine a_aload_n hb dX12_factor_172 rfl 3 rfl ?_
        refine a_callV hb dX12_factor_173 (by rw [hg]; exact m_figures g h B hL a n ha hac he hn H hH p 4 true l mo hp) (by rw [ow]; exact clv_RX12_111) ((LY.mp hL : LY (mpH h B a p true 4 l mo) B).1 51 (by decide)) (by decide) rfl rfl rfl (Nat.le_of_ble_eq_true rfl) (by rw [hr]; exact ⟨by decide, by decide⟩) (by rw [hr]; exact ⟨Nat.le_of_ble_eq_true rfl, Nat.le_of_ble_eq_true rfl⟩) ?_
        intro rv h' hp_
        rw [hp_.1, hp_.2]
        show AW V 0 0 (mpH h B a p true 4 l mo) 176 [(3, .int 0), (2, .int (-1)), (1, .int (H p)), (0, .ref (B + 51))] [.int (nI 0)]
        refine a_istore (L' := [(4, .int (nI 0)), (3, .int 0), (2, .int (-1)), (1, .int (H p)), (0, .ref (B + 51))]) hb dX12_factor_176 (by rw [hml]; decide) rfl ?_
        refine a_aload_n hb dX12_factor_178 rfl 4 rfl ?_
        refine a_iload_n hb dX12_factor_179 rfl 2 rfl ?_
        refine a_bipush (v := 8) hb dX12_factor_180 (by decide) ?_
        refine a_iload_n hb dX12_factor_182 rfl 1 rfl ?_
        refine a_imul hb dX12_factor_183 ?_
        refine a_iadd hb dX12_factor_184 ?_
        refine a_bipush (v := 32) hb dX12_factor_185 (by decide) ?_
        refine a_iload hb dX12_factor_187 0 rfl ?_
        refine a_imul hb dX12_factor_189 ?_
        refine a_iadd hb dX12_factor_190 ?_
        refine a_callV hb dX12_factor_191 (by rw [hg]; exact m_emits g h B hL a n ha hac he hn H hH p 4 true l mo hp (((-1) + (8 * 0)) + (32 * (nI 0))) (Nat.lt_of_le_of_lt (Nat.le_trans hll (Nat.le_trans hp hn)) (by decide))) (by rw [ow]; exact clv_RX12_97) ((LY.mp hL : LY (mpH h B a p true 4 l mo) B).1 51 (by decide)) (by decide) rfl rfl rfl (Nat.le_of_ble_eq_true rfl) (by rw [hr]; exact ⟨by decide, by decide⟩) (by rw [hr]; exact ⟨Nat.le_of_ble_eq_true rfl, Nat.le_of_ble_eq_true rfl⟩) ?_
        intro rv h' hp_
        rw [hp_.1, hp_.2]
        show AW V 0 0 (mpH h B a p true 4 l mo) 194 [(4, .int (nI 0)), (3, .int 0), (2, .int (-1)), (1, .int (H p)), (0, .ref (B + 51))] []
        exact a_return hb hz dX12_factor_194 hret (by rw [hr]; exact Nat.le_of_ble_eq_true rfl) (by rw [hr]; exact Nat.le_of_ble_eq_true rfl) (⟨rfl, fac_5 c16 c22 t5⟩)
      rw [if_neg t5, if_neg t5]
      have ltt5 : p < n := by rw [hH] at t5; exact hrT_5 t5
      show AW V 0 0 (mpH h B a (p + 1) false 4 l mo) 118 [(1, .int (H p)), (0, .ref (B + 51))] [.int (nI (ix5 (H p)))]
      refine a_istore_n (L' := [(2, .int (nI (ix5 (H p)))), (1, .int (H p)), (0, .ref (B + 51))]) hb dX12_factor_118 rfl (by rw [hml]; decide) rfl ?_
      refine a_aload_n hb dX12_factor_119 rfl 2 rfl ?_
      refine a_iload_n hb dX12_factor_120 rfl 0 rfl ?_
      refine a_iconst (v := (-1)) hb dX12_factor_121 (by decide) ?_
      refine a_icmp_ne hb 129 dX12_factor_122 (by decide) (fun c122 => ?_) (fun c122 => absurd c122 ((nI_m1 ix5_le)))
      refine a_iconst (v := 0) hb dX12_factor_129 (by decide) ?_
      refine a_putI (fty := .boolean) hb dX12_factor_130 (by rw [ow]; exact fp_RX12_67_12) (Or.inr (fun C T N hq => by cases hq; rfl)) ((LY.mp hL : LY (mpH h B a (p + 1) false 4 l mo) B).1 51 (by decide)) rfl rfl ?_
      rw [mp_7 (q := false) (v := 0) rfl]
      show AW V 0 0 (mpH h B a (p + 1) false 4 l mo) 133 [(2, .int (nI (ix5 (H p)))), (1, .int (H p)), (0, .ref (B + 51))] []
      refine a_aload_n hb dX12_factor_133 rfl 2 rfl ?_
      refine a_getI hb dX12_factor_134 (by rw [ow]; exact fl_RX12_67_12) ((LY.mp hL : LY (mpH h B a (p + 1) false 4 l mo) B).1 51 (by decide)) ?_
      rw [mp_f7]
      show AW V 0 0 (mpH h B a (p + 1) false 4 l mo) 137 [(2, .int (nI (ix5 (H p)))), (1, .int (H p)), (0, .ref (B + 51))] [.int 0]
      refine a_if_eq hb 144 dX12_factor_137 (by decide) (fun c137 => ?_) (fun c137 => absurd (by decide) c137)
      refine a_aload_n hb dX12_factor_144 rfl 2 rfl ?_
      refine a_ldcS (i := 1) hb dX12_factor_145 (by rw [ow]; exact List.mem_of_getElem? (i := 6) rfl) ?_
      refine a_callV hb dX12_factor_147 (by have z_ := m_among1 g h B hL a n ha hac he hn H hH (p + 1) 4 false l mo (by omega); rw [← hg] at z_; exact z_) (by rw [ow]; exact clv_RX12_105) ((LY.mp hL : LY (mpH h B a (p + 1) false 4 l mo) B).1 51 (by decide)) (by decide) rfl rfl rfl (Nat.le_of_ble_eq_true rfl) (by rw [hr]; exact ⟨by decide, by decide⟩) (by rw [hr]; exact ⟨Nat.le_of_ble_eq_true rfl, Nat.le_of_ble_eq_true rfl⟩) ?_
      intro rv h' hp_
      rw [hp_.1, hp_.2]
      by_cases t3 : ix3 (H (p + 1)) = 3
      · rw [if_pos t3, if_pos t3]
        show AW V 0 0 (mpH h B a (p + 1) false 4 l mo) 150 [(2, .int (nI (ix5 (H p)))), (1, .int (H p)), (0, .ref (B + 51))] [.int (-1)]
        refine a_istore_n (L' := [(3, .int (-1)), (2, .int (nI (ix5 (H p)))), (1, .int (H p)), (0, .ref (B + 51))]) hb dX12_factor_150 rfl (by rw [hml]; decide) rfl ?_
        refine a_aload_n hb dX12_factor_151 rfl 3 rfl ?_
        refine a_aload_n hb dX12_factor_152 rfl 3 rfl ?_
        refine a_getI hb dX12_factor_153 (by rw [ow]; exact fl_RX12_67_12) ((LY.mp hL : LY (mpH h B a (p + 1) false 4 l mo) B).1 51 (by decide)) ?_
        rw [mp_f7]
        show AW V 0 0 (mpH h B a (p + 1) false 4 l mo) 156 [(3, .int (-1)), (2, .int (nI (ix5 (H p)))), (1, .int (H p)), (0, .ref (B + 51))] [.int 0, .ref (B + 51)]
        refine a_if_ne hb 164 dX12_factor_156 (by decide) (fun c156 => absurd c156 (by decide)) (fun c156 => ?_)
        refine a_iload_n hb dX12_factor_159 rfl 0 rfl ?_
        refine a_iconst (v := (-1)) hb dX12_factor_160 (by decide) ?_
        refine a_icmp_ne hb 168 dX12_factor_161 (by decide) (fun c161 => absurd c161 (by decide)) (fun c161 => ?_)
        refine a_iconst (v := 1) hb dX12_factor_164 (by decide) ?_
        refine a_goto hb 169 dX12_factor_165 (by decide) ?_
        refine a_putI (fty := .boolean) hb dX12_factor_169 (by rw [ow]; exact fp_RX12_67_12) (Or.inr (fun C T N hq => by cases hq; rfl)) ((LY.mp hL : LY (mpH h B a (p + 1) false 4 l mo) B).1 51 (by decide)) rfl rfl ?_
        rw [mp_7 (q := true) (v := 1) rfl]
        show AW V 0 0 (mpH h B a (p + 1) true 4 l mo) 172 [(3, .int (-1)), (2, .int (nI (ix5 (H p)))), (1, .int (H p)), (0, .ref (B + 51))] []
        refine a_aload_n hb dX12_factor_172 rfl 3 rfl ?_
        refine a_callV hb dX12_factor_173 (by rw [hg]; exact m_figures g h B hL a n ha hac he hn H hH (p + 1) 4 true l mo (by omega)) (by rw [ow]; exact clv_RX12_111) ((LY.mp hL : LY (mpH h B a (p + 1) true 4 l mo) B).1 51 (by decide)) (by decide) rfl rfl rfl (Nat.le_of_ble_eq_true rfl) (by rw [hr]; exact ⟨by decide, by decide⟩) (by rw [hr]; exact ⟨Nat.le_of_ble_eq_true rfl, Nat.le_of_ble_eq_true rfl⟩) ?_
        intro rv h' hp_
        rw [hp_.1, hp_.2]
        show AW V 0 0 (mpH h B a (p + 1) true 4 l mo) 176 [(3, .int (-1)), (2, .int (nI (ix5 (H p)))), (1, .int (H p)), (0, .ref (B + 51))] [.int (nI 0)]
        refine a_istore (L' := [(4, .int (nI 0)), (3, .int (-1)), (2, .int (nI (ix5 (H p)))), (1, .int (H p)), (0, .ref (B + 51))]) hb dX12_factor_176 (by rw [hml]; decide) rfl ?_
        refine a_aload_n hb dX12_factor_178 rfl 4 rfl ?_
        refine a_iload_n hb dX12_factor_179 rfl 2 rfl ?_
        refine a_bipush (v := 8) hb dX12_factor_180 (by decide) ?_
        refine a_iload_n hb dX12_factor_182 rfl 1 rfl ?_
        refine a_imul hb dX12_factor_183 ?_
        refine a_iadd hb dX12_factor_184 ?_
        refine a_bipush (v := 32) hb dX12_factor_185 (by decide) ?_
        refine a_iload hb dX12_factor_187 0 rfl ?_
        refine a_imul hb dX12_factor_189 ?_
        refine a_iadd hb dX12_factor_190 ?_
        refine a_callV hb dX12_factor_191 (by rw [hg]; exact m_emits g h B hL a n ha hac he hn H hH (p + 1) 4 true l mo (by omega) (((nI (ix5 (H p))) + (8 * (-1))) + (32 * (nI 0))) (Nat.lt_of_le_of_lt (Nat.le_trans hll (Nat.le_trans hp hn)) (by decide))) (by rw [ow]; exact clv_RX12_97) ((LY.mp hL : LY (mpH h B a (p + 1) true 4 l mo) B).1 51 (by decide)) (by decide) rfl rfl rfl (Nat.le_of_ble_eq_true rfl) (by rw [hr]; exact ⟨by decide, by decide⟩) (by rw [hr]; exact ⟨Nat.le_of_ble_eq_true rfl, Nat.le_of_ble_eq_true rfl⟩) ?_
        intro rv h' hp_
        rw [hp_.1, hp_.2]
        show AW V 0 0 (mpH h B a (p + 1) true 4 l mo) 194 [(4, .int (nI 0)), (3, .int (-1)), (2, .int (nI (ix5 (H p)))), (1, .int (H p)), (0, .ref (B + 51))] []
        exact a_return hb hz dX12_factor_194 hret (by rw [hr]; exact Nat.le_of_ble_eq_true rfl) (by rw [hr]; exact Nat.le_of_ble_eq_true rfl) (⟨rfl, fac_3 c16 c22 t5 t3⟩)
      rw [if_neg t3, if_neg t3]
      have ltt3 : (p + 1) < n := by rw [hH] at t3; exact hrT_3 t3
      show AW V 0 0 (mpH h B a (p + 2) false 4 l mo) 150 [(2, .int (nI (ix5 (H p)))), (1, .int (H p)), (0, .ref (B + 51))] [.int (nI (ix3 (H (p + 1))))]
      refine a_istore_n (L' := [(3, .int (nI (ix3 (H (p + 1))))), (2, .int (nI (ix5 (H p)))), (1, .int (H p)), (0, .ref (B + 51))]) hb dX12_factor_150 rfl (by rw [hml]; decide) rfl ?_
      refine a_aload_n hb dX12_factor_151 rfl 3 rfl ?_
      refine a_aload_n hb dX12_factor_152 rfl 3 rfl ?_
      refine a_getI hb dX12_factor_153 (by rw [ow]; exact fl_RX12_67_12) ((LY.mp hL : LY (mpH h B a (p + 2) false 4 l mo) B).1 51 (by decide)) ?_
      rw [mp_f7]
      show AW V 0 0 (mpH h B a (p + 2) false 4 l mo) 156 [(3, .int (nI (ix3 (H (p + 1))))), (2, .int (nI (ix5 (H p)))), (1, .int (H p)), (0, .ref (B + 51))] [.int 0, .ref (B + 51)]
      refine a_if_ne hb 164 dX12_factor_156 (by decide) (fun c156 => absurd c156 (by decide)) (fun c156 => ?_)
      refine a_iload_n hb dX12_factor_159 rfl 0 rfl ?_
      refine a_iconst (v := (-1)) hb dX12_factor_160 (by decide) ?_
      refine a_icmp_ne hb 168 dX12_factor_161 (by decide) (fun c161 => ?_) (fun c161 => absurd c161 ((nI_m1 (Nat.le_trans ix3_le (by decide)))))
      refine a_iconst (v := 0) hb dX12_factor_168 (by decide) ?_
      refine a_putI (fty := .boolean) hb dX12_factor_169 (by rw [ow]; exact fp_RX12_67_12) (Or.inr (fun C T N hq => by cases hq; rfl)) ((LY.mp hL : LY (mpH h B a (p + 2) false 4 l mo) B).1 51 (by decide)) rfl rfl ?_
      rw [mp_7 (q := false) (v := 0) rfl]
      show AW V 0 0 (mpH h B a (p + 2) false 4 l mo) 172 [(3, .int (nI (ix3 (H (p + 1))))), (2, .int (nI (ix5 (H p)))), (1, .int (H p)), (0, .ref (B + 51))] []
      refine a_aload_n hb dX12_factor_172 rfl 3 rfl ?_
      refine a_callV hb dX12_factor_173 (by rw [hg]; exact m_figures g h B hL a n ha hac he hn H hH (p + 2) 4 false l mo (by omega)) (by rw [ow]; exact clv_RX12_111) ((LY.mp hL : LY (mpH h B a (p + 2) false 4 l mo) B).1 51 (by decide)) (by decide) rfl rfl rfl (Nat.le_of_ble_eq_true rfl) (by rw [hr]; exact ⟨by decide, by decide⟩) (by rw [hr]; exact ⟨Nat.le_of_ble_eq_true rfl, Nat.le_of_ble_eq_true rfl⟩) ?_
      intro rv h' hp_
      rw [hp_.1, hp_.2]
      show AW V 0 0 (mpH h B a ((fgP H false (p + 2)).2.1) ((fgP H false (p + 2)).1) 4 l mo) 176 [(3, .int (nI (ix3 (H (p + 1))))), (2, .int (nI (ix5 (H p)))), (1, .int (H p)), (0, .ref (B + 51))] [.int (nI (fgP H false (p + 2)).2.2)]
      refine a_istore (L' := [(4, .int (nI (fgP H false (p + 2)).2.2)), (3, .int (nI (ix3 (H (p + 1))))), (2, .int (nI (ix5 (H p)))), (1, .int (H p)), (0, .ref (B + 51))]) hb dX12_factor_176 (by rw [hml]; decide) rfl ?_
      refine a_aload_n hb dX12_factor_178 rfl 4 rfl ?_
      refine a_iload_n hb dX12_factor_179 rfl 2 rfl ?_
      refine a_bipush (v := 8) hb dX12_factor_180 (by decide) ?_
      refine a_iload_n hb dX12_factor_182 rfl 1 rfl ?_
      refine a_imul hb dX12_factor_183 ?_
      refine a_iadd hb dX12_factor_184 ?_
      refine a_bipush (v := 32) hb dX12_factor_185 (by decide) ?_
      refine a_iload hb dX12_factor_187 0 rfl ?_
      refine a_imul hb dX12_factor_189 ?_
      refine a_iadd hb dX12_factor_190 ?_
      refine a_callV hb dX12_factor_191 (by rw [hg]; exact m_emits g h B hL a n ha hac he hn H hH ((fgP H false (p + 2)).2.1) 4 ((fgP H false (p + 2)).1) l mo (fgG hH (w := false) (by omega)) (((nI (ix5 (H p))) + (8 * (nI (ix3 (H (p + 1)))))) + (32 * (nI (fgP H false (p + 2)).2.2))) (Nat.lt_of_le_of_lt (Nat.le_trans hll (Nat.le_trans hp hn)) (by decide))) (by rw [ow]; exact clv_RX12_97) ((LY.mp hL : LY (mpH h B a ((fgP H false (p + 2)).2.1) ((fgP H false (p + 2)).1) 4 l mo) B).1 51 (by decide)) (by decide) rfl rfl rfl (Nat.le_of_ble_eq_true rfl) (by rw [hr]; exact ⟨by decide, by decide⟩) (by rw [hr]; exact ⟨Nat.le_of_ble_eq_true rfl, Nat.le_of_ble_eq_true rfl⟩) ?_
      intro rv h' hp_
      rw [hp_.1, hp_.2]
      show AW V 0 0 (mpH h B a ((fgP H false (p + 2)).2.1) ((fgP H false (p + 2)).1) 4 (emL ((fgP H false (p + 2)).1) l (((nI (ix5 (H p))) + (8 * (nI (ix3 (H (p + 1)))))) + (32 * (nI (fgP H false (p + 2)).2.2)))) mo) 194 [(4, .int (nI (fgP H false (p + 2)).2.2)), (3, .int (nI (ix3 (H (p + 1))))), (2, .int (nI (ix5 (H p)))), (1, .int (H p)), (0, .ref (B + 51))] []
      exact a_return hb hz dX12_factor_194 hret (by rw [hr]; exact Nat.le_of_ble_eq_true rfl) (by rw [hr]; exact Nat.le_of_ble_eq_true rfl) (⟨rfl, fac_t c16 c22 t5 t3⟩)
    · have pl : p < n := by rw [hH] at c22; exact hrT_n (by decide) c22
      refine a_aload_n hb dX12_factor_25 rfl 1 rfl ?_
      refine a_aload_n hb dX12_factor_26 rfl 1 rfl ?_
      refine a_getI hb dX12_factor_27 (by rw [ow]; exact fl_RX12_91_12) ((LY.mp hL : LY (mpH h B a p false 4 l mo) B).1 51 (by decide)) ?_
      rw [mp_f8]
      show AW V 0 0 (mpH h B a p false 4 l mo) 30 [(1, .int (H p)), (0, .ref (B + 51))] [.int 4, .ref (B + 51)]
      refine a_iconst (v := 5) hb dX12_factor_30 (by decide) ?_
      refine a_icmp_ne hb 38 dX12_factor_31 (by decide) (fun c31 => ?_) (fun c31 => absurd c31 (by decide))
      refine a_iconst (v := 0) hb dX12_factor_38 (by decide) ?_
      refine a_putI (fty := .boolean) hb dX12_factor_39 (by rw [ow]; exact fp_RX12_67_12) (Or.inr (fun C T N hq => by cases hq; rfl)) ((LY.mp hL : LY (mpH h B a p false 4 l mo) B).1 51 (by decide)) rfl rfl ?_
      rw [mp_7 (q := false) (v := 0) rfl]
      show AW V 0 0 (mpH h B a p false 4 l mo) 42 [(1, .int (H p)), (0, .ref (B + 51))] []
      refine a_aload_n hb dX12_factor_42 rfl 1 rfl ?_
      refine a_dup hb dX12_factor_43 rfl ?_
      refine a_getI hb dX12_factor_44 (by rw [ow]; exact fl_RX12_91_12) ((LY.mp hL : LY (mpH h B a p false 4 l mo) B).1 51 (by decide)) ?_
      rw [mp_f8]
      show AW V 0 0 (mpH h B a p false 4 l mo) 47 [(1, .int (H p)), (0, .ref (B + 51))] [.int 4, .ref (B + 51)]
      refine a_iconst (v := 1) hb dX12_factor_47 (by decide) ?_
      refine a_iadd hb dX12_factor_48 ?_
      refine a_putI (fty := .int) hb dX12_factor_49 (by rw [ow]; exact fp_RX12_91_12) (Or.inr (fun C T N hq => by cases hq; rfl)) ((LY.mp hL : LY (mpH h B a p false 4 l mo) B).1 51 (by decide)) rfl rfl ?_
      rw [mp_8 (q := 5) (by decide)]
      show AW V 0 0 (mpH h B a p false 5 l mo) 52 [(1, .int (H p)), (0, .ref (B + 51))] []
      refine a_aload_n hb dX12_factor_52 rfl 1 rfl ?_
      refine a_dup hb dX12_factor_53 rfl ?_
      refine a_getI hb dX12_factor_54 (by rw [ow]; exact fl_RX12_61_12) ((LY.mp hL : LY (mpH h B a p false 5 l mo) B).1 51 (by decide)) ?_
      rw [mp_f5]
      show AW V 0 0 (mpH h B a p false 5 l mo) 57 [(1, .int (H p)), (0, .ref (B + 51))] [.int (nI p), .ref (B + 51)]
      refine a_aload_n hb dX12_factor_57 rfl 1 rfl ?_
      refine a_getI hb dX12_factor_58 (by rw [ow]; exact fl_RX12_67_12) ((LY.mp hL : LY (mpH h B a p false 5 l mo) B).1 51 (by decide)) ?_
      rw [mp_f7]
      show AW V 0 0 (mpH h B a p false 5 l mo) 61 [(1, .int (H p)), (0, .ref (B + 51))] [.int 0, .int (nI p), .ref (B + 51)]
      refine a_if_eq hb 68 dX12_factor_61 (by decide) (fun c61 => ?_) (fun c61 => absurd (by decide) c61)
      refine a_iconst (v := 1) hb dX12_factor_68 (by decide) ?_
      refine a_iadd hb dX12_factor_69 ?_
      refine a_putI (fty := .int) hb dX12_factor_70 (by rw [ow]; exact fp_RX12_61_12) (Or.inr (fun C T N hq => by cases hq; rfl)) ((LY.mp hL : LY (mpH h B a p false 5 l mo) B).1 51 (by decide)) rfl rfl ?_
      rw [mp_5 (q := (p + 1)) (by rw [nI_1])]
      show AW V 0 0 (mpH h B a (p + 1) false 5 l mo) 73 [(1, .int (H p)), (0, .ref (B + 51))] []
      refine a_iload_n hb dX12_factor_73 rfl 0 rfl ?_
      refine a_bipush (v := 33) hb dX12_factor_74 (by decide) ?_
      refine a_icmp_ne hb 91 dX12_factor_76 (by decide) (fun c76 => ?_) (fun c76 => absurd c76 (c16))
      refine a_aload_n hb dX12_factor_91 rfl 1 rfl ?_
      refine a_callV hb dX12_factor_92 (by rw [hg]; exact m_so0 g h B hL a n ha hac he hn H hH (p + 1) l mo (by omega) (Nat.le_succ_of_le hll)) (by rw [ow]; exact clv_RX12_100) ((LY.mp hL : LY (mpH h B a (p + 1) false 5 l mo) B).1 51 (by decide)) (by decide) rfl rfl rfl (Nat.le_of_ble_eq_true rfl) (by rw [hr]; exact ⟨by decide, by decide⟩) (by rw [hr]; exact ⟨Nat.le_of_ble_eq_true rfl, Nat.le_of_ble_eq_true rfl⟩) ?_
      intro rv h' hp_
      rw [hp_.1, hp_.2]
      clear hp_ rv h'
      have gd2_ := pEgH hH 0 (p + 1)
      generalize eQ2 : (pE (pF H 0) H (p + 1)) = q2_ at gd2_ ⊢
      show AW V 0 0 (mpG h B a 5 l mo q2_) 95 [(1, .int (H p)), (0, .ref (B + 51))] []
      show AW V 0 0 (mpH h B a q2_.2.1 q2_.1 5 (l ++ q2_.2.2.map encM) mo) 95 [(1, .int (H p)), (0, .ref (B + 51))] []
      refine a_aload_n hb dX12_factor_95 rfl 1 rfl ?_
      refine a_bipush (v := 41) hb dX12_factor_96 (by decide) ?_
      refine a_callV hb dX12_factor_98 (by rw [hg]; exact m_must g h B hL a n ha hac he hn H hH q2_.2.1 5 q2_.1 (l ++ q2_.2.2.map encM) mo (gd2_.2 (by omega)) 41) (by rw [ow]; exact clv_RX12_84) ((LY.mp hL : LY (mpH h B a q2_.2.1 q2_.1 5 (l ++ q2_.2.2.map encM) mo) B).1 51 (by decide)) (by decide) rfl rfl rfl (Nat.le_of_ble_eq_true rfl) (by rw [hr]; exact ⟨by decide, by decide⟩) (by rw [hr]; exact ⟨Nat.le_of_ble_eq_true rfl, Nat.le_of_ble_eq_true rfl⟩) ?_
      intro rv h' hp_
      rw [hp_.1, hp_.2]
      show AW V 0 0 (mpH h B a ((muP H 41 q2_.1 q2_.2.1).2) ((muP H 41 q2_.1 q2_.2.1).1) 5 (l ++ q2_.2.2.map encM) mo) 101 [(1, .int (H p)), (0, .ref (B + 51))] []
      refine a_aload_n hb dX12_factor_101 rfl 1 rfl ?_
      refine a_dup hb dX12_factor_102 rfl ?_
      refine a_getI hb dX12_factor_103 (by rw [ow]; exact fl_RX12_91_12) ((LY.mp hL : LY (mpH h B a ((muP H 41 q2_.1 q2_.2.1).2) ((muP H 41 q2_.1 q2_.2.1).1) 5 (l ++ q2_.2.2.map encM) mo) B).1 51 (by decide)) ?_
      rw [mp_f8]
      show AW V 0 0 (mpH h B a ((muP H 41 q2_.1 q2_.2.1).2) ((muP H 41 q2_.1 q2_.2.1).1) 5 (l ++ q2_.2.2.map encM) mo) 106 [(1, .int (H p)), (0, .ref (B + 51))] [.int 5, .ref (B + 51)]
      refine a_iconst (v := 1) hb dX12_factor_106 (by decide) ?_
      refine a_isub hb dX12_factor_107 ?_
      refine a_putI (fty := .int) hb dX12_factor_108 (by rw [ow]; exact fp_RX12_91_12) (Or.inr (fun C T N hq => by cases hq; rfl)) ((LY.mp hL : LY (mpH h B a ((muP H 41 q2_.1 q2_.2.1).2) ((muP H 41 q2_.1 q2_.2.1).1) 5 (l ++ q2_.2.2.map encM) mo) B).1 51 (by decide)) rfl rfl ?_
      rw [mp_8 (q := 4) (by decide)]
      show AW V 0 0 (mpH h B a ((muP H 41 q2_.1 q2_.2.1).2) ((muP H 41 q2_.1 q2_.2.1).1) 4 (l ++ q2_.2.2.map encM) mo) 111 [(1, .int (H p)), (0, .ref (B + 51))] []
      exact a_return hb hz dX12_factor_111 hret (by rw [hr]; exact Nat.le_of_ble_eq_true rfl) (by rw [hr]; exact Nat.le_of_ble_eq_true rfl) (⟨rfl, by subst eQ2; exact fac_p c16 c22⟩)
set_option maxRecDepth 100000 in
theorem m_ev1 (g : GG) (h : AH) (B : Nat) (hL : LY h B) (a n : Nat) (ha : a < 5) (hac : hI h (B + 51) 4 = nI a) (he : hI h (B + 51) 6 = nI n) (hn : n ≤ 120) (H : Nat → Int32) (hH : H = hrT (fun i => hI h (B + 52) (10 + i)) n) (p : Nat) (l : List Int32) (mo : Int32) (hp : p ≤ n) (hll : l.length ≤ p) : AM g 10 0 0 mX12_every [.ref (B + 51)] (mpH h B a p false 4 l mo) (fun rv h' => rv = none ∧ h' = mpG h B a 4 l mo (pV (pF H 1) H p)) := by
  refine AM.of [(0, .ref (B + 51))] (by decide) (Nat.le_of_ble_eq_true rfl) rfl ?_
  intro V hV
  have hb : V.2.1.2.1 = cX12_every := by subst hV; rfl
  have ow : V.2.1.1.cls = RX12 := by subst hV; rfl
  have hr : V.2.2.1 = aw_rm 10 0 0 := by subst hV; rfl
  have hz : V.2.2.2 = aw_Z V.1 (fun rv h' => rv = none ∧ h' = mpG h B a 4 l mo (pV (pF H 1) H p)) V.2.2.1 := by subst hV; rfl
  have hg : V.1 = g := by subst hV; rfl
  have hret : V.2.1.2.2.2 = none := by subst hV; rfl
  have hml : V.2.1.2.2.1 = 1 := by subst hV; rfl
  clear hV
  generalize hR : pV (pF H 1) H p = R at hz
  have loop : ∀ (k : Nat) (r : PR), r.2.1 ≤ n → (l ++ r.2.2.map encM).length ≤ r.2.1 → n ≤ r.2.1 + k → lpR (pF H 1) H 38 (2, 0, 0, 0) k r = R → AW V 0 0 (mpG h B a 4 l mo r) 4 [(0, .ref (B + 51))] [] := by
    intro k
    induction k with
    | zero =>
      intro r h1 h2 h3 h4
      show AW V 0 0 (mpH h B a r.2.1 r.1 4 (l ++ r.2.2.map encM) mo) 4 [(0, .ref (B + 51))] []
      refine a_aload_n hb dX12_every_4 rfl 0 rfl ?_
      refine a_getI hb dX12_every_5 (by rw [ow]; exact fl_RX12_67_12) ((LY.mp hL : LY (mpH h B a r.2.1 r.1 4 (l ++ r.2.2.map encM) mo) B).1 51 (by decide)) ?_
      rw [mp_f7]
      show AW V 0 0 (mpH h B a r.2.1 r.1 4 (l ++ r.2.2.map encM) mo) 8 [(0, .ref (B + 51))] [.int (b2i r.1)]
      refine a_if_ne hb 43 dX12_every_8 (by decide) (fun c8 => ?_) (fun c8 => ?_)
      · simp [b2i_0] at c8
        exact a_return hb hz dX12_every_43 hret (by rw [hr]; exact Nat.le_of_ble_eq_true rfl) (by rw [hr]; exact Nat.le_of_ble_eq_true rfl) (⟨rfl, mpG_e ((lpR_w c8).symm.trans h4)⟩)
      · simp [b2i_0] at c8
        refine a_aload_n hb dX12_every_11 rfl 0 rfl ?_
        refine a_callV hb dX12_every_12 (by rw [hg]; exact m_here g h B hL a n ha hac he hn H hH r.2.1 4 r.1 (l ++ r.2.2.map encM) mo h1) (by rw [ow]; exact clv_RX12_71) ((LY.mp hL : LY (mpH h B a r.2.1 r.1 4 (l ++ r.2.2.map encM) mo) B).1 51 (by decide)) (by decide) rfl rfl rfl (Nat.le_of_ble_eq_true rfl) (by rw [hr]; exact ⟨by decide, by decide⟩) (by rw [hr]; exact ⟨Nat.le_of_ble_eq_true rfl, Nat.le_of_ble_eq_true rfl⟩) ?_
        intro rv h' hp_
        rw [hp_.1, hp_.2]
        show AW V 0 0 (mpH h B a r.2.1 r.1 4 (l ++ r.2.2.map encM) mo) 15 [(0, .ref (B + 51))] [.int (H r.2.1)]
        refine a_bipush (v := 38) hb dX12_every_15 (by decide) ?_
        refine a_icmp_ne hb 43 dX12_every_17 (by decide) (fun c17 => ?_) (fun c17 => absurd c17 ((fun q => absurd (hrH hH q) (Nat.not_lt.mpr h3))))
        exact a_return hb hz dX12_every_43 hret (by rw [hr]; exact Nat.le_of_ble_eq_true rfl) (by rw [hr]; exact Nat.le_of_ble_eq_true rfl) (⟨rfl, mpG_e ((lpR_n c17).symm.trans h4)⟩)
    | succ k ih =>
      intro r h1 h2 h3 h4
      show AW V 0 0 (mpH h B a r.2.1 r.1 4 (l ++ r.2.2.map encM) mo) 4 [(0, .ref (B + 51))] []
      refine a_aload_n hb dX12_every_4 rfl 0 rfl ?_
      refine a_getI hb dX12_every_5 (by rw [ow]; exact fl_RX12_67_12) ((LY.mp hL : LY (mpH h B a r.2.1 r.1 4 (l ++ r.2.2.map encM) mo) B).1 51 (by decide)) ?_
      rw [mp_f7]
      show AW V 0 0 (mpH h B a r.2.1 r.1 4 (l ++ r.2.2.map encM) mo) 8 [(0, .ref (B + 51))] [.int (b2i r.1)]
      refine a_if_ne hb 43 dX12_every_8 (by decide) (fun c8 => ?_) (fun c8 => ?_)
      · simp [b2i_0] at c8
        exact a_return hb hz dX12_every_43 hret (by rw [hr]; exact Nat.le_of_ble_eq_true rfl) (by rw [hr]; exact Nat.le_of_ble_eq_true rfl) (⟨rfl, mpG_e ((lpR_w c8).symm.trans h4)⟩)
      · simp [b2i_0] at c8
        refine a_aload_n hb dX12_every_11 rfl 0 rfl ?_
        refine a_callV hb dX12_every_12 (by rw [hg]; exact m_here g h B hL a n ha hac he hn H hH r.2.1 4 r.1 (l ++ r.2.2.map encM) mo h1) (by rw [ow]; exact clv_RX12_71) ((LY.mp hL : LY (mpH h B a r.2.1 r.1 4 (l ++ r.2.2.map encM) mo) B).1 51 (by decide)) (by decide) rfl rfl rfl (Nat.le_of_ble_eq_true rfl) (by rw [hr]; exact ⟨by decide, by decide⟩) (by rw [hr]; exact ⟨Nat.le_of_ble_eq_true rfl, Nat.le_of_ble_eq_true rfl⟩) ?_
        intro rv h' hp_
        rw [hp_.1, hp_.2]
        show AW V 0 0 (mpH h B a r.2.1 r.1 4 (l ++ r.2.2.map encM) mo) 15 [(0, .ref (B + 51))] [.int (H r.2.1)]
        refine a_bipush (v := 38) hb dX12_every_15 (by decide) ?_
        refine a_icmp_ne hb 43 dX12_every_17 (by decide) (fun c17 => ?_) (fun c17 => ?_)
        · exact a_return hb hz dX12_every_43 hret (by rw [hr]; exact Nat.le_of_ble_eq_true rfl) (by rw [hr]; exact Nat.le_of_ble_eq_true rfl) (⟨rfl, mpG_e ((lpR_n c17).symm.trans h4)⟩)
        · have rl : r.2.1 < n := by rw [hH] at c17; exact hrT_n (by decide) c17
          rw [c8]
          show AW V 0 0 (mpH h B a r.2.1 false 4 (l ++ r.2.2.map encM) mo) 20 [(0, .ref (B + 51))] []
          refine a_aload_n hb dX12_every_20 rfl 0 rfl ?_
          refine a_dup hb dX12_every_21 rfl ?_
          refine a_getI hb dX12_every_22 (by rw [ow]; exact fl_RX12_61_12) ((LY.mp hL : LY (mpH h B a r.2.1 false 4 (l ++ r.2.2.map encM) mo) B).1 51 (by decide)) ?_
          rw [mp_f5]
          show AW V 0 0 (mpH h B a r.2.1 false 4 (l ++ r.2.2.map encM) mo) 25 [(0, .ref (B + 51))] [.int (nI r.2.1), .ref (B + 51)]
          refine a_iconst (v := 1) hb dX12_every_25 (by decide) ?_
          refine a_iadd hb dX12_every_26 ?_
          refine a_putI (fty := .int) hb dX12_every_27 (by rw [ow]; exact fp_RX12_61_12) (Or.inr (fun C T N hq => by cases hq; rfl)) ((LY.mp hL : LY (mpH h B a r.2.1 false 4 (l ++ r.2.2.map encM) mo) B).1 51 (by decide)) rfl rfl ?_
          rw [mp_5 (q := (r.2.1 + 1)) (by rw [nI_1])]
          show AW V 0 0 (mpH h B a (r.2.1 + 1) false 4 (l ++ r.2.2.map encM) mo) 30 [(0, .ref (B + 51))] []
          refine a_aload_n hb dX12_every_30 rfl 0 rfl ?_
          refine a_callV hb dX12_every_31 (by rw [hg]; exact m_fac1 g h B hL a n ha hac he hn H hH (r.2.1 + 1) (l ++ r.2.2.map encM) mo (by omega) (Nat.le_succ_of_le h2)) (by rw [ow]; exact clv_RX12_94) ((LY.mp hL : LY (mpH h B a (r.2.1 + 1) false 4 (l ++ r.2.2.map encM) mo) B).1 51 (by decide)) (by decide) rfl rfl rfl (Nat.le_of_ble_eq_true rfl) (by rw [hr]; exact ⟨by decide, by decide⟩) (by rw [hr]; exact ⟨Nat.le_of_ble_eq_true rfl, Nat.le_of_ble_eq_true rfl⟩) ?_
          intro rv h' hp_
          rw [hp_.1, hp_.2]
          clear hp_ rv h'
          have q1 := gdl (pFgH hH 1 (r.2.1 + 1)) (Nat.le_succ_of_le h2)
          have q2 := (pFgH hH 1 (r.2.1 + 1)).2 rl
          have gg := (pFgH hH 1 (r.2.1 + 1)).1
          have hq := @lpR_s (pF H 1) H 38 (2, 0, 0, 0) k r _ c8 c17 rfl
          rw [h4] at hq
          generalize pF H 1 (r.2.1 + 1) = q at *
          show AW V 0 0 (mpG h B a 4 (l ++ r.2.2.map encM) mo q) 34 [(0, .ref (B + 51))] []
          show AW V 0 0 (mpH h B a q.2.1 q.1 4 ((l ++ r.2.2.map encM) ++ q.2.2.map encM) mo) 34 [(0, .ref (B + 51))] []
          refine a_aload_n hb dX12_every_34 rfl 0 rfl ?_
          refine a_bipush (v := (-2)) hb dX12_every_35 (by decide) ?_
          refine a_callV hb dX12_every_37 (by rw [hg]; exact m_emits g h B hL a n ha hac he hn H hH q.2.1 4 q.1 ((l ++ r.2.2.map encM) ++ q.2.2.map encM) mo q2 (-2) (Nat.lt_of_le_of_lt (Nat.le_trans q1 (Nat.le_trans q2 hn)) (by decide))) (by rw [ow]; exact clv_RX12_97) ((LY.mp hL : LY (mpH h B a q.2.1 q.1 4 ((l ++ r.2.2.map encM) ++ q.2.2.map encM) mo) B).1 51 (by decide)) (by decide) rfl rfl rfl (Nat.le_of_ble_eq_true rfl) (by rw [hr]; exact ⟨by decide, by decide⟩) (by rw [hr]; exact ⟨Nat.le_of_ble_eq_true rfl, Nat.le_of_ble_eq_true rfl⟩) ?_
          intro rv h' hp_
          rw [hp_.1, hp_.2]
          show AW V 0 0 (mpH h B a q.2.1 q.1 4 (emL q.1 ((l ++ r.2.2.map encM) ++ q.2.2.map encM) (-2)) mo) 40 [(0, .ref (B + 51))] []
          refine a_goto hb 4 dX12_every_40 (by decide) ?_
          refine AW.eq (ih (q.1, q.2.1, r.2.2 ++ q.2.2 ++ if q.1 = true then [] else [(2, 0, 0, 0)]) q2 ?_ ?_ hq.symm) (seq_h enc_2) rfl rfl rfl
          · show (l ++ List.map encM (r.2.2 ++ q.2.2 ++ if q.1 = true then [] else [(2, 0, 0, 0)])).length ≤ q.2.1
            rw [List.length_append, List.length_map] at h2 ⊢
            rw [List.length_append, List.length_append]
            split <;> simp only [List.length_cons, List.length_nil] <;> omega
          · show n ≤ q.2.1 + k
            omega
  refine a_aload_n hb dX12_every_0 rfl 0 rfl ?_
  refine a_callV hb dX12_every_1 (by rw [hg]; exact m_fac1 g h B hL a n ha hac he hn H hH p l mo hp hll) (by rw [ow]; exact clv_RX12_94) ((LY.mp hL : LY (mpH h B a p false 4 l mo) B).1 51 (by decide)) (by decide) rfl rfl rfl (Nat.le_of_ble_eq_true rfl) (by rw [hr]; exact ⟨by decide, by decide⟩) (by rw [hr]; exact ⟨Nat.le_of_ble_eq_true rfl, Nat.le_of_ble_eq_true rfl⟩) ?_
  intro rv h' hp_
  rw [hp_.1, hp_.2]
  clear hp_ rv h'
  have gd1_ := pFgH hH 1 p
  generalize eQ1 : (pF H 1 p) = q1_ at gd1_ ⊢
  show AW V 0 0 (mpG h B a 4 l mo q1_) 4 [(0, .ref (B + 51))] []
  show AW V 0 0 (mpH h B a q1_.2.1 q1_.1 4 (l ++ q1_.2.2.map encM) mo) 4 [(0, .ref (B + 51))] []
  exact loop 120 q1_ (gd1_.2 hp) (gdl gd1_ hll) (by have z : n ≤ 120 := hn; clear hz loop; omega) ((pV_d eQ1).trans hR)
set_option maxRecDepth 100000 in
theorem m_so1 (g : GG) (h : AH) (B : Nat) (hL : LY h B) (a n : Nat) (ha : a < 5) (hac : hI h (B + 51) 4 = nI a) (he : hI h (B + 51) 6 = nI n) (hn : n ≤ 120) (H : Nat → Int32) (hH : H = hrT (fun i => hI h (B + 52) (10 + i)) n) (p : Nat) (l : List Int32) (mo : Int32) (hp : p ≤ n) (hll : l.length ≤ p) : AM g 11 0 0 mX12_some [.ref (B + 51)] (mpH h B a p false 4 l mo) (fun rv h' => rv = none ∧ h' = mpG h B a 4 l mo (pE (pF H 1) H p)) := by
  refine AM.of [(0, .ref (B + 51))] (by decide) (Nat.le_of_ble_eq_true rfl) rfl ?_
  intro V hV
  have hb : V.2.1.2.1 = cX12_some := by subst hV; rfl
  have ow : V.2.1.1.cls = RX12 := by subst hV; rfl
  have hr : V.2.2.1 = aw_rm 11 0 0 := by subst hV; rfl
  have hz : V.2.2.2 = aw_Z V.1 (fun rv h' => rv = none ∧ h' = mpG h B a 4 l mo (pE (pF H 1) H p)) V.2.2.1 := by subst hV; rfl
  have hg : V.1 = g := by subst hV; rfl
  have hret : V.2.1.2.2.2 = none := by subst hV; rfl
  have hml : V.2.1.2.2.1 = 1 := by subst hV; rfl
  clear hV
  generalize hR : pE (pF H 1) H p = R at hz
  have loop : ∀ (k : Nat) (r : PR), r.2.1 ≤ n → (l ++ r.2.2.map encM).length ≤ r.2.1 → n ≤ r.2.1 + k → lpR (pV (pF H 1) H) H 124 (3, 0, 0, 0) k r = R → AW V 0 0 (mpG h B a 4 l mo r) 4 [(0, .ref (B + 51))] [] := by
    intro k
    induction k with
    | zero =>
      intro r h1 h2 h3 h4
      show AW V 0 0 (mpH h B a r.2.1 r.1 4 (l ++ r.2.2.map encM) mo) 4 [(0, .ref (B + 51))] []
      refine a_aload_n hb dX12_some_4 rfl 0 rfl ?_
      refine a_getI hb dX12_some_5 (by rw [ow]; exact fl_RX12_67_12) ((LY.mp hL : LY (mpH h B a r.2.1 r.1 4 (l ++ r.2.2.map encM) mo) B).1 51 (by decide)) ?_
      rw [mp_f7]
      show AW V 0 0 (mpH h B a r.2.1 r.1 4 (l ++ r.2.2.map encM) mo) 8 [(0, .ref (B + 51))] [.int (b2i r.1)]
      refine a_if_ne hb 43 dX12_some_8 (by decide) (fun c8 => ?_) (fun c8 => ?_)
      · simp [b2i_0] at c8
        exact a_return hb hz dX12_some_43 hret (by rw [hr]; exact Nat.le_of_ble_eq_true rfl) (by rw [hr]; exact Nat.le_of_ble_eq_true rfl) (⟨rfl, mpG_e ((lpR_w c8).symm.trans h4)⟩)
      · simp [b2i_0] at c8
        refine a_aload_n hb dX12_some_11 rfl 0 rfl ?_
        refine a_callV hb dX12_some_12 (by rw [hg]; exact m_here g h B hL a n ha hac he hn H hH r.2.1 4 r.1 (l ++ r.2.2.map encM) mo h1) (by rw [ow]; exact clv_RX12_71) ((LY.mp hL : LY (mpH h B a r.2.1 r.1 4 (l ++ r.2.2.map encM) mo) B).1 51 (by decide)) (by decide) rfl rfl rfl (Nat.le_of_ble_eq_true rfl) (by rw [hr]; exact ⟨by decide, by decide⟩) (by rw [hr]; exact ⟨Nat.le_of_ble_eq_true rfl, Nat.le_of_ble_eq_true rfl⟩) ?_
        intro rv h' hp_
        rw [hp_.1, hp_.2]
        show AW V 0 0 (mpH h B a r.2.1 r.1 4 (l ++ r.2.2.map encM) mo) 15 [(0, .ref (B + 51))] [.int (H r.2.1)]
        refine a_bipush (v := 124) hb dX12_some_15 (by decide) ?_
        refine a_icmp_ne hb 43 dX12_some_17 (by decide) (fun c17 => ?_) (fun c17 => absurd c17 ((fun q => absurd (hrH hH q) (Nat.not_lt.mpr h3))))
        exact a_return hb hz dX12_some_43 hret (by rw [hr]; exact Nat.le_of_ble_eq_true rfl) (by rw [hr]; exact Nat.le_of_ble_eq_true rfl) (⟨rfl, mpG_e ((lpR_n c17).symm.trans h4)⟩)
    | succ k ih =>
      intro r h1 h2 h3 h4
      show AW V 0 0 (mpH h B a r.2.1 r.1 4 (l ++ r.2.2.map encM) mo) 4 [(0, .ref (B + 51))] []
      refine a_aload_n hb dX12_some_4 rfl 0 rfl ?_
      refine a_getI hb dX12_some_5 (by rw [ow]; exact fl_RX12_67_12) ((LY.mp hL : LY (mpH h B a r.2.1 r.1 4 (l ++ r.2.2.map encM) mo) B).1 51 (by decide)) ?_
      rw [mp_f7]
      show AW V 0 0 (mpH h B a r.2.1 r.1 4 (l ++ r.2.2.map encM) mo) 8 [(0, .ref (B + 51))] [.int (b2i r.1)]
      refine a_if_ne hb 43 dX12_some_8 (by decide) (fun c8 => ?_) (fun c8 => ?_)
      · simp [b2i_0] at c8
        exact a_return hb hz dX12_some_43 hret (by rw [hr]; exact Nat.le_of_ble_eq_true rfl) (by rw [hr]; exact Nat.le_of_ble_eq_true rfl) (⟨rfl, mpG_e ((lpR_w c8).symm.trans h4)⟩)
      · simp [b2i_0] at c8
        refine a_aload_n hb dX12_some_11 rfl 0 rfl ?_
        refine a_callV hb dX12_some_12 (by rw [hg]; exact m_here g h B hL a n ha hac he hn H hH r.2.1 4 r.1 (l ++ r.2.2.map encM) mo h1) (by rw [ow]; exact clv_RX12_71) ((LY.mp hL : LY (mpH h B a r.2.1 r.1 4 (l ++ r.2.2.map encM) mo) B).1 51 (by decide)) (by decide) rfl rfl rfl (Nat.le_of_ble_eq_true rfl) (by rw [hr]; exact ⟨by decide, by decide⟩) (by rw [hr]; exact ⟨Nat.le_of_ble_eq_true rfl, Nat.le_of_ble_eq_true rfl⟩) ?_
        intro rv h' hp_
        rw [hp_.1, hp_.2]
        show AW V 0 0 (mpH h B a r.2.1 r.1 4 (l ++ r.2.2.map encM) mo) 15 [(0, .ref (B + 51))] [.int (H r.2.1)]
        refine a_bipush (v := 124) hb dX12_some_15 (by decide) ?_
        refine a_icmp_ne hb 43 dX12_some_17 (by decide) (fun c17 => ?_) (fun c17 => ?_)
        · exact a_return hb hz dX12_some_43 hret (by rw [hr]; exact Nat.le_of_ble_eq_true rfl) (by rw [hr]; exact Nat.le_of_ble_eq_true rfl) (⟨rfl, mpG_e ((lpR_n c17).symm.trans h4)⟩)
        · have rl : r.2.1 < n := by rw [hH] at c17; exact hrT_n (by decide) c17
          rw [c8]
          show AW V 0 0 (mpH h B a r.2.1 false 4 (l ++ r.2.2.map encM) mo) 20 [(0, .ref (B + 51))] []
          refine a_aload_n hb dX12_some_20 rfl 0 rfl ?_
          refine a_dup hb dX12_some_21 rfl ?_
          refine a_getI hb dX12_some_22 (by rw [ow]; exact fl_RX12_61_12) ((LY.mp hL : LY (mpH h B a r.2.1 false 4 (l ++ r.2.2.map encM) mo) B).1 51 (by decide)) ?_
          rw [mp_f5]
          show AW V 0 0 (mpH h B a r.2.1 false 4 (l ++ r.2.2.map encM) mo) 25 [(0, .ref (B + 51))] [.int (nI r.2.1), .ref (B + 51)]
          refine a_iconst (v := 1) hb dX12_some_25 (by decide) ?_
          refine a_iadd hb dX12_some_26 ?_
          refine a_putI (fty := .int) hb dX12_some_27 (by rw [ow]; exact fp_RX12_61_12) (Or.inr (fun C T N hq => by cases hq; rfl)) ((LY.mp hL : LY (mpH h B a r.2.1 false 4 (l ++ r.2.2.map encM) mo) B).1 51 (by decide)) rfl rfl ?_
          rw [mp_5 (q := (r.2.1 + 1)) (by rw [nI_1])]
          show AW V 0 0 (mpH h B a (r.2.1 + 1) false 4 (l ++ r.2.2.map encM) mo) 30 [(0, .ref (B + 51))] []
          refine a_aload_n hb dX12_some_30 rfl 0 rfl ?_
          refine a_callV hb dX12_some_31 (by rw [hg]; exact m_ev1 g h B hL a n ha hac he hn H hH (r.2.1 + 1) (l ++ r.2.2.map encM) mo (by omega) (Nat.le_succ_of_le h2)) (by rw [ow]; exact clv_RX12_114) ((LY.mp hL : LY (mpH h B a (r.2.1 + 1) false 4 (l ++ r.2.2.map encM) mo) B).1 51 (by decide)) (by decide) rfl rfl rfl (Nat.le_of_ble_eq_true rfl) (by rw [hr]; exact ⟨by decide, by decide⟩) (by rw [hr]; exact ⟨Nat.le_of_ble_eq_true rfl, Nat.le_of_ble_eq_true rfl⟩) ?_
          intro rv h' hp_
          rw [hp_.1, hp_.2]
          clear hp_ rv h'
          have q1 := gdl (pVgH hH 1 (r.2.1 + 1)) (Nat.le_succ_of_le h2)
          have q2 := (pVgH hH 1 (r.2.1 + 1)).2 rl
          have gg := (pVgH hH 1 (r.2.1 + 1)).1
          have hq := @lpR_s (pV (pF H 1) H) H 124 (3, 0, 0, 0) k r _ c8 c17 rfl
          rw [h4] at hq
          generalize pV (pF H 1) H (r.2.1 + 1) = q at *
          show AW V 0 0 (mpG h B a 4 (l ++ r.2.2.map encM) mo q) 34 [(0, .ref (B + 51))] []
          show AW V 0 0 (mpH h B a q.2.1 q.1 4 ((l ++ r.2.2.map encM) ++ q.2.2.map encM) mo) 34 [(0, .ref (B + 51))] []
          refine a_aload_n hb dX12_some_34 rfl 0 rfl ?_
          refine a_bipush (v := (-3)) hb dX12_some_35 (by decide) ?_
          refine a_callV hb dX12_some_37 (by rw [hg]; exact m_emits g h B hL a n ha hac he hn H hH q.2.1 4 q.1 ((l ++ r.2.2.map encM) ++ q.2.2.map encM) mo q2 (-3) (Nat.lt_of_le_of_lt (Nat.le_trans q1 (Nat.le_trans q2 hn)) (by decide))) (by rw [ow]; exact clv_RX12_97) ((LY.mp hL : LY (mpH h B a q.2.1 q.1 4 ((l ++ r.2.2.map encM) ++ q.2.2.map encM) mo) B).1 51 (by decide)) (by decide) rfl rfl rfl (Nat.le_of_ble_eq_true rfl) (by rw [hr]; exact ⟨by decide, by decide⟩) (by rw [hr]; exact ⟨Nat.le_of_ble_eq_true rfl, Nat.le_of_ble_eq_true rfl⟩) ?_
          intro rv h' hp_
          rw [hp_.1, hp_.2]
          show AW V 0 0 (mpH h B a q.2.1 q.1 4 (emL q.1 ((l ++ r.2.2.map encM) ++ q.2.2.map encM) (-3)) mo) 40 [(0, .ref (B + 51))] []
          refine a_goto hb 4 dX12_some_40 (by decide) ?_
          refine AW.eq (ih (q.1, q.2.1, r.2.2 ++ q.2.2 ++ if q.1 = true then [] else [(3, 0, 0, 0)]) q2 ?_ ?_ hq.symm) (seq_h enc_3) rfl rfl rfl
          · show (l ++ List.map encM (r.2.2 ++ q.2.2 ++ if q.1 = true then [] else [(3, 0, 0, 0)])).length ≤ q.2.1
            rw [List.length_append, List.length_map] at h2 ⊢
            rw [List.length_append, List.length_append]
            split <;> simp only [List.length_cons, List.length_nil] <;> omega
          · show n ≤ q.2.1 + k
            omega
  refine a_aload_n hb dX12_some_0 rfl 0 rfl ?_
  refine a_callV hb dX12_some_1 (by rw [hg]; exact m_ev1 g h B hL a n ha hac he hn H hH p l mo hp hll) (by rw [ow]; exact clv_RX12_114) ((LY.mp hL : LY (mpH h B a p false 4 l mo) B).1 51 (by decide)) (by decide) rfl rfl rfl (Nat.le_of_ble_eq_true rfl) (by rw [hr]; exact ⟨by decide, by decide⟩) (by rw [hr]; exact ⟨Nat.le_of_ble_eq_true rfl, Nat.le_of_ble_eq_true rfl⟩) ?_
  intro rv h' hp_
  rw [hp_.1, hp_.2]
  clear hp_ rv h'
  have gd1_ := pVgH hH 1 p
  generalize eQ1 : (pV (pF H 1) H p) = q1_ at gd1_ ⊢
  show AW V 0 0 (mpG h B a 4 l mo q1_) 4 [(0, .ref (B + 51))] []
  show AW V 0 0 (mpH h B a q1_.2.1 q1_.1 4 (l ++ q1_.2.2.map encM) mo) 4 [(0, .ref (B + 51))] []
  exact loop 120 q1_ (gd1_.2 hp) (gdl gd1_ hll) (by have z : n ≤ 120 := hn; clear hz loop; omega) ((pE_d eQ1).trans hR)
set_option maxRecDepth 100000 in
theorem m_fac2 (g : GG) (h : AH) (B : Nat) (hL : LY h B) (a n : Nat) (ha : a < 5) (hac : hI h (B + 51) 4 = nI a) (he : hI h (B + 51) 6 = nI n) (hn : n ≤ 120) (H : Nat → Int32) (hH : H = hrT (fun i => hI h (B + 52) (10 + i)) n) (p : Nat) (l : List Int32) (mo : Int32) (hp : p ≤ n) (hll : l.length ≤ p) : AM g 12 0 0 mX12_factor [.ref (B + 51)] (mpH h B a p false 3 l mo) (fun rv h' => rv = none ∧ h' = mpG h B a 3 l mo (pF H 2 p)) := by
  refine AM.of [(0, .ref (B + 51))] (by decide) (Nat.le_of_ble_eq_true rfl) rfl ?_
  intro V hV
  have hb : V.2.1.2.1 = cX12_factor := by subst hV; rfl
  have ow : V.2.1.1.cls = RX12 := by subst hV; rfl
  have hr : V.2.2.1 = aw_rm 12 0 0 := by subst hV; rfl
  have hz : V.2.2.2 = aw_Z V.1 (fun rv h' => rv = none ∧ h' = mpG h B a 3 l mo (pF H 2 p)) V.2.2.1 := by subst hV; rfl
  have hg : V.1 = g := by subst hV; rfl
  have hret : V.2.1.2.2.2 = none := by subst hV; rfl
  have hml : V.2.1.2.2.1 = 5 := by subst hV; rfl
  clear hV
  refine a_aload_n hb dX12_factor_0 rfl 0 rfl ?_
  refine a_getI hb dX12_factor_1 (by rw [ow]; exact fl_RX12_67_12) ((LY.mp hL : LY (mpH h B a p false 3 l mo) B).1 51 (by decide)) ?_
  rw [mp_f7]
  show AW V 0 0 (mpH h B a p false 3 l mo) 4 [(0, .ref (B + 51))] [.int 0]
  refine a_if_eq hb 8 dX12_factor_4 (by decide) (fun c4 => ?_) (fun c4 => absurd (by decide) c4)
  refine a_aload_n hb dX12_factor_8 rfl 0 rfl ?_
  refine a_callV hb dX12_factor_9 (by rw [hg]; exact m_here g h B hL a n ha hac he hn H hH p 3 false l mo hp) (by rw [ow]; exact clv_RX12_71) ((LY.mp hL : LY (mpH h B a p false 3 l mo) B).1 51 (by decide)) (by decide) rfl rfl rfl (Nat.le_of_ble_eq_true rfl) (by rw [hr]; exact ⟨by decide, by decide⟩) (by rw [hr]; exact ⟨Nat.le_of_ble_eq_true rfl, Nat.le_of_ble_eq_true rfl⟩) ?_
  intro rv h' hp_
  rw [hp_.1, hp_.2]
  show AW V 0 0 (mpH h B a p false 3 l mo) 12 [(0, .ref (B + 51))] [.int (H p)]
  refine a_istore_n (L' := [(1, .int (H p)), (0, .ref (B + 51))]) hb dX12_factor_12 rfl (by rw [hml]; decide) rfl ?_
  refine a_iload_n hb dX12_factor_13 rfl 0 rfl ?_
  refine a_bipush (v := 33) hb dX12_factor_14 (by decide) ?_
  refine a_icmp_eq hb 25 dX12_factor_16 (by decide) (fun c16 => ?_) (fun c16 => ?_)
  · have pl : p < n := by rw [hH] at c16; exact hrT_n (by decide) c16
    refine a_aload_n hb dX12_factor_25 rfl 1 rfl ?_
    refine a_aload_n hb dX12_factor_26 rfl 1 rfl ?_
    refine a_getI hb dX12_factor_27 (by rw [ow]; exact fl_RX12_91_12) ((LY.mp hL : LY (mpH h B a p false 3 l mo) B).1 51 (by decide)) ?_
    rw [mp_f8]
    show AW V 0 0 (mpH h B a p false 3 l mo) 30 [(1, .int (H p)), (0, .ref (B + 51))] [.int 3, .ref (B + 51)]
    refine a_iconst (v := 5) hb dX12_factor_30 (by decide) ?_
    refine a_icmp_ne hb 38 dX12_factor_31 (by decide) (fun c31 => ?_) (fun c31 => absurd c31 (by decide))
    refine a_iconst (v := 0) hb dX12_factor_38 (by decide) ?_
    refine a_putI (fty := .boolean) hb dX12_factor_39 (by rw [ow]; exact fp_RX12_67_12) (Or.inr (fun C T N hq => by cases hq; rfl)) ((LY.mp hL : LY (mpH h B a p false 3 l mo) B).1 51 (by decide)) rfl rfl ?_
    rw [mp_7 (q := false) (v := 0) rfl]
    show AW V 0 0 (mpH h B a p false 3 l mo) 42 [(1, .int (H p)), (0, .ref (B + 51))] []
    refine a_aload_n hb dX12_factor_42 rfl 1 rfl ?_
    refine a_dup hb dX12_factor_43 rfl ?_
    refine a_getI hb dX12_factor_44 (by rw [ow]; exact fl_RX12_91_12) ((LY.mp hL : LY (mpH h B a p false 3 l mo) B).1 51 (by decide)) ?_
    rw [mp_f8]
    show AW V 0 0 (mpH h B a p false 3 l mo) 47 [(1, .int (H p)), (0, .ref (B + 51))] [.int 3, .ref (B + 51)]
    refine a_iconst (v := 1) hb dX12_factor_47 (by decide) ?_
    refine a_iadd hb dX12_factor_48 ?_
    refine a_putI (fty := .int) hb dX12_factor_49 (by rw [ow]; exact fp_RX12_91_12) (Or.inr (fun C T N hq => by cases hq; rfl)) ((LY.mp hL : LY (mpH h B a p false 3 l mo) B).1 51 (by decide)) rfl rfl ?_
    rw [mp_8 (q := 4) (by decide)]
    show AW V 0 0 (mpH h B a p false 4 l mo) 52 [(1, .int (H p)), (0, .ref (B + 51))] []
    refine a_aload_n hb dX12_factor_52 rfl 1 rfl ?_
    refine a_dup hb dX12_factor_53 rfl ?_
    refine a_getI hb dX12_factor_54 (by rw [ow]; exact fl_RX12_61_12) ((LY.mp hL : LY (mpH h B a p false 4 l mo) B).1 51 (by decide)) ?_
    rw [mp_f5]
    show AW V 0 0 (mpH h B a p false 4 l mo) 57 [(1, .int (H p)), (0, .ref (B + 51))] [.int (nI p), .ref (B + 51)]
    refine a_aload_n hb dX12_factor_57 rfl 1 rfl ?_
    refine a_getI hb dX12_factor_58 (by rw [ow]; exact fl_RX12_67_12) ((LY.mp hL : LY (mpH h B a p false 4 l mo) B).1 51 (by decide)) ?_
    rw [mp_f7]
    show AW V 0 0 (mpH h B a p false 4 l mo) 61 [(1, .int (H p)), (0, .ref (B + 51))] [.int 0, .int (nI p), .ref (B + 51)]
    refine a_if_eq hb 68 dX12_factor_61 (by decide) (fun c61 => ?_) (fun c61 => absurd (by decide) c61)
    refine a_iconst (v := 1) hb dX12_factor_68 (by decide) ?_
    refine a_iadd hb dX12_factor_69 ?_
    refine a_putI (fty := .int) hb dX12_factor_70 (by rw [ow]; exact fp_RX12_61_12) (Or.inr (fun C T N hq => by cases hq; rfl)) ((LY.mp hL : LY (mpH h B a p false 4 l mo) B).1 51 (by decide)) rfl rfl ?_
    rw [mp_5 (q := (p + 1)) (by rw [nI_1])]
    show AW V 0 0 (mpH h B a (p + 1) false 4 l mo) 73 [(1, .int (H p)), (0, .ref (B + 51))] []
    refine a_iload_n hb dX12_factor_73 rfl 0 rfl ?_
    refine a_bipush (v := 33) hb dX12_factor_74 (by decide) ?_
    refine a_icmp_ne hb 91 dX12_factor_76 (by decide) (fun c76 => absurd c76 (not_not_intro c16)) (fun c76 => ?_)
    refine a_aload_n hb dX12_factor_79 rfl 1 rfl ?_
    refine a_callV hb dX12_factor_80 (by rw [hg]; exact m_fac1 g h B hL a n ha hac he hn H hH (p + 1) l mo (by omega) (Nat.le_succ_of_le hll)) (by rw [ow]; exact clv_RX12_94) ((LY.mp hL : LY (mpH h B a (p + 1) false 4 l mo) B).1 51 (by decide)) (by decide) rfl rfl rfl (Nat.le_of_ble_eq_true rfl) (by rw [hr]; exact ⟨by decide, by decide⟩) (by rw [hr]; exact ⟨Nat.le_of_ble_eq_true rfl, Nat.le_of_ble_eq_true rfl⟩) ?_
    intro rv h' hp_
    rw [hp_.1, hp_.2]
    clear hp_ rv h'
    have gd1_ := pFgH hH 1 (p + 1)
    generalize eQ1 : (pF H 1 (p + 1)) = q1_ at gd1_ ⊢
    show AW V 0 0 (mpG h B a 4 l mo q1_) 83 [(1, .int (H p)), (0, .ref (B + 51))] []
    show AW V 0 0 (mpH h B a q1_.2.1 q1_.1 4 (l ++ q1_.2.2.map encM) mo) 83 [(1, .int (H p)), (0, .ref (B + 51))] []
    refine a_aload_n hb dX12_factor_83 rfl 1 rfl ?_
    refine a_iconst (v := (-1)) hb dX12_factor_84 (by decide) ?_
    refine a_callV hb dX12_factor_85 (by rw [hg]; exact m_emits g h B hL a n ha hac he hn H hH q1_.2.1 4 q1_.1 (l ++ q1_.2.2.map encM) mo (gd1_.2 (by omega)) (-1) (Nat.lt_of_le_of_lt (Nat.le_trans (gdl gd1_ (Nat.le_succ_of_le hll)) (Nat.le_trans (gd1_.2 (by omega)) hn)) (by decide))) (by rw [ow]; exact clv_RX12_97) ((LY.mp hL : LY (mpH h B a q1_.2.1 q1_.1 4 (l ++ q1_.2.2.map encM) mo) B).1 51 (by decide)) (by decide) rfl rfl rfl (Nat.le_of_ble_eq_true rfl) (by rw [hr]; exact ⟨by decide, by decide⟩) (by rw [hr]; exact ⟨Nat.le_of_ble_eq_true rfl, Nat.le_of_ble_eq_true rfl⟩) ?_
    intro rv h' hp_
    rw [hp_.1, hp_.2]
    show AW V 0 0 (mpH h B a q1_.2.1 q1_.1 4 (emL q1_.1 (l ++ q1_.2.2.map encM) (-1)) mo) 88 [(1, .int (H p)), (0, .ref (B + 51))] []
    refine a_goto hb 101 dX12_factor_88 (by decide) ?_
    refine a_aload_n hb dX12_factor_101 rfl 1 rfl ?_
    refine a_dup hb dX12_factor_102 rfl ?_
    refine a_getI hb dX12_factor_103 (by rw [ow]; exact fl_RX12_91_12) ((LY.mp hL : LY (mpH h B a q1_.2.1 q1_.1 4 (emL q1_.1 (l ++ q1_.2.2.map encM) (-1)) mo) B).1 51 (by decide)) ?_
    rw [mp_f8]
    show AW V 0 0 (mpH h B a q1_.2.1 q1_.1 4 (emL q1_.1 (l ++ q1_.2.2.map encM) (-1)) mo) 106 [(1, .int (H p)), (0, .ref (B + 51))] [.int 4, .ref (B + 51)]
    refine a_iconst (v := 1) hb dX12_factor_106 (by decide) ?_
    refine a_isub hb dX12_factor_107 ?_
    refine a_putI (fty := .int) hb dX12_factor_108 (by rw [ow]; exact fp_RX12_91_12) (Or.inr (fun C T N hq => by cases hq; rfl)) ((LY.mp hL : LY (mpH h B a q1_.2.1 q1_.1 4 (emL q1_.1 (l ++ q1_.2.2.map encM) (-1)) mo) B).1 51 (by decide)) rfl rfl ?_
    rw [mp_8 (q := 3) (by decide)]
    show AW V 0 0 (mpH h B a q1_.2.1 q1_.1 3 (emL q1_.1 (l ++ q1_.2.2.map encM) (-1)) mo) 111 [(1, .int (H p)), (0, .ref (B + 51))] []
    exact a_return hb hz dX12_factor_111 hret (by rw [hr]; exact Nat.le_of_ble_eq_true rfl) (by rw [hr]; exact Nat.le_of_ble_eq_true rfl) (⟨rfl, by subst eQ1; exact fac_n c16⟩)
  · refine a_iload_n hb dX12_factor_19 rfl 0 rfl ?_
    refine a_bipush (v := 40) hb dX12_factor_20 (by decide) ?_
    refine a_icmp_ne hb 112 dX12_factor_22 (by decide) (fun c22 => ?_) (fun c22 => ?_)
    · refine a_aload_n hb dX12_factor_112 rfl 1 rfl ?_
      refine a_ldcS (i := 0) hb dX12_factor_113 (by rw [ow]; exact List.mem_of_getElem? (i := 5) rfl) ?_
      refine a_callV hb dX12_factor_115 (by have z_ := m_among0 g h B hL a n ha hac he hn H hH p 3 false l mo hp; rw [← hg] at z_; exact z_) (by rw [ow]; exact clv_RX12_105) ((LY.mp hL : LY (mpH h B a p false 3 l mo) B).1 51 (by decide)) (by decide) rfl rfl rfl (Nat.le_of_ble_eq_true rfl) (by rw [hr]; exact ⟨by decide, by decide⟩) (by rw [hr]; exact ⟨Nat.le_of_ble_eq_true rfl, Nat.le_of_ble_eq_true rfl⟩) ?_
      intro rv h' hp_
      rw [hp_.1, hp_.2]
      by_cases t5 : ix5 (H p) = 5
      · rw [if_pos t5, if_pos t5]
        show AW V 0 0 (mpH h B a p false 3 l mo) 118 [(1, .int (H p)), (0, .ref (B + 51))] [.int (-1)]
        refine a_istore_n (L' := [(2, .int (-1)), (1, .int (H p)), (0, .ref (B + 51))]) hb dX12_factor_118 rfl (by rw [hml]; decide) rfl ?_
        refine a_aload_n hb dX12_factor_119 rfl 2 rfl ?_
        refine a_iload_n hb dX12_factor_120 rfl 0 rfl ?_
        refine a_iconst (v := (-1)) hb dX12_factor_121 (by decide) ?_
        refine a_icmp_ne hb 129 dX12_factor_122 (by decide) (fun c122 => absurd c122 (by decide)) (fun c122 => ?_)
        refine a_iconst (v := 1) hb dX12_factor_125 (by decide) ?_
        refine a_goto hb 130 dX12_factor_126 (by decide) ?_
        refine a_putI (fty := .boolean) hb dX12_factor_130 (by rw [ow]; exact fp_RX12_67_12) (Or.inr (fun C T N hq => by cases hq; rfl)) ((LY.mp hL : LY (mpH h B a p false 3 l mo) B).1 51 (by decide)) rfl rfl ?_
        rw [mp_7 (q := true) (v := 1) rfl]
        show AW V 0 0 (mpH h B a p true 3 l mo) 133 [(2, .int (-1)), (1, .int (H p)), (0, .ref (B + 51))] []
        refine a_aload_n hb dX12_factor_133 rfl 2 rfl ?_
        refine a_getI hb dX12_factor_134 (by rw [ow]; exact fl_RX12_67_12) ((LY.mp hL : LY (mpH h B a p true 3 l mo) B).1 51 (by decide)) ?_
        rw [mp_f7]
        show AW V 0 0 (mpH h B a p true 3 l mo) 137 [(2, .int (-1)), (1, .int (H p)), (0, .ref (B + 51))] [.int 1]
        refine a_if_eq hb 144 dX12_factor_137 (by decide) (fun c137 => absurd c137 (by decide)) (fun c137 => ?_)
        refine a_iconst (v := 0) hb dX12_factor_140 (by decide) ?_
        refine a_goto hb 150 dX12_factor_141 (by decide) ?_
        refine a_istore_n (L' := [(3, .int 0), (2, .int (-1)), (1, .int (H p)), (0, .ref (B + 51))]) hb dX12_factor_150 rfl (by rw [hml]; decide) rfl ?_
        refine a_aload_n hb dX12_factor_151 rfl 3 rfl ?_
        refine a_aload_n hb dX12_factor_152 rfl 3 rfl ?_
        refine a_getI hb dX12_factor_153 (by rw [ow]; exact fl_RX12_67_12) ((LY.mp hL : LY (mpH h B a p true 3 l mo) B).1 51 (by decide)) ?_
        rw [mp_f7]
        show AW V 0 0 (mpH h B a p true 3 l mo) 156 [(3, .int 0), (2, .int (-1)), (1, .int (H p)), (0, .ref (B + 51))] [.int 1, .ref (B + 51)]
        refine a_if_ne hb 164 dX12_factor_156 (by decide) (fun c156 => ?_) (fun c156 => absurd c156 (by decide))
        refine a_iconst (v := 1) hb dX12_factor_164 (by decide) ?_
        refine a_goto hb 169 dX12_factor_165 (by decide) ?_
        refine a_putI (fty := .boolean) hb dX12_factor_169 (by rw [ow]; exact fp_RX12_67_12) (Or.inr (fun C T N hq => by cases hq; rfl)) ((LY.mp hL : LY (mpH h B a p true 3 l mo) B).1 51 (by decide)) rfl rfl ?_
        rw [mp_7 (q := true) (v := 1) rfl]
        show AW V 0 0 (mpH h B a p true 3 l mo) 172 [(3, .int 0), (2, .int (-1)), (1, .int (H p)), (0, .ref (B + 51))] []
        refine a_aload_n hb dX12_factor_172 rfl 3 rfl ?_
        refine a_callV hb dX12_factor_173 (by rw [hg]; exact m_figures g h B hL a n ha hac he hn H hH p 3 true l mo hp) (by rw [ow]; exact clv_RX12_111) ((LY.mp hL : LY (mpH h B a p true 3 l mo) B).1 51 (by decide)) (by decide) rfl rfl rfl (Nat.le_of_ble_eq_true rfl) (by rw [hr]; exact ⟨by decide, by decide⟩) (by rw [hr]; exact ⟨Nat.le_of_ble_eq_true rfl, Nat.le_of_ble_eq_true rfl⟩) ?_
        intro rv h' hp_
        rw [hp_.1, hp_.2]
        show AW V 0 0 (mpH h B a p true 3 l mo) 176 [(3, .int 0), (2, .int (-1)), (1, .int (H p)), (0, .ref (B + 51))] [.int (nI 0)]
        refine a_istore (L' := [(4, .int (nI 0)), (3, .int 0), (2, .int (-1)), (1, .int (H p)), (0, .ref (B + 51))]) hb dX12_factor_176 (by rw [hml]; decide) rfl ?_
        refine a_aload_n hb dX12_factor_178 rfl 4 rfl ?_
        refine a_iload_n hb dX12_factor_179 rfl 2 rfl ?_
        refine a_bipush (v := 8) hb dX12_factor_180 (by decide) ?_
        refine a_iload_n hb dX12_factor_182 rfl 1 rfl ?_
        refine a_imul hb dX12_factor_183 ?_
        refine a_iadd hb dX12_factor_184 ?_
        refine a_bipush (v := 32) hb dX12_factor_185 (by decide) ?_
        refine a_iload hb dX12_factor_187 0 rfl ?_
        refine a_imul hb dX12_factor_189 ?_
        refine a_iadd hb dX12_factor_190 ?_
        refine a_callV hb dX12_factor_191 (by rw [hg]; exact m_emits g h B hL a n ha hac he hn H hH p 3 true l mo hp (((-1) + (8 * 0)) + (32 * (nI 0))) (Nat.lt_of_le_of_lt (Nat.le_trans hll (Nat.le_trans hp hn)) (by decide))) (by rw [ow]; exact clv_RX12_97) ((LY.mp hL : LY (mpH h B a p true 3 l mo) B).1 51 (by decide)) (by decide) rfl rfl rfl (Nat.le_of_ble_eq_true rfl) (by rw [hr]; exact ⟨by decide, by decide⟩) (by rw [hr]; exact ⟨Nat.le_of_ble_eq_true rfl, Nat.le_of_ble_eq_true rfl⟩) ?_
        intro rv h' hp_
        rw [hp_.1, hp_.2]
        show AW V 0 0 (mpH h B a p true 3 l mo) 194 [(4, .int (nI 0)), (3, .int 0), (2, .int (-1)), (1, .int (H p)), (0, .ref (B + 51))] []
        exact a_return hb hz dX12_factor_194 hret (by rw [hr]; exact Nat.le_of_ble_eq_true rfl) (by rw [hr]; exact Nat.le_of_ble_eq_true rfl) (⟨rfl, fac_5 c16 c22 t5⟩)
      rw [if_neg t5, if_neg t5]
      have ltt5 : p < n := by rw [hH] at t5; exact hrT_5 t5
      show AW V 0 0 (mpH h B a (p + 1) false 3 l mo) 118 [(1, .int (H p)), (0, .ref (B + 51))] [.int (nI (ix5 (H p)))]
      refine a_istore_n (L' := [(2, .int (nI (ix5 (H p)))), (1, .int (H p)), (0, .ref (B + 51))]) hb dX12_factor_118 rfl (by rw [hml]; decide) rfl ?_
      refine a_aload_n hb dX12_factor_119 rfl 2 rfl ?_
      refine a_iload_n hb dX12_factor_120 rfl 0 rfl ?_
      refine a_iconst (v := (-1)) hb dX12_factor_121 (by decide) ?_
      refine a_icmp_ne hb 129 dX12_factor_122 (by decide) (fun c122 => ?_) (fun c122 => absurd c122 ((nI_m1 ix5_le)))
      refine a_iconst (v := 0) hb dX12_factor_129 (by decide) ?_
      refine a_putI (fty := .boolean) hb dX12_factor_130 (by rw [ow]; exact fp_RX12_67_12) (Or.inr (fun C T N hq => by cases hq; rfl)) ((LY.mp hL : LY (mpH h B a (p + 1) false 3 l mo) B).1 51 (by decide)) rfl rfl ?_
      rw [mp_7 (q := false) (v := 0) rfl]
      show AW V 0 0 (mpH h B a (p + 1) false 3 l mo) 133 [(2, .int (nI (ix5 (H p)))), (1, .int (H p)), (0, .ref (B + 51))] []
      refine a_aload_n hb dX12_factor_133 rfl 2 rfl ?_
      refine a_getI hb dX12_factor_134 (by rw [ow]; exact fl_RX12_67_12) ((LY.mp hL : LY (mpH h B a (p + 1) false 3 l mo) B).1 51 (by decide)) ?_
      rw [mp_f7]
      show AW V 0 0 (mpH h B a (p + 1) false 3 l mo) 137 [(2, .int (nI (ix5 (H p)))), (1, .int (H p)), (0, .ref (B + 51))] [.int 0]
      refine a_if_eq hb 144 dX12_factor_137 (by decide) (fun c137 => ?_) (fun c137 => absurd (by decide) c137)
      refine a_aload_n hb dX12_factor_144 rfl 2 rfl ?_
      refine a_ldcS (i := 1) hb dX12_factor_145 (by rw [ow]; exact List.mem_of_getElem? (i := 6) rfl) ?_
      refine a_callV hb dX12_factor_147 (by have z_ := m_among1 g h B hL a n ha hac he hn H hH (p + 1) 3 false l mo (by omega); rw [← hg] at z_; exact z_) (by rw [ow]; exact clv_RX12_105) ((LY.mp hL : LY (mpH h B a (p + 1) false 3 l mo) B).1 51 (by decide)) (by decide) rfl rfl rfl (Nat.le_of_ble_eq_true rfl) (by rw [hr]; exact ⟨by decide, by decide⟩) (by rw [hr]; exact ⟨Nat.le_of_ble_eq_true rfl, Nat.le_of_ble_eq_true rfl⟩) ?_
      intro rv h' hp_
      rw [hp_.1, hp_.2]
      by_cases t3 : ix3 (H (p + 1)) = 3
      · rw [if_pos t3, if_pos t3]
        show AW V 0 0 (mpH h B a (p + 1) false 3 l mo) 150 [(2, .int (nI (ix5 (H p)))), (1, .int (H p)), (0, .ref (B + 51))] [.int (-1)]
        refine a_istore_n (L' := [(3, .int (-1)), (2, .int (nI (ix5 (H p)))), (1, .int (H p)), (0, .ref (B + 51))]) hb dX12_factor_150 rfl (by rw [hml]; decide) rfl ?_
        refine a_aload_n hb dX12_factor_151 rfl 3 rfl ?_
        refine a_aload_n hb dX12_factor_152 rfl 3 rfl ?_
        refine a_getI hb dX12_factor_153 (by rw [ow]; exact fl_RX12_67_12) ((LY.mp hL : LY (mpH h B a (p + 1) false 3 l mo) B).1 51 (by decide)) ?_
        rw [mp_f7]
        show AW V 0 0 (mpH h B a (p + 1) false 3 l mo) 156 [(3, .int (-1)), (2, .int (nI (ix5 (H p)))), (1, .int (H p)), (0, .ref (B + 51))] [.int 0, .ref (B + 51)]
        refine a_if_ne hb 164 dX12_factor_156 (by decide) (fun c156 => absurd c156 (by decide)) (fun c156 => ?_)
        refine a_iload_n hb dX12_factor_159 rfl 0 rfl ?_
        refine a_iconst (v := (-1)) hb dX12_factor_160 (by decide) ?_
        refine a_icmp_ne hb 168 dX12_factor_161 (by decide) (fun c161 => absurd c161 (by decide)) (fun c161 => ?_)
        refine a_iconst (v := 1) hb dX12_factor_164 (by decide) ?_
        refine a_goto hb 169 dX12_factor_165 (by decide) ?_
        refine a_putI (fty := .boolean) hb dX12_factor_169 (by rw [ow]; exact fp_RX12_67_12) (Or.inr (fun C T N hq => by cases hq; rfl)) ((LY.mp hL : LY (mpH h B a (p + 1) false 3 l mo) B).1 51 (by decide)) rfl rfl ?_
        rw [mp_7 (q := true) (v := 1) rfl]
        show AW V 0 0 (mpH h B a (p + 1) true 3 l mo) 172 [(3, .int (-1)), (2, .int (nI (ix5 (H p)))), (1, .int (H p)), (0, .ref (B + 51))] []
        refine a_aload_n hb dX12_factor_172 rfl 3 rfl ?_
        refine a_callV hb dX12_factor_173 (by rw [hg]; exact m_figures g h B hL a n ha hac he hn H hH (p + 1) 3 true l mo (by omega)) (by rw [ow]; exact clv_RX12_111) ((LY.mp hL : LY (mpH h B a (p + 1) true 3 l mo) B).1 51 (by decide)) (by decide) rfl rfl rfl (Nat.le_of_ble_eq_true rfl) (by rw [hr]; exact ⟨by decide, by decide⟩) (by rw [hr]; exact ⟨Nat.le_of_ble_eq_true rfl, Nat.le_of_ble_eq_true rfl⟩) ?_
        intro rv h' hp_
        rw [hp_.1, hp_.2]
        show AW V 0 0 (mpH h B a (p + 1) true 3 l mo) 176 [(3, .int (-1)), (2, .int (nI (ix5 (H p)))), (1, .int (H p)), (0, .ref (B + 51))] [.int (nI 0)]
        refine a_istore (L' := [(4, .int (nI 0)), (3, .int (-1)), (2, .int (nI (ix5 (H p)))), (1, .int (H p)), (0, .ref (B + 51))]) hb dX12_factor_176 (by rw [hml]; decide) rfl ?_
        refine a_aload_n hb dX12_factor_178 rfl 4 rfl ?_
        refine a_iload_n hb dX12_factor_179 rfl 2 rfl ?_
        refine a_bipush (v := 8) hb dX12_factor_180 (by decide) ?_
        refine a_iload_n hb dX12_factor_182 rfl 1 rfl ?_
        refine a_imul hb dX12_factor_183 ?_
        refine a_iadd hb dX12_factor_184 ?_
        refine a_bipush (v := 32) hb dX12_factor_185 (by decide) ?_
        refine a_iload hb dX12_factor_187 0 rfl ?_
        refine a_imul hb dX12_factor_189 ?_
        refine a_iadd hb dX12_factor_190 ?_
        refine a_callV hb dX12_factor_191 (by rw [hg]; exact m_emits g h B hL a n ha hac he hn H hH (p + 1) 3 true l mo (by omega) (((nI (ix5 (H p))) + (8 * (-1))) + (32 * (nI 0))) (Nat.lt_of_le_of_lt (Nat.le_trans hll (Nat.le_trans hp hn)) (by decide))) (by rw [ow]; exact clv_RX12_97) ((LY.mp hL : LY (mpH h B a (p + 1) true 3 l mo) B).1 51 (by decide)) (by decide) rfl rfl rfl (Nat.le_of_ble_eq_true rfl) (by rw [hr]; exact ⟨by decide, by decide⟩) (by rw [hr]; exact ⟨Nat.le_of_ble_eq_true rfl, Nat.le_of_ble_eq_true rfl⟩) ?_
        intro rv h' hp_
        rw [hp_.1, hp_.2]
        show AW V 0 0 (mpH h B a (p + 1) true 3 l mo) 194 [(4, .int (nI 0)), (3, .int (-1)), (2, .int (nI (ix5 (H p)))), (1, .int (H p)), (0, .ref (B + 51))] []
        exact a_return hb hz dX12_factor_194 hret (by rw [hr]; exact Nat.le_of_ble_eq_true rfl) (by rw [hr]; exact Nat.le_of_ble_eq_true rfl) (⟨rfl, fac_3 c16 c22 t5 t3⟩)
      rw [if_neg t3, if_neg t3]
      have ltt3 : (p + 1) < n := by rw [hH] at t3; exact hrT_3 t3
      show AW V 0 0 (mpH h B a (p + 2) false 3 l mo) 150 [(2, .int (nI (ix5 (H p)))), (1, .int (H p)), (0, .ref (B + 51))] [.int (nI (ix3 (H (p + 1))))]
      refine a_istore_n (L' := [(3, .int (nI (ix3 (H (p + 1))))), (2, .int (nI (ix5 (H p)))), (1, .int (H p)), (0, .ref (B + 51))]) hb dX12_factor_150 rfl (by rw [hml]; decide) rfl ?_
      refine a_aload_n hb dX12_factor_151 rfl 3 rfl ?_
      refine a_aload_n hb dX12_factor_152 rfl 3 rfl ?_
      refine a_getI hb dX12_factor_153 (by rw [ow]; exact fl_RX12_67_12) ((LY.mp hL : LY (mpH h B a (p + 2) false 3 l mo) B).1 51 (by decide)) ?_
      rw [mp_f7]
      show AW V 0 0 (mpH h B a (p + 2) false 3 l mo) 156 [(3, .int (nI (ix3 (H (p + 1))))), (2, .int (nI (ix5 (H p)))), (1, .int (H p)), (0, .ref (B + 51))] [.int 0, .ref (B + 51)]
      refine a_if_ne hb 164 dX12_factor_156 (by decide) (fun c156 => absurd c156 (by decide)) (fun c156 => ?_)
      refine a_iload_n hb dX12_factor_159 rfl 0 rfl ?_
      refine a_iconst (v := (-1)) hb dX12_factor_160 (by decide) ?_
      refine a_icmp_ne hb 168 dX12_factor_161 (by decide) (fun c161 => ?_) (fun c161 => absurd c161 ((nI_m1 (Nat.le_trans ix3_le (by decide)))))
      refine a_iconst (v := 0) hb dX12_factor_168 (by decide) ?_
      refine a_putI (fty := .boolean) hb dX12_factor_169 (by rw [ow]; exact fp_RX12_67_12) (Or.inr (fun C T N hq => by cases hq; rfl)) ((LY.mp hL : LY (mpH h B a (p + 2) false 3 l mo) B).1 51 (by decide)) rfl rfl ?_
      rw [mp_7 (q := false) (v := 0) rfl]
      show AW V 0 0 (mpH h B a (p + 2) false 3 l mo) 172 [(3, .int (nI (ix3 (H (p + 1))))), (2, .int (nI (ix5 (H p)))), (1, .int (H p)), (0, .ref (B + 51))] []
      refine a_aload_n hb dX12_factor_172 rfl 3 rfl ?_
      refine a_callV hb dX12_factor_173 (by rw [hg]; exact m_figures g h B hL a n ha hac he hn H hH (p + 2) 3 false l mo (by omega)) (by rw [ow]; exact clv_RX12_111) ((LY.mp hL : LY (mpH h B a (p + 2) false 3 l mo) B).1 51 (by decide)) (by decide) rfl rfl rfl (Nat.le_of_ble_eq_true rfl) (by rw [hr]; exact ⟨by decide, by decide⟩) (by rw [hr]; exact ⟨Nat.le_of_ble_eq_true rfl, Nat.le_of_ble_eq_true rfl⟩) ?_
      intro rv h' hp_
      rw [hp_.1, hp_.2]
      show AW V 0 0 (mpH h B a ((fgP H false (p + 2)).2.1) ((fgP H false (p + 2)).1) 3 l mo) 176 [(3, .int (nI (ix3 (H (p + 1))))), (2, .int (nI (ix5 (H p)))), (1, .int (H p)), (0, .ref (B + 51))] [.int (nI (fgP H false (p + 2)).2.2)]
      refine a_istore (L' := [(4, .int (nI (fgP H false (p + 2)).2.2)), (3, .int (nI (ix3 (H (p + 1))))), (2, .int (nI (ix5 (H p)))), (1, .int (H p)), (0, .ref (B + 51))]) hb dX12_factor_176 (by rw [hml]; decide) rfl ?_
      refine a_aload_n hb dX12_factor_178 rfl 4 rfl ?_
      refine a_iload_n hb dX12_factor_179 rfl 2 rfl ?_
      refine a_bipush (v := 8) hb dX12_factor_180 (by decide) ?_
      refine a_iload_n hb dX12_factor_182 rfl 1 rfl ?_
      refine a_imul hb dX12_factor_183 ?_
      refine a_iadd hb dX12_factor_184 ?_
      refine a_bipush (v := 32) hb dX12_factor_185 (by decide) ?_
      refine a_iload hb dX12_factor_187 0 rfl ?_
      refine a_imul hb dX12_factor_189 ?_
      refine a_iadd hb dX12_factor_190 ?_
      refine a_callV hb dX12_factor_191 (by rw [hg]; exact m_emits g h B hL a n ha hac he hn H hH ((fgP H false (p + 2)).2.1) 3 ((fgP H false (p + 2)).1) l mo (fgG hH (w := false) (by omega)) (((nI (ix5 (H p))) + (8 * (nI (ix3 (H (p + 1)))))) + (32 * (nI (fgP H false (p + 2)).2.2))) (Nat.lt_of_le_of_lt (Nat.le_trans hll (Nat.le_trans hp hn)) (by decide))) (by rw [ow]; exact clv_RX12_97) ((LY.mp hL : LY (mpH h B a ((fgP H false (p + 2)).2.1) ((fgP H false (p + 2)).1) 3 l mo) B).1 51 (by decide)) (by decide) rfl rfl rfl (Nat.le_of_ble_eq_true rfl) (by rw [hr]; exact ⟨by decide, by decide⟩) (by rw [hr]; exact ⟨Nat.le_of_ble_eq_true rfl, Nat.le_of_ble_eq_true rfl⟩) ?_
      intro rv h' hp_
      rw [hp_.1, hp_.2]
      show AW V 0 0 (mpH h B a ((fgP H false (p + 2)).2.1) ((fgP H false (p + 2)).1) 3 (emL ((fgP H false (p + 2)).1) l (((nI (ix5 (H p))) + (8 * (nI (ix3 (H (p + 1)))))) + (32 * (nI (fgP H false (p + 2)).2.2)))) mo) 194 [(4, .int (nI (fgP H false (p + 2)).2.2)), (3, .int (nI (ix3 (H (p + 1))))), (2, .int (nI (ix5 (H p)))), (1, .int (H p)), (0, .ref (B + 51))] []
      exact a_return hb hz dX12_factor_194 hret (by rw [hr]; exact Nat.le_of_ble_eq_true rfl) (by rw [hr]; exact Nat.le_of_ble_eq_true rfl) (⟨rfl, fac_t c16 c22 t5 t3⟩)
    · have pl : p < n := by rw [hH] at c22; exact hrT_n (by decide) c22
      refine a_aload_n hb dX12_factor_25 rfl 1 rfl ?_
      refine a_aload_n hb dX12_factor_26 rfl 1 rfl ?_
      refine a_getI hb dX12_factor_27 (by rw [ow]; exact fl_RX12_91_12) ((LY.mp hL : LY (mpH h B a p false 3 l mo) B).1 51 (by decide)) ?_
      rw [mp_f8]
      show AW V 0 0 (mpH h B a p false 3 l mo) 30 [(1, .int (H p)), (0, .ref (B + 51))] [.int 3, .ref (B + 51)]
      refine a_iconst (v := 5) hb dX12_factor_30 (by decide) ?_
      refine a_icmp_ne hb 38 dX12_factor_31 (by decide) (fun c31 => ?_) (fun c31 => absurd c31 (by decide))
      refine a_iconst (v := 0) hb dX12_factor_38 (by decide) ?_
      refine a_putI (fty := .boolean) hb dX12_factor_39 (by rw [ow]; exact fp_RX12_67_12) (Or.inr (fun C T N hq => by cases hq; rfl)) ((LY.mp hL : LY (mpH h B a p false 3 l mo) B).1 51 (by decide)) rfl rfl ?_
      rw [mp_7 (q := false) (v := 0) rfl]
      show AW V 0 0 (mpH h B a p false 3 l mo) 42 [(1, .int (H p)), (0, .ref (B + 51))] []
      refine a_aload_n hb dX12_factor_42 rfl 1 rfl ?_
      refine a_dup hb dX12_factor_43 rfl ?_
      refine a_getI hb dX12_factor_44 (by rw [ow]; exact fl_RX12_91_12) ((LY.mp hL : LY (mpH h B a p false 3 l mo) B).1 51 (by decide)) ?_
      rw [mp_f8]
      show AW V 0 0 (mpH h B a p false 3 l mo) 47 [(1, .int (H p)), (0, .ref (B + 51))] [.int 3, .ref (B + 51)]
      refine a_iconst (v := 1) hb dX12_factor_47 (by decide) ?_
      refine a_iadd hb dX12_factor_48 ?_
      refine a_putI (fty := .int) hb dX12_factor_49 (by rw [ow]; exact fp_RX12_91_12) (Or.inr (fun C T N hq => by cases hq; rfl)) ((LY.mp hL : LY (mpH h B a p false 3 l mo) B).1 51 (by decide)) rfl rfl ?_
      rw [mp_8 (q := 4) (by decide)]
      show AW V 0 0 (mpH h B a p false 4 l mo) 52 [(1, .int (H p)), (0, .ref (B + 51))] []
      refine a_aload_n hb dX12_factor_52 rfl 1 rfl ?_
      refine a_dup hb dX12_factor_53 rfl ?_
      refine a_getI hb dX12_factor_54 (by rw [ow]; exact fl_RX12_61_12) ((LY.mp hL : LY (mpH h B a p false 4 l mo) B).1 51 (by decide)) ?_
      rw [mp_f5]
      show AW V 0 0 (mpH h B a p false 4 l mo) 57 [(1, .int (H p)), (0, .ref (B + 51))] [.int (nI p), .ref (B + 51)]
      refine a_aload_n hb dX12_factor_57 rfl 1 rfl ?_
      refine a_getI hb dX12_factor_58 (by rw [ow]; exact fl_RX12_67_12) ((LY.mp hL : LY (mpH h B a p false 4 l mo) B).1 51 (by decide)) ?_
      rw [mp_f7]
      show AW V 0 0 (mpH h B a p false 4 l mo) 61 [(1, .int (H p)), (0, .ref (B + 51))] [.int 0, .int (nI p), .ref (B + 51)]
      refine a_if_eq hb 68 dX12_factor_61 (by decide) (fun c61 => ?_) (fun c61 => absurd (by decide) c61)
      refine a_iconst (v := 1) hb dX12_factor_68 (by decide) ?_
      refine a_iadd hb dX12_factor_69 ?_
      refine a_putI (fty := .int) hb dX12_factor_70 (by rw [ow]; exact fp_RX12_61_12) (Or.inr (fun C T N hq => by cases hq; rfl)) ((LY.mp hL : LY (mpH h B a p false 4 l mo) B).1 51 (by decide)) rfl rfl ?_
      rw [mp_5 (q := (p + 1)) (by rw [nI_1])]
      show AW V 0 0 (mpH h B a (p + 1) false 4 l mo) 73 [(1, .int (H p)), (0, .ref (B + 51))] []
      refine a_iload_n hb dX12_factor_73 rfl 0 rfl ?_
      refine a_bipush (v := 33) hb dX12_factor_74 (by decide) ?_
      refine a_icmp_ne hb 91 dX12_factor_76 (by decide) (fun c76 => ?_) (fun c76 => absurd c76 (c16))
      refine a_aload_n hb dX12_factor_91 rfl 1 rfl ?_
      refine a_callV hb dX12_factor_92 (by rw [hg]; exact m_so1 g h B hL a n ha hac he hn H hH (p + 1) l mo (by omega) (Nat.le_succ_of_le hll)) (by rw [ow]; exact clv_RX12_100) ((LY.mp hL : LY (mpH h B a (p + 1) false 4 l mo) B).1 51 (by decide)) (by decide) rfl rfl rfl (Nat.le_of_ble_eq_true rfl) (by rw [hr]; exact ⟨by decide, by decide⟩) (by rw [hr]; exact ⟨Nat.le_of_ble_eq_true rfl, Nat.le_of_ble_eq_true rfl⟩) ?_
      intro rv h' hp_
      rw [hp_.1, hp_.2]
      clear hp_ rv h'
      have gd2_ := pEgH hH 1 (p + 1)
      generalize eQ2 : (pE (pF H 1) H (p + 1)) = q2_ at gd2_ ⊢
      show AW V 0 0 (mpG h B a 4 l mo q2_) 95 [(1, .int (H p)), (0, .ref (B + 51))] []
      show AW V 0 0 (mpH h B a q2_.2.1 q2_.1 4 (l ++ q2_.2.2.map encM) mo) 95 [(1, .int (H p)), (0, .ref (B + 51))] []
      refine a_aload_n hb dX12_factor_95 rfl 1 rfl ?_
      refine a_bipush (v := 41) hb dX12_factor_96 (by decide) ?_
      refine a_callV hb dX12_factor_98 (by rw [hg]; exact m_must g h B hL a n ha hac he hn H hH q2_.2.1 4 q2_.1 (l ++ q2_.2.2.map encM) mo (gd2_.2 (by omega)) 41) (by rw [ow]; exact clv_RX12_84) ((LY.mp hL : LY (mpH h B a q2_.2.1 q2_.1 4 (l ++ q2_.2.2.map encM) mo) B).1 51 (by decide)) (by decide) rfl rfl rfl (Nat.le_of_ble_eq_true rfl) (by rw [hr]; exact ⟨by decide, by decide⟩) (by rw [hr]; exact ⟨Nat.le_of_ble_eq_true rfl, Nat.le_of_ble_eq_true rfl⟩) ?_
      intro rv h' hp_
      rw [hp_.1, hp_.2]
      show AW V 0 0 (mpH h B a ((muP H 41 q2_.1 q2_.2.1).2) ((muP H 41 q2_.1 q2_.2.1).1) 4 (l ++ q2_.2.2.map encM) mo) 101 [(1, .int (H p)), (0, .ref (B + 51))] []
      refine a_aload_n hb dX12_factor_101 rfl 1 rfl ?_
      refine a_dup hb dX12_factor_102 rfl ?_
      refine a_getI hb dX12_factor_103 (by rw [ow]; exact fl_RX12_91_12) ((LY.mp hL : LY (mpH h B a ((muP H 41 q2_.1 q2_.2.1).2) ((muP H 41 q2_.1 q2_.2.1).1) 4 (l ++ q2_.2.2.map encM) mo) B).1 51 (by decide)) ?_
      rw [mp_f8]
      show AW V 0 0 (mpH h B a ((muP H 41 q2_.1 q2_.2.1).2) ((muP H 41 q2_.1 q2_.2.1).1) 4 (l ++ q2_.2.2.map encM) mo) 106 [(1, .int (H p)), (0, .ref (B + 51))] [.int 4, .ref (B + 51)]
      refine a_iconst (v := 1) hb dX12_factor_106 (by decide) ?_
      refine a_isub hb dX12_factor_107 ?_
      refine a_putI (fty := .int) hb dX12_factor_108 (by rw [ow]; exact fp_RX12_91_12) (Or.inr (fun C T N hq => by cases hq; rfl)) ((LY.mp hL : LY (mpH h B a ((muP H 41 q2_.1 q2_.2.1).2) ((muP H 41 q2_.1 q2_.2.1).1) 4 (l ++ q2_.2.2.map encM) mo) B).1 51 (by decide)) rfl rfl ?_
      rw [mp_8 (q := 3) (by decide)]
      show AW V 0 0 (mpH h B a ((muP H 41 q2_.1 q2_.2.1).2) ((muP H 41 q2_.1 q2_.2.1).1) 3 (l ++ q2_.2.2.map encM) mo) 111 [(1, .int (H p)), (0, .ref (B + 51))] []
      exact a_return hb hz dX12_factor_111 hret (by rw [hr]; exact Nat.le_of_ble_eq_true rfl) (by rw [hr]; exact Nat.le_of_ble_eq_true rfl) (⟨rfl, by subst eQ2; exact fac_p c16 c22⟩)
set_option maxRecDepth 100000 in
theorem m_ev2 (g : GG) (h : AH) (B : Nat) (hL : LY h B) (a n : Nat) (ha : a < 5) (hac : hI h (B + 51) 4 = nI a) (he : hI h (B + 51) 6 = nI n) (hn : n ≤ 120) (H : Nat → Int32) (hH : H = hrT (fun i => hI h (B + 52) (10 + i)) n) (p : Nat) (l : List Int32) (mo : Int32) (hp : p ≤ n) (hll : l.length ≤ p) : AM g 13 0 0 mX12_every [.ref (B + 51)] (mpH h B a p false 3 l mo) (fun rv h' => rv = none ∧ h' = mpG h B a 3 l mo (pV (pF H 2) H p)) := by
  refine AM.of [(0, .ref (B + 51))] (by decide) (Nat.le_of_ble_eq_true rfl) rfl ?_
  intro V hV
  have hb : V.2.1.2.1 = cX12_every := by subst hV; rfl
  have ow : V.2.1.1.cls = RX12 := by subst hV; rfl
  have hr : V.2.2.1 = aw_rm 13 0 0 := by subst hV; rfl
  have hz : V.2.2.2 = aw_Z V.1 (fun rv h' => rv = none ∧ h' = mpG h B a 3 l mo (pV (pF H 2) H p)) V.2.2.1 := by subst hV; rfl
  have hg : V.1 = g := by subst hV; rfl
  have hret : V.2.1.2.2.2 = none := by subst hV; rfl
  have hml : V.2.1.2.2.1 = 1 := by subst hV; rfl
  clear hV
  generalize hR : pV (pF H 2) H p = R at hz
  have loop : ∀ (k : Nat) (r : PR), r.2.1 ≤ n → (l ++ r.2.2.map encM).length ≤ r.2.1 → n ≤ r.2.1 + k → lpR (pF H 2) H 38 (2, 0, 0, 0) k r = R → AW V 0 0 (mpG h B a 3 l mo r) 4 [(0, .ref (B + 51))] [] := by
    intro k
    induction k with
    | zero =>
      intro r h1 h2 h3 h4
      show AW V 0 0 (mpH h B a r.2.1 r.1 3 (l ++ r.2.2.map encM) mo) 4 [(0, .ref (B + 51))] []
      refine a_aload_n hb dX12_every_4 rfl 0 rfl ?_
      refine a_getI hb dX12_every_5 (by rw [ow]; exact fl_RX12_67_12) ((LY.mp hL : LY (mpH h B a r.2.1 r.1 3 (l ++ r.2.2.map encM) mo) B).1 51 (by decide)) ?_
      rw [mp_f7]
      show AW V 0 0 (mpH h B a r.2.1 r.1 3 (l ++ r.2.2.map encM) mo) 8 [(0, .ref (B + 51))] [.int (b2i r.1)]
      refine a_if_ne hb 43 dX12_every_8 (by decide) (fun c8 => ?_) (fun c8 => ?_)
      · simp [b2i_0] at c8
        exact a_return hb hz dX12_every_43 hret (by rw [hr]; exact Nat.le_of_ble_eq_true rfl) (by rw [hr]; exact Nat.le_of_ble_eq_true rfl) (⟨rfl, mpG_e ((lpR_w c8).symm.trans h4)⟩)
      · simp [b2i_0] at c8
        refine a_aload_n hb dX12_every_11 rfl 0 rfl ?_
        refine a_callV hb dX12_every_12 (by rw [hg]; exact m_here g h B hL a n ha hac he hn H hH r.2.1 3 r.1 (l ++ r.2.2.map encM) mo h1) (by rw [ow]; exact clv_RX12_71) ((LY.mp hL : LY (mpH h B a r.2.1 r.1 3 (l ++ r.2.2.map encM) mo) B).1 51 (by decide)) (by decide) rfl rfl rfl (Nat.le_of_ble_eq_true rfl) (by rw [hr]; exact ⟨by decide, by decide⟩) (by rw [hr]; exact ⟨Nat.le_of_ble_eq_true rfl, Nat.le_of_ble_eq_true rfl⟩) ?_
        intro rv h' hp_
        rw [hp_.1, hp_.2]
        show AW V 0 0 (mpH h B a r.2.1 r.1 3 (l ++ r.2.2.map encM) mo) 15 [(0, .ref (B + 51))] [.int (H r.2.1)]
        refine a_bipush (v := 38) hb dX12_every_15 (by decide) ?_
        refine a_icmp_ne hb 43 dX12_every_17 (by decide) (fun c17 => ?_) (fun c17 => absurd c17 ((fun q => absurd (hrH hH q) (Nat.not_lt.mpr h3))))
        exact a_return hb hz dX12_every_43 hret (by rw [hr]; exact Nat.le_of_ble_eq_true rfl) (by rw [hr]; exact Nat.le_of_ble_eq_true rfl) (⟨rfl, mpG_e ((lpR_n c17).symm.trans h4)⟩)
    | succ k ih =>
      intro r h1 h2 h3 h4
      show AW V 0 0 (mpH h B a r.2.1 r.1 3 (l ++ r.2.2.map encM) mo) 4 [(0, .ref (B + 51))] []
      refine a_aload_n hb dX12_every_4 rfl 0 rfl ?_
      refine a_getI hb dX12_every_5 (by rw [ow]; exact fl_RX12_67_12) ((LY.mp hL : LY (mpH h B a r.2.1 r.1 3 (l ++ r.2.2.map encM) mo) B).1 51 (by decide)) ?_
      rw [mp_f7]
      show AW V 0 0 (mpH h B a r.2.1 r.1 3 (l ++ r.2.2.map encM) mo) 8 [(0, .ref (B + 51))] [.int (b2i r.1)]
      refine a_if_ne hb 43 dX12_every_8 (by decide) (fun c8 => ?_) (fun c8 => ?_)
      · simp [b2i_0] at c8
        exact a_return hb hz dX12_every_43 hret (by rw [hr]; exact Nat.le_of_ble_eq_true rfl) (by rw [hr]; exact Nat.le_of_ble_eq_true rfl) (⟨rfl, mpG_e ((lpR_w c8).symm.trans h4)⟩)
      · simp [b2i_0] at c8
        refine a_aload_n hb dX12_every_11 rfl 0 rfl ?_
        refine a_callV hb dX12_every_12 (by rw [hg]; exact m_here g h B hL a n ha hac he hn H hH r.2.1 3 r.1 (l ++ r.2.2.map encM) mo h1) (by rw [ow]; exact clv_RX12_71) ((LY.mp hL : LY (mpH h B a r.2.1 r.1 3 (l ++ r.2.2.map encM) mo) B).1 51 (by decide)) (by decide) rfl rfl rfl (Nat.le_of_ble_eq_true rfl) (by rw [hr]; exact ⟨by decide, by decide⟩) (by rw [hr]; exact ⟨Nat.le_of_ble_eq_true rfl, Nat.le_of_ble_eq_true rfl⟩) ?_
        intro rv h' hp_
        rw [hp_.1, hp_.2]
        show AW V 0 0 (mpH h B a r.2.1 r.1 3 (l ++ r.2.2.map encM) mo) 15 [(0, .ref (B + 51))] [.int (H r.2.1)]
        refine a_bipush (v := 38) hb dX12_every_15 (by decide) ?_
        refine a_icmp_ne hb 43 dX12_every_17 (by decide) (fun c17 => ?_) (fun c17 => ?_)
        · exact a_return hb hz dX12_every_43 hret (by rw [hr]; exact Nat.le_of_ble_eq_true rfl) (by rw [hr]; exact Nat.le_of_ble_eq_true rfl) (⟨rfl, mpG_e ((lpR_n c17).symm.trans h4)⟩)
        · have rl : r.2.1 < n := by rw [hH] at c17; exact hrT_n (by decide) c17
          rw [c8]
          show AW V 0 0 (mpH h B a r.2.1 false 3 (l ++ r.2.2.map encM) mo) 20 [(0, .ref (B + 51))] []
          refine a_aload_n hb dX12_every_20 rfl 0 rfl ?_
          refine a_dup hb dX12_every_21 rfl ?_
          refine a_getI hb dX12_every_22 (by rw [ow]; exact fl_RX12_61_12) ((LY.mp hL : LY (mpH h B a r.2.1 false 3 (l ++ r.2.2.map encM) mo) B).1 51 (by decide)) ?_
          rw [mp_f5]
          show AW V 0 0 (mpH h B a r.2.1 false 3 (l ++ r.2.2.map encM) mo) 25 [(0, .ref (B + 51))] [.int (nI r.2.1), .ref (B + 51)]
          refine a_iconst (v := 1) hb dX12_every_25 (by decide) ?_
          refine a_iadd hb dX12_every_26 ?_
          refine a_putI (fty := .int) hb dX12_every_27 (by rw [ow]; exact fp_RX12_61_12) (Or.inr (fun C T N hq => by cases hq; rfl)) ((LY.mp hL : LY (mpH h B a r.2.1 false 3 (l ++ r.2.2.map encM) mo) B).1 51 (by decide)) rfl rfl ?_
          rw [mp_5 (q := (r.2.1 + 1)) (by rw [nI_1])]
          show AW V 0 0 (mpH h B a (r.2.1 + 1) false 3 (l ++ r.2.2.map encM) mo) 30 [(0, .ref (B + 51))] []
          refine a_aload_n hb dX12_every_30 rfl 0 rfl ?_
          refine a_callV hb dX12_every_31 (by rw [hg]; exact m_fac2 g h B hL a n ha hac he hn H hH (r.2.1 + 1) (l ++ r.2.2.map encM) mo (by omega) (Nat.le_succ_of_le h2)) (by rw [ow]; exact clv_RX12_94) ((LY.mp hL : LY (mpH h B a (r.2.1 + 1) false 3 (l ++ r.2.2.map encM) mo) B).1 51 (by decide)) (by decide) rfl rfl rfl (Nat.le_of_ble_eq_true rfl) (by rw [hr]; exact ⟨by decide, by decide⟩) (by rw [hr]; exact ⟨Nat.le_of_ble_eq_true rfl, Nat.le_of_ble_eq_true rfl⟩) ?_
          intro rv h' hp_
          rw [hp_.1, hp_.2]
          clear hp_ rv h'
          have q1 := gdl (pFgH hH 2 (r.2.1 + 1)) (Nat.le_succ_of_le h2)
          have q2 := (pFgH hH 2 (r.2.1 + 1)).2 rl
          have gg := (pFgH hH 2 (r.2.1 + 1)).1
          have hq := @lpR_s (pF H 2) H 38 (2, 0, 0, 0) k r _ c8 c17 rfl
          rw [h4] at hq
          generalize pF H 2 (r.2.1 + 1) = q at *
          show AW V 0 0 (mpG h B a 3 (l ++ r.2.2.map encM) mo q) 34 [(0, .ref (B + 51))] []
          show AW V 0 0 (mpH h B a q.2.1 q.1 3 ((l ++ r.2.2.map encM) ++ q.2.2.map encM) mo) 34 [(0, .ref (B + 51))] []
          refine a_aload_n hb dX12_every_34 rfl 0 rfl ?_
          refine a_bipush (v := (-2)) hb dX12_every_35 (by decide) ?_
          refine a_callV hb dX12_every_37 (by rw [hg]; exact m_emits g h B hL a n ha hac he hn H hH q.2.1 3 q.1 ((l ++ r.2.2.map encM) ++ q.2.2.map encM) mo q2 (-2) (Nat.lt_of_le_of_lt (Nat.le_trans q1 (Nat.le_trans q2 hn)) (by decide))) (by rw [ow]; exact clv_RX12_97) ((LY.mp hL : LY (mpH h B a q.2.1 q.1 3 ((l ++ r.2.2.map encM) ++ q.2.2.map encM) mo) B).1 51 (by decide)) (by decide) rfl rfl rfl (Nat.le_of_ble_eq_true rfl) (by rw [hr]; exact ⟨by decide, by decide⟩) (by rw [hr]; exact ⟨Nat.le_of_ble_eq_true rfl, Nat.le_of_ble_eq_true rfl⟩) ?_
          intro rv h' hp_
          rw [hp_.1, hp_.2]
          show AW V 0 0 (mpH h B a q.2.1 q.1 3 (emL q.1 ((l ++ r.2.2.map encM) ++ q.2.2.map encM) (-2)) mo) 40 [(0, .ref (B + 51))] []
          refine a_goto hb 4 dX12_every_40 (by decide) ?_
          refine AW.eq (ih (q.1, q.2.1, r.2.2 ++ q.2.2 ++ if q.1 = true then [] else [(2, 0, 0, 0)]) q2 ?_ ?_ hq.symm) (seq_h enc_2) rfl rfl rfl
          · show (l ++ List.map encM (r.2.2 ++ q.2.2 ++ if q.1 = true then [] else [(2, 0, 0, 0)])).length ≤ q.2.1
            rw [List.length_append, List.length_map] at h2 ⊢
            rw [List.length_append, List.length_append]
            split <;> simp only [List.length_cons, List.length_nil] <;> omega
          · show n ≤ q.2.1 + k
            omega
  refine a_aload_n hb dX12_every_0 rfl 0 rfl ?_
  refine a_callV hb dX12_every_1 (by rw [hg]; exact m_fac2 g h B hL a n ha hac he hn H hH p l mo hp hll) (by rw [ow]; exact clv_RX12_94) ((LY.mp hL : LY (mpH h B a p false 3 l mo) B).1 51 (by decide)) (by decide) rfl rfl rfl (Nat.le_of_ble_eq_true rfl) (by rw [hr]; exact ⟨by decide, by decide⟩) (by rw [hr]; exact ⟨Nat.le_of_ble_eq_true rfl, Nat.le_of_ble_eq_true rfl⟩) ?_
  intro rv h' hp_
  rw [hp_.1, hp_.2]
  clear hp_ rv h'
  have gd1_ := pFgH hH 2 p
  generalize eQ1 : (pF H 2 p) = q1_ at gd1_ ⊢
  show AW V 0 0 (mpG h B a 3 l mo q1_) 4 [(0, .ref (B + 51))] []
  show AW V 0 0 (mpH h B a q1_.2.1 q1_.1 3 (l ++ q1_.2.2.map encM) mo) 4 [(0, .ref (B + 51))] []
  exact loop 120 q1_ (gd1_.2 hp) (gdl gd1_ hll) (by have z : n ≤ 120 := hn; clear hz loop; omega) ((pV_d eQ1).trans hR)
set_option maxRecDepth 100000 in
theorem m_so2 (g : GG) (h : AH) (B : Nat) (hL : LY h B) (a n : Nat) (ha : a < 5) (hac : hI h (B + 51) 4 = nI a) (he : hI h (B + 51) 6 = nI n) (hn : n ≤ 120) (H : Nat → Int32) (hH : H = hrT (fun i => hI h (B + 52) (10 + i)) n) (p : Nat) (l : List Int32) (mo : Int32) (hp : p ≤ n) (hll : l.length ≤ p) : AM g 14 0 0 mX12_some [.ref (B + 51)] (mpH h B a p false 3 l mo) (fun rv h' => rv = none ∧ h' = mpG h B a 3 l mo (pE (pF H 2) H p)) := by
  refine AM.of [(0, .ref (B + 51))] (by decide) (Nat.le_of_ble_eq_true rfl) rfl ?_
  intro V hV
  have hb : V.2.1.2.1 = cX12_some := by subst hV; rfl
  have ow : V.2.1.1.cls = RX12 := by subst hV; rfl
  have hr : V.2.2.1 = aw_rm 14 0 0 := by subst hV; rfl
  have hz : V.2.2.2 = aw_Z V.1 (fun rv h' => rv = none ∧ h' = mpG h B a 3 l mo (pE (pF H 2) H p)) V.2.2.1 := by subst hV; rfl
  have hg : V.1 = g := by subst hV; rfl
  have hret : V.2.1.2.2.2 = none := by subst hV; rfl
  have hml : V.2.1.2.2.1 = 1 := by subst hV; rfl
  clear hV
  generalize hR : pE (pF H 2) H p = R at hz
  have loop : ∀ (k : Nat) (r : PR), r.2.1 ≤ n → (l ++ r.2.2.map encM).length ≤ r.2.1 → n ≤ r.2.1 + k → lpR (pV (pF H 2) H) H 124 (3, 0, 0, 0) k r = R → AW V 0 0 (mpG h B a 3 l mo r) 4 [(0, .ref (B + 51))] [] := by
    intro k
    induction k with
    | zero =>
      intro r h1 h2 h3 h4
      show AW V 0 0 (mpH h B a r.2.1 r.1 3 (l ++ r.2.2.map encM) mo) 4 [(0, .ref (B + 51))] []
      refine a_aload_n hb dX12_some_4 rfl 0 rfl ?_
      refine a_getI hb dX12_some_5 (by rw [ow]; exact fl_RX12_67_12) ((LY.mp hL : LY (mpH h B a r.2.1 r.1 3 (l ++ r.2.2.map encM) mo) B).1 51 (by decide)) ?_
      rw [mp_f7]
      show AW V 0 0 (mpH h B a r.2.1 r.1 3 (l ++ r.2.2.map encM) mo) 8 [(0, .ref (B + 51))] [.int (b2i r.1)]
      refine a_if_ne hb 43 dX12_some_8 (by decide) (fun c8 => ?_) (fun c8 => ?_)
      · simp [b2i_0] at c8
        exact a_return hb hz dX12_some_43 hret (by rw [hr]; exact Nat.le_of_ble_eq_true rfl) (by rw [hr]; exact Nat.le_of_ble_eq_true rfl) (⟨rfl, mpG_e ((lpR_w c8).symm.trans h4)⟩)
      · simp [b2i_0] at c8
        refine a_aload_n hb dX12_some_11 rfl 0 rfl ?_
        refine a_callV hb dX12_some_12 (by rw [hg]; exact m_here g h B hL a n ha hac he hn H hH r.2.1 3 r.1 (l ++ r.2.2.map encM) mo h1) (by rw [ow]; exact clv_RX12_71) ((LY.mp hL : LY (mpH h B a r.2.1 r.1 3 (l ++ r.2.2.map encM) mo) B).1 51 (by decide)) (by decide) rfl rfl rfl (Nat.le_of_ble_eq_true rfl) (by rw [hr]; exact ⟨by decide, by decide⟩) (by rw [hr]; exact ⟨Nat.le_of_ble_eq_true rfl, Nat.le_of_ble_eq_true rfl⟩) ?_
        intro rv h' hp_
        rw [hp_.1, hp_.2]
        show AW V 0 0 (mpH h B a r.2.1 r.1 3 (l ++ r.2.2.map encM) mo) 15 [(0, .ref (B + 51))] [.int (H r.2.1)]
        refine a_bipush (v := 124) hb dX12_some_15 (by decide) ?_
        refine a_icmp_ne hb 43 dX12_some_17 (by decide) (fun c17 => ?_) (fun c17 => absurd c17 ((fun q => absurd (hrH hH q) (Nat.not_lt.mpr h3))))
        exact a_return hb hz dX12_some_43 hret (by rw [hr]; exact Nat.le_of_ble_eq_true rfl) (by rw [hr]; exact Nat.le_of_ble_eq_true rfl) (⟨rfl, mpG_e ((lpR_n c17).symm.trans h4)⟩)
    | succ k ih =>
      intro r h1 h2 h3 h4
      show AW V 0 0 (mpH h B a r.2.1 r.1 3 (l ++ r.2.2.map encM) mo) 4 [(0, .ref (B + 51))] []
      refine a_aload_n hb dX12_some_4 rfl 0 rfl ?_
      refine a_getI hb dX12_some_5 (by rw [ow]; exact fl_RX12_67_12) ((LY.mp hL : LY (mpH h B a r.2.1 r.1 3 (l ++ r.2.2.map encM) mo) B).1 51 (by decide)) ?_
      rw [mp_f7]
      show AW V 0 0 (mpH h B a r.2.1 r.1 3 (l ++ r.2.2.map encM) mo) 8 [(0, .ref (B + 51))] [.int (b2i r.1)]
      refine a_if_ne hb 43 dX12_some_8 (by decide) (fun c8 => ?_) (fun c8 => ?_)
      · simp [b2i_0] at c8
        exact a_return hb hz dX12_some_43 hret (by rw [hr]; exact Nat.le_of_ble_eq_true rfl) (by rw [hr]; exact Nat.le_of_ble_eq_true rfl) (⟨rfl, mpG_e ((lpR_w c8).symm.trans h4)⟩)
      · simp [b2i_0] at c8
        refine a_aload_n hb dX12_some_11 rfl 0 rfl ?_
        refine a_callV hb dX12_some_12 (by rw [hg]; exact m_here g h B hL a n ha hac he hn H hH r.2.1 3 r.1 (l ++ r.2.2.map encM) mo h1) (by rw [ow]; exact clv_RX12_71) ((LY.mp hL : LY (mpH h B a r.2.1 r.1 3 (l ++ r.2.2.map encM) mo) B).1 51 (by decide)) (by decide) rfl rfl rfl (Nat.le_of_ble_eq_true rfl) (by rw [hr]; exact ⟨by decide, by decide⟩) (by rw [hr]; exact ⟨Nat.le_of_ble_eq_true rfl, Nat.le_of_ble_eq_true rfl⟩) ?_
        intro rv h' hp_
        rw [hp_.1, hp_.2]
        show AW V 0 0 (mpH h B a r.2.1 r.1 3 (l ++ r.2.2.map encM) mo) 15 [(0, .ref (B + 51))] [.int (H r.2.1)]
        refine a_bipush (v := 124) hb dX12_some_15 (by decide) ?_
        refine a_icmp_ne hb 43 dX12_some_17 (by decide) (fun c17 => ?_) (fun c17 => ?_)
        · exact a_return hb hz dX12_some_43 hret (by rw [hr]; exact Nat.le_of_ble_eq_true rfl) (by rw [hr]; exact Nat.le_of_ble_eq_true rfl) (⟨rfl, mpG_e ((lpR_n c17).symm.trans h4)⟩)
        · have rl : r.2.1 < n := by rw [hH] at c17; exact hrT_n (by decide) c17
          rw [c8]
          show AW V 0 0 (mpH h B a r.2.1 false 3 (l ++ r.2.2.map encM) mo) 20 [(0, .ref (B + 51))] []
          refine a_aload_n hb dX12_some_20 rfl 0 rfl ?_
          refine a_dup hb dX12_some_21 rfl ?_
          refine a_getI hb dX12_some_22 (by rw [ow]; exact fl_RX12_61_12) ((LY.mp hL : LY (mpH h B a r.2.1 false 3 (l ++ r.2.2.map encM) mo) B).1 51 (by decide)) ?_
          rw [mp_f5]
          show AW V 0 0 (mpH h B a r.2.1 false 3 (l ++ r.2.2.map encM) mo) 25 [(0, .ref (B + 51))] [.int (nI r.2.1), .ref (B + 51)]
          refine a_iconst (v := 1) hb dX12_some_25 (by decide) ?_
          refine a_iadd hb dX12_some_26 ?_
          refine a_putI (fty := .int) hb dX12_some_27 (by rw [ow]; exact fp_RX12_61_12) (Or.inr (fun C T N hq => by cases hq; rfl)) ((LY.mp hL : LY (mpH h B a r.2.1 false 3 (l ++ r.2.2.map encM) mo) B).1 51 (by decide)) rfl rfl ?_
          rw [mp_5 (q := (r.2.1 + 1)) (by rw [nI_1])]
          show AW V 0 0 (mpH h B a (r.2.1 + 1) false 3 (l ++ r.2.2.map encM) mo) 30 [(0, .ref (B + 51))] []
          refine a_aload_n hb dX12_some_30 rfl 0 rfl ?_
          refine a_callV hb dX12_some_31 (by rw [hg]; exact m_ev2 g h B hL a n ha hac he hn H hH (r.2.1 + 1) (l ++ r.2.2.map encM) mo (by omega) (Nat.le_succ_of_le h2)) (by rw [ow]; exact clv_RX12_114) ((LY.mp hL : LY (mpH h B a (r.2.1 + 1) false 3 (l ++ r.2.2.map encM) mo) B).1 51 (by decide)) (by decide) rfl rfl rfl (Nat.le_of_ble_eq_true rfl) (by rw [hr]; exact ⟨by decide, by decide⟩) (by rw [hr]; exact ⟨Nat.le_of_ble_eq_true rfl, Nat.le_of_ble_eq_true rfl⟩) ?_
          intro rv h' hp_
          rw [hp_.1, hp_.2]
          clear hp_ rv h'
          have q1 := gdl (pVgH hH 2 (r.2.1 + 1)) (Nat.le_succ_of_le h2)
          have q2 := (pVgH hH 2 (r.2.1 + 1)).2 rl
          have gg := (pVgH hH 2 (r.2.1 + 1)).1
          have hq := @lpR_s (pV (pF H 2) H) H 124 (3, 0, 0, 0) k r _ c8 c17 rfl
          rw [h4] at hq
          generalize pV (pF H 2) H (r.2.1 + 1) = q at *
          show AW V 0 0 (mpG h B a 3 (l ++ r.2.2.map encM) mo q) 34 [(0, .ref (B + 51))] []
          show AW V 0 0 (mpH h B a q.2.1 q.1 3 ((l ++ r.2.2.map encM) ++ q.2.2.map encM) mo) 34 [(0, .ref (B + 51))] []
          refine a_aload_n hb dX12_some_34 rfl 0 rfl ?_
          refine a_bipush (v := (-3)) hb dX12_some_35 (by decide) ?_
          refine a_callV hb dX12_some_37 (by rw [hg]; exact m_emits g h B hL a n ha hac he hn H hH q.2.1 3 q.1 ((l ++ r.2.2.map encM) ++ q.2.2.map encM) mo q2 (-3) (Nat.lt_of_le_of_lt (Nat.le_trans q1 (Nat.le_trans q2 hn)) (by decide))) (by rw [ow]; exact clv_RX12_97) ((LY.mp hL : LY (mpH h B a q.2.1 q.1 3 ((l ++ r.2.2.map encM) ++ q.2.2.map encM) mo) B).1 51 (by decide)) (by decide) rfl rfl rfl (Nat.le_of_ble_eq_true rfl) (by rw [hr]; exact ⟨by decide, by decide⟩) (by rw [hr]; exact ⟨Nat.le_of_ble_eq_true rfl, Nat.le_of_ble_eq_true rfl⟩) ?_
          intro rv h' hp_
          rw [hp_.1, hp_.2]
          show AW V 0 0 (mpH h B a q.2.1 q.1 3 (emL q.1 ((l ++ r.2.2.map encM) ++ q.2.2.map encM) (-3)) mo) 40 [(0, .ref (B + 51))] []
          refine a_goto hb 4 dX12_some_40 (by decide) ?_
          refine AW.eq (ih (q.1, q.2.1, r.2.2 ++ q.2.2 ++ if q.1 = true then [] else [(3, 0, 0, 0)]) q2 ?_ ?_ hq.symm) (seq_h enc_3) rfl rfl rfl
          · show (l ++ List.map encM (r.2.2 ++ q.2.2 ++ if q.1 = true then [] else [(3, 0, 0, 0)])).length ≤ q.2.1
            rw [List.length_append, List.length_map] at h2 ⊢
            rw [List.length_append, List.length_append]
            split <;> simp only [List.length_cons, List.length_nil] <;> omega
          · show n ≤ q.2.1 + k
            omega
  refine a_aload_n hb dX12_some_0 rfl 0 rfl ?_
  refine a_callV hb dX12_some_1 (by rw [hg]; exact m_ev2 g h B hL a n ha hac he hn H hH p l mo hp hll) (by rw [ow]; exact clv_RX12_114) ((LY.mp hL : LY (mpH h B a p false 3 l mo) B).1 51 (by decide)) (by decide) rfl rfl rfl (Nat.le_of_ble_eq_true rfl) (by rw [hr]; exact ⟨by decide, by decide⟩) (by rw [hr]; exact ⟨Nat.le_of_ble_eq_true rfl, Nat.le_of_ble_eq_true rfl⟩) ?_
  intro rv h' hp_
  rw [hp_.1, hp_.2]
  clear hp_ rv h'
  have gd1_ := pVgH hH 2 p
  generalize eQ1 : (pV (pF H 2) H p) = q1_ at gd1_ ⊢
  show AW V 0 0 (mpG h B a 3 l mo q1_) 4 [(0, .ref (B + 51))] []
  show AW V 0 0 (mpH h B a q1_.2.1 q1_.1 3 (l ++ q1_.2.2.map encM) mo) 4 [(0, .ref (B + 51))] []
  exact loop 120 q1_ (gd1_.2 hp) (gdl gd1_ hll) (by have z : n ≤ 120 := hn; clear hz loop; omega) ((pE_d eQ1).trans hR)
set_option maxRecDepth 100000 in
theorem m_fac3 (g : GG) (h : AH) (B : Nat) (hL : LY h B) (a n : Nat) (ha : a < 5) (hac : hI h (B + 51) 4 = nI a) (he : hI h (B + 51) 6 = nI n) (hn : n ≤ 120) (H : Nat → Int32) (hH : H = hrT (fun i => hI h (B + 52) (10 + i)) n) (p : Nat) (l : List Int32) (mo : Int32) (hp : p ≤ n) (hll : l.length ≤ p) : AM g 15 0 0 mX12_factor [.ref (B + 51)] (mpH h B a p false 2 l mo) (fun rv h' => rv = none ∧ h' = mpG h B a 2 l mo (pF H 3 p)) := by
  refine AM.of [(0, .ref (B + 51))] (by decide) (Nat.le_of_ble_eq_true rfl) rfl ?_
  intro V hV
  have hb : V.2.1.2.1 = cX12_factor := by subst hV; rfl
  have ow : V.2.1.1.cls = RX12 := by subst hV; rfl
  have hr : V.2.2.1 = aw_rm 15 0 0 := by subst hV; rfl
  have hz : V.2.2.2 = aw_Z V.1 (fun rv h' => rv = none ∧ h' = mpG h B a 2 l mo (pF H 3 p)) V.2.2.1 := by subst hV; rfl
  have hg : V.1 = g := by subst hV; rfl
  have hret : V.2.1.2.2.2 = none := by subst hV; rfl
  have hml : V.2.1.2.2.1 = 5 := by subst hV; rfl
  clear hV
  refine a_aload_n hb dX12_factor_0 rfl 0 rfl ?_
  refine a_getI hb dX12_factor_1 (by rw [ow]; exact fl_RX12_67_12) ((LY.mp hL : LY (mpH h B a p false 2 l mo) B).1 51 (by decide)) ?_
  rw [mp_f7]
  show AW V 0 0 (mpH h B a p false 2 l mo) 4 [(0, .ref (B + 51))] [.int 0]
  refine a_if_eq hb 8 dX12_factor_4 (by decide) (fun c4 => ?_) (fun c4 => absurd (by decide) c4)
  refine a_aload_n hb dX12_factor_8 rfl 0 rfl ?_
  refine a_callV hb dX12_factor_9 (by rw [hg]; exact m_here g h B hL a n ha hac he hn H hH p 2 false l mo hp) (by rw [ow]; exact clv_RX12_71) ((LY.mp hL : LY (mpH h B a p false 2 l mo) B).1 51 (by decide)) (by decide) rfl rfl rfl (Nat.le_of_ble_eq_true rfl) (by rw [hr]; exact ⟨by decide, by decide⟩) (by rw [hr]; exact ⟨Nat.le_of_ble_eq_true rfl, Nat.le_of_ble_eq_true rfl⟩) ?_
  intro rv h' hp_
  rw [hp_.1, hp_.2]
  show AW V 0 0 (mpH h B a p false 2 l mo) 12 [(0, .ref (B + 51))] [.int (H p)]
  refine a_istore_n (L' := [(1, .int (H p)), (0, .ref (B + 51))]) hb dX12_factor_12 rfl (by rw [hml]; decide) rfl ?_
  refine a_iload_n hb dX12_factor_13 rfl 0 rfl ?_
  refine a_bipush (v := 33) hb dX12_factor_14 (by decide) ?_
  refine a_icmp_eq hb 25 dX12_factor_16 (by decide) (fun c16 => ?_) (fun c16 => ?_)
  · have pl : p < n := by rw [hH] at c16; exact hrT_n (by decide) c16
    refine a_aload_n hb dX12_factor_25 rfl 1 rfl ?_
    refine a_aload_n hb dX12_factor_26 rfl 1 rfl ?_
    refine a_getI hb dX12_factor_27 (by rw [ow]; exact fl_RX12_91_12) ((LY.mp hL : LY (mpH h B a p false 2 l mo) B).1 51 (by decide)) ?_
    rw [mp_f8]
    show AW V 0 0 (mpH h B a p false 2 l mo) 30 [(1, .int (H p)), (0, .ref (B + 51))] [.int 2, .ref (B + 51)]
    refine a_iconst (v := 5) hb dX12_factor_30 (by decide) ?_
    refine a_icmp_ne hb 38 dX12_factor_31 (by decide) (fun c31 => ?_) (fun c31 => absurd c31 (by decide))
    refine a_iconst (v := 0) hb dX12_factor_38 (by decide) ?_
    refine a_putI (fty := .boolean) hb dX12_factor_39 (by rw [ow]; exact fp_RX12_67_12) (Or.inr (fun C T N hq => by cases hq; rfl)) ((LY.mp hL : LY (mpH h B a p false 2 l mo) B).1 51 (by decide)) rfl rfl ?_
    rw [mp_7 (q := false) (v := 0) rfl]
    show AW V 0 0 (mpH h B a p false 2 l mo) 42 [(1, .int (H p)), (0, .ref (B + 51))] []
    refine a_aload_n hb dX12_factor_42 rfl 1 rfl ?_
    refine a_dup hb dX12_factor_43 rfl ?_
    refine a_getI hb dX12_factor_44 (by rw [ow]; exact fl_RX12_91_12) ((LY.mp hL : LY (mpH h B a p false 2 l mo) B).1 51 (by decide)) ?_
    rw [mp_f8]
    show AW V 0 0 (mpH h B a p false 2 l mo) 47 [(1, .int (H p)), (0, .ref (B + 51))] [.int 2, .ref (B + 51)]
    refine a_iconst (v := 1) hb dX12_factor_47 (by decide) ?_
    refine a_iadd hb dX12_factor_48 ?_
    refine a_putI (fty := .int) hb dX12_factor_49 (by rw [ow]; exact fp_RX12_91_12) (Or.inr (fun C T N hq => by cases hq; rfl)) ((LY.mp hL : LY (mpH h B a p false 2 l mo) B).1 51 (by decide)) rfl rfl ?_
    rw [mp_8 (q := 3) (by decide)]
    show AW V 0 0 (mpH h B a p false 3 l mo) 52 [(1, .int (H p)), (0, .ref (B + 51))] []
    refine a_aload_n hb dX12_factor_52 rfl 1 rfl ?_
    refine a_dup hb dX12_factor_53 rfl ?_
    refine a_getI hb dX12_factor_54 (by rw [ow]; exact fl_RX12_61_12) ((LY.mp hL : LY (mpH h B a p false 3 l mo) B).1 51 (by decide)) ?_
    rw [mp_f5]
    show AW V 0 0 (mpH h B a p false 3 l mo) 57 [(1, .int (H p)), (0, .ref (B + 51))] [.int (nI p), .ref (B + 51)]
    refine a_aload_n hb dX12_factor_57 rfl 1 rfl ?_
    refine a_getI hb dX12_factor_58 (by rw [ow]; exact fl_RX12_67_12) ((LY.mp hL : LY (mpH h B a p false 3 l mo) B).1 51 (by decide)) ?_
    rw [mp_f7]
    show AW V 0 0 (mpH h B a p false 3 l mo) 61 [(1, .int (H p)), (0, .ref (B + 51))] [.int 0, .int (nI p), .ref (B + 51)]
    refine a_if_eq hb 68 dX12_factor_61 (by decide) (fun c61 => ?_) (fun c61 => absurd (by decide) c61)
    refine a_iconst (v := 1) hb dX12_factor_68 (by decide) ?_
    refine a_iadd hb dX12_factor_69 ?_
    refine a_putI (fty := .int) hb dX12_factor_70 (by rw [ow]; exact fp_RX12_61_12) (Or.inr (fun C T N hq => by cases hq; rfl)) ((LY.mp hL : LY (mpH h B a p false 3 l mo) B).1 51 (by decide)) rfl rfl ?_
    rw [mp_5 (q := (p + 1)) (by rw [nI_1])]
    show AW V 0 0 (mpH h B a (p + 1) false 3 l mo) 73 [(1, .int (H p)), (0, .ref (B + 51))] []
    refine a_iload_n hb dX12_factor_73 rfl 0 rfl ?_
    refine a_bipush (v := 33) hb dX12_factor_74 (by decide) ?_
    refine a_icmp_ne hb 91 dX12_factor_76 (by decide) (fun c76 => absurd c76 (not_not_intro c16)) (fun c76 => ?_)
    refine a_aload_n hb dX12_factor_79 rfl 1 rfl ?_
    refine a_callV hb dX12_factor_80 (by rw [hg]; exact m_fac2 g h B hL a n ha hac he hn H hH (p + 1) l mo (by omega) (Nat.le_succ_of_le hll)) (by rw [ow]; exact clv_RX12_94) ((LY.mp hL : LY (mpH h B a (p + 1) false 3 l mo) B).1 51 (by decide)) (by decide) rfl rfl rfl (Nat.le_of_ble_eq_true rfl) (by rw [hr]; exact ⟨by decide, by decide⟩) (by rw [hr]; exact ⟨Nat.le_of_ble_eq_true rfl, Nat.le_of_ble_eq_true rfl⟩) ?_
    intro rv h' hp_
    rw [hp_.1, hp_.2]
    clear hp_ rv h'
    have gd1_ := pFgH hH 2 (p + 1)
    generalize eQ1 : (pF H 2 (p + 1)) = q1_ at gd1_ ⊢
    show AW V 0 0 (mpG h B a 3 l mo q1_) 83 [(1, .int (H p)), (0, .ref (B + 51))] []
    show AW V 0 0 (mpH h B a q1_.2.1 q1_.1 3 (l ++ q1_.2.2.map encM) mo) 83 [(1, .int (H p)), (0, .ref (B + 51))] []
    refine a_aload_n hb dX12_factor_83 rfl 1 rfl ?_
    refine a_iconst (v := (-1)) hb dX12_factor_84 (by decide) ?_
    refine a_callV hb dX12_factor_85 (by rw [hg]; exact m_emits g h B hL a n ha hac he hn H hH q1_.2.1 3 q1_.1 (l ++ q1_.2.2.map encM) mo (gd1_.2 (by omega)) (-1) (Nat.lt_of_le_of_lt (Nat.le_trans (gdl gd1_ (Nat.le_succ_of_le hll)) (Nat.le_trans (gd1_.2 (by omega)) hn)) (by decide))) (by rw [ow]; exact clv_RX12_97) ((LY.mp hL : LY (mpH h B a q1_.2.1 q1_.1 3 (l ++ q1_.2.2.map encM) mo) B).1 51 (by decide)) (by decide) rfl rfl rfl (Nat.le_of_ble_eq_true rfl) (by rw [hr]; exact ⟨by decide, by decide⟩) (by rw [hr]; exact ⟨Nat.le_of_ble_eq_true rfl, Nat.le_of_ble_eq_true rfl⟩) ?_
    intro rv h' hp_
    rw [hp_.1, hp_.2]
    show AW V 0 0 (mpH h B a q1_.2.1 q1_.1 3 (emL q1_.1 (l ++ q1_.2.2.map encM) (-1)) mo) 88 [(1, .int (H p)), (0, .ref (B + 51))] []
    refine a_goto hb 101 dX12_factor_88 (by decide) ?_
    refine a_aload_n hb dX12_factor_101 rfl 1 rfl ?_
    refine a_dup hb dX12_factor_102 rfl ?_
    refine a_getI hb dX12_factor_103 (by rw [ow]; exact fl_RX12_91_12) ((LY.mp hL : LY (mpH h B a q1_.2.1 q1_.1 3 (emL q1_.1 (l ++ q1_.2.2.map encM) (-1)) mo) B).1 51 (by decide)) ?_
    rw [mp_f8]
    show AW V 0 0 (mpH h B a q1_.2.1 q1_.1 3 (emL q1_.1 (l ++ q1_.2.2.map encM) (-1)) mo) 106 [(1, .int (H p)), (0, .ref (B + 51))] [.int 3, .ref (B + 51)]
    refine a_iconst (v := 1) hb dX12_factor_106 (by decide) ?_
    refine a_isub hb dX12_factor_107 ?_
    refine a_putI (fty := .int) hb dX12_factor_108 (by rw [ow]; exact fp_RX12_91_12) (Or.inr (fun C T N hq => by cases hq; rfl)) ((LY.mp hL : LY (mpH h B a q1_.2.1 q1_.1 3 (emL q1_.1 (l ++ q1_.2.2.map encM) (-1)) mo) B).1 51 (by decide)) rfl rfl ?_
    rw [mp_8 (q := 2) (by decide)]
    show AW V 0 0 (mpH h B a q1_.2.1 q1_.1 2 (emL q1_.1 (l ++ q1_.2.2.map encM) (-1)) mo) 111 [(1, .int (H p)), (0, .ref (B + 51))] []
    exact a_return hb hz dX12_factor_111 hret (by rw [hr]; exact Nat.le_of_ble_eq_true rfl) (by rw [hr]; exact Nat.le_of_ble_eq_true rfl) (⟨rfl, by subst eQ1; exact fac_n c16⟩)
  · refine a_iload_n hb dX12_factor_19 rfl 0 rfl ?_
    refine a_bipush (v := 40) hb dX12_factor_20 (by decide) ?_
    refine a_icmp_ne hb 112 dX12_factor_22 (by decide) (fun c22 => ?_) (fun c22 => ?_)
    · refine a_aload_n hb dX12_factor_112 rfl 1 rfl ?_
      refine a_ldcS (i := 0) hb dX12_factor_113 (by rw [ow]; exact List.mem_of_getElem? (i := 5) rfl) ?_
      refine a_callV hb dX12_factor_115 (by have z_ := m_among0 g h B hL a n ha hac he hn H hH p 2 false l mo hp; rw [← hg] at z_; exact z_) (by rw [ow]; exact clv_RX12_105) ((LY.mp hL : LY (mpH h B a p false 2 l mo) B).1 51 (by decide)) (by decide) rfl rfl rfl (Nat.le_of_ble_eq_true rfl) (by rw [hr]; exact ⟨by decide, by decide⟩) (by rw [hr]; exact ⟨Nat.le_of_ble_eq_true rfl, Nat.le_of_ble_eq_true rfl⟩) ?_
      intro rv h' hp_
      rw [hp_.1, hp_.2]
      by_cases t5 : ix5 (H p) = 5
      · rw [if_pos t5, if_pos t5]
        show AW V 0 0 (mpH h B a p false 2 l mo) 118 [(1, .int (H p)), (0, .ref (B + 51))] [.int (-1)]
        refine a_istore_n (L' := [(2, .int (-1)), (1, .int (H p)), (0, .ref (B + 51))]) hb dX12_factor_118 rfl (by rw [hml]; decide) rfl ?_
        refine a_aload_n hb dX12_factor_119 rfl 2 rfl ?_
        refine a_iload_n hb dX12_factor_120 rfl 0 rfl ?_
        refine a_iconst (v := (-1)) hb dX12_factor_121 (by decide) ?_
        refine a_icmp_ne hb 129 dX12_factor_122 (by decide) (fun c122 => absurd c122 (by decide)) (fun c122 => ?_)
        refine a_iconst (v := 1) hb dX12_factor_125 (by decide) ?_
        refine a_goto hb 130 dX12_factor_126 (by decide) ?_
        refine a_putI (fty := .boolean) hb dX12_factor_130 (by rw [ow]; exact fp_RX12_67_12) (Or.inr (fun C T N hq => by cases hq; rfl)) ((LY.mp hL : LY (mpH h B a p false 2 l mo) B).1 51 (by decide)) rfl rfl ?_
        rw [mp_7 (q := true) (v := 1) rfl]
        show AW V 0 0 (mpH h B a p true 2 l mo) 133 [(2, .int (-1)), (1, .int (H p)), (0, .ref (B + 51))] []
        refine a_aload_n hb dX12_factor_133 rfl 2 rfl ?_
        refine a_getI hb dX12_factor_134 (by rw [ow]; exact fl_RX12_67_12) ((LY.mp hL : LY (mpH h B a p true 2 l mo) B).1 51 (by decide)) ?_
        rw [mp_f7]
        show AW V 0 0 (mpH h B a p true 2 l mo) 137 [(2, .int (-1)), (1, .int (H p)), (0, .ref (B + 51))] [.int 1]
        refine a_if_eq hb 144 dX12_factor_137 (by decide) (fun c137 => absurd c137 (by decide)) (fun c137 => ?_)
        refine a_iconst (v := 0) hb dX12_factor_140 (by decide) ?_
        refine a_goto hb 150 dX12_factor_141 (by decide) ?_
        refine a_istore_n (L' := [(3, .int 0), (2, .int (-1)), (1, .int (H p)), (0, .ref (B + 51))]) hb dX12_factor_150 rfl (by rw [hml]; decide) rfl ?_
        refine a_aload_n hb dX12_factor_151 rfl 3 rfl ?_
        refine a_aload_n hb dX12_factor_152 rfl 3 rfl ?_
        refine a_getI hb dX12_factor_153 (by rw [ow]; exact fl_RX12_67_12) ((LY.mp hL : LY (mpH h B a p true 2 l mo) B).1 51 (by decide)) ?_
        rw [mp_f7]
        show AW V 0 0 (mpH h B a p true 2 l mo) 156 [(3, .int 0), (2, .int (-1)), (1, .int (H p)), (0, .ref (B + 51))] [.int 1, .ref (B + 51)]
        refine a_if_ne hb 164 dX12_factor_156 (by decide) (fun c156 => ?_) (fun c156 => absurd c156 (by decide))
        refine a_iconst (v := 1) hb dX12_factor_164 (by decide) ?_
        refine a_goto hb 169 dX12_factor_165 (by decide) ?_
        refine a_putI (fty := .boolean) hb dX12_factor_169 (by rw [ow]; exact fp_RX12_67_12) (Or.inr (fun C T N hq => by cases hq; rfl)) ((LY.mp hL : LY (mpH h B a p true 2 l mo) B).1 51 (by decide)) rfl rfl ?_
        rw [mp_7 (q := true) (v := 1) rfl]
        show AW V 0 0 (mpH h B a p true 2 l mo) 172 [(3, .int 0), (2, .int (-1)), (1, .int (H p)), (0, .ref (B + 51))] []
        refine a_aload_n hb dX12_factor_172 rfl 3 rfl ?_
        refine a_callV hb dX12_factor_173 (by rw [hg]; exact m_figures g h B hL a n ha hac he hn H hH p 2 true l mo hp) (by rw [ow]; exact clv_RX12_111) ((LY.mp hL : LY (mpH h B a p true 2 l mo) B).1 51 (by decide)) (by decide) rfl rfl rfl (Nat.le_of_ble_eq_true rfl) (by rw [hr]; exact ⟨by decide, by decide⟩) (by rw [hr]; exact ⟨Nat.le_of_ble_eq_true rfl, Nat.le_of_ble_eq_true rfl⟩) ?_
        intro rv h' hp_
        rw [hp_.1, hp_.2]
        show AW V 0 0 (mpH h B a p true 2 l mo) 176 [(3, .int 0), (2, .int (-1)), (1, .int (H p)), (0, .ref (B + 51))] [.int (nI 0)]
        refine a_istore (L' := [(4, .int (nI 0)), (3, .int 0), (2, .int (-1)), (1, .int (H p)), (0, .ref (B + 51))]) hb dX12_factor_176 (by rw [hml]; decide) rfl ?_
        refine a_aload_n hb dX12_factor_178 rfl 4 rfl ?_
        refine a_iload_n hb dX12_factor_179 rfl 2 rfl ?_
        refine a_bipush (v := 8) hb dX12_factor_180 (by decide) ?_
        refine a_iload_n hb dX12_factor_182 rfl 1 rfl ?_
        refine a_imul hb dX12_factor_183 ?_
        refine a_iadd hb dX12_factor_184 ?_
        refine a_bipush (v := 32) hb dX12_factor_185 (by decide) ?_
        refine a_iload hb dX12_factor_187 0 rfl ?_
        refine a_imul hb dX12_factor_189 ?_
        refine a_iadd hb dX12_factor_190 ?_
        refine a_callV hb dX12_factor_191 (by rw [hg]; exact m_emits g h B hL a n ha hac he hn H hH p 2 true l mo hp (((-1) + (8 * 0)) + (32 * (nI 0))) (Nat.lt_of_le_of_lt (Nat.le_trans hll (Nat.le_trans hp hn)) (by decide))) (by rw [ow]; exact clv_RX12_97) ((LY.mp hL : LY (mpH h B a p true 2 l mo) B).1 51 (by decide)) (by decide) rfl rfl rfl (Nat.le_of_ble_eq_true rfl) (by rw [hr]; exact ⟨by decide, by decide⟩) (by rw [hr]; exact ⟨Nat.le_of_ble_eq_true rfl, Nat.le_of_ble_eq_true rfl⟩) ?_
        intro rv h' hp_
        rw [hp_.1, hp_.2]
        show AW V 0 0 (mpH h B a p true 2 l mo) 194 [(4, .int (nI 0)), (3, .int 0), (2, .int (-1)), (1, .int (H p)), (0, .ref (B + 51))] []
        exact a_return hb hz dX12_factor_194 hret (by rw [hr]; exact Nat.le_of_ble_eq_true rfl) (by rw [hr]; exact Nat.le_of_ble_eq_true rfl) (⟨rfl, fac_5 c16 c22 t5⟩)
      rw [if_neg t5, if_neg t5]
      have ltt5 : p < n := by rw [hH] at t5; exact hrT_5 t5
      show AW V 0 0 (mpH h B a (p + 1) false 2 l mo) 118 [(1, .int (H p)), (0, .ref (B + 51))] [.int (nI (ix5 (H p)))]
      refine a_istore_n (L' := [(2, .int (nI (ix5 (H p)))), (1, .int (H p)), (0, .ref (B + 51))]) hb dX12_factor_118 rfl (by rw [hml]; decide) rfl ?_
      refine a_aload_n hb dX12_factor_119 rfl 2 rfl ?_
      refine a_iload_n hb dX12_factor_120 rfl 0 rfl ?_
      refine a_iconst (v := (-1)) hb dX12_factor_121 (by decide) ?_
      refine a_icmp_ne hb 129 dX12_factor_122 (by decide) (fun c122 => ?_) (fun c122 => absurd c122 ((nI_m1 ix5_le)))
      refine a_iconst (v := 0) hb dX12_factor_129 (by decide) ?_
      refine a_putI (fty := .boolean) hb dX12_factor_130 (by rw [ow]; exact fp_RX12_67_12) (Or.inr (fun C T N hq => by cases hq; rfl)) ((LY.mp hL : LY (mpH h B a (p + 1) false 2 l mo) B).1 51 (by decide)) rfl rfl ?_
      rw [mp_7 (q := false) (v := 0) rfl]
      show AW V 0 0 (mpH h B a (p + 1) false 2 l mo) 133 [(2, .int (nI (ix5 (H p)))), (1, .int (H p)), (0, .ref (B + 51))] []
      refine a_aload_n hb dX12_factor_133 rfl 2 rfl ?_
      refine a_getI hb dX12_factor_134 (by rw [ow]; exact fl_RX12_67_12) ((LY.mp hL : LY (mpH h B a (p + 1) false 2 l mo) B).1 51 (by decide)) ?_
      rw [mp_f7]
      show AW V 0 0 (mpH h B a (p + 1) false 2 l mo) 137 [(2, .int (nI (ix5 (H p)))), (1, .int (H p)), (0, .ref (B + 51))] [.int 0]
      refine a_if_eq hb 144 dX12_factor_137 (by decide) (fun c137 => ?_) (fun c137 => absurd (by decide) c137)
      refine a_aload_n hb dX12_factor_144 rfl 2 rfl ?_
      refine a_ldcS (i := 1) hb dX12_factor_145 (by rw [ow]; exact List.mem_of_getElem? (i := 6) rfl) ?_
      refine a_callV hb dX12_factor_147 (by have z_ := m_among1 g h B hL a n ha hac he hn H hH (p + 1) 2 false l mo (by omega); rw [← hg] at z_; exact z_) (by rw [ow]; exact clv_RX12_105) ((LY.mp hL : LY (mpH h B a (p + 1) false 2 l mo) B).1 51 (by decide)) (by decide) rfl rfl rfl (Nat.le_of_ble_eq_true rfl) (by rw [hr]; exact ⟨by decide, by decide⟩) (by rw [hr]; exact ⟨Nat.le_of_ble_eq_true rfl, Nat.le_of_ble_eq_true rfl⟩) ?_
      intro rv h' hp_
      rw [hp_.1, hp_.2]
      by_cases t3 : ix3 (H (p + 1)) = 3
      · rw [if_pos t3, if_pos t3]
        show AW V 0 0 (mpH h B a (p + 1) false 2 l mo) 150 [(2, .int (nI (ix5 (H p)))), (1, .int (H p)), (0, .ref (B + 51))] [.int (-1)]
        refine a_istore_n (L' := [(3, .int (-1)), (2, .int (nI (ix5 (H p)))), (1, .int (H p)), (0, .ref (B + 51))]) hb dX12_factor_150 rfl (by rw [hml]; decide) rfl ?_
        refine a_aload_n hb dX12_factor_151 rfl 3 rfl ?_
        refine a_aload_n hb dX12_factor_152 rfl 3 rfl ?_
        refine a_getI hb dX12_factor_153 (by rw [ow]; exact fl_RX12_67_12) ((LY.mp hL : LY (mpH h B a (p + 1) false 2 l mo) B).1 51 (by decide)) ?_
        rw [mp_f7]
        show AW V 0 0 (mpH h B a (p + 1) false 2 l mo) 156 [(3, .int (-1)), (2, .int (nI (ix5 (H p)))), (1, .int (H p)), (0, .ref (B + 51))] [.int 0, .ref (B + 51)]
        refine a_if_ne hb 164 dX12_factor_156 (by decide) (fun c156 => absurd c156 (by decide)) (fun c156 => ?_)
        refine a_iload_n hb dX12_factor_159 rfl 0 rfl ?_
        refine a_iconst (v := (-1)) hb dX12_factor_160 (by decide) ?_
        refine a_icmp_ne hb 168 dX12_factor_161 (by decide) (fun c161 => absurd c161 (by decide)) (fun c161 => ?_)
        refine a_iconst (v := 1) hb dX12_factor_164 (by decide) ?_
        refine a_goto hb 169 dX12_factor_165 (by decide) ?_
        refine a_putI (fty := .boolean) hb dX12_factor_169 (by rw [ow]; exact fp_RX12_67_12) (Or.inr (fun C T N hq => by cases hq; rfl)) ((LY.mp hL : LY (mpH h B a (p + 1) false 2 l mo) B).1 51 (by decide)) rfl rfl ?_
        rw [mp_7 (q := true) (v := 1) rfl]
        show AW V 0 0 (mpH h B a (p + 1) true 2 l mo) 172 [(3, .int (-1)), (2, .int (nI (ix5 (H p)))), (1, .int (H p)), (0, .ref (B + 51))] []
        refine a_aload_n hb dX12_factor_172 rfl 3 rfl ?_
        refine a_callV hb dX12_factor_173 (by rw [hg]; exact m_figures g h B hL a n ha hac he hn H hH (p + 1) 2 true l mo (by omega)) (by rw [ow]; exact clv_RX12_111) ((LY.mp hL : LY (mpH h B a (p + 1) true 2 l mo) B).1 51 (by decide)) (by decide) rfl rfl rfl (Nat.le_of_ble_eq_true rfl) (by rw [hr]; exact ⟨by decide, by decide⟩) (by rw [hr]; exact ⟨Nat.le_of_ble_eq_true rfl, Nat.le_of_ble_eq_true rfl⟩) ?_
        intro rv h' hp_
        rw [hp_.1, hp_.2]
        show AW V 0 0 (mpH h B a (p + 1) true 2 l mo) 176 [(3, .int (-1)), (2, .int (nI (ix5 (H p)))), (1, .int (H p)), (0, .ref (B + 51))] [.int (nI 0)]
        refine a_istore (L' := [(4, .int (nI 0)), (3, .int (-1)), (2, .int (nI (ix5 (H p)))), (1, .int (H p)), (0, .ref (B + 51))]) hb dX12_factor_176 (by rw [hml]; decide) rfl ?_
        refine a_aload_n hb dX12_factor_178 rfl 4 rfl ?_
        refine a_iload_n hb dX12_factor_179 rfl 2 rfl ?_
        refine a_bipush (v := 8) hb dX12_factor_180 (by decide) ?_
        refine a_iload_n hb dX12_factor_182 rfl 1 rfl ?_
        refine a_imul hb dX12_factor_183 ?_
        refine a_iadd hb dX12_factor_184 ?_
        refine a_bipush (v := 32) hb dX12_factor_185 (by decide) ?_
        refine a_iload hb dX12_factor_187 0 rfl ?_
        refine a_imul hb dX12_factor_189 ?_
        refine a_iadd hb dX12_factor_190 ?_
        refine a_callV hb dX12_factor_191 (by rw [hg]; exact m_emits g h B hL a n ha hac he hn H hH (p + 1) 2 true l mo (by omega) (((nI (ix5 (H p))) + (8 * (-1))) + (32 * (nI 0))) (Nat.lt_of_le_of_lt (Nat.le_trans hll (Nat.le_trans hp hn)) (by decide))) (by rw [ow]; exact clv_RX12_97) ((LY.mp hL : LY (mpH h B a (p + 1) true 2 l mo) B).1 51 (by decide)) (by decide) rfl rfl rfl (Nat.le_of_ble_eq_true rfl) (by rw [hr]; exact ⟨by decide, by decide⟩) (by rw [hr]; exact ⟨Nat.le_of_ble_eq_true rfl, Nat.le_of_ble_eq_true rfl⟩) ?_
        intro rv h' hp_
        rw [hp_.1, hp_.2]
        show AW V 0 0 (mpH h B a (p + 1) true 2 l mo) 194 [(4, .int (nI 0)), (3, .int (-1)), (2, .int (nI (ix5 (H p)))), (1, .int (H p)), (0, .ref (B + 51))] []
        exact a_return hb hz dX12_factor_194 hret (by rw [hr]; exact Nat.le_of_ble_eq_true rfl) (by rw [hr]; exact Nat.le_of_ble_eq_true rfl) (⟨rfl, fac_3 c16 c22 t5 t3⟩)
      rw [if_neg t3, if_neg t3]
      have ltt3 : (p + 1) < n := by rw [hH] at t3; exact hrT_3 t3
      show AW V 0 0 (mpH h B a (p + 2) false 2 l mo) 150 [(2, .int (nI (ix5 (H p)))), (1, .int (H p)), (0, .ref (B + 51))] [.int (nI (ix3 (H (p + 1))))]
      refine a_istore_n (L' := [(3, .int (nI (ix3 (H (p + 1))))), (2, .int (nI (ix5 (H p)))), (1, .int (H p)), (0, .ref (B + 51))]) hb dX12_factor_150 rfl (by rw [hml]; decide) rfl ?_
      refine a_aload_n hb dX12_factor_151 rfl 3 rfl ?_
      refine a_aload_n hb dX12_factor_152 rfl 3 rfl ?_
      refine a_getI hb dX12_factor_153 (by rw [ow]; exact fl_RX12_67_12) ((LY.mp hL : LY (mpH h B a (p + 2) false 2 l mo) B).1 51 (by decide)) ?_
      rw [mp_f7]
      show AW V 0 0 (mpH h B a (p + 2) false 2 l mo) 156 [(3, .int (nI (ix3 (H (p + 1))))), (2, .int (nI (ix5 (H p)))), (1, .int (H p)), (0, .ref (B + 51))] [.int 0, .ref (B + 51)]
      refine a_if_ne hb 164 dX12_factor_156 (by decide) (fun c156 => absurd c156 (by decide)) (fun c156 => ?_)
      refine a_iload_n hb dX12_factor_159 rfl 0 rfl ?_
      refine a_iconst (v := (-1)) hb dX12_factor_160 (by decide) ?_
      refine a_icmp_ne hb 168 dX12_factor_161 (by decide) (fun c161 => ?_) (fun c161 => absurd c161 ((nI_m1 (Nat.le_trans ix3_le (by decide)))))
      refine a_iconst (v := 0) hb dX12_factor_168 (by decide) ?_
      refine a_putI (fty := .boolean) hb dX12_factor_169 (by rw [ow]; exact fp_RX12_67_12) (Or.inr (fun C T N hq => by cases hq; rfl)) ((LY.mp hL : LY (mpH h B a (p + 2) false 2 l mo) B).1 51 (by decide)) rfl rfl ?_
      rw [mp_7 (q := false) (v := 0) rfl]
      show AW V 0 0 (mpH h B a (p + 2) false 2 l mo) 172 [(3, .int (nI (ix3 (H (p + 1))))), (2, .int (nI (ix5 (H p)))), (1, .int (H p)), (0, .ref (B + 51))] []
      refine a_aload_n hb dX12_factor_172 rfl 3 rfl ?_
      refine a_callV hb dX12_factor_173 (by rw [hg]; exact m_figures g h B hL a n ha hac he hn H hH (p + 2) 2 false l mo (by omega)) (by rw [ow]; exact clv_RX12_111) ((LY.mp hL : LY (mpH h B a (p + 2) false 2 l mo) B).1 51 (by decide)) (by decide) rfl rfl rfl (Nat.le_of_ble_eq_true rfl) (by rw [hr]; exact ⟨by decide, by decide⟩) (by rw [hr]; exact ⟨Nat.le_of_ble_eq_true rfl, Nat.le_of_ble_eq_true rfl⟩) ?_
      intro rv h' hp_
      rw [hp_.1, hp_.2]
      show AW V 0 0 (mpH h B a ((fgP H false (p + 2)).2.1) ((fgP H false (p + 2)).1) 2 l mo) 176 [(3, .int (nI (ix3 (H (p + 1))))), (2, .int (nI (ix5 (H p)))), (1, .int (H p)), (0, .ref (B + 51))] [.int (nI (fgP H false (p + 2)).2.2)]
      refine a_istore (L' := [(4, .int (nI (fgP H false (p + 2)).2.2)), (3, .int (nI (ix3 (H (p + 1))))), (2, .int (nI (ix5 (H p)))), (1, .int (H p)), (0, .ref (B + 51))]) hb dX12_factor_176 (by rw [hml]; decide) rfl ?_
      refine a_aload_n hb dX12_factor_178 rfl 4 rfl ?_
      refine a_iload_n hb dX12_factor_179 rfl 2 rfl ?_
      refine a_bipush (v := 8) hb dX12_factor_180 (by decide) ?_
      refine a_iload_n hb dX12_factor_182 rfl 1 rfl ?_
      refine a_imul hb dX12_factor_183 ?_
      refine a_iadd hb dX12_factor_184 ?_
      refine a_bipush (v := 32) hb dX12_factor_185 (by decide) ?_
      refine a_iload hb dX12_factor_187 0 rfl ?_
      refine a_imul hb dX12_factor_189 ?_
      refine a_iadd hb dX12_factor_190 ?_
      refine a_callV hb dX12_factor_191 (by rw [hg]; exact m_emits g h B hL a n ha hac he hn H hH ((fgP H false (p + 2)).2.1) 2 ((fgP H false (p + 2)).1) l mo (fgG hH (w := false) (by omega)) (((nI (ix5 (H p))) + (8 * (nI (ix3 (H (p + 1)))))) + (32 * (nI (fgP H false (p + 2)).2.2))) (Nat.lt_of_le_of_lt (Nat.le_trans hll (Nat.le_trans hp hn)) (by decide))) (by rw [ow]; exact clv_RX12_97) ((LY.mp hL : LY (mpH h B a ((fgP H false (p + 2)).2.1) ((fgP H false (p + 2)).1) 2 l mo) B).1 51 (by decide)) (by decide) rfl rfl rfl (Nat.le_of_ble_eq_true rfl) (by rw [hr]; exact ⟨by decide, by decide⟩) (by rw [hr]; exact ⟨Nat.le_of_ble_eq_true rfl, Nat.le_of_ble_eq_true rfl⟩) ?_
      intro rv h' hp_
      rw [hp_.1, hp_.2]
      show AW V 0 0 (mpH h B a ((fgP H false (p + 2)).2.1) ((fgP H false (p + 2)).1) 2 (emL ((fgP H false (p + 2)).1) l (((nI (ix5 (H p))) + (8 * (nI (ix3 (H (p + 1)))))) + (32 * (nI (fgP H false (p + 2)).2.2)))) mo) 194 [(4, .int (nI (fgP H false (p + 2)).2.2)), (3, .int (nI (ix3 (H (p + 1))))), (2, .int (nI (ix5 (H p)))), (1, .int (H p)), (0, .ref (B + 51))] []
      exact a_return hb hz dX12_factor_194 hret (by rw [hr]; exact Nat.le_of_ble_eq_true rfl) (by rw [hr]; exact Nat.le_of_ble_eq_true rfl) (⟨rfl, fac_t c16 c22 t5 t3⟩)
    · have pl : p < n := by rw [hH] at c22; exact hrT_n (by decide) c22
      refine a_aload_n hb dX12_factor_25 rfl 1 rfl ?_
      refine a_aload_n hb dX12_factor_26 rfl 1 rfl ?_
      refine a_getI hb dX12_factor_27 (by rw [ow]; exact fl_RX12_91_12) ((LY.mp hL : LY (mpH h B a p false 2 l mo) B).1 51 (by decide)) ?_
      rw [mp_f8]
      show AW V 0 0 (mpH h B a p false 2 l mo) 30 [(1, .int (H p)), (0, .ref (B + 51))] [.int 2, .ref (B + 51)]
      refine a_iconst (v := 5) hb dX12_factor_30 (by decide) ?_
      refine a_icmp_ne hb 38 dX12_factor_31 (by decide) (fun c31 => ?_) (fun c31 => absurd c31 (by decide))
      refine a_iconst (v := 0) hb dX12_factor_38 (by decide) ?_
      refine a_putI (fty := .boolean) hb dX12_factor_39 (by rw [ow]; exact fp_RX12_67_12) (Or.inr (fun C T N hq => by cases hq; rfl)) ((LY.mp hL : LY (mpH h B a p false 2 l mo) B).1 51 (by decide)) rfl rfl ?_
      rw [mp_7 (q := false) (v := 0) rfl]
      show AW V 0 0 (mpH h B a p false 2 l mo) 42 [(1, .int (H p)), (0, .ref (B + 51))] []
      refine a_aload_n hb dX12_factor_42 rfl 1 rfl ?_
      refine a_dup hb dX12_factor_43 rfl ?_
      refine a_getI hb dX12_factor_44 (by rw [ow]; exact fl_RX12_91_12) ((LY.mp hL : LY (mpH h B a p false 2 l mo) B).1 51 (by decide)) ?_
      rw [mp_f8]
      show AW V 0 0 (mpH h B a p false 2 l mo) 47 [(1, .int (H p)), (0, .ref (B + 51))] [.int 2, .ref (B + 51)]
      refine a_iconst (v := 1) hb dX12_factor_47 (by decide) ?_
      refine a_iadd hb dX12_factor_48 ?_
      refine a_putI (fty := .int) hb dX12_factor_49 (by rw [ow]; exact fp_RX12_91_12) (Or.inr (fun C T N hq => by cases hq; rfl)) ((LY.mp hL : LY (mpH h B a p false 2 l mo) B).1 51 (by decide)) rfl rfl ?_
      rw [mp_8 (q := 3) (by decide)]
      show AW V 0 0 (mpH h B a p false 3 l mo) 52 [(1, .int (H p)), (0, .ref (B + 51))] []
      refine a_aload_n hb dX12_factor_52 rfl 1 rfl ?_
      refine a_dup hb dX12_factor_53 rfl ?_
      refine a_getI hb dX12_factor_54 (by rw [ow]; exact fl_RX12_61_12) ((LY.mp hL : LY (mpH h B a p false 3 l mo) B).1 51 (by decide)) ?_
      rw [mp_f5]
      show AW V 0 0 (mpH h B a p false 3 l mo) 57 [(1, .int (H p)), (0, .ref (B + 51))] [.int (nI p), .ref (B + 51)]
      refine a_aload_n hb dX12_factor_57 rfl 1 rfl ?_
      refine a_getI hb dX12_factor_58 (by rw [ow]; exact fl_RX12_67_12) ((LY.mp hL : LY (mpH h B a p false 3 l mo) B).1 51 (by decide)) ?_
      rw [mp_f7]
      show AW V 0 0 (mpH h B a p false 3 l mo) 61 [(1, .int (H p)), (0, .ref (B + 51))] [.int 0, .int (nI p), .ref (B + 51)]
      refine a_if_eq hb 68 dX12_factor_61 (by decide) (fun c61 => ?_) (fun c61 => absurd (by decide) c61)
      refine a_iconst (v := 1) hb dX12_factor_68 (by decide) ?_
      refine a_iadd hb dX12_factor_69 ?_
      refine a_putI (fty := .int) hb dX12_factor_70 (by rw [ow]; exact fp_RX12_61_12) (Or.inr (fun C T N hq => by cases hq; rfl)) ((LY.mp hL : LY (mpH h B a p false 3 l mo) B).1 51 (by decide)) rfl rfl ?_
      rw [mp_5 (q := (p + 1)) (by rw [nI_1])]
      show AW V 0 0 (mpH h B a (p + 1) false 3 l mo) 73 [(1, .int (H p)), (0, .ref (B + 51))] []
      refine a_iload_n hb dX12_factor_73 rfl 0 rfl ?_
      refine a_bipush (v := 33) hb dX12_factor_74 (by decide) ?_
      refine a_icmp_ne hb 91 dX12_factor_76 (by decide) (fun c76 => ?_) (fun c76 => absurd c76 (c16))
      refine a_aload_n hb dX12_factor_91 rfl 1 rfl ?_
      refine a_callV hb dX12_factor_92 (by rw [hg]; exact m_so2 g h B hL a n ha hac he hn H hH (p + 1) l mo (by omega) (Nat.le_succ_of_le hll)) (by rw [ow]; exact clv_RX12_100) ((LY.mp hL : LY (mpH h B a (p + 1) false 3 l mo) B).1 51 (by decide)) (by decide) rfl rfl rfl (Nat.le_of_ble_eq_true rfl) (by rw [hr]; exact ⟨by decide, by decide⟩) (by rw [hr]; exact ⟨Nat.le_of_ble_eq_true rfl, Nat.le_of_ble_eq_true rfl⟩) ?_
      intro rv h' hp_
      rw [hp_.1, hp_.2]
      clear hp_ rv h'
      have gd2_ := pEgH hH 2 (p + 1)
      generalize eQ2 : (pE (pF H 2) H (p + 1)) = q2_ at gd2_ ⊢
      show AW V 0 0 (mpG h B a 3 l mo q2_) 95 [(1, .int (H p)), (0, .ref (B + 51))] []
      show AW V 0 0 (mpH h B a q2_.2.1 q2_.1 3 (l ++ q2_.2.2.map encM) mo) 95 [(1, .int (H p)), (0, .ref (B + 51))] []
      refine a_aload_n hb dX12_factor_95 rfl 1 rfl ?_
      refine a_bipush (v := 41) hb dX12_factor_96 (by decide) ?_
      refine a_callV hb dX12_factor_98 (by rw [hg]; exact m_must g h B hL a n ha hac he hn H hH q2_.2.1 3 q2_.1 (l ++ q2_.2.2.map encM) mo (gd2_.2 (by omega)) 41) (by rw [ow]; exact clv_RX12_84) ((LY.mp hL : LY (mpH h B a q2_.2.1 q2_.1 3 (l ++ q2_.2.2.map encM) mo) B).1 51 (by decide)) (by decide) rfl rfl rfl (Nat.le_of_ble_eq_true rfl) (by rw [hr]; exact ⟨by decide, by decide⟩) (by rw [hr]; exact ⟨Nat.le_of_ble_eq_true rfl, Nat.le_of_ble_eq_true rfl⟩) ?_
      intro rv h' hp_
      rw [hp_.1, hp_.2]
      show AW V 0 0 (mpH h B a ((muP H 41 q2_.1 q2_.2.1).2) ((muP H 41 q2_.1 q2_.2.1).1) 3 (l ++ q2_.2.2.map encM) mo) 101 [(1, .int (H p)), (0, .ref (B + 51))] []
      refine a_aload_n hb dX12_factor_101 rfl 1 rfl ?_
      refine a_dup hb dX12_factor_102 rfl ?_
      refine a_getI hb dX12_factor_103 (by rw [ow]; exact fl_RX12_91_12) ((LY.mp hL : LY (mpH h B a ((muP H 41 q2_.1 q2_.2.1).2) ((muP H 41 q2_.1 q2_.2.1).1) 3 (l ++ q2_.2.2.map encM) mo) B).1 51 (by decide)) ?_
      rw [mp_f8]
      show AW V 0 0 (mpH h B a ((muP H 41 q2_.1 q2_.2.1).2) ((muP H 41 q2_.1 q2_.2.1).1) 3 (l ++ q2_.2.2.map encM) mo) 106 [(1, .int (H p)), (0, .ref (B + 51))] [.int 3, .ref (B + 51)]
      refine a_iconst (v := 1) hb dX12_factor_106 (by decide) ?_
      refine a_isub hb dX12_factor_107 ?_
      refine a_putI (fty := .int) hb dX12_factor_108 (by rw [ow]; exact fp_RX12_91_12) (Or.inr (fun C T N hq => by cases hq; rfl)) ((LY.mp hL : LY (mpH h B a ((muP H 41 q2_.1 q2_.2.1).2) ((muP H 41 q2_.1 q2_.2.1).1) 3 (l ++ q2_.2.2.map encM) mo) B).1 51 (by decide)) rfl rfl ?_
      rw [mp_8 (q := 2) (by decide)]
      show AW V 0 0 (mpH h B a ((muP H 41 q2_.1 q2_.2.1).2) ((muP H 41 q2_.1 q2_.2.1).1) 2 (l ++ q2_.2.2.map encM) mo) 111 [(1, .int (H p)), (0, .ref (B + 51))] []
      exact a_return hb hz dX12_factor_111 hret (by rw [hr]; exact Nat.le_of_ble_eq_true rfl) (by rw [hr]; exact Nat.le_of_ble_eq_true rfl) (⟨rfl, by subst eQ2; exact fac_p c16 c22⟩)
set_option maxRecDepth 100000 in
theorem m_ev3 (g : GG) (h : AH) (B : Nat) (hL : LY h B) (a n : Nat) (ha : a < 5) (hac : hI h (B + 51) 4 = nI a) (he : hI h (B + 51) 6 = nI n) (hn : n ≤ 120) (H : Nat → Int32) (hH : H = hrT (fun i => hI h (B + 52) (10 + i)) n) (p : Nat) (l : List Int32) (mo : Int32) (hp : p ≤ n) (hll : l.length ≤ p) : AM g 16 0 0 mX12_every [.ref (B + 51)] (mpH h B a p false 2 l mo) (fun rv h' => rv = none ∧ h' = mpG h B a 2 l mo (pV (pF H 3) H p)) := by
  refine AM.of [(0, .ref (B + 51))] (by decide) (Nat.le_of_ble_eq_true rfl) rfl ?_
  intro V hV
  have hb : V.2.1.2.1 = cX12_every := by subst hV; rfl
  have ow : V.2.1.1.cls = RX12 := by subst hV; rfl
  have hr : V.2.2.1 = aw_rm 16 0 0 := by subst hV; rfl
  have hz : V.2.2.2 = aw_Z V.1 (fun rv h' => rv = none ∧ h' = mpG h B a 2 l mo (pV (pF H 3) H p)) V.2.2.1 := by subst hV; rfl
  have hg : V.1 = g := by subst hV; rfl
  have hret : V.2.1.2.2.2 = none := by subst hV; rfl
  have hml : V.2.1.2.2.1 = 1 := by subst hV; rfl
  clear hV
  generalize hR : pV (pF H 3) H p = R at hz
  have loop : ∀ (k : Nat) (r : PR), r.2.1 ≤ n → (l ++ r.2.2.map encM).length ≤ r.2.1 → n ≤ r.2.1 + k → lpR (pF H 3) H 38 (2, 0, 0, 0) k r = R → AW V 0 0 (mpG h B a 2 l mo r) 4 [(0, .ref (B + 51))] [] := by
    intro k
    induction k with
    | zero =>
      intro r h1 h2 h3 h4
      show AW V 0 0 (mpH h B a r.2.1 r.1 2 (l ++ r.2.2.map encM) mo) 4 [(0, .ref (B + 51))] []
      refine a_aload_n hb dX12_every_4 rfl 0 rfl ?_
      refine a_getI hb dX12_every_5 (by rw [ow]; exact fl_RX12_67_12) ((LY.mp hL : LY (mpH h B a r.2.1 r.1 2 (l ++ r.2.2.map encM) mo) B).1 51 (by decide)) ?_
      rw [mp_f7]
      show AW V 0 0 (mpH h B a r.2.1 r.1 2 (l ++ r.2.2.map encM) mo) 8 [(0, .ref (B + 51))] [.int (b2i r.1)]
      refine a_if_ne hb 43 dX12_every_8 (by decide) (fun c8 => ?_) (fun c8 => ?_)
      · simp [b2i_0] at c8
        exact a_return hb hz dX12_every_43 hret (by rw [hr]; exact Nat.le_of_ble_eq_true rfl) (by rw [hr]; exact Nat.le_of_ble_eq_true rfl) (⟨rfl, mpG_e ((lpR_w c8).symm.trans h4)⟩)
      · simp [b2i_0] at c8
        refine a_aload_n hb dX12_every_11 rfl 0 rfl ?_
        refine a_callV hb dX12_every_12 (by rw [hg]; exact m_here g h B hL a n ha hac he hn H hH r.2.1 2 r.1 (l ++ r.2.2.map encM) mo h1) (by rw [ow]; exact clv_RX12_71) ((LY.mp hL : LY (mpH h B a r.2.1 r.1 2 (l ++ r.2.2.map encM) mo) B).1 51 (by decide)) (by decide) rfl rfl rfl (Nat.le_of_ble_eq_true rfl) (by rw [hr]; exact ⟨by decide, by decide⟩) (by rw [hr]; exact ⟨Nat.le_of_ble_eq_true rfl, Nat.le_of_ble_eq_true rfl⟩) ?_
        intro rv h' hp_
        rw [hp_.1, hp_.2]
        show AW V 0 0 (mpH h B a r.2.1 r.1 2 (l ++ r.2.2.map encM) mo) 15 [(0, .ref (B + 51))] [.int (H r.2.1)]
        refine a_bipush (v := 38) hb dX12_every_15 (by decide) ?_
        refine a_icmp_ne hb 43 dX12_every_17 (by decide) (fun c17 => ?_) (fun c17 => absurd c17 ((fun q => absurd (hrH hH q) (Nat.not_lt.mpr h3))))
        exact a_return hb hz dX12_every_43 hret (by rw [hr]; exact Nat.le_of_ble_eq_true rfl) (by rw [hr]; exact Nat.le_of_ble_eq_true rfl) (⟨rfl, mpG_e ((lpR_n c17).symm.trans h4)⟩)
    | succ k ih =>
      intro r h1 h2 h3 h4
      show AW V 0 0 (mpH h B a r.2.1 r.1 2 (l ++ r.2.2.map encM) mo) 4 [(0, .ref (B + 51))] []
      refine a_aload_n hb dX12_every_4 rfl 0 rfl ?_
      refine a_getI hb dX12_every_5 (by rw [ow]; exact fl_RX12_67_12) ((LY.mp hL : LY (mpH h B a r.2.1 r.1 2 (l ++ r.2.2.map encM) mo) B).1 51 (by decide)) ?_
      rw [mp_f7]
      show AW V 0 0 (mpH h B a r.2.1 r.1 2 (l ++ r.2.2.map encM) mo) 8 [(0, .ref (B + 51))] [.int (b2i r.1)]
      refine a_if_ne hb 43 dX12_every_8 (by decide) (fun c8 => ?_) (fun c8 => ?_)
      · simp [b2i_0] at c8
        exact a_return hb hz dX12_every_43 hret (by rw [hr]; exact Nat.le_of_ble_eq_true rfl) (by rw [hr]; exact Nat.le_of_ble_eq_true rfl) (⟨rfl, mpG_e ((lpR_w c8).symm.trans h4)⟩)
      · simp [b2i_0] at c8
        refine a_aload_n hb dX12_every_11 rfl 0 rfl ?_
        refine a_callV hb dX12_every_12 (by rw [hg]; exact m_here g h B hL a n ha hac he hn H hH r.2.1 2 r.1 (l ++ r.2.2.map encM) mo h1) (by rw [ow]; exact clv_RX12_71) ((LY.mp hL : LY (mpH h B a r.2.1 r.1 2 (l ++ r.2.2.map encM) mo) B).1 51 (by decide)) (by decide) rfl rfl rfl (Nat.le_of_ble_eq_true rfl) (by rw [hr]; exact ⟨by decide, by decide⟩) (by rw [hr]; exact ⟨Nat.le_of_ble_eq_true rfl, Nat.le_of_ble_eq_true rfl⟩) ?_
        intro rv h' hp_
        rw [hp_.1, hp_.2]
        show AW V 0 0 (mpH h B a r.2.1 r.1 2 (l ++ r.2.2.map encM) mo) 15 [(0, .ref (B + 51))] [.int (H r.2.1)]
        refine a_bipush (v := 38) hb dX12_every_15 (by decide) ?_
        refine a_icmp_ne hb 43 dX12_every_17 (by decide) (fun c17 => ?_) (fun c17 => ?_)
        · exact a_return hb hz dX12_every_43 hret (by rw [hr]; exact Nat.le_of_ble_eq_true rfl) (by rw [hr]; exact Nat.le_of_ble_eq_true rfl) (⟨rfl, mpG_e ((lpR_n c17).symm.trans h4)⟩)
        · have rl : r.2.1 < n := by rw [hH] at c17; exact hrT_n (by decide) c17
          rw [c8]
          show AW V 0 0 (mpH h B a r.2.1 false 2 (l ++ r.2.2.map encM) mo) 20 [(0, .ref (B + 51))] []
          refine a_aload_n hb dX12_every_20 rfl 0 rfl ?_
          refine a_dup hb dX12_every_21 rfl ?_
          refine a_getI hb dX12_every_22 (by rw [ow]; exact fl_RX12_61_12) ((LY.mp hL : LY (mpH h B a r.2.1 false 2 (l ++ r.2.2.map encM) mo) B).1 51 (by decide)) ?_
          rw [mp_f5]
          show AW V 0 0 (mpH h B a r.2.1 false 2 (l ++ r.2.2.map encM) mo) 25 [(0, .ref (B + 51))] [.int (nI r.2.1), .ref (B + 51)]
          refine a_iconst (v := 1) hb dX12_every_25 (by decide) ?_
          refine a_iadd hb dX12_every_26 ?_
          refine a_putI (fty := .int) hb dX12_every_27 (by rw [ow]; exact fp_RX12_61_12) (Or.inr (fun C T N hq => by cases hq; rfl)) ((LY.mp hL : LY (mpH h B a r.2.1 false 2 (l ++ r.2.2.map encM) mo) B).1 51 (by decide)) rfl rfl ?_
          rw [mp_5 (q := (r.2.1 + 1)) (by rw [nI_1])]
          show AW V 0 0 (mpH h B a (r.2.1 + 1) false 2 (l ++ r.2.2.map encM) mo) 30 [(0, .ref (B + 51))] []
          refine a_aload_n hb dX12_every_30 rfl 0 rfl ?_
          refine a_callV hb dX12_every_31 (by rw [hg]; exact m_fac3 g h B hL a n ha hac he hn H hH (r.2.1 + 1) (l ++ r.2.2.map encM) mo (by omega) (Nat.le_succ_of_le h2)) (by rw [ow]; exact clv_RX12_94) ((LY.mp hL : LY (mpH h B a (r.2.1 + 1) false 2 (l ++ r.2.2.map encM) mo) B).1 51 (by decide)) (by decide) rfl rfl rfl (Nat.le_of_ble_eq_true rfl) (by rw [hr]; exact ⟨by decide, by decide⟩) (by rw [hr]; exact ⟨Nat.le_of_ble_eq_true rfl, Nat.le_of_ble_eq_true rfl⟩) ?_
          intro rv h' hp_
          rw [hp_.1, hp_.2]
          clear hp_ rv h'
          have q1 := gdl (pFgH hH 3 (r.2.1 + 1)) (Nat.le_succ_of_le h2)
          have q2 := (pFgH hH 3 (r.2.1 + 1)).2 rl
          have gg := (pFgH hH 3 (r.2.1 + 1)).1
          have hq := @lpR_s (pF H 3) H 38 (2, 0, 0, 0) k r _ c8 c17 rfl
          rw [h4] at hq
          generalize pF H 3 (r.2.1 + 1) = q at *
          show AW V 0 0 (mpG h B a 2 (l ++ r.2.2.map encM) mo q) 34 [(0, .ref (B + 51))] []
          show AW V 0 0 (mpH h B a q.2.1 q.1 2 ((l ++ r.2.2.map encM) ++ q.2.2.map encM) mo) 34 [(0, .ref (B + 51))] []
          refine a_aload_n hb dX12_every_34 rfl 0 rfl ?_
          refine a_bipush (v := (-2)) hb dX12_every_35 (by decide) ?_
          refine a_callV hb dX12_every_37 (by rw [hg]; exact m_emits g h B hL a n ha hac he hn H hH q.2.1 2 q.1 ((l ++ r.2.2.map encM) ++ q.2.2.map encM) mo q2 (-2) (Nat.lt_of_le_of_lt (Nat.le_trans q1 (Nat.le_trans q2 hn)) (by decide))) (by rw [ow]; exact clv_RX12_97) ((LY.mp hL : LY (mpH h B a q.2.1 q.1 2 ((l ++ r.2.2.map encM) ++ q.2.2.map encM) mo) B).1 51 (by decide)) (by decide) rfl rfl rfl (Nat.le_of_ble_eq_true rfl) (by rw [hr]; exact ⟨by decide, by decide⟩) (by rw [hr]; exact ⟨Nat.le_of_ble_eq_true rfl, Nat.le_of_ble_eq_true rfl⟩) ?_
          intro rv h' hp_
          rw [hp_.1, hp_.2]
          show AW V 0 0 (mpH h B a q.2.1 q.1 2 (emL q.1 ((l ++ r.2.2.map encM) ++ q.2.2.map encM) (-2)) mo) 40 [(0, .ref (B + 51))] []
          refine a_goto hb 4 dX12_every_40 (by decide) ?_
          refine AW.eq (ih (q.1, q.2.1, r.2.2 ++ q.2.2 ++ if q.1 = true then [] else [(2, 0, 0, 0)]) q2 ?_ ?_ hq.symm) (seq_h enc_2) rfl rfl rfl
          · show (l ++ List.map encM (r.2.2 ++ q.2.2 ++ if q.1 = true then [] else [(2, 0, 0, 0)])).length ≤ q.2.1
            rw [List.length_append, List.length_map] at h2 ⊢
            rw [List.length_append, List.length_append]
            split <;> simp only [List.length_cons, List.length_nil] <;> omega
          · show n ≤ q.2.1 + k
            omega
  refine a_aload_n hb dX12_every_0 rfl 0 rfl ?_
  refine a_callV hb dX12_every_1 (by rw [hg]; exact m_fac3 g h B hL a n ha hac he hn H hH p l mo hp hll) (by rw [ow]; exact clv_RX12_94) ((LY.mp hL : LY (mpH h B a p false 2 l mo) B).1 51 (by decide)) (by decide) rfl rfl rfl (Nat.le_of_ble_eq_true rfl) (by rw [hr]; exact ⟨by decide, by decide⟩) (by rw [hr]; exact ⟨Nat.le_of_ble_eq_true rfl, Nat.le_of_ble_eq_true rfl⟩) ?_
  intro rv h' hp_
  rw [hp_.1, hp_.2]
  clear hp_ rv h'
  have gd1_ := pFgH hH 3 p
  generalize eQ1 : (pF H 3 p) = q1_ at gd1_ ⊢
  show AW V 0 0 (mpG h B a 2 l mo q1_) 4 [(0, .ref (B + 51))] []
  show AW V 0 0 (mpH h B a q1_.2.1 q1_.1 2 (l ++ q1_.2.2.map encM) mo) 4 [(0, .ref (B + 51))] []
  exact loop 120 q1_ (gd1_.2 hp) (gdl gd1_ hll) (by have z : n ≤ 120 := hn; clear hz loop; omega) ((pV_d eQ1).trans hR)
set_option maxRecDepth 100000 in
theorem m_so3 (g : GG) (h : AH) (B : Nat) (hL : LY h B) (a n : Nat) (ha : a < 5) (hac : hI h (B + 51) 4 = nI a) (he : hI h (B + 51) 6 = nI n) (hn : n ≤ 120) (H : Nat → Int32) (hH : H = hrT (fun i => hI h (B + 52) (10 + i)) n) (p : Nat) (l : List Int32) (mo : Int32) (hp : p ≤ n) (hll : l.length ≤ p) : AM g 17 0 0 mX12_some [.ref (B + 51)] (mpH h B a p false 2 l mo) (fun rv h' => rv = none ∧ h' = mpG h B a 2 l mo (pE (pF H 3) H p)) := by
  refine AM.of [(0, .ref (B + 51))] (by decide) (Nat.le_of_ble_eq_true rfl) rfl ?_
  intro V hV
  have hb : V.2.1.2.1 = cX12_some := by subst hV; rfl
  have ow : V.2.1.1.cls = RX12 := by subst hV; rfl
  have hr : V.2.2.1 = aw_rm 17 0 0 := by subst hV; rfl
  have hz : V.2.2.2 = aw_Z V.1 (fun rv h' => rv = none ∧ h' = mpG h B a 2 l mo (pE (pF H 3) H p)) V.2.2.1 := by subst hV; rfl
  have hg : V.1 = g := by subst hV; rfl
  have hret : V.2.1.2.2.2 = none := by subst hV; rfl
  have hml : V.2.1.2.2.1 = 1 := by subst hV; rfl
  clear hV
  generalize hR : pE (pF H 3) H p = R at hz
  have loop : ∀ (k : Nat) (r : PR), r.2.1 ≤ n → (l ++ r.2.2.map encM).length ≤ r.2.1 → n ≤ r.2.1 + k → lpR (pV (pF H 3) H) H 124 (3, 0, 0, 0) k r = R → AW V 0 0 (mpG h B a 2 l mo r) 4 [(0, .ref (B + 51))] [] := by
    intro k
    induction k with
    | zero =>
      intro r h1 h2 h3 h4
      show AW V 0 0 (mpH h B a r.2.1 r.1 2 (l ++ r.2.2.map encM) mo) 4 [(0, .ref (B + 51))] []
      refine a_aload_n hb dX12_some_4 rfl 0 rfl ?_
      refine a_getI hb dX12_some_5 (by rw [ow]; exact fl_RX12_67_12) ((LY.mp hL : LY (mpH h B a r.2.1 r.1 2 (l ++ r.2.2.map encM) mo) B).1 51 (by decide)) ?_
      rw [mp_f7]
      show AW V 0 0 (mpH h B a r.2.1 r.1 2 (l ++ r.2.2.map encM) mo) 8 [(0, .ref (B + 51))] [.int (b2i r.1)]
      refine a_if_ne hb 43 dX12_some_8 (by decide) (fun c8 => ?_) (fun c8 => ?_)
      · simp [b2i_0] at c8
        exact a_return hb hz dX12_some_43 hret (by rw [hr]; exact Nat.le_of_ble_eq_true rfl) (by rw [hr]; exact Nat.le_of_ble_eq_true rfl) (⟨rfl, mpG_e ((lpR_w c8).symm.trans h4)⟩)
      · simp [b2i_0] at c8
        refine a_aload_n hb dX12_some_11 rfl 0 rfl ?_
        refine a_callV hb dX12_some_12 (by rw [hg]; exact m_here g h B hL a n ha hac he hn H hH r.2.1 2 r.1 (l ++ r.2.2.map encM) mo h1) (by rw [ow]; exact clv_RX12_71) ((LY.mp hL : LY (mpH h B a r.2.1 r.1 2 (l ++ r.2.2.map encM) mo) B).1 51 (by decide)) (by decide) rfl rfl rfl (Nat.le_of_ble_eq_true rfl) (by rw [hr]; exact ⟨by decide, by decide⟩) (by rw [hr]; exact ⟨Nat.le_of_ble_eq_true rfl, Nat.le_of_ble_eq_true rfl⟩) ?_
        intro rv h' hp_
        rw [hp_.1, hp_.2]
        show AW V 0 0 (mpH h B a r.2.1 r.1 2 (l ++ r.2.2.map encM) mo) 15 [(0, .ref (B + 51))] [.int (H r.2.1)]
        refine a_bipush (v := 124) hb dX12_some_15 (by decide) ?_
        refine a_icmp_ne hb 43 dX12_some_17 (by decide) (fun c17 => ?_) (fun c17 => absurd c17 ((fun q => absurd (hrH hH q) (Nat.not_lt.mpr h3))))
        exact a_return hb hz dX12_some_43 hret (by rw [hr]; exact Nat.le_of_ble_eq_true rfl) (by rw [hr]; exact Nat.le_of_ble_eq_true rfl) (⟨rfl, mpG_e ((lpR_n c17).symm.trans h4)⟩)
    | succ k ih =>
      intro r h1 h2 h3 h4
      show AW V 0 0 (mpH h B a r.2.1 r.1 2 (l ++ r.2.2.map encM) mo) 4 [(0, .ref (B + 51))] []
      refine a_aload_n hb dX12_some_4 rfl 0 rfl ?_
      refine a_getI hb dX12_some_5 (by rw [ow]; exact fl_RX12_67_12) ((LY.mp hL : LY (mpH h B a r.2.1 r.1 2 (l ++ r.2.2.map encM) mo) B).1 51 (by decide)) ?_
      rw [mp_f7]
      show AW V 0 0 (mpH h B a r.2.1 r.1 2 (l ++ r.2.2.map encM) mo) 8 [(0, .ref (B + 51))] [.int (b2i r.1)]
      refine a_if_ne hb 43 dX12_some_8 (by decide) (fun c8 => ?_) (fun c8 => ?_)
      · simp [b2i_0] at c8
        exact a_return hb hz dX12_some_43 hret (by rw [hr]; exact Nat.le_of_ble_eq_true rfl) (by rw [hr]; exact Nat.le_of_ble_eq_true rfl) (⟨rfl, mpG_e ((lpR_w c8).symm.trans h4)⟩)
      · simp [b2i_0] at c8
        refine a_aload_n hb dX12_some_11 rfl 0 rfl ?_
        refine a_callV hb dX12_some_12 (by rw [hg]; exact m_here g h B hL a n ha hac he hn H hH r.2.1 2 r.1 (l ++ r.2.2.map encM) mo h1) (by rw [ow]; exact clv_RX12_71) ((LY.mp hL : LY (mpH h B a r.2.1 r.1 2 (l ++ r.2.2.map encM) mo) B).1 51 (by decide)) (by decide) rfl rfl rfl (Nat.le_of_ble_eq_true rfl) (by rw [hr]; exact ⟨by decide, by decide⟩) (by rw [hr]; exact ⟨Nat.le_of_ble_eq_true rfl, Nat.le_of_ble_eq_true rfl⟩) ?_
        intro rv h' hp_
        rw [hp_.1, hp_.2]
        show AW V 0 0 (mpH h B a r.2.1 r.1 2 (l ++ r.2.2.map encM) mo) 15 [(0, .ref (B + 51))] [.int (H r.2.1)]
        refine a_bipush (v := 124) hb dX12_some_15 (by decide) ?_
        refine a_icmp_ne hb 43 dX12_some_17 (by decide) (fun c17 => ?_) (fun c17 => ?_)
        · exact a_return hb hz dX12_some_43 hret (by rw [hr]; exact Nat.le_of_ble_eq_true rfl) (by rw [hr]; exact Nat.le_of_ble_eq_true rfl) (⟨rfl, mpG_e ((lpR_n c17).symm.trans h4)⟩)
        · have rl : r.2.1 < n := by rw [hH] at c17; exact hrT_n (by decide) c17
          rw [c8]
          show AW V 0 0 (mpH h B a r.2.1 false 2 (l ++ r.2.2.map encM) mo) 20 [(0, .ref (B + 51))] []
          refine a_aload_n hb dX12_some_20 rfl 0 rfl ?_
          refine a_dup hb dX12_some_21 rfl ?_
          refine a_getI hb dX12_some_22 (by rw [ow]; exact fl_RX12_61_12) ((LY.mp hL : LY (mpH h B a r.2.1 false 2 (l ++ r.2.2.map encM) mo) B).1 51 (by decide)) ?_
          rw [mp_f5]
          show AW V 0 0 (mpH h B a r.2.1 false 2 (l ++ r.2.2.map encM) mo) 25 [(0, .ref (B + 51))] [.int (nI r.2.1), .ref (B + 51)]
          refine a_iconst (v := 1) hb dX12_some_25 (by decide) ?_
          refine a_iadd hb dX12_some_26 ?_
          refine a_putI (fty := .int) hb dX12_some_27 (by rw [ow]; exact fp_RX12_61_12) (Or.inr (fun C T N hq => by cases hq; rfl)) ((LY.mp hL : LY (mpH h B a r.2.1 false 2 (l ++ r.2.2.map encM) mo) B).1 51 (by decide)) rfl rfl ?_
          rw [mp_5 (q := (r.2.1 + 1)) (by rw [nI_1])]
          show AW V 0 0 (mpH h B a (r.2.1 + 1) false 2 (l ++ r.2.2.map encM) mo) 30 [(0, .ref (B + 51))] []
          refine a_aload_n hb dX12_some_30 rfl 0 rfl ?_
          refine a_callV hb dX12_some_31 (by rw [hg]; exact m_ev3 g h B hL a n ha hac he hn H hH (r.2.1 + 1) (l ++ r.2.2.map encM) mo (by omega) (Nat.le_succ_of_le h2)) (by rw [ow]; exact clv_RX12_114) ((LY.mp hL : LY (mpH h B a (r.2.1 + 1) false 2 (l ++ r.2.2.map encM) mo) B).1 51 (by decide)) (by decide) rfl rfl rfl (Nat.le_of_ble_eq_true rfl) (by rw [hr]; exact ⟨by decide, by decide⟩) (by rw [hr]; exact ⟨Nat.le_of_ble_eq_true rfl, Nat.le_of_ble_eq_true rfl⟩) ?_
          intro rv h' hp_
          rw [hp_.1, hp_.2]
          clear hp_ rv h'
          have q1 := gdl (pVgH hH 3 (r.2.1 + 1)) (Nat.le_succ_of_le h2)
          have q2 := (pVgH hH 3 (r.2.1 + 1)).2 rl
          have gg := (pVgH hH 3 (r.2.1 + 1)).1
          have hq := @lpR_s (pV (pF H 3) H) H 124 (3, 0, 0, 0) k r _ c8 c17 rfl
          rw [h4] at hq
          generalize pV (pF H 3) H (r.2.1 + 1) = q at *
          show AW V 0 0 (mpG h B a 2 (l ++ r.2.2.map encM) mo q) 34 [(0, .ref (B + 51))] []
          show AW V 0 0 (mpH h B a q.2.1 q.1 2 ((l ++ r.2.2.map encM) ++ q.2.2.map encM) mo) 34 [(0, .ref (B + 51))] []
          refine a_aload_n hb dX12_some_34 rfl 0 rfl ?_
          refine a_bipush (v := (-3)) hb dX12_some_35 (by decide) ?_
          refine a_callV hb dX12_some_37 (by rw [hg]; exact m_emits g h B hL a n ha hac he hn H hH q.2.1 2 q.1 ((l ++ r.2.2.map encM) ++ q.2.2.map encM) mo q2 (-3) (Nat.lt_of_le_of_lt (Nat.le_trans q1 (Nat.le_trans q2 hn)) (by decide))) (by rw [ow]; exact clv_RX12_97) ((LY.mp hL : LY (mpH h B a q.2.1 q.1 2 ((l ++ r.2.2.map encM) ++ q.2.2.map encM) mo) B).1 51 (by decide)) (by decide) rfl rfl rfl (Nat.le_of_ble_eq_true rfl) (by rw [hr]; exact ⟨by decide, by decide⟩) (by rw [hr]; exact ⟨Nat.le_of_ble_eq_true rfl, Nat.le_of_ble_eq_true rfl⟩) ?_
          intro rv h' hp_
          rw [hp_.1, hp_.2]
          show AW V 0 0 (mpH h B a q.2.1 q.1 2 (emL q.1 ((l ++ r.2.2.map encM) ++ q.2.2.map encM) (-3)) mo) 40 [(0, .ref (B + 51))] []
          refine a_goto hb 4 dX12_some_40 (by decide) ?_
          refine AW.eq (ih (q.1, q.2.1, r.2.2 ++ q.2.2 ++ if q.1 = true then [] else [(3, 0, 0, 0)]) q2 ?_ ?_ hq.symm) (seq_h enc_3) rfl rfl rfl
          · show (l ++ List.map encM (r.2.2 ++ q.2.2 ++ if q.1 = true then [] else [(3, 0, 0, 0)])).length ≤ q.2.1
            rw [List.length_append, List.length_map] at h2 ⊢
            rw [List.length_append, List.length_append]
            split <;> simp only [List.length_cons, List.length_nil] <;> omega
          · show n ≤ q.2.1 + k
            omega
  refine a_aload_n hb dX12_some_0 rfl 0 rfl ?_
  refine a_callV hb dX12_some_1 (by rw [hg]; exact m_ev3 g h B hL a n ha hac he hn H hH p l mo hp hll) (by rw [ow]; exact clv_RX12_114) ((LY.mp hL : LY (mpH h B a p false 2 l mo) B).1 51 (by decide)) (by decide) rfl rfl rfl (Nat.le_of_ble_eq_true rfl) (by rw [hr]; exact ⟨by decide, by decide⟩) (by rw [hr]; exact ⟨Nat.le_of_ble_eq_true rfl, Nat.le_of_ble_eq_true rfl⟩) ?_
  intro rv h' hp_
  rw [hp_.1, hp_.2]
  clear hp_ rv h'
  have gd1_ := pVgH hH 3 p
  generalize eQ1 : (pV (pF H 3) H p) = q1_ at gd1_ ⊢
  show AW V 0 0 (mpG h B a 2 l mo q1_) 4 [(0, .ref (B + 51))] []
  show AW V 0 0 (mpH h B a q1_.2.1 q1_.1 2 (l ++ q1_.2.2.map encM) mo) 4 [(0, .ref (B + 51))] []
  exact loop 120 q1_ (gd1_.2 hp) (gdl gd1_ hll) (by have z : n ≤ 120 := hn; clear hz loop; omega) ((pE_d eQ1).trans hR)
set_option maxRecDepth 100000 in
theorem m_fac4 (g : GG) (h : AH) (B : Nat) (hL : LY h B) (a n : Nat) (ha : a < 5) (hac : hI h (B + 51) 4 = nI a) (he : hI h (B + 51) 6 = nI n) (hn : n ≤ 120) (H : Nat → Int32) (hH : H = hrT (fun i => hI h (B + 52) (10 + i)) n) (p : Nat) (l : List Int32) (mo : Int32) (hp : p ≤ n) (hll : l.length ≤ p) : AM g 18 0 0 mX12_factor [.ref (B + 51)] (mpH h B a p false 1 l mo) (fun rv h' => rv = none ∧ h' = mpG h B a 1 l mo (pF H 4 p)) := by
  refine AM.of [(0, .ref (B + 51))] (by decide) (Nat.le_of_ble_eq_true rfl) rfl ?_
  intro V hV
  have hb : V.2.1.2.1 = cX12_factor := by subst hV; rfl
  have ow : V.2.1.1.cls = RX12 := by subst hV; rfl
  have hr : V.2.2.1 = aw_rm 18 0 0 := by subst hV; rfl
  have hz : V.2.2.2 = aw_Z V.1 (fun rv h' => rv = none ∧ h' = mpG h B a 1 l mo (pF H 4 p)) V.2.2.1 := by subst hV; rfl
  have hg : V.1 = g := by subst hV; rfl
  have hret : V.2.1.2.2.2 = none := by subst hV; rfl
  have hml : V.2.1.2.2.1 = 5 := by subst hV; rfl
  clear hV
  refine a_aload_n hb dX12_factor_0 rfl 0 rfl ?_
  refine a_getI hb dX12_factor_1 (by rw [ow]; exact fl_RX12_67_12) ((LY.mp hL : LY (mpH h B a p false 1 l mo) B).1 51 (by decide)) ?_
  rw [mp_f7]
  show AW V 0 0 (mpH h B a p false 1 l mo) 4 [(0, .ref (B + 51))] [.int 0]
  refine a_if_eq hb 8 dX12_factor_4 (by decide) (fun c4 => ?_) (fun c4 => absurd (by decide) c4)
  refine a_aload_n hb dX12_factor_8 rfl 0 rfl ?_
  refine a_callV hb dX12_factor_9 (by rw [hg]; exact m_here g h B hL a n ha hac he hn H hH p 1 false l mo hp) (by rw [ow]; exact clv_RX12_71) ((LY.mp hL : LY (mpH h B a p false 1 l mo) B).1 51 (by decide)) (by decide) rfl rfl rfl (Nat.le_of_ble_eq_true rfl) (by rw [hr]; exact ⟨by decide, by decide⟩) (by rw [hr]; exact ⟨Nat.le_of_ble_eq_true rfl, Nat.le_of_ble_eq_true rfl⟩) ?_
  intro rv h' hp_
  rw [hp_.1, hp_.2]
  show AW V 0 0 (mpH h B a p false 1 l mo) 12 [(0, .ref (B + 51))] [.int (H p)]
  refine a_istore_n (L' := [(1, .int (H p)), (0, .ref (B + 51))]) hb dX12_factor_12 rfl (by rw [hml]; decide) rfl ?_
  refine a_iload_n hb dX12_factor_13 rfl 0 rfl ?_
  refine a_bipush (v := 33) hb dX12_factor_14 (by decide) ?_
  refine a_icmp_eq hb 25 dX12_factor_16 (by decide) (fun c16 => ?_) (fun c16 => ?_)
  · have pl : p < n := by rw [hH] at c16; exact hrT_n (by decide) c16
    refine a_aload_n hb dX12_factor_25 rfl 1 rfl ?_
    refine a_aload_n hb dX12_factor_26 rfl 1 rfl ?_
    refine a_getI hb dX12_factor_27 (by rw [ow]; exact fl_RX12_91_12) ((LY.mp hL : LY (mpH h B a p false 1 l mo) B).1 51 (by decide)) ?_
    rw [mp_f8]
    show AW V 0 0 (mpH h B a p false 1 l mo) 30 [(1, .int (H p)), (0, .ref (B + 51))] [.int 1, .ref (B + 51)]
    refine a_iconst (v := 5) hb dX12_factor_30 (by decide) ?_
    refine a_icmp_ne hb 38 dX12_factor_31 (by decide) (fun c31 => ?_) (fun c31 => absurd c31 (by decide))
    refine a_iconst (v := 0) hb dX12_factor_38 (by decide) ?_
    refine a_putI (fty := .boolean) hb dX12_factor_39 (by rw [ow]; exact fp_RX12_67_12) (Or.inr (fun C T N hq => by cases hq; rfl)) ((LY.mp hL : LY (mpH h B a p false 1 l mo) B).1 51 (by decide)) rfl rfl ?_
    rw [mp_7 (q := false) (v := 0) rfl]
    show AW V 0 0 (mpH h B a p false 1 l mo) 42 [(1, .int (H p)), (0, .ref (B + 51))] []
    refine a_aload_n hb dX12_factor_42 rfl 1 rfl ?_
    refine a_dup hb dX12_factor_43 rfl ?_
    refine a_getI hb dX12_factor_44 (by rw [ow]; exact fl_RX12_91_12) ((LY.mp hL : LY (mpH h B a p false 1 l mo) B).1 51 (by decide)) ?_
    rw [mp_f8]
    show AW V 0 0 (mpH h B a p false 1 l mo) 47 [(1, .int (H p)), (0, .ref (B + 51))] [.int 1, .ref (B + 51)]
    refine a_iconst (v := 1) hb dX12_factor_47 (by decide) ?_
    refine a_iadd hb dX12_factor_48 ?_
    refine a_putI (fty := .int) hb dX12_factor_49 (by rw [ow]; exact fp_RX12_91_12) (Or.inr (fun C T N hq => by cases hq; rfl)) ((LY.mp hL : LY (mpH h B a p false 1 l mo) B).1 51 (by decide)) rfl rfl ?_
    rw [mp_8 (q := 2) (by decide)]
    show AW V 0 0 (mpH h B a p false 2 l mo) 52 [(1, .int (H p)), (0, .ref (B + 51))] []
    refine a_aload_n hb dX12_factor_52 rfl 1 rfl ?_
    refine a_dup hb dX12_factor_53 rfl ?_
    refine a_getI hb dX12_factor_54 (by rw [ow]; exact fl_RX12_61_12) ((LY.mp hL : LY (mpH h B a p false 2 l mo) B).1 51 (by decide)) ?_
    rw [mp_f5]
    show AW V 0 0 (mpH h B a p false 2 l mo) 57 [(1, .int (H p)), (0, .ref (B + 51))] [.int (nI p), .ref (B + 51)]
    refine a_aload_n hb dX12_factor_57 rfl 1 rfl ?_
    refine a_getI hb dX12_factor_58 (by rw [ow]; exact fl_RX12_67_12) ((LY.mp hL : LY (mpH h B a p false 2 l mo) B).1 51 (by decide)) ?_
    rw [mp_f7]
    show AW V 0 0 (mpH h B a p false 2 l mo) 61 [(1, .int (H p)), (0, .ref (B + 51))] [.int 0, .int (nI p), .ref (B + 51)]
    refine a_if_eq hb 68 dX12_factor_61 (by decide) (fun c61 => ?_) (fun c61 => absurd (by decide) c61)
    refine a_iconst (v := 1) hb dX12_factor_68 (by decide) ?_
    refine a_iadd hb dX12_factor_69 ?_
    refine a_putI (fty := .int) hb dX12_factor_70 (by rw [ow]; exact fp_RX12_61_12) (Or.inr (fun C T N hq => by cases hq; rfl)) ((LY.mp hL : LY (mpH h B a p false 2 l mo) B).1 51 (by decide)) rfl rfl ?_
    rw [mp_5 (q := (p + 1)) (by rw [nI_1])]
    show AW V 0 0 (mpH h B a (p + 1) false 2 l mo) 73 [(1, .int (H p)), (0, .ref (B + 51))] []
    refine a_iload_n hb dX12_factor_73 rfl 0 rfl ?_
    refine a_bipush (v := 33) hb dX12_factor_74 (by decide) ?_
    refine a_icmp_ne hb 91 dX12_factor_76 (by decide) (fun c76 => absurd c76 (not_not_intro c16)) (fun c76 => ?_)
    refine a_aload_n hb dX12_factor_79 rfl 1 rfl ?_
    refine a_callV hb dX12_factor_80 (by rw [hg]; exact m_fac3 g h B hL a n ha hac he hn H hH (p + 1) l mo (by omega) (Nat.le_succ_of_le hll)) (by rw [ow]; exact clv_RX12_94) ((LY.mp hL : LY (mpH h B a (p + 1) false 2 l mo) B).1 51 (by decide)) (by decide) rfl rfl rfl (Nat.le_of_ble_eq_true rfl) (by rw [hr]; exact ⟨by decide, by decide⟩) (by rw [hr]; exact ⟨Nat.le_of_ble_eq_true rfl, Nat.le_of_ble_eq_true rfl⟩) ?_
    intro rv h' hp_
    rw [hp_.1, hp_.2]
    clear hp_ rv h'
    have gd1_ := pFgH hH 3 (p + 1)
    generalize eQ1 : (pF H 3 (p + 1)) = q1_ at gd1_ ⊢
    show AW V 0 0 (mpG h B a 2 l mo q1_) 83 [(1, .int (H p)), (0, .ref (B + 51))] []
    show AW V 0 0 (mpH h B a q1_.2.1 q1_.1 2 (l ++ q1_.2.2.map encM) mo) 83 [(1, .int (H p)), (0, .ref (B + 51))] []
    refine a_aload_n hb dX12_factor_83 rfl 1 rfl ?_
    refine a_iconst (v := (-1)) hb dX12_factor_84 (by decide) ?_
    refine a_callV hb dX12_factor_85 (by rw [hg]; exact m_emits g h B hL a n ha hac he hn H hH q1_.2.1 2 q1_.1 (l ++ q1_.2.2.map encM) mo (gd1_.2 (by omega)) (-1) (Nat.lt_of_le_of_lt (Nat.le_trans (gdl gd1_ (Nat.le_succ_of_le hll)) (Nat.le_trans (gd1_.2 (by omega)) hn)) (by decide))) (by rw [ow]; exact clv_RX12_97) ((LY.mp hL : LY (mpH h B a q1_.2.1 q1_.1 2 (l ++ q1_.2.2.map encM) mo) B).1 51 (by decide)) (by decide) rfl rfl rfl (Nat.le_of_ble_eq_true rfl) (by rw [hr]; exact ⟨by decide, by decide⟩) (by rw [hr]; exact ⟨Nat.le_of_ble_eq_true rfl, Nat.le_of_ble_eq_true rfl⟩) ?_
    intro rv h' hp_
    rw [hp_.1, hp_.2]
    show AW V 0 0 (mpH h B a q1_.2.1 q1_.1 2 (emL q1_.1 (l ++ q1_.2.2.map encM) (-1)) mo) 88 [(1, .int (H p)), (0, .ref (B + 51))] []
    refine a_goto hb 101 dX12_factor_88 (by decide) ?_
    refine a_aload_n hb dX12_factor_101 rfl 1 rfl ?_
    refine a_dup hb dX12_factor_102 rfl ?_
    refine a_getI hb dX12_factor_103 (by rw [ow]; exact fl_RX12_91_12) ((LY.mp hL : LY (mpH h B a q1_.2.1 q1_.1 2 (emL q1_.1 (l ++ q1_.2.2.map encM) (-1)) mo) B).1 51 (by decide)) ?_
    rw [mp_f8]
    show AW V 0 0 (mpH h B a q1_.2.1 q1_.1 2 (emL q1_.1 (l ++ q1_.2.2.map encM) (-1)) mo) 106 [(1, .int (H p)), (0, .ref (B + 51))] [.int 2, .ref (B + 51)]
    refine a_iconst (v := 1) hb dX12_factor_106 (by decide) ?_
    refine a_isub hb dX12_factor_107 ?_
    refine a_putI (fty := .int) hb dX12_factor_108 (by rw [ow]; exact fp_RX12_91_12) (Or.inr (fun C T N hq => by cases hq; rfl)) ((LY.mp hL : LY (mpH h B a q1_.2.1 q1_.1 2 (emL q1_.1 (l ++ q1_.2.2.map encM) (-1)) mo) B).1 51 (by decide)) rfl rfl ?_
    rw [mp_8 (q := 1) (by decide)]
    show AW V 0 0 (mpH h B a q1_.2.1 q1_.1 1 (emL q1_.1 (l ++ q1_.2.2.map encM) (-1)) mo) 111 [(1, .int (H p)), (0, .ref (B + 51))] []
    exact a_return hb hz dX12_factor_111 hret (by rw [hr]; exact Nat.le_of_ble_eq_true rfl) (by rw [hr]; exact Nat.le_of_ble_eq_true rfl) (⟨rfl, by subst eQ1; exact fac_n c16⟩)
  · refine a_iload_n hb dX12_factor_19 rfl 0 rfl ?_
    refine a_bipush (v := 40) hb dX12_factor_20 (by decide) ?_
    refine a_icmp_ne hb 112 dX12_factor_22 (by decide) (fun c22 => ?_) (fun c22 => ?_)
    · refine a_aload_n hb dX12_factor_112 rfl 1 rfl ?_
      refine a_ldcS (i := 0) hb dX12_factor_113 (by rw [ow]; exact List.mem_of_getElem? (i := 5) rfl) ?_
      refine a_callV hb dX12_factor_115 (by have z_ := m_among0 g h B hL a n ha hac he hn H hH p 1 false l mo hp; rw [← hg] at z_; exact z_) (by rw [ow]; exact clv_RX12_105) ((LY.mp hL : LY (mpH h B a p false 1 l mo) B).1 51 (by decide)) (by decide) rfl rfl rfl (Nat.le_of_ble_eq_true rfl) (by rw [hr]; exact ⟨by decide, by decide⟩) (by rw [hr]; exact ⟨Nat.le_of_ble_eq_true rfl, Nat.le_of_ble_eq_true rfl⟩) ?_
      intro rv h' hp_
      rw [hp_.1, hp_.2]
      by_cases t5 : ix5 (H p) = 5
      · rw [if_pos t5, if_pos t5]
        show AW V 0 0 (mpH h B a p false 1 l mo) 118 [(1, .int (H p)), (0, .ref (B + 51))] [.int (-1)]
        refine a_istore_n (L' := [(2, .int (-1)), (1, .int (H p)), (0, .ref (B + 51))]) hb dX12_factor_118 rfl (by rw [hml]; decide) rfl ?_
        refine a_aload_n hb dX12_factor_119 rfl 2 rfl ?_
        refine a_iload_n hb dX12_factor_120 rfl 0 rfl ?_
        refine a_iconst (v := (-1)) hb dX12_factor_121 (by decide) ?_
        refine a_icmp_ne hb 129 dX12_factor_122 (by decide) (fun c122 => absurd c122 (by decide)) (fun c122 => ?_)
        refine a_iconst (v := 1) hb dX12_factor_125 (by decide) ?_
        refine a_goto hb 130 dX12_factor_126 (by decide) ?_
        refine a_putI (fty := .boolean) hb dX12_factor_130 (by rw [ow]; exact fp_RX12_67_12) (Or.inr (fun C T N hq => by cases hq; rfl)) ((LY.mp hL : LY (mpH h B a p false 1 l mo) B).1 51 (by decide)) rfl rfl ?_
        rw [mp_7 (q := true) (v := 1) rfl]
        show AW V 0 0 (mpH h B a p true 1 l mo) 133 [(2, .int (-1)), (1, .int (H p)), (0, .ref (B + 51))] []
        refine a_aload_n hb dX12_factor_133 rfl 2 rfl ?_
        refine a_getI hb dX12_factor_134 (by rw [ow]; exact fl_RX12_67_12) ((LY.mp hL : LY (mpH h B a p true 1 l mo) B).1 51 (by decide)) ?_
        rw [mp_f7]
        show AW V 0 0 (mpH h B a p true 1 l mo) 137 [(2, .int (-1)), (1, .int (H p)), (0, .ref (B + 51))] [.int 1]
        refine a_if_eq hb 144 dX12_factor_137 (by decide) (fun c137 => absurd c137 (by decide)) (fun c137 => ?_)
        refine a_iconst (v := 0) hb dX12_factor_140 (by decide) ?_
        refine a_goto hb 150 dX12_factor_141 (by decide) ?_
        refine a_istore_n (L' := [(3, .int 0), (2, .int (-1)), (1, .int (H p)), (0, .ref (B + 51))]) hb dX12_factor_150 rfl (by rw [hml]; decide) rfl ?_
        refine a_aload_n hb dX12_factor_151 rfl 3 rfl ?_
        refine a_aload_n hb dX12_factor_152 rfl 3 rfl ?_
        refine a_getI hb dX12_factor_153 (by rw [ow]; exact fl_RX12_67_12) ((LY.mp hL : LY (mpH h B a p true 1 l mo) B).1 51 (by decide)) ?_
        rw [mp_f7]
        show AW V 0 0 (mpH h B a p true 1 l mo) 156 [(3, .int 0), (2, .int (-1)), (1, .int (H p)), (0, .ref (B + 51))] [.int 1, .ref (B + 51)]
        refine a_if_ne hb 164 dX12_factor_156 (by decide) (fun c156 => ?_) (fun c156 => absurd c156 (by decide))
        refine a_iconst (v := 1) hb dX12_factor_164 (by decide) ?_
        refine a_goto hb 169 dX12_factor_165 (by decide) ?_
        refine a_putI (fty := .boolean) hb dX12_factor_169 (by rw [ow]; exact fp_RX12_67_12) (Or.inr (fun C T N hq => by cases hq; rfl)) ((LY.mp hL : LY (mpH h B a p true 1 l mo) B).1 51 (by decide)) rfl rfl ?_
        rw [mp_7 (q := true) (v := 1) rfl]
        show AW V 0 0 (mpH h B a p true 1 l mo) 172 [(3, .int 0), (2, .int (-1)), (1, .int (H p)), (0, .ref (B + 51))] []
        refine a_aload_n hb dX12_factor_172 rfl 3 rfl ?_
        refine a_callV hb dX12_factor_173 (by rw [hg]; exact m_figures g h B hL a n ha hac he hn H hH p 1 true l mo hp) (by rw [ow]; exact clv_RX12_111) ((LY.mp hL : LY (mpH h B a p true 1 l mo) B).1 51 (by decide)) (by decide) rfl rfl rfl (Nat.le_of_ble_eq_true rfl) (by rw [hr]; exact ⟨by decide, by decide⟩) (by rw [hr]; exact ⟨Nat.le_of_ble_eq_true rfl, Nat.le_of_ble_eq_true rfl⟩) ?_
        intro rv h' hp_
        rw [hp_.1, hp_.2]
        show AW V 0 0 (mpH h B a p true 1 l mo) 176 [(3, .int 0), (2, .int (-1)), (1, .int (H p)), (0, .ref (B + 51))] [.int (nI 0)]
        refine a_istore (L' := [(4, .int (nI 0)), (3, .int 0), (2, .int (-1)), (1, .int (H p)), (0, .ref (B + 51))]) hb dX12_factor_176 (by rw [hml]; decide) rfl ?_
        refine a_aload_n hb dX12_factor_178 rfl 4 rfl ?_
        refine a_iload_n hb dX12_factor_179 rfl 2 rfl ?_
        refine a_bipush (v := 8) hb dX12_factor_180 (by decide) ?_
        refine a_iload_n hb dX12_factor_182 rfl 1 rfl ?_
        refine a_imul hb dX12_factor_183 ?_
        refine a_iadd hb dX12_factor_184 ?_
        refine a_bipush (v := 32) hb dX12_factor_185 (by decide) ?_
        refine a_iload hb dX12_factor_187 0 rfl ?_
        refine a_imul hb dX12_factor_189 ?_
        refine a_iadd hb dX12_factor_190 ?_
        refine a_callV hb dX12_factor_191 (by rw [hg]; exact m_emits g h B hL a n ha hac he hn H hH p 1 true l mo hp (((-1) + (8 * 0)) + (32 * (nI 0))) (Nat.lt_of_le_of_lt (Nat.le_trans hll (Nat.le_trans hp hn)) (by decide))) (by rw [ow]; exact clv_RX12_97) ((LY.mp hL : LY (mpH h B a p true 1 l mo) B).1 51 (by decide)) (by decide) rfl rfl rfl (Nat.le_of_ble_eq_true rfl) (by rw [hr]; exact ⟨by decide, by decide⟩) (by rw [hr]; exact ⟨Nat.le_of_ble_eq_true rfl, Nat.le_of_ble_eq_true rfl⟩) ?_
        intro rv h' hp_
        rw [hp_.1, hp_.2]
        show AW V 0 0 (mpH h B a p true 1 l mo) 194 [(4, .int (nI 0)), (3, .int 0), (2, .int (-1)), (1, .int (H p)), (0, .ref (B + 51))] []
        exact a_return hb hz dX12_factor_194 hret (by rw [hr]; exact Nat.le_of_ble_eq_true rfl) (by rw [hr]; exact Nat.le_of_ble_eq_true rfl) (⟨rfl, fac_5 c16 c22 t5⟩)
      rw [if_neg t5, if_neg t5]
      have ltt5 : p < n := by rw [hH] at t5; exact hrT_5 t5
      show AW V 0 0 (mpH h B a (p + 1) false 1 l mo) 118 [(1, .int (H p)), (0, .ref (B + 51))] [.int (nI (ix5 (H p)))]
      refine a_istore_n (L' := [(2, .int (nI (ix5 (H p)))), (1, .int (H p)), (0, .ref (B + 51))]) hb dX12_factor_118 rfl (by rw [hml]; decide) rfl ?_
      refine a_aload_n hb dX12_factor_119 rfl 2 rfl ?_
      refine a_iload_n hb dX12_factor_120 rfl 0 rfl ?_
      refine a_iconst (v := (-1)) hb dX12_factor_121 (by decide) ?_
      refine a_icmp_ne hb 129 dX12_factor_122 (by decide) (fun c122 => ?_) (fun c122 => absurd c122 ((nI_m1 ix5_le)))
      refine a_iconst (v := 0) hb dX12_factor_129 (by decide) ?_
      refine a_putI (fty := .boolean) hb dX12_factor_130 (by rw [ow]; exact fp_RX12_67_12) (Or.inr (fun C T N hq => by cases hq; rfl)) ((LY.mp hL : LY (mpH h B a (p + 1) false 1 l mo) B).1 51 (by decide)) rfl rfl ?_
      rw [mp_7 (q := false) (v := 0) rfl]
      show AW V 0 0 (mpH h B a (p + 1) false 1 l mo) 133 [(2, .int (nI (ix5 (H p)))), (1, .int (H p)), (0, .ref (B + 51))] []
      refine a_aload_n hb dX12_factor_133 rfl 2 rfl ?_
      refine a_getI hb dX12_factor_134 (by rw [ow]; exact fl_RX12_67_12) ((LY.mp hL : LY (mpH h B a (p + 1) false 1 l mo) B).1 51 (by decide)) ?_
      rw [mp_f7]
      show AW V 0 0 (mpH h B a (p + 1) false 1 l mo) 137 [(2, .int (nI (ix5 (H p)))), (1, .int (H p)), (0, .ref (B + 51))] [.int 0]
      refine a_if_eq hb 144 dX12_factor_137 (by decide) (fun c137 => ?_) (fun c137 => absurd (by decide) c137)
      refine a_aload_n hb dX12_factor_144 rfl 2 rfl ?_
      refine a_ldcS (i := 1) hb dX12_factor_145 (by rw [ow]; exact List.mem_of_getElem? (i := 6) rfl) ?_
      refine a_callV hb dX12_factor_147 (by have z_ := m_among1 g h B hL a n ha hac he hn H hH (p + 1) 1 false l mo (by omega); rw [← hg] at z_; exact z_) (by rw [ow]; exact clv_RX12_105) ((LY.mp hL : LY (mpH h B a (p + 1) false 1 l mo) B).1 51 (by decide)) (by decide) rfl rfl rfl (Nat.le_of_ble_eq_true rfl) (by rw [hr]; exact ⟨by decide, by decide⟩) (by rw [hr]; exact ⟨Nat.le_of_ble_eq_true rfl, Nat.le_of_ble_eq_true rfl⟩) ?_
      intro rv h' hp_
      rw [hp_.1, hp_.2]
      by_cases t3 : ix3 (H (p + 1)) = 3
      · rw [if_pos t3, if_pos t3]
        show AW V 0 0 (mpH h B a (p + 1) false 1 l mo) 150 [(2, .int (nI (ix5 (H p)))), (1, .int (H p)), (0, .ref (B + 51))] [.int (-1)]
        refine a_istore_n (L' := [(3, .int (-1)), (2, .int (nI (ix5 (H p)))), (1, .int (H p)), (0, .ref (B + 51))]) hb dX12_factor_150 rfl (by rw [hml]; decide) rfl ?_
        refine a_aload_n hb dX12_factor_151 rfl 3 rfl ?_
        refine a_aload_n hb dX12_factor_152 rfl 3 rfl ?_
        refine a_getI hb dX12_factor_153 (by rw [ow]; exact fl_RX12_67_12) ((LY.mp hL : LY (mpH h B a (p + 1) false 1 l mo) B).1 51 (by decide)) ?_
        rw [mp_f7]
        show AW V 0 0 (mpH h B a (p + 1) false 1 l mo) 156 [(3, .int (-1)), (2, .int (nI (ix5 (H p)))), (1, .int (H p)), (0, .ref (B + 51))] [.int 0, .ref (B + 51)]
        refine a_if_ne hb 164 dX12_factor_156 (by decide) (fun c156 => absurd c156 (by decide)) (fun c156 => ?_)
        refine a_iload_n hb dX12_factor_159 rfl 0 rfl ?_
        refine a_iconst (v := (-1)) hb dX12_factor_160 (by decide) ?_
        refine a_icmp_ne hb 168 dX12_factor_161 (by decide) (fun c161 => absurd c161 (by decide)) (fun c161 => ?_)
        refine a_iconst (v := 1) hb dX12_factor_164 (by decide) ?_
        refine a_goto hb 169 dX12_factor_165 (by decide) ?_
        refine a_putI (fty := .boolean) hb dX12_factor_169 (by rw [ow]; exact fp_RX12_67_12) (Or.inr (fun C T N hq => by cases hq; rfl)) ((LY.mp hL : LY (mpH h B a (p + 1) false 1 l mo) B).1 51 (by decide)) rfl rfl ?_
        rw [mp_7 (q := true) (v := 1) rfl]
        show AW V 0 0 (mpH h B a (p + 1) true 1 l mo) 172 [(3, .int (-1)), (2, .int (nI (ix5 (H p)))), (1, .int (H p)), (0, .ref (B + 51))] []
        refine a_aload_n hb dX12_factor_172 rfl 3 rfl ?_
        refine a_callV hb dX12_factor_173 (by rw [hg]; exact m_figures g h B hL a n ha hac he hn H hH (p + 1) 1 true l mo (by omega)) (by rw [ow]; exact clv_RX12_111) ((LY.mp hL : LY (mpH h B a (p + 1) true 1 l mo) B).1 51 (by decide)) (by decide) rfl rfl rfl (Nat.le_of_ble_eq_true rfl) (by rw [hr]; exact ⟨by decide, by decide⟩) (by rw [hr]; exact ⟨Nat.le_of_ble_eq_true rfl, Nat.le_of_ble_eq_true rfl⟩) ?_
        intro rv h' hp_
        rw [hp_.1, hp_.2]
        show AW V 0 0 (mpH h B a (p + 1) true 1 l mo) 176 [(3, .int (-1)), (2, .int (nI (ix5 (H p)))), (1, .int (H p)), (0, .ref (B + 51))] [.int (nI 0)]
        refine a_istore (L' := [(4, .int (nI 0)), (3, .int (-1)), (2, .int (nI (ix5 (H p)))), (1, .int (H p)), (0, .ref (B + 51))]) hb dX12_factor_176 (by rw [hml]; decide) rfl ?_
        refine a_aload_n hb dX12_factor_178 rfl 4 rfl ?_
        refine a_iload_n hb dX12_factor_179 rfl 2 rfl ?_
        refine a_bipush (v := 8) hb dX12_factor_180 (by decide) ?_
        refine a_iload_n hb dX12_factor_182 rfl 1 rfl ?_
        refine a_imul hb dX12_factor_183 ?_
        refine a_iadd hb dX12_factor_184 ?_
        refine a_bipush (v := 32) hb dX12_factor_185 (by decide) ?_
        refine a_iload hb dX12_factor_187 0 rfl ?_
        refine a_imul hb dX12_factor_189 ?_
        refine a_iadd hb dX12_factor_190 ?_
        refine a_callV hb dX12_factor_191 (by rw [hg]; exact m_emits g h B hL a n ha hac he hn H hH (p + 1) 1 true l mo (by omega) (((nI (ix5 (H p))) + (8 * (-1))) + (32 * (nI 0))) (Nat.lt_of_le_of_lt (Nat.le_trans hll (Nat.le_trans hp hn)) (by decide))) (by rw [ow]; exact clv_RX12_97) ((LY.mp hL : LY (mpH h B a (p + 1) true 1 l mo) B).1 51 (by decide)) (by decide) rfl rfl rfl (Nat.le_of_ble_eq_true rfl) (by rw [hr]; exact ⟨by decide, by decide⟩) (by rw [hr]; exact ⟨Nat.le_of_ble_eq_true rfl, Nat.le_of_ble_eq_true rfl⟩) ?_
        intro rv h' hp_
        rw [hp_.1, hp_.2]
        show AW V 0 0 (mpH h B a (p + 1) true 1 l mo) 194 [(4, .int (nI 0)), (3, .int (-1)), (2, .int (nI (ix5 (H p)))), (1, .int (H p)), (0, .ref (B + 51))] []
        exact a_return hb hz dX12_factor_194 hret (by rw [hr]; exact Nat.le_of_ble_eq_true rfl) (by rw [hr]; exact Nat.le_of_ble_eq_true rfl) (⟨rfl, fac_3 c16 c22 t5 t3⟩)
      rw [if_neg t3, if_neg t3]
      have ltt3 : (p + 1) < n := by rw [hH] at t3; exact hrT_3 t3
      show AW V 0 0 (mpH h B a (p + 2) false 1 l mo) 150 [(2, .int (nI (ix5 (H p)))), (1, .int (H p)), (0, .ref (B + 51))] [.int (nI (ix3 (H (p + 1))))]
      refine a_istore_n (L' := [(3, .int (nI (ix3 (H (p + 1))))), (2, .int (nI (ix5 (H p)))), (1, .int (H p)), (0, .ref (B + 51))]) hb dX12_factor_150 rfl (by rw [hml]; decide) rfl ?_
      refine a_aload_n hb dX12_factor_151 rfl 3 rfl ?_
      refine a_aload_n hb dX12_factor_152 rfl 3 rfl ?_
      refine a_getI hb dX12_factor_153 (by rw [ow]; exact fl_RX12_67_12) ((LY.mp hL : LY (mpH h B a (p + 2) false 1 l mo) B).1 51 (by decide)) ?_
      rw [mp_f7]
      show AW V 0 0 (mpH h B a (p + 2) false 1 l mo) 156 [(3, .int (nI (ix3 (H (p + 1))))), (2, .int (nI (ix5 (H p)))), (1, .int (H p)), (0, .ref (B + 51))] [.int 0, .ref (B + 51)]
      refine a_if_ne hb 164 dX12_factor_156 (by decide) (fun c156 => absurd c156 (by decide)) (fun c156 => ?_)
      refine a_iload_n hb dX12_factor_159 rfl 0 rfl ?_
      refine a_iconst (v := (-1)) hb dX12_factor_160 (by decide) ?_
      refine a_icmp_ne hb 168 dX12_factor_161 (by decide) (fun c161 => ?_) (fun c161 => absurd c161 ((nI_m1 (Nat.le_trans ix3_le (by decide)))))
      refine a_iconst (v := 0) hb dX12_factor_168 (by decide) ?_
      refine a_putI (fty := .boolean) hb dX12_factor_169 (by rw [ow]; exact fp_RX12_67_12) (Or.inr (fun C T N hq => by cases hq; rfl)) ((LY.mp hL : LY (mpH h B a (p + 2) false 1 l mo) B).1 51 (by decide)) rfl rfl ?_
      rw [mp_7 (q := false) (v := 0) rfl]
      show AW V 0 0 (mpH h B a (p + 2) false 1 l mo) 172 [(3, .int (nI (ix3 (H (p + 1))))), (2, .int (nI (ix5 (H p)))), (1, .int (H p)), (0, .ref (B + 51))] []
      refine a_aload_n hb dX12_factor_172 rfl 3 rfl ?_
      refine a_callV hb dX12_factor_173 (by rw [hg]; exact m_figures g h B hL a n ha hac he hn H hH (p + 2) 1 false l mo (by omega)) (by rw [ow]; exact clv_RX12_111) ((LY.mp hL : LY (mpH h B a (p + 2) false 1 l mo) B).1 51 (by decide)) (by decide) rfl rfl rfl (Nat.le_of_ble_eq_true rfl) (by rw [hr]; exact ⟨by decide, by decide⟩) (by rw [hr]; exact ⟨Nat.le_of_ble_eq_true rfl, Nat.le_of_ble_eq_true rfl⟩) ?_
      intro rv h' hp_
      rw [hp_.1, hp_.2]
      show AW V 0 0 (mpH h B a ((fgP H false (p + 2)).2.1) ((fgP H false (p + 2)).1) 1 l mo) 176 [(3, .int (nI (ix3 (H (p + 1))))), (2, .int (nI (ix5 (H p)))), (1, .int (H p)), (0, .ref (B + 51))] [.int (nI (fgP H false (p + 2)).2.2)]
      refine a_istore (L' := [(4, .int (nI (fgP H false (p + 2)).2.2)), (3, .int (nI (ix3 (H (p + 1))))), (2, .int (nI (ix5 (H p)))), (1, .int (H p)), (0, .ref (B + 51))]) hb dX12_factor_176 (by rw [hml]; decide) rfl ?_
      refine a_aload_n hb dX12_factor_178 rfl 4 rfl ?_
      refine a_iload_n hb dX12_factor_179 rfl 2 rfl ?_
      refine a_bipush (v := 8) hb dX12_factor_180 (by decide) ?_
      refine a_iload_n hb dX12_factor_182 rfl 1 rfl ?_
      refine a_imul hb dX12_factor_183 ?_
      refine a_iadd hb dX12_factor_184 ?_
      refine a_bipush (v := 32) hb dX12_factor_185 (by decide) ?_
      refine a_iload hb dX12_factor_187 0 rfl ?_
      refine a_imul hb dX12_factor_189 ?_
      refine a_iadd hb dX12_factor_190 ?_
      refine a_callV hb dX12_factor_191 (by rw [hg]; exact m_emits g h B hL a n ha hac he hn H hH ((fgP H false (p + 2)).2.1) 1 ((fgP H false (p + 2)).1) l mo (fgG hH (w := false) (by omega)) (((nI (ix5 (H p))) + (8 * (nI (ix3 (H (p + 1)))))) + (32 * (nI (fgP H false (p + 2)).2.2))) (Nat.lt_of_le_of_lt (Nat.le_trans hll (Nat.le_trans hp hn)) (by decide))) (by rw [ow]; exact clv_RX12_97) ((LY.mp hL : LY (mpH h B a ((fgP H false (p + 2)).2.1) ((fgP H false (p + 2)).1) 1 l mo) B).1 51 (by decide)) (by decide) rfl rfl rfl (Nat.le_of_ble_eq_true rfl) (by rw [hr]; exact ⟨by decide, by decide⟩) (by rw [hr]; exact ⟨Nat.le_of_ble_eq_true rfl, Nat.le_of_ble_eq_true rfl⟩) ?_
      intro rv h' hp_
      rw [hp_.1, hp_.2]
      show AW V 0 0 (mpH h B a ((fgP H false (p + 2)).2.1) ((fgP H false (p + 2)).1) 1 (emL ((fgP H false (p + 2)).1) l (((nI (ix5 (H p))) + (8 * (nI (ix3 (H (p + 1)))))) + (32 * (nI (fgP H false (p + 2)).2.2)))) mo) 194 [(4, .int (nI (fgP H false (p + 2)).2.2)), (3, .int (nI (ix3 (H (p + 1))))), (2, .int (nI (ix5 (H p)))), (1, .int (H p)), (0, .ref (B + 51))] []
      exact a_return hb hz dX12_factor_194 hret (by rw [hr]; exact Nat.le_of_ble_eq_true rfl) (by rw [hr]; exact Nat.le_of_ble_eq_true rfl) (⟨rfl, fac_t c16 c22 t5 t3⟩)
    · have pl : p < n := by rw [hH] at c22; exact hrT_n (by decide) c22
      refine a_aload_n hb dX12_factor_25 rfl 1 rfl ?_
      refine a_aload_n hb dX12_factor_26 rfl 1 rfl ?_
      refine a_getI hb dX12_factor_27 (by rw [ow]; exact fl_RX12_91_12) ((LY.mp hL : LY (mpH h B a p false 1 l mo) B).1 51 (by decide)) ?_
      rw [mp_f8]
      show AW V 0 0 (mpH h B a p false 1 l mo) 30 [(1, .int (H p)), (0, .ref (B + 51))] [.int 1, .ref (B + 51)]
      refine a_iconst (v := 5) hb dX12_factor_30 (by decide) ?_
      refine a_icmp_ne hb 38 dX12_factor_31 (by decide) (fun c31 => ?_) (fun c31 => absurd c31 (by decide))
      refine a_iconst (v := 0) hb dX12_factor_38 (by decide) ?_
      refine a_putI (fty := .boolean) hb dX12_factor_39 (by rw [ow]; exact fp_RX12_67_12) (Or.inr (fun C T N hq => by cases hq; rfl)) ((LY.mp hL : LY (mpH h B a p false 1 l mo) B).1 51 (by decide)) rfl rfl ?_
      rw [mp_7 (q := false) (v := 0) rfl]
      show AW V 0 0 (mpH h B a p false 1 l mo) 42 [(1, .int (H p)), (0, .ref (B + 51))] []
      refine a_aload_n hb dX12_factor_42 rfl 1 rfl ?_
      refine a_dup hb dX12_factor_43 rfl ?_
      refine a_getI hb dX12_factor_44 (by rw [ow]; exact fl_RX12_91_12) ((LY.mp hL : LY (mpH h B a p false 1 l mo) B).1 51 (by decide)) ?_
      rw [mp_f8]
      show AW V 0 0 (mpH h B a p false 1 l mo) 47 [(1, .int (H p)), (0, .ref (B + 51))] [.int 1, .ref (B + 51)]
      refine a_iconst (v := 1) hb dX12_factor_47 (by decide) ?_
      refine a_iadd hb dX12_factor_48 ?_
      refine a_putI (fty := .int) hb dX12_factor_49 (by rw [ow]; exact fp_RX12_91_12) (Or.inr (fun C T N hq => by cases hq; rfl)) ((LY.mp hL : LY (mpH h B a p false 1 l mo) B).1 51 (by decide)) rfl rfl ?_
      rw [mp_8 (q := 2) (by decide)]
      show AW V 0 0 (mpH h B a p false 2 l mo) 52 [(1, .int (H p)), (0, .ref (B + 51))] []
      refine a_aload_n hb dX12_factor_52 rfl 1 rfl ?_
      refine a_dup hb dX12_factor_53 rfl ?_
      refine a_getI hb dX12_factor_54 (by rw [ow]; exact fl_RX12_61_12) ((LY.mp hL : LY (mpH h B a p false 2 l mo) B).1 51 (by decide)) ?_
      rw [mp_f5]
      show AW V 0 0 (mpH h B a p false 2 l mo) 57 [(1, .int (H p)), (0, .ref (B + 51))] [.int (nI p), .ref (B + 51)]
      refine a_aload_n hb dX12_factor_57 rfl 1 rfl ?_
      refine a_getI hb dX12_factor_58 (by rw [ow]; exact fl_RX12_67_12) ((LY.mp hL : LY (mpH h B a p false 2 l mo) B).1 51 (by decide)) ?_
      rw [mp_f7]
      show AW V 0 0 (mpH h B a p false 2 l mo) 61 [(1, .int (H p)), (0, .ref (B + 51))] [.int 0, .int (nI p), .ref (B + 51)]
      refine a_if_eq hb 68 dX12_factor_61 (by decide) (fun c61 => ?_) (fun c61 => absurd (by decide) c61)
      refine a_iconst (v := 1) hb dX12_factor_68 (by decide) ?_
      refine a_iadd hb dX12_factor_69 ?_
      refine a_putI (fty := .int) hb dX12_factor_70 (by rw [ow]; exact fp_RX12_61_12) (Or.inr (fun C T N hq => by cases hq; rfl)) ((LY.mp hL : LY (mpH h B a p false 2 l mo) B).1 51 (by decide)) rfl rfl ?_
      rw [mp_5 (q := (p + 1)) (by rw [nI_1])]
      show AW V 0 0 (mpH h B a (p + 1) false 2 l mo) 73 [(1, .int (H p)), (0, .ref (B + 51))] []
      refine a_iload_n hb dX12_factor_73 rfl 0 rfl ?_
      refine a_bipush (v := 33) hb dX12_factor_74 (by decide) ?_
      refine a_icmp_ne hb 91 dX12_factor_76 (by decide) (fun c76 => ?_) (fun c76 => absurd c76 (c16))
      refine a_aload_n hb dX12_factor_91 rfl 1 rfl ?_
      refine a_callV hb dX12_factor_92 (by rw [hg]; exact m_so3 g h B hL a n ha hac he hn H hH (p + 1) l mo (by omega) (Nat.le_succ_of_le hll)) (by rw [ow]; exact clv_RX12_100) ((LY.mp hL : LY (mpH h B a (p + 1) false 2 l mo) B).1 51 (by decide)) (by decide) rfl rfl rfl (Nat.le_of_ble_eq_true rfl) (by rw [hr]; exact ⟨by decide, by decide⟩) (by rw [hr]; exact ⟨Nat.le_of_ble_eq_true rfl, Nat.le_of_ble_eq_true rfl⟩) ?_
      intro rv h' hp_
      rw [hp_.1, hp_.2]
      clear hp_ rv h'
      have gd2_ := pEgH hH 3 (p + 1)
      generalize eQ2 : (pE (pF H 3) H (p + 1)) = q2_ at gd2_ ⊢
      show AW V 0 0 (mpG h B a 2 l mo q2_) 95 [(1, .int (H p)), (0, .ref (B + 51))] []
      show AW V 0 0 (mpH h B a q2_.2.1 q2_.1 2 (l ++ q2_.2.2.map encM) mo) 95 [(1, .int (H p)), (0, .ref (B + 51))] []
      refine a_aload_n hb dX12_factor_95 rfl 1 rfl ?_
      refine a_bipush (v := 41) hb dX12_factor_96 (by decide) ?_
      refine a_callV hb dX12_factor_98 (by rw [hg]; exact m_must g h B hL a n ha hac he hn H hH q2_.2.1 2 q2_.1 (l ++ q2_.2.2.map encM) mo (gd2_.2 (by omega)) 41) (by rw [ow]; exact clv_RX12_84) ((LY.mp hL : LY (mpH h B a q2_.2.1 q2_.1 2 (l ++ q2_.2.2.map encM) mo) B).1 51 (by decide)) (by decide) rfl rfl rfl (Nat.le_of_ble_eq_true rfl) (by rw [hr]; exact ⟨by decide, by decide⟩) (by rw [hr]; exact ⟨Nat.le_of_ble_eq_true rfl, Nat.le_of_ble_eq_true rfl⟩) ?_
      intro rv h' hp_
      rw [hp_.1, hp_.2]
      show AW V 0 0 (mpH h B a ((muP H 41 q2_.1 q2_.2.1).2) ((muP H 41 q2_.1 q2_.2.1).1) 2 (l ++ q2_.2.2.map encM) mo) 101 [(1, .int (H p)), (0, .ref (B + 51))] []
      refine a_aload_n hb dX12_factor_101 rfl 1 rfl ?_
      refine a_dup hb dX12_factor_102 rfl ?_
      refine a_getI hb dX12_factor_103 (by rw [ow]; exact fl_RX12_91_12) ((LY.mp hL : LY (mpH h B a ((muP H 41 q2_.1 q2_.2.1).2) ((muP H 41 q2_.1 q2_.2.1).1) 2 (l ++ q2_.2.2.map encM) mo) B).1 51 (by decide)) ?_
      rw [mp_f8]
      show AW V 0 0 (mpH h B a ((muP H 41 q2_.1 q2_.2.1).2) ((muP H 41 q2_.1 q2_.2.1).1) 2 (l ++ q2_.2.2.map encM) mo) 106 [(1, .int (H p)), (0, .ref (B + 51))] [.int 2, .ref (B + 51)]
      refine a_iconst (v := 1) hb dX12_factor_106 (by decide) ?_
      refine a_isub hb dX12_factor_107 ?_
      refine a_putI (fty := .int) hb dX12_factor_108 (by rw [ow]; exact fp_RX12_91_12) (Or.inr (fun C T N hq => by cases hq; rfl)) ((LY.mp hL : LY (mpH h B a ((muP H 41 q2_.1 q2_.2.1).2) ((muP H 41 q2_.1 q2_.2.1).1) 2 (l ++ q2_.2.2.map encM) mo) B).1 51 (by decide)) rfl rfl ?_
      rw [mp_8 (q := 1) (by decide)]
      show AW V 0 0 (mpH h B a ((muP H 41 q2_.1 q2_.2.1).2) ((muP H 41 q2_.1 q2_.2.1).1) 1 (l ++ q2_.2.2.map encM) mo) 111 [(1, .int (H p)), (0, .ref (B + 51))] []
      exact a_return hb hz dX12_factor_111 hret (by rw [hr]; exact Nat.le_of_ble_eq_true rfl) (by rw [hr]; exact Nat.le_of_ble_eq_true rfl) (⟨rfl, by subst eQ2; exact fac_p c16 c22⟩)
set_option maxRecDepth 100000 in
theorem m_ev4 (g : GG) (h : AH) (B : Nat) (hL : LY h B) (a n : Nat) (ha : a < 5) (hac : hI h (B + 51) 4 = nI a) (he : hI h (B + 51) 6 = nI n) (hn : n ≤ 120) (H : Nat → Int32) (hH : H = hrT (fun i => hI h (B + 52) (10 + i)) n) (p : Nat) (l : List Int32) (mo : Int32) (hp : p ≤ n) (hll : l.length ≤ p) : AM g 19 0 0 mX12_every [.ref (B + 51)] (mpH h B a p false 1 l mo) (fun rv h' => rv = none ∧ h' = mpG h B a 1 l mo (pV (pF H 4) H p)) := by
  refine AM.of [(0, .ref (B + 51))] (by decide) (Nat.le_of_ble_eq_true rfl) rfl ?_
  intro V hV
  have hb : V.2.1.2.1 = cX12_every := by subst hV; rfl
  have ow : V.2.1.1.cls = RX12 := by subst hV; rfl
  have hr : V.2.2.1 = aw_rm 19 0 0 := by subst hV; rfl
  have hz : V.2.2.2 = aw_Z V.1 (fun rv h' => rv = none ∧ h' = mpG h B a 1 l mo (pV (pF H 4) H p)) V.2.2.1 := by subst hV; rfl
  have hg : V.1 = g := by subst hV; rfl
  have hret : V.2.1.2.2.2 = none := by subst hV; rfl
  have hml : V.2.1.2.2.1 = 1 := by subst hV; rfl
  clear hV
  generalize hR : pV (pF H 4) H p = R at hz
  have loop : ∀ (k : Nat) (r : PR), r.2.1 ≤ n → (l ++ r.2.2.map encM).length ≤ r.2.1 → n ≤ r.2.1 + k → lpR (pF H 4) H 38 (2, 0, 0, 0) k r = R → AW V 0 0 (mpG h B a 1 l mo r) 4 [(0, .ref (B + 51))] [] := by
    intro k
    induction k with
    | zero =>
      intro r h1 h2 h3 h4
      show AW V 0 0 (mpH h B a r.2.1 r.1 1 (l ++ r.2.2.map encM) mo) 4 [(0, .ref (B + 51))] []
      refine a_aload_n hb dX12_every_4 rfl 0 rfl ?_
      refine a_getI hb dX12_every_5 (by rw [ow]; exact fl_RX12_67_12) ((LY.mp hL : LY (mpH h B a r.2.1 r.1 1 (l ++ r.2.2.map encM) mo) B).1 51 (by decide)) ?_
      rw [mp_f7]
      show AW V 0 0 (mpH h B a r.2.1 r.1 1 (l ++ r.2.2.map encM) mo) 8 [(0, .ref (B + 51))] [.int (b2i r.1)]
      refine a_if_ne hb 43 dX12_every_8 (by decide) (fun c8 => ?_) (fun c8 => ?_)
      · simp [b2i_0] at c8
        exact a_return hb hz dX12_every_43 hret (by rw [hr]; exact Nat.le_of_ble_eq_true rfl) (by rw [hr]; exact Nat.le_of_ble_eq_true rfl) (⟨rfl, mpG_e ((lpR_w c8).symm.trans h4)⟩)
      · simp [b2i_0] at c8
        refine a_aload_n hb dX12_every_11 rfl 0 rfl ?_
        refine a_callV hb dX12_every_12 (by rw [hg]; exact m_here g h B hL a n ha hac he hn H hH r.2.1 1 r.1 (l ++ r.2.2.map encM) mo h1) (by rw [ow]; exact clv_RX12_71) ((LY.mp hL : LY (mpH h B a r.2.1 r.1 1 (l ++ r.2.2.map encM) mo) B).1 51 (by decide)) (by decide) rfl rfl rfl (Nat.le_of_ble_eq_true rfl) (by rw [hr]; exact ⟨by decide, by decide⟩) (by rw [hr]; exact ⟨Nat.le_of_ble_eq_true rfl, Nat.le_of_ble_eq_true rfl⟩) ?_
        intro rv h' hp_
        rw [hp_.1, hp_.2]
        show AW V 0 0 (mpH h B a r.2.1 r.1 1 (l ++ r.2.2.map encM) mo) 15 [(0, .ref (B + 51))] [.int (H r.2.1)]
        refine a_bipush (v := 38) hb dX12_every_15 (by decide) ?_
        refine a_icmp_ne hb 43 dX12_every_17 (by decide) (fun c17 => ?_) (fun c17 => absurd c17 ((fun q => absurd (hrH hH q) (Nat.not_lt.mpr h3))))
        exact a_return hb hz dX12_every_43 hret (by rw [hr]; exact Nat.le_of_ble_eq_true rfl) (by rw [hr]; exact Nat.le_of_ble_eq_true rfl) (⟨rfl, mpG_e ((lpR_n c17).symm.trans h4)⟩)
    | succ k ih =>
      intro r h1 h2 h3 h4
      show AW V 0 0 (mpH h B a r.2.1 r.1 1 (l ++ r.2.2.map encM) mo) 4 [(0, .ref (B + 51))] []
      refine a_aload_n hb dX12_every_4 rfl 0 rfl ?_
      refine a_getI hb dX12_every_5 (by rw [ow]; exact fl_RX12_67_12) ((LY.mp hL : LY (mpH h B a r.2.1 r.1 1 (l ++ r.2.2.map encM) mo) B).1 51 (by decide)) ?_
      rw [mp_f7]
      show AW V 0 0 (mpH h B a r.2.1 r.1 1 (l ++ r.2.2.map encM) mo) 8 [(0, .ref (B + 51))] [.int (b2i r.1)]
      refine a_if_ne hb 43 dX12_every_8 (by decide) (fun c8 => ?_) (fun c8 => ?_)
      · simp [b2i_0] at c8
        exact a_return hb hz dX12_every_43 hret (by rw [hr]; exact Nat.le_of_ble_eq_true rfl) (by rw [hr]; exact Nat.le_of_ble_eq_true rfl) (⟨rfl, mpG_e ((lpR_w c8).symm.trans h4)⟩)
      · simp [b2i_0] at c8
        refine a_aload_n hb dX12_every_11 rfl 0 rfl ?_
        refine a_callV hb dX12_every_12 (by rw [hg]; exact m_here g h B hL a n ha hac he hn H hH r.2.1 1 r.1 (l ++ r.2.2.map encM) mo h1) (by rw [ow]; exact clv_RX12_71) ((LY.mp hL : LY (mpH h B a r.2.1 r.1 1 (l ++ r.2.2.map encM) mo) B).1 51 (by decide)) (by decide) rfl rfl rfl (Nat.le_of_ble_eq_true rfl) (by rw [hr]; exact ⟨by decide, by decide⟩) (by rw [hr]; exact ⟨Nat.le_of_ble_eq_true rfl, Nat.le_of_ble_eq_true rfl⟩) ?_
        intro rv h' hp_
        rw [hp_.1, hp_.2]
        show AW V 0 0 (mpH h B a r.2.1 r.1 1 (l ++ r.2.2.map encM) mo) 15 [(0, .ref (B + 51))] [.int (H r.2.1)]
        refine a_bipush (v := 38) hb dX12_every_15 (by decide) ?_
        refine a_icmp_ne hb 43 dX12_every_17 (by decide) (fun c17 => ?_) (fun c17 => ?_)
        · exact a_return hb hz dX12_every_43 hret (by rw [hr]; exact Nat.le_of_ble_eq_true rfl) (by rw [hr]; exact Nat.le_of_ble_eq_true rfl) (⟨rfl, mpG_e ((lpR_n c17).symm.trans h4)⟩)
        · have rl : r.2.1 < n := by rw [hH] at c17; exact hrT_n (by decide) c17
          rw [c8]
          show AW V 0 0 (mpH h B a r.2.1 false 1 (l ++ r.2.2.map encM) mo) 20 [(0, .ref (B + 51))] []
          refine a_aload_n hb dX12_every_20 rfl 0 rfl ?_
          refine a_dup hb dX12_every_21 rfl ?_
          refine a_getI hb dX12_every_22 (by rw [ow]; exact fl_RX12_61_12) ((LY.mp hL : LY (mpH h B a r.2.1 false 1 (l ++ r.2.2.map encM) mo) B).1 51 (by decide)) ?_
          rw [mp_f5]
          show AW V 0 0 (mpH h B a r.2.1 false 1 (l ++ r.2.2.map encM) mo) 25 [(0, .ref (B + 51))] [.int (nI r.2.1), .ref (B + 51)]
          refine a_iconst (v := 1) hb dX12_every_25 (by decide) ?_
          refine a_iadd hb dX12_every_26 ?_
          refine a_putI (fty := .int) hb dX12_every_27 (by rw [ow]; exact fp_RX12_61_12) (Or.inr (fun C T N hq => by cases hq; rfl)) ((LY.mp hL : LY (mpH h B a r.2.1 false 1 (l ++ r.2.2.map encM) mo) B).1 51 (by decide)) rfl rfl ?_
          rw [mp_5 (q := (r.2.1 + 1)) (by rw [nI_1])]
          show AW V 0 0 (mpH h B a (r.2.1 + 1) false 1 (l ++ r.2.2.map encM) mo) 30 [(0, .ref (B + 51))] []
          refine a_aload_n hb dX12_every_30 rfl 0 rfl ?_
          refine a_callV hb dX12_every_31 (by rw [hg]; exact m_fac4 g h B hL a n ha hac he hn H hH (r.2.1 + 1) (l ++ r.2.2.map encM) mo (by omega) (Nat.le_succ_of_le h2)) (by rw [ow]; exact clv_RX12_94) ((LY.mp hL : LY (mpH h B a (r.2.1 + 1) false 1 (l ++ r.2.2.map encM) mo) B).1 51 (by decide)) (by decide) rfl rfl rfl (Nat.le_of_ble_eq_true rfl) (by rw [hr]; exact ⟨by decide, by decide⟩) (by rw [hr]; exact ⟨Nat.le_of_ble_eq_true rfl, Nat.le_of_ble_eq_true rfl⟩) ?_
          intro rv h' hp_
          rw [hp_.1, hp_.2]
          clear hp_ rv h'
          have q1 := gdl (pFgH hH 4 (r.2.1 + 1)) (Nat.le_succ_of_le h2)
          have q2 := (pFgH hH 4 (r.2.1 + 1)).2 rl
          have gg := (pFgH hH 4 (r.2.1 + 1)).1
          have hq := @lpR_s (pF H 4) H 38 (2, 0, 0, 0) k r _ c8 c17 rfl
          rw [h4] at hq
          generalize pF H 4 (r.2.1 + 1) = q at *
          show AW V 0 0 (mpG h B a 1 (l ++ r.2.2.map encM) mo q) 34 [(0, .ref (B + 51))] []
          show AW V 0 0 (mpH h B a q.2.1 q.1 1 ((l ++ r.2.2.map encM) ++ q.2.2.map encM) mo) 34 [(0, .ref (B + 51))] []
          refine a_aload_n hb dX12_every_34 rfl 0 rfl ?_
          refine a_bipush (v := (-2)) hb dX12_every_35 (by decide) ?_
          refine a_callV hb dX12_every_37 (by rw [hg]; exact m_emits g h B hL a n ha hac he hn H hH q.2.1 1 q.1 ((l ++ r.2.2.map encM) ++ q.2.2.map encM) mo q2 (-2) (Nat.lt_of_le_of_lt (Nat.le_trans q1 (Nat.le_trans q2 hn)) (by decide))) (by rw [ow]; exact clv_RX12_97) ((LY.mp hL : LY (mpH h B a q.2.1 q.1 1 ((l ++ r.2.2.map encM) ++ q.2.2.map encM) mo) B).1 51 (by decide)) (by decide) rfl rfl rfl (Nat.le_of_ble_eq_true rfl) (by rw [hr]; exact ⟨by decide, by decide⟩) (by rw [hr]; exact ⟨Nat.le_of_ble_eq_true rfl, Nat.le_of_ble_eq_true rfl⟩) ?_
          intro rv h' hp_
          rw [hp_.1, hp_.2]
          show AW V 0 0 (mpH h B a q.2.1 q.1 1 (emL q.1 ((l ++ r.2.2.map encM) ++ q.2.2.map encM) (-2)) mo) 40 [(0, .ref (B + 51))] []
          refine a_goto hb 4 dX12_every_40 (by decide) ?_
          refine AW.eq (ih (q.1, q.2.1, r.2.2 ++ q.2.2 ++ if q.1 = true then [] else [(2, 0, 0, 0)]) q2 ?_ ?_ hq.symm) (seq_h enc_2) rfl rfl rfl
          · show (l ++ List.map encM (r.2.2 ++ q.2.2 ++ if q.1 = true then [] else [(2, 0, 0, 0)])).length ≤ q.2.1
            rw [List.length_append, List.length_map] at h2 ⊢
            rw [List.length_append, List.length_append]
            split <;> simp only [List.length_cons, List.length_nil] <;> omega
          · show n ≤ q.2.1 + k
            omega
  refine a_aload_n hb dX12_every_0 rfl 0 rfl ?_
  refine a_callV hb dX12_every_1 (by rw [hg]; exact m_fac4 g h B hL a n ha hac he hn H hH p l mo hp hll) (by rw [ow]; exact clv_RX12_94) ((LY.mp hL : LY (mpH h B a p false 1 l mo) B).1 51 (by decide)) (by decide) rfl rfl rfl (Nat.le_of_ble_eq_true rfl) (by rw [hr]; exact ⟨by decide, by decide⟩) (by rw [hr]; exact ⟨Nat.le_of_ble_eq_true rfl, Nat.le_of_ble_eq_true rfl⟩) ?_
  intro rv h' hp_
  rw [hp_.1, hp_.2]
  clear hp_ rv h'
  have gd1_ := pFgH hH 4 p
  generalize eQ1 : (pF H 4 p) = q1_ at gd1_ ⊢
  show AW V 0 0 (mpG h B a 1 l mo q1_) 4 [(0, .ref (B + 51))] []
  show AW V 0 0 (mpH h B a q1_.2.1 q1_.1 1 (l ++ q1_.2.2.map encM) mo) 4 [(0, .ref (B + 51))] []
  exact loop 120 q1_ (gd1_.2 hp) (gdl gd1_ hll) (by have z : n ≤ 120 := hn; clear hz loop; omega) ((pV_d eQ1).trans hR)
set_option maxRecDepth 100000 in
theorem m_so4 (g : GG) (h : AH) (B : Nat) (hL : LY h B) (a n : Nat) (ha : a < 5) (hac : hI h (B + 51) 4 = nI a) (he : hI h (B + 51) 6 = nI n) (hn : n ≤ 120) (H : Nat → Int32) (hH : H = hrT (fun i => hI h (B + 52) (10 + i)) n) (p : Nat) (l : List Int32) (mo : Int32) (hp : p ≤ n) (hll : l.length ≤ p) : AM g 20 0 0 mX12_some [.ref (B + 51)] (mpH h B a p false 1 l mo) (fun rv h' => rv = none ∧ h' = mpG h B a 1 l mo (pE (pF H 4) H p)) := by
  refine AM.of [(0, .ref (B + 51))] (by decide) (Nat.le_of_ble_eq_true rfl) rfl ?_
  intro V hV
  have hb : V.2.1.2.1 = cX12_some := by subst hV; rfl
  have ow : V.2.1.1.cls = RX12 := by subst hV; rfl
  have hr : V.2.2.1 = aw_rm 20 0 0 := by subst hV; rfl
  have hz : V.2.2.2 = aw_Z V.1 (fun rv h' => rv = none ∧ h' = mpG h B a 1 l mo (pE (pF H 4) H p)) V.2.2.1 := by subst hV; rfl
  have hg : V.1 = g := by subst hV; rfl
  have hret : V.2.1.2.2.2 = none := by subst hV; rfl
  have hml : V.2.1.2.2.1 = 1 := by subst hV; rfl
  clear hV
  generalize hR : pE (pF H 4) H p = R at hz
  have loop : ∀ (k : Nat) (r : PR), r.2.1 ≤ n → (l ++ r.2.2.map encM).length ≤ r.2.1 → n ≤ r.2.1 + k → lpR (pV (pF H 4) H) H 124 (3, 0, 0, 0) k r = R → AW V 0 0 (mpG h B a 1 l mo r) 4 [(0, .ref (B + 51))] [] := by
    intro k
    induction k with
    | zero =>
      intro r h1 h2 h3 h4
      show AW V 0 0 (mpH h B a r.2.1 r.1 1 (l ++ r.2.2.map encM) mo) 4 [(0, .ref (B + 51))] []
      refine a_aload_n hb dX12_some_4 rfl 0 rfl ?_
      refine a_getI hb dX12_some_5 (by rw [ow]; exact fl_RX12_67_12) ((LY.mp hL : LY (mpH h B a r.2.1 r.1 1 (l ++ r.2.2.map encM) mo) B).1 51 (by decide)) ?_
      rw [mp_f7]
      show AW V 0 0 (mpH h B a r.2.1 r.1 1 (l ++ r.2.2.map encM) mo) 8 [(0, .ref (B + 51))] [.int (b2i r.1)]
      refine a_if_ne hb 43 dX12_some_8 (by decide) (fun c8 => ?_) (fun c8 => ?_)
      · simp [b2i_0] at c8
        exact a_return hb hz dX12_some_43 hret (by rw [hr]; exact Nat.le_of_ble_eq_true rfl) (by rw [hr]; exact Nat.le_of_ble_eq_true rfl) (⟨rfl, mpG_e ((lpR_w c8).symm.trans h4)⟩)
      · simp [b2i_0] at c8
        refine a_aload_n hb dX12_some_11 rfl 0 rfl ?_
        refine a_callV hb dX12_some_12 (by rw [hg]; exact m_here g h B hL a n ha hac he hn H hH r.2.1 1 r.1 (l ++ r.2.2.map encM) mo h1) (by rw [ow]; exact clv_RX12_71) ((LY.mp hL : LY (mpH h B a r.2.1 r.1 1 (l ++ r.2.2.map encM) mo) B).1 51 (by decide)) (by decide) rfl rfl rfl (Nat.le_of_ble_eq_true rfl) (by rw [hr]; exact ⟨by decide, by decide⟩) (by rw [hr]; exact ⟨Nat.le_of_ble_eq_true rfl, Nat.le_of_ble_eq_true rfl⟩) ?_
        intro rv h' hp_
        rw [hp_.1, hp_.2]
        show AW V 0 0 (mpH h B a r.2.1 r.1 1 (l ++ r.2.2.map encM) mo) 15 [(0, .ref (B + 51))] [.int (H r.2.1)]
        refine a_bipush (v := 124) hb dX12_some_15 (by decide) ?_
        refine a_icmp_ne hb 43 dX12_some_17 (by decide) (fun c17 => ?_) (fun c17 => absurd c17 ((fun q => absurd (hrH hH q) (Nat.not_lt.mpr h3))))
        exact a_return hb hz dX12_some_43 hret (by rw [hr]; exact Nat.le_of_ble_eq_true rfl) (by rw [hr]; exact Nat.le_of_ble_eq_true rfl) (⟨rfl, mpG_e ((lpR_n c17).symm.trans h4)⟩)
    | succ k ih =>
      intro r h1 h2 h3 h4
      show AW V 0 0 (mpH h B a r.2.1 r.1 1 (l ++ r.2.2.map encM) mo) 4 [(0, .ref (B + 51))] []
      refine a_aload_n hb dX12_some_4 rfl 0 rfl ?_
      refine a_getI hb dX12_some_5 (by rw [ow]; exact fl_RX12_67_12) ((LY.mp hL : LY (mpH h B a r.2.1 r.1 1 (l ++ r.2.2.map encM) mo) B).1 51 (by decide)) ?_
      rw [mp_f7]
      show AW V 0 0 (mpH h B a r.2.1 r.1 1 (l ++ r.2.2.map encM) mo) 8 [(0, .ref (B + 51))] [.int (b2i r.1)]
      refine a_if_ne hb 43 dX12_some_8 (by decide) (fun c8 => ?_) (fun c8 => ?_)
      · simp [b2i_0] at c8
        exact a_return hb hz dX12_some_43 hret (by rw [hr]; exact Nat.le_of_ble_eq_true rfl) (by rw [hr]; exact Nat.le_of_ble_eq_true rfl) (⟨rfl, mpG_e ((lpR_w c8).symm.trans h4)⟩)
      · simp [b2i_0] at c8
        refine a_aload_n hb dX12_some_11 rfl 0 rfl ?_
        refine a_callV hb dX12_some_12 (by rw [hg]; exact m_here g h B hL a n ha hac he hn H hH r.2.1 1 r.1 (l ++ r.2.2.map encM) mo h1) (by rw [ow]; exact clv_RX12_71) ((LY.mp hL : LY (mpH h B a r.2.1 r.1 1 (l ++ r.2.2.map encM) mo) B).1 51 (by decide)) (by decide) rfl rfl rfl (Nat.le_of_ble_eq_true rfl) (by rw [hr]; exact ⟨by decide, by decide⟩) (by rw [hr]; exact ⟨Nat.le_of_ble_eq_true rfl, Nat.le_of_ble_eq_true rfl⟩) ?_
        intro rv h' hp_
        rw [hp_.1, hp_.2]
        show AW V 0 0 (mpH h B a r.2.1 r.1 1 (l ++ r.2.2.map encM) mo) 15 [(0, .ref (B + 51))] [.int (H r.2.1)]
        refine a_bipush (v := 124) hb dX12_some_15 (by decide) ?_
        refine a_icmp_ne hb 43 dX12_some_17 (by decide) (fun c17 => ?_) (fun c17 => ?_)
        · exact a_return hb hz dX12_some_43 hret (by rw [hr]; exact Nat.le_of_ble_eq_true rfl) (by rw [hr]; exact Nat.le_of_ble_eq_true rfl) (⟨rfl, mpG_e ((lpR_n c17).symm.trans h4)⟩)
        · have rl : r.2.1 < n := by rw [hH] at c17; exact hrT_n (by decide) c17
          rw [c8]
          show AW V 0 0 (mpH h B a r.2.1 false 1 (l ++ r.2.2.map encM) mo) 20 [(0, .ref (B + 51))] []
          refine a_aload_n hb dX12_some_20 rfl 0 rfl ?_
          refine a_dup hb dX12_some_21 rfl ?_
          refine a_getI hb dX12_some_22 (by rw [ow]; exact fl_RX12_61_12) ((LY.mp hL : LY (mpH h B a r.2.1 false 1 (l ++ r.2.2.map encM) mo) B).1 51 (by decide)) ?_
          rw [mp_f5]
          show AW V 0 0 (mpH h B a r.2.1 false 1 (l ++ r.2.2.map encM) mo) 25 [(0, .ref (B + 51))] [.int (nI r.2.1), .ref (B + 51)]
          refine a_iconst (v := 1) hb dX12_some_25 (by decide) ?_
          refine a_iadd hb dX12_some_26 ?_
          refine a_putI (fty := .int) hb dX12_some_27 (by rw [ow]; exact fp_RX12_61_12) (Or.inr (fun C T N hq => by cases hq; rfl)) ((LY.mp hL : LY (mpH h B a r.2.1 false 1 (l ++ r.2.2.map encM) mo) B).1 51 (by decide)) rfl rfl ?_
          rw [mp_5 (q := (r.2.1 + 1)) (by rw [nI_1])]
          show AW V 0 0 (mpH h B a (r.2.1 + 1) false 1 (l ++ r.2.2.map encM) mo) 30 [(0, .ref (B + 51))] []
          refine a_aload_n hb dX12_some_30 rfl 0 rfl ?_
          refine a_callV hb dX12_some_31 (by rw [hg]; exact m_ev4 g h B hL a n ha hac he hn H hH (r.2.1 + 1) (l ++ r.2.2.map encM) mo (by omega) (Nat.le_succ_of_le h2)) (by rw [ow]; exact clv_RX12_114) ((LY.mp hL : LY (mpH h B a (r.2.1 + 1) false 1 (l ++ r.2.2.map encM) mo) B).1 51 (by decide)) (by decide) rfl rfl rfl (Nat.le_of_ble_eq_true rfl) (by rw [hr]; exact ⟨by decide, by decide⟩) (by rw [hr]; exact ⟨Nat.le_of_ble_eq_true rfl, Nat.le_of_ble_eq_true rfl⟩) ?_
          intro rv h' hp_
          rw [hp_.1, hp_.2]
          clear hp_ rv h'
          have q1 := gdl (pVgH hH 4 (r.2.1 + 1)) (Nat.le_succ_of_le h2)
          have q2 := (pVgH hH 4 (r.2.1 + 1)).2 rl
          have gg := (pVgH hH 4 (r.2.1 + 1)).1
          have hq := @lpR_s (pV (pF H 4) H) H 124 (3, 0, 0, 0) k r _ c8 c17 rfl
          rw [h4] at hq
          generalize pV (pF H 4) H (r.2.1 + 1) = q at *
          show AW V 0 0 (mpG h B a 1 (l ++ r.2.2.map encM) mo q) 34 [(0, .ref (B + 51))] []
          show AW V 0 0 (mpH h B a q.2.1 q.1 1 ((l ++ r.2.2.map encM) ++ q.2.2.map encM) mo) 34 [(0, .ref (B + 51))] []
          refine a_aload_n hb dX12_some_34 rfl 0 rfl ?_
          refine a_bipush (v := (-3)) hb dX12_some_35 (by decide) ?_
          refine a_callV hb dX12_some_37 (by rw [hg]; exact m_emits g h B hL a n ha hac he hn H hH q.2.1 1 q.1 ((l ++ r.2.2.map encM) ++ q.2.2.map encM) mo q2 (-3) (Nat.lt_of_le_of_lt (Nat.le_trans q1 (Nat.le_trans q2 hn)) (by decide))) (by rw [ow]; exact clv_RX12_97) ((LY.mp hL : LY (mpH h B a q.2.1 q.1 1 ((l ++ r.2.2.map encM) ++ q.2.2.map encM) mo) B).1 51 (by decide)) (by decide) rfl rfl rfl (Nat.le_of_ble_eq_true rfl) (by rw [hr]; exact ⟨by decide, by decide⟩) (by rw [hr]; exact ⟨Nat.le_of_ble_eq_true rfl, Nat.le_of_ble_eq_true rfl⟩) ?_
          intro rv h' hp_
          rw [hp_.1, hp_.2]
          show AW V 0 0 (mpH h B a q.2.1 q.1 1 (emL q.1 ((l ++ r.2.2.map encM) ++ q.2.2.map encM) (-3)) mo) 40 [(0, .ref (B + 51))] []
          refine a_goto hb 4 dX12_some_40 (by decide) ?_
          refine AW.eq (ih (q.1, q.2.1, r.2.2 ++ q.2.2 ++ if q.1 = true then [] else [(3, 0, 0, 0)]) q2 ?_ ?_ hq.symm) (seq_h enc_3) rfl rfl rfl
          · show (l ++ List.map encM (r.2.2 ++ q.2.2 ++ if q.1 = true then [] else [(3, 0, 0, 0)])).length ≤ q.2.1
            rw [List.length_append, List.length_map] at h2 ⊢
            rw [List.length_append, List.length_append]
            split <;> simp only [List.length_cons, List.length_nil] <;> omega
          · show n ≤ q.2.1 + k
            omega
  refine a_aload_n hb dX12_some_0 rfl 0 rfl ?_
  refine a_callV hb dX12_some_1 (by rw [hg]; exact m_ev4 g h B hL a n ha hac he hn H hH p l mo hp hll) (by rw [ow]; exact clv_RX12_114) ((LY.mp hL : LY (mpH h B a p false 1 l mo) B).1 51 (by decide)) (by decide) rfl rfl rfl (Nat.le_of_ble_eq_true rfl) (by rw [hr]; exact ⟨by decide, by decide⟩) (by rw [hr]; exact ⟨Nat.le_of_ble_eq_true rfl, Nat.le_of_ble_eq_true rfl⟩) ?_
  intro rv h' hp_
  rw [hp_.1, hp_.2]
  clear hp_ rv h'
  have gd1_ := pVgH hH 4 p
  generalize eQ1 : (pV (pF H 4) H p) = q1_ at gd1_ ⊢
  show AW V 0 0 (mpG h B a 1 l mo q1_) 4 [(0, .ref (B + 51))] []
  show AW V 0 0 (mpH h B a q1_.2.1 q1_.1 1 (l ++ q1_.2.2.map encM) mo) 4 [(0, .ref (B + 51))] []
  exact loop 120 q1_ (gd1_.2 hp) (gdl gd1_ hll) (by have z : n ≤ 120 := hn; clear hz loop; omega) ((pE_d eQ1).trans hR)
set_option maxRecDepth 100000 in
theorem m_fac5 (g : GG) (h : AH) (B : Nat) (hL : LY h B) (a n : Nat) (ha : a < 5) (hac : hI h (B + 51) 4 = nI a) (he : hI h (B + 51) 6 = nI n) (hn : n ≤ 120) (H : Nat → Int32) (hH : H = hrT (fun i => hI h (B + 52) (10 + i)) n) (p : Nat) (l : List Int32) (mo : Int32) (hp : p ≤ n) (hll : l.length ≤ p) : AM g 21 0 0 mX12_factor [.ref (B + 51)] (mpH h B a p false 0 l mo) (fun rv h' => rv = none ∧ h' = mpG h B a 0 l mo (pF H 5 p)) := by
  refine AM.of [(0, .ref (B + 51))] (by decide) (Nat.le_of_ble_eq_true rfl) rfl ?_
  intro V hV
  have hb : V.2.1.2.1 = cX12_factor := by subst hV; rfl
  have ow : V.2.1.1.cls = RX12 := by subst hV; rfl
  have hr : V.2.2.1 = aw_rm 21 0 0 := by subst hV; rfl
  have hz : V.2.2.2 = aw_Z V.1 (fun rv h' => rv = none ∧ h' = mpG h B a 0 l mo (pF H 5 p)) V.2.2.1 := by subst hV; rfl
  have hg : V.1 = g := by subst hV; rfl
  have hret : V.2.1.2.2.2 = none := by subst hV; rfl
  have hml : V.2.1.2.2.1 = 5 := by subst hV; rfl
  clear hV
  refine a_aload_n hb dX12_factor_0 rfl 0 rfl ?_
  refine a_getI hb dX12_factor_1 (by rw [ow]; exact fl_RX12_67_12) ((LY.mp hL : LY (mpH h B a p false 0 l mo) B).1 51 (by decide)) ?_
  rw [mp_f7]
  show AW V 0 0 (mpH h B a p false 0 l mo) 4 [(0, .ref (B + 51))] [.int 0]
  refine a_if_eq hb 8 dX12_factor_4 (by decide) (fun c4 => ?_) (fun c4 => absurd (by decide) c4)
  refine a_aload_n hb dX12_factor_8 rfl 0 rfl ?_
  refine a_callV hb dX12_factor_9 (by rw [hg]; exact m_here g h B hL a n ha hac he hn H hH p 0 false l mo hp) (by rw [ow]; exact clv_RX12_71) ((LY.mp hL : LY (mpH h B a p false 0 l mo) B).1 51 (by decide)) (by decide) rfl rfl rfl (Nat.le_of_ble_eq_true rfl) (by rw [hr]; exact ⟨by decide, by decide⟩) (by rw [hr]; exact ⟨Nat.le_of_ble_eq_true rfl, Nat.le_of_ble_eq_true rfl⟩) ?_
  intro rv h' hp_
  rw [hp_.1, hp_.2]
  show AW V 0 0 (mpH h B a p false 0 l mo) 12 [(0, .ref (B + 51))] [.int (H p)]
  refine a_istore_n (L' := [(1, .int (H p)), (0, .ref (B + 51))]) hb dX12_factor_12 rfl (by rw [hml]; decide) rfl ?_
  refine a_iload_n hb dX12_factor_13 rfl 0 rfl ?_
  refine a_bipush (v := 33) hb dX12_factor_14 (by decide) ?_
  refine a_icmp_eq hb 25 dX12_factor_16 (by decide) (fun c16 => ?_) (fun c16 => ?_)
  · have pl : p < n := by rw [hH] at c16; exact hrT_n (by decide) c16
    refine a_aload_n hb dX12_factor_25 rfl 1 rfl ?_
    refine a_aload_n hb dX12_factor_26 rfl 1 rfl ?_
    refine a_getI hb dX12_factor_27 (by rw [ow]; exact fl_RX12_91_12) ((LY.mp hL : LY (mpH h B a p false 0 l mo) B).1 51 (by decide)) ?_
    rw [mp_f8]
    show AW V 0 0 (mpH h B a p false 0 l mo) 30 [(1, .int (H p)), (0, .ref (B + 51))] [.int 0, .ref (B + 51)]
    refine a_iconst (v := 5) hb dX12_factor_30 (by decide) ?_
    refine a_icmp_ne hb 38 dX12_factor_31 (by decide) (fun c31 => ?_) (fun c31 => absurd c31 (by decide))
    refine a_iconst (v := 0) hb dX12_factor_38 (by decide) ?_
    refine a_putI (fty := .boolean) hb dX12_factor_39 (by rw [ow]; exact fp_RX12_67_12) (Or.inr (fun C T N hq => by cases hq; rfl)) ((LY.mp hL : LY (mpH h B a p false 0 l mo) B).1 51 (by decide)) rfl rfl ?_
    rw [mp_7 (q := false) (v := 0) rfl]
    show AW V 0 0 (mpH h B a p false 0 l mo) 42 [(1, .int (H p)), (0, .ref (B + 51))] []
    refine a_aload_n hb dX12_factor_42 rfl 1 rfl ?_
    refine a_dup hb dX12_factor_43 rfl ?_
    refine a_getI hb dX12_factor_44 (by rw [ow]; exact fl_RX12_91_12) ((LY.mp hL : LY (mpH h B a p false 0 l mo) B).1 51 (by decide)) ?_
    rw [mp_f8]
    show AW V 0 0 (mpH h B a p false 0 l mo) 47 [(1, .int (H p)), (0, .ref (B + 51))] [.int 0, .ref (B + 51)]
    refine a_iconst (v := 1) hb dX12_factor_47 (by decide) ?_
    refine a_iadd hb dX12_factor_48 ?_
    refine a_putI (fty := .int) hb dX12_factor_49 (by rw [ow]; exact fp_RX12_91_12) (Or.inr (fun C T N hq => by cases hq; rfl)) ((LY.mp hL : LY (mpH h B a p false 0 l mo) B).1 51 (by decide)) rfl rfl ?_
    rw [mp_8 (q := 1) (by decide)]
    show AW V 0 0 (mpH h B a p false 1 l mo) 52 [(1, .int (H p)), (0, .ref (B + 51))] []
    refine a_aload_n hb dX12_factor_52 rfl 1 rfl ?_
    refine a_dup hb dX12_factor_53 rfl ?_
    refine a_getI hb dX12_factor_54 (by rw [ow]; exact fl_RX12_61_12) ((LY.mp hL : LY (mpH h B a p false 1 l mo) B).1 51 (by decide)) ?_
    rw [mp_f5]
    show AW V 0 0 (mpH h B a p false 1 l mo) 57 [(1, .int (H p)), (0, .ref (B + 51))] [.int (nI p), .ref (B + 51)]
    refine a_aload_n hb dX12_factor_57 rfl 1 rfl ?_
    refine a_getI hb dX12_factor_58 (by rw [ow]; exact fl_RX12_67_12) ((LY.mp hL : LY (mpH h B a p false 1 l mo) B).1 51 (by decide)) ?_
    rw [mp_f7]
    show AW V 0 0 (mpH h B a p false 1 l mo) 61 [(1, .int (H p)), (0, .ref (B + 51))] [.int 0, .int (nI p), .ref (B + 51)]
    refine a_if_eq hb 68 dX12_factor_61 (by decide) (fun c61 => ?_) (fun c61 => absurd (by decide) c61)
    refine a_iconst (v := 1) hb dX12_factor_68 (by decide) ?_
    refine a_iadd hb dX12_factor_69 ?_
    refine a_putI (fty := .int) hb dX12_factor_70 (by rw [ow]; exact fp_RX12_61_12) (Or.inr (fun C T N hq => by cases hq; rfl)) ((LY.mp hL : LY (mpH h B a p false 1 l mo) B).1 51 (by decide)) rfl rfl ?_
    rw [mp_5 (q := (p + 1)) (by rw [nI_1])]
    show AW V 0 0 (mpH h B a (p + 1) false 1 l mo) 73 [(1, .int (H p)), (0, .ref (B + 51))] []
    refine a_iload_n hb dX12_factor_73 rfl 0 rfl ?_
    refine a_bipush (v := 33) hb dX12_factor_74 (by decide) ?_
    refine a_icmp_ne hb 91 dX12_factor_76 (by decide) (fun c76 => absurd c76 (not_not_intro c16)) (fun c76 => ?_)
    refine a_aload_n hb dX12_factor_79 rfl 1 rfl ?_
    refine a_callV hb dX12_factor_80 (by rw [hg]; exact m_fac4 g h B hL a n ha hac he hn H hH (p + 1) l mo (by omega) (Nat.le_succ_of_le hll)) (by rw [ow]; exact clv_RX12_94) ((LY.mp hL : LY (mpH h B a (p + 1) false 1 l mo) B).1 51 (by decide)) (by decide) rfl rfl rfl (Nat.le_of_ble_eq_true rfl) (by rw [hr]; exact ⟨by decide, by decide⟩) (by rw [hr]; exact ⟨Nat.le_of_ble_eq_true rfl, Nat.le_of_ble_eq_true rfl⟩) ?_
    intro rv h' hp_
    rw [hp_.1, hp_.2]
    clear hp_ rv h'
    have gd1_ := pFgH hH 4 (p + 1)
    generalize eQ1 : (pF H 4 (p + 1)) = q1_ at gd1_ ⊢
    show AW V 0 0 (mpG h B a 1 l mo q1_) 83 [(1, .int (H p)), (0, .ref (B + 51))] []
    show AW V 0 0 (mpH h B a q1_.2.1 q1_.1 1 (l ++ q1_.2.2.map encM) mo) 83 [(1, .int (H p)), (0, .ref (B + 51))] []
    refine a_aload_n hb dX12_factor_83 rfl 1 rfl ?_
    refine a_iconst (v := (-1)) hb dX12_factor_84 (by decide) ?_
    refine a_callV hb dX12_factor_85 (by rw [hg]; exact m_emits g h B hL a n ha hac he hn H hH q1_.2.1 1 q1_.1 (l ++ q1_.2.2.map encM) mo (gd1_.2 (by omega)) (-1) (Nat.lt_of_le_of_lt (Nat.le_trans (gdl gd1_ (Nat.le_succ_of_le hll)) (Nat.le_trans (gd1_.2 (by omega)) hn)) (by decide))) (by rw [ow]; exact clv_RX12_97) ((LY.mp hL : LY (mpH h B a q1_.2.1 q1_.1 1 (l ++ q1_.2.2.map encM) mo) B).1 51 (by decide)) (by decide) rfl rfl rfl (Nat.le_of_ble_eq_true rfl) (by rw [hr]; exact ⟨by decide, by decide⟩) (by rw [hr]; exact ⟨Nat.le_of_ble_eq_true rfl, Nat.le_of_ble_eq_true rfl⟩) ?_
    intro rv h' hp_
    rw [hp_.1, hp_.2]
    show AW V 0 0 (mpH h B a q1_.2.1 q1_.1 1 (emL q1_.1 (l ++ q1_.2.2.map encM) (-1)) mo) 88 [(1, .int (H p)), (0, .ref (B + 51))] []
    refine a_goto hb 101 dX12_factor_88 (by decide) ?_
    refine a_aload_n hb dX12_factor_101 rfl 1 rfl ?_
    refine a_dup hb dX12_factor_102 rfl ?_
    refine a_getI hb dX12_factor_103 (by rw [ow]; exact fl_RX12_91_12) ((LY.mp hL : LY (mpH h B a q1_.2.1 q1_.1 1 (emL q1_.1 (l ++ q1_.2.2.map encM) (-1)) mo) B).1 51 (by decide)) ?_
    rw [mp_f8]
    show AW V 0 0 (mpH h B a q1_.2.1 q1_.1 1 (emL q1_.1 (l ++ q1_.2.2.map encM) (-1)) mo) 106 [(1, .int (H p)), (0, .ref (B + 51))] [.int 1, .ref (B + 51)]
    refine a_iconst (v := 1) hb dX12_factor_106 (by decide) ?_
    refine a_isub hb dX12_factor_107 ?_
    refine a_putI (fty := .int) hb dX12_factor_108 (by rw [ow]; exact fp_RX12_91_12) (Or.inr (fun C T N hq => by cases hq; rfl)) ((LY.mp hL : LY (mpH h B a q1_.2.1 q1_.1 1 (emL q1_.1 (l ++ q1_.2.2.map encM) (-1)) mo) B).1 51 (by decide)) rfl rfl ?_
    rw [mp_8 (q := 0) (by decide)]
    show AW V 0 0 (mpH h B a q1_.2.1 q1_.1 0 (emL q1_.1 (l ++ q1_.2.2.map encM) (-1)) mo) 111 [(1, .int (H p)), (0, .ref (B + 51))] []
    exact a_return hb hz dX12_factor_111 hret (by rw [hr]; exact Nat.le_of_ble_eq_true rfl) (by rw [hr]; exact Nat.le_of_ble_eq_true rfl) (⟨rfl, by subst eQ1; exact fac_n c16⟩)
  · refine a_iload_n hb dX12_factor_19 rfl 0 rfl ?_
    refine a_bipush (v := 40) hb dX12_factor_20 (by decide) ?_
    refine a_icmp_ne hb 112 dX12_factor_22 (by decide) (fun c22 => ?_) (fun c22 => ?_)
    · refine a_aload_n hb dX12_factor_112 rfl 1 rfl ?_
      refine a_ldcS (i := 0) hb dX12_factor_113 (by rw [ow]; exact List.mem_of_getElem? (i := 5) rfl) ?_
      refine a_callV hb dX12_factor_115 (by have z_ := m_among0 g h B hL a n ha hac he hn H hH p 0 false l mo hp; rw [← hg] at z_; exact z_) (by rw [ow]; exact clv_RX12_105) ((LY.mp hL : LY (mpH h B a p false 0 l mo) B).1 51 (by decide)) (by decide) rfl rfl rfl (Nat.le_of_ble_eq_true rfl) (by rw [hr]; exact ⟨by decide, by decide⟩) (by rw [hr]; exact ⟨Nat.le_of_ble_eq_true rfl, Nat.le_of_ble_eq_true rfl⟩) ?_
      intro rv h' hp_
      rw [hp_.1, hp_.2]
      by_cases t5 : ix5 (H p) = 5
      · rw [if_pos t5, if_pos t5]
        show AW V 0 0 (mpH h B a p false 0 l mo) 118 [(1, .int (H p)), (0, .ref (B + 51))] [.int (-1)]
        refine a_istore_n (L' := [(2, .int (-1)), (1, .int (H p)), (0, .ref (B + 51))]) hb dX12_factor_118 rfl (by rw [hml]; decide) rfl ?_
        refine a_aload_n hb dX12_factor_119 rfl 2 rfl ?_
        refine a_iload_n hb dX12_factor_120 rfl 0 rfl ?_
        refine a_iconst (v := (-1)) hb dX12_factor_121 (by decide) ?_
        refine a_icmp_ne hb 129 dX12_factor_122 (by decide) (fun c122 => absurd c122 (by decide)) (fun c122 => ?_)
        refine a_iconst (v := 1) hb dX12_factor_125 (by decide) ?_
        refine a_goto hb 130 dX12_factor_126 (by decide) ?_
        refine a_putI (fty := .boolean) hb dX12_factor_130 (by rw [ow]; exact fp_RX12_67_12) (Or.inr (fun C T N hq => by cases hq; rfl)) ((LY.mp hL : LY (mpH h B a p false 0 l mo) B).1 51 (by decide)) rfl rfl ?_
        rw [mp_7 (q := true) (v := 1) rfl]
        show AW V 0 0 (mpH h B a p true 0 l mo) 133 [(2, .int (-1)), (1, .int (H p)), (0, .ref (B + 51))] []
        refine a_aload_n hb dX12_factor_133 rfl 2 rfl ?_
        refine a_getI hb dX12_factor_134 (by rw [ow]; exact fl_RX12_67_12) ((LY.mp hL : LY (mpH h B a p true 0 l mo) B).1 51 (by decide)) ?_
        rw [mp_f7]
        show AW V 0 0 (mpH h B a p true 0 l mo) 137 [(2, .int (-1)), (1, .int (H p)), (0, .ref (B + 51))] [.int 1]
        refine a_if_eq hb 144 dX12_factor_137 (by decide) (fun c137 => absurd c137 (by decide)) (fun c137 => ?_)
        refine a_iconst (v := 0) hb dX12_factor_140 (by decide) ?_
        refine a_goto hb 150 dX12_factor_141 (by decide) ?_
        refine a_istore_n (L' := [(3, .int 0), (2, .int (-1)), (1, .int (H p)), (0, .ref (B + 51))]) hb dX12_factor_150 rfl (by rw [hml]; decide) rfl ?_
        refine a_aload_n hb dX12_factor_151 rfl 3 rfl ?_
        refine a_aload_n hb dX12_factor_152 rfl 3 rfl ?_
        refine a_getI hb dX12_factor_153 (by rw [ow]; exact fl_RX12_67_12) ((LY.mp hL : LY (mpH h B a p true 0 l mo) B).1 51 (by decide)) ?_
        rw [mp_f7]
        show AW V 0 0 (mpH h B a p true 0 l mo) 156 [(3, .int 0), (2, .int (-1)), (1, .int (H p)), (0, .ref (B + 51))] [.int 1, .ref (B + 51)]
        refine a_if_ne hb 164 dX12_factor_156 (by decide) (fun c156 => ?_) (fun c156 => absurd c156 (by decide))
        refine a_iconst (v := 1) hb dX12_factor_164 (by decide) ?_
        refine a_goto hb 169 dX12_factor_165 (by decide) ?_
        refine a_putI (fty := .boolean) hb dX12_factor_169 (by rw [ow]; exact fp_RX12_67_12) (Or.inr (fun C T N hq => by cases hq; rfl)) ((LY.mp hL : LY (mpH h B a p true 0 l mo) B).1 51 (by decide)) rfl rfl ?_
        rw [mp_7 (q := true) (v := 1) rfl]
        show AW V 0 0 (mpH h B a p true 0 l mo) 172 [(3, .int 0), (2, .int (-1)), (1, .int (H p)), (0, .ref (B + 51))] []
        refine a_aload_n hb dX12_factor_172 rfl 3 rfl ?_
        refine a_callV hb dX12_factor_173 (by rw [hg]; exact m_figures g h B hL a n ha hac he hn H hH p 0 true l mo hp) (by rw [ow]; exact clv_RX12_111) ((LY.mp hL : LY (mpH h B a p true 0 l mo) B).1 51 (by decide)) (by decide) rfl rfl rfl (Nat.le_of_ble_eq_true rfl) (by rw [hr]; exact ⟨by decide, by decide⟩) (by rw [hr]; exact ⟨Nat.le_of_ble_eq_true rfl, Nat.le_of_ble_eq_true rfl⟩) ?_
        intro rv h' hp_
        rw [hp_.1, hp_.2]
        show AW V 0 0 (mpH h B a p true 0 l mo) 176 [(3, .int 0), (2, .int (-1)), (1, .int (H p)), (0, .ref (B + 51))] [.int (nI 0)]
        refine a_istore (L' := [(4, .int (nI 0)), (3, .int 0), (2, .int (-1)), (1, .int (H p)), (0, .ref (B + 51))]) hb dX12_factor_176 (by rw [hml]; decide) rfl ?_
        refine a_aload_n hb dX12_factor_178 rfl 4 rfl ?_
        refine a_iload_n hb dX12_factor_179 rfl 2 rfl ?_
        refine a_bipush (v := 8) hb dX12_factor_180 (by decide) ?_
        refine a_iload_n hb dX12_factor_182 rfl 1 rfl ?_
        refine a_imul hb dX12_factor_183 ?_
        refine a_iadd hb dX12_factor_184 ?_
        refine a_bipush (v := 32) hb dX12_factor_185 (by decide) ?_
        refine a_iload hb dX12_factor_187 0 rfl ?_
        refine a_imul hb dX12_factor_189 ?_
        refine a_iadd hb dX12_factor_190 ?_
        refine a_callV hb dX12_factor_191 (by rw [hg]; exact m_emits g h B hL a n ha hac he hn H hH p 0 true l mo hp (((-1) + (8 * 0)) + (32 * (nI 0))) (Nat.lt_of_le_of_lt (Nat.le_trans hll (Nat.le_trans hp hn)) (by decide))) (by rw [ow]; exact clv_RX12_97) ((LY.mp hL : LY (mpH h B a p true 0 l mo) B).1 51 (by decide)) (by decide) rfl rfl rfl (Nat.le_of_ble_eq_true rfl) (by rw [hr]; exact ⟨by decide, by decide⟩) (by rw [hr]; exact ⟨Nat.le_of_ble_eq_true rfl, Nat.le_of_ble_eq_true rfl⟩) ?_
        intro rv h' hp_
        rw [hp_.1, hp_.2]
        show AW V 0 0 (mpH h B a p true 0 l mo) 194 [(4, .int (nI 0)), (3, .int 0), (2, .int (-1)), (1, .int (H p)), (0, .ref (B + 51))] []
        exact a_return hb hz dX12_factor_194 hret (by rw [hr]; exact Nat.le_of_ble_eq_true rfl) (by rw [hr]; exact Nat.le_of_ble_eq_true rfl) (⟨rfl, fac_5 c16 c22 t5⟩)
      rw [if_neg t5, if_neg t5]
      have ltt5 : p < n := by rw [hH] at t5; exact hrT_5 t5
      show AW V 0 0 (mpH h B a (p + 1) false 0 l mo) 118 [(1, .int (H p)), (0, .ref (B + 51))] [.int (nI (ix5 (H p)))]
      refine a_istore_n (L' := [(2, .int (nI (ix5 (H p)))), (1, .int (H p)), (0, .ref (B + 51))]) hb dX12_factor_118 rfl (by rw [hml]; decide) rfl ?_
      refine a_aload_n hb dX12_factor_119 rfl 2 rfl ?_
      refine a_iload_n hb dX12_factor_120 rfl 0 rfl ?_
      refine a_iconst (v := (-1)) hb dX12_factor_121 (by decide) ?_
      refine a_icmp_ne hb 129 dX12_factor_122 (by decide) (fun c122 => ?_) (fun c122 => absurd c122 ((nI_m1 ix5_le)))
      refine a_iconst (v := 0) hb dX12_factor_129 (by decide) ?_
      refine a_putI (fty := .boolean) hb dX12_factor_130 (by rw [ow]; exact fp_RX12_67_12) (Or.inr (fun C T N hq => by cases hq; rfl)) ((LY.mp hL : LY (mpH h B a (p + 1) false 0 l mo) B).1 51 (by decide)) rfl rfl ?_
      rw [mp_7 (q := false) (v := 0) rfl]
      show AW V 0 0 (mpH h B a (p + 1) false 0 l mo) 133 [(2, .int (nI (ix5 (H p)))), (1, .int (H p)), (0, .ref (B + 51))] []
      refine a_aload_n hb dX12_factor_133 rfl 2 rfl ?_
      refine a_getI hb dX12_factor_134 (by rw [ow]; exact fl_RX12_67_12) ((LY.mp hL : LY (mpH h B a (p + 1) false 0 l mo) B).1 51 (by decide)) ?_
      rw [mp_f7]
      show AW V 0 0 (mpH h B a (p + 1) false 0 l mo) 137 [(2, .int (nI (ix5 (H p)))), (1, .int (H p)), (0, .ref (B + 51))] [.int 0]
      refine a_if_eq hb 144 dX12_factor_137 (by decide) (fun c137 => ?_) (fun c137 => absurd (by decide) c137)
      refine a_aload_n hb dX12_factor_144 rfl 2 rfl ?_
      refine a_ldcS (i := 1) hb dX12_factor_145 (by rw [ow]; exact List.mem_of_getElem? (i := 6) rfl) ?_
      refine a_callV hb dX12_factor_147 (by have z_ := m_among1 g h B hL a n ha hac he hn H hH (p + 1) 0 false l mo (by omega); rw [← hg] at z_; exact z_) (by rw [ow]; exact clv_RX12_105) ((LY.mp hL : LY (mpH h B a (p + 1) false 0 l mo) B).1 51 (by decide)) (by decide) rfl rfl rfl (Nat.le_of_ble_eq_true rfl) (by rw [hr]; exact ⟨by decide, by decide⟩) (by rw [hr]; exact ⟨Nat.le_of_ble_eq_true rfl, Nat.le_of_ble_eq_true rfl⟩) ?_
      intro rv h' hp_
      rw [hp_.1, hp_.2]
      by_cases t3 : ix3 (H (p + 1)) = 3
      · rw [if_pos t3, if_pos t3]
        show AW V 0 0 (mpH h B a (p + 1) false 0 l mo) 150 [(2, .int (nI (ix5 (H p)))), (1, .int (H p)), (0, .ref (B + 51))] [.int (-1)]
        refine a_istore_n (L' := [(3, .int (-1)), (2, .int (nI (ix5 (H p)))), (1, .int (H p)), (0, .ref (B + 51))]) hb dX12_factor_150 rfl (by rw [hml]; decide) rfl ?_
        refine a_aload_n hb dX12_factor_151 rfl 3 rfl ?_
        refine a_aload_n hb dX12_factor_152 rfl 3 rfl ?_
        refine a_getI hb dX12_factor_153 (by rw [ow]; exact fl_RX12_67_12) ((LY.mp hL : LY (mpH h B a (p + 1) false 0 l mo) B).1 51 (by decide)) ?_
        rw [mp_f7]
        show AW V 0 0 (mpH h B a (p + 1) false 0 l mo) 156 [(3, .int (-1)), (2, .int (nI (ix5 (H p)))), (1, .int (H p)), (0, .ref (B + 51))] [.int 0, .ref (B + 51)]
        refine a_if_ne hb 164 dX12_factor_156 (by decide) (fun c156 => absurd c156 (by decide)) (fun c156 => ?_)
        refine a_iload_n hb dX12_factor_159 rfl 0 rfl ?_
        refine a_iconst (v := (-1)) hb dX12_factor_160 (by decide) ?_
        refine a_icmp_ne hb 168 dX12_factor_161 (by decide) (fun c161 => absurd c161 (by decide)) (fun c161 => ?_)
        refine a_iconst (v := 1) hb dX12_factor_164 (by decide) ?_
        refine a_goto hb 169 dX12_factor_165 (by decide) ?_
        refine a_putI (fty := .boolean) hb dX12_factor_169 (by rw [ow]; exact fp_RX12_67_12) (Or.inr (fun C T N hq => by cases hq; rfl)) ((LY.mp hL : LY (mpH h B a (p + 1) false 0 l mo) B).1 51 (by decide)) rfl rfl ?_
        rw [mp_7 (q := true) (v := 1) rfl]
        show AW V 0 0 (mpH h B a (p + 1) true 0 l mo) 172 [(3, .int (-1)), (2, .int (nI (ix5 (H p)))), (1, .int (H p)), (0, .ref (B + 51))] []
        refine a_aload_n hb dX12_factor_172 rfl 3 rfl ?_
        refine a_callV hb dX12_factor_173 (by rw [hg]; exact m_figures g h B hL a n ha hac he hn H hH (p + 1) 0 true l mo (by omega)) (by rw [ow]; exact clv_RX12_111) ((LY.mp hL : LY (mpH h B a (p + 1) true 0 l mo) B).1 51 (by decide)) (by decide) rfl rfl rfl (Nat.le_of_ble_eq_true rfl) (by rw [hr]; exact ⟨by decide, by decide⟩) (by rw [hr]; exact ⟨Nat.le_of_ble_eq_true rfl, Nat.le_of_ble_eq_true rfl⟩) ?_
        intro rv h' hp_
        rw [hp_.1, hp_.2]
        show AW V 0 0 (mpH h B a (p + 1) true 0 l mo) 176 [(3, .int (-1)), (2, .int (nI (ix5 (H p)))), (1, .int (H p)), (0, .ref (B + 51))] [.int (nI 0)]
        refine a_istore (L' := [(4, .int (nI 0)), (3, .int (-1)), (2, .int (nI (ix5 (H p)))), (1, .int (H p)), (0, .ref (B + 51))]) hb dX12_factor_176 (by rw [hml]; decide) rfl ?_
        refine a_aload_n hb dX12_factor_178 rfl 4 rfl ?_
        refine a_iload_n hb dX12_factor_179 rfl 2 rfl ?_
        refine a_bipush (v := 8) hb dX12_factor_180 (by decide) ?_
        refine a_iload_n hb dX12_factor_182 rfl 1 rfl ?_
        refine a_imul hb dX12_factor_183 ?_
        refine a_iadd hb dX12_factor_184 ?_
        refine a_bipush (v := 32) hb dX12_factor_185 (by decide) ?_
        refine a_iload hb dX12_factor_187 0 rfl ?_
        refine a_imul hb dX12_factor_189 ?_
        refine a_iadd hb dX12_factor_190 ?_
        refine a_callV hb dX12_factor_191 (by rw [hg]; exact m_emits g h B hL a n ha hac he hn H hH (p + 1) 0 true l mo (by omega) (((nI (ix5 (H p))) + (8 * (-1))) + (32 * (nI 0))) (Nat.lt_of_le_of_lt (Nat.le_trans hll (Nat.le_trans hp hn)) (by decide))) (by rw [ow]; exact clv_RX12_97) ((LY.mp hL : LY (mpH h B a (p + 1) true 0 l mo) B).1 51 (by decide)) (by decide) rfl rfl rfl (Nat.le_of_ble_eq_true rfl) (by rw [hr]; exact ⟨by decide, by decide⟩) (by rw [hr]; exact ⟨Nat.le_of_ble_eq_true rfl, Nat.le_of_ble_eq_true rfl⟩) ?_
        intro rv h' hp_
        rw [hp_.1, hp_.2]
        show AW V 0 0 (mpH h B a (p + 1) true 0 l mo) 194 [(4, .int (nI 0)), (3, .int (-1)), (2, .int (nI (ix5 (H p)))), (1, .int (H p)), (0, .ref (B + 51))] []
        exact a_return hb hz dX12_factor_194 hret (by rw [hr]; exact Nat.le_of_ble_eq_true rfl) (by rw [hr]; exact Nat.le_of_ble_eq_true rfl) (⟨rfl, fac_3 c16 c22 t5 t3⟩)
      rw [if_neg t3, if_neg t3]
      have ltt3 : (p + 1) < n := by rw [hH] at t3; exact hrT_3 t3
      show AW V 0 0 (mpH h B a (p + 2) false 0 l mo) 150 [(2, .int (nI (ix5 (H p)))), (1, .int (H p)), (0, .ref (B + 51))] [.int (nI (ix3 (H (p + 1))))]
      refine a_istore_n (L' := [(3, .int (nI (ix3 (H (p + 1))))), (2, .int (nI (ix5 (H p)))), (1, .int (H p)), (0, .ref (B + 51))]) hb dX12_factor_150 rfl (by rw [hml]; decide) rfl ?_
      refine a_aload_n hb dX12_factor_151 rfl 3 rfl ?_
      refine a_aload_n hb dX12_factor_152 rfl 3 rfl ?_
      refine a_getI hb dX12_factor_153 (by rw [ow]; exact fl_RX12_67_12) ((LY.mp hL : LY (mpH h B a (p + 2) false 0 l mo) B).1 51 (by decide)) ?_
      rw [mp_f7]
      show AW V 0 0 (mpH h B a (p + 2) false 0 l mo) 156 [(3, .int (nI (ix3 (H (p + 1))))), (2, .int (nI (ix5 (H p)))), (1, .int (H p)), (0, .ref (B + 51))] [.int 0, .ref (B + 51)]
      refine a_if_ne hb 164 dX12_factor_156 (by decide) (fun c156 => absurd c156 (by decide)) (fun c156 => ?_)
      refine a_iload_n hb dX12_factor_159 rfl 0 rfl ?_
      refine a_iconst (v := (-1)) hb dX12_factor_160 (by decide) ?_
      refine a_icmp_ne hb 168 dX12_factor_161 (by decide) (fun c161 => ?_) (fun c161 => absurd c161 ((nI_m1 (Nat.le_trans ix3_le (by decide)))))
      refine a_iconst (v := 0) hb dX12_factor_168 (by decide) ?_
      refine a_putI (fty := .boolean) hb dX12_factor_169 (by rw [ow]; exact fp_RX12_67_12) (Or.inr (fun C T N hq => by cases hq; rfl)) ((LY.mp hL : LY (mpH h B a (p + 2) false 0 l mo) B).1 51 (by decide)) rfl rfl ?_
      rw [mp_7 (q := false) (v := 0) rfl]
      show AW V 0 0 (mpH h B a (p + 2) false 0 l mo) 172 [(3, .int (nI (ix3 (H (p + 1))))), (2, .int (nI (ix5 (H p)))), (1, .int (H p)), (0, .ref (B + 51))] []
      refine a_aload_n hb dX12_factor_172 rfl 3 rfl ?_
      refine a_callV hb dX12_factor_173 (by rw [hg]; exact m_figures g h B hL a n ha hac he hn H hH (p + 2) 0 false l mo (by omega)) (by rw [ow]; exact clv_RX12_111) ((LY.mp hL : LY (mpH h B a (p + 2) false 0 l mo) B).1 51 (by decide)) (by decide) rfl rfl rfl (Nat.le_of_ble_eq_true rfl) (by rw [hr]; exact ⟨by decide, by decide⟩) (by rw [hr]; exact ⟨Nat.le_of_ble_eq_true rfl, Nat.le_of_ble_eq_true rfl⟩) ?_
      intro rv h' hp_
      rw [hp_.1, hp_.2]
      show AW V 0 0 (mpH h B a ((fgP H false (p + 2)).2.1) ((fgP H false (p + 2)).1) 0 l mo) 176 [(3, .int (nI (ix3 (H (p + 1))))), (2, .int (nI (ix5 (H p)))), (1, .int (H p)), (0, .ref (B + 51))] [.int (nI (fgP H false (p + 2)).2.2)]
      refine a_istore (L' := [(4, .int (nI (fgP H false (p + 2)).2.2)), (3, .int (nI (ix3 (H (p + 1))))), (2, .int (nI (ix5 (H p)))), (1, .int (H p)), (0, .ref (B + 51))]) hb dX12_factor_176 (by rw [hml]; decide) rfl ?_
      refine a_aload_n hb dX12_factor_178 rfl 4 rfl ?_
      refine a_iload_n hb dX12_factor_179 rfl 2 rfl ?_
      refine a_bipush (v := 8) hb dX12_factor_180 (by decide) ?_
      refine a_iload_n hb dX12_factor_182 rfl 1 rfl ?_
      refine a_imul hb dX12_factor_183 ?_
      refine a_iadd hb dX12_factor_184 ?_
      refine a_bipush (v := 32) hb dX12_factor_185 (by decide) ?_
      refine a_iload hb dX12_factor_187 0 rfl ?_
      refine a_imul hb dX12_factor_189 ?_
      refine a_iadd hb dX12_factor_190 ?_
      refine a_callV hb dX12_factor_191 (by rw [hg]; exact m_emits g h B hL a n ha hac he hn H hH ((fgP H false (p + 2)).2.1) 0 ((fgP H false (p + 2)).1) l mo (fgG hH (w := false) (by omega)) (((nI (ix5 (H p))) + (8 * (nI (ix3 (H (p + 1)))))) + (32 * (nI (fgP H false (p + 2)).2.2))) (Nat.lt_of_le_of_lt (Nat.le_trans hll (Nat.le_trans hp hn)) (by decide))) (by rw [ow]; exact clv_RX12_97) ((LY.mp hL : LY (mpH h B a ((fgP H false (p + 2)).2.1) ((fgP H false (p + 2)).1) 0 l mo) B).1 51 (by decide)) (by decide) rfl rfl rfl (Nat.le_of_ble_eq_true rfl) (by rw [hr]; exact ⟨by decide, by decide⟩) (by rw [hr]; exact ⟨Nat.le_of_ble_eq_true rfl, Nat.le_of_ble_eq_true rfl⟩) ?_
      intro rv h' hp_
      rw [hp_.1, hp_.2]
      show AW V 0 0 (mpH h B a ((fgP H false (p + 2)).2.1) ((fgP H false (p + 2)).1) 0 (emL ((fgP H false (p + 2)).1) l (((nI (ix5 (H p))) + (8 * (nI (ix3 (H (p + 1)))))) + (32 * (nI (fgP H false (p + 2)).2.2)))) mo) 194 [(4, .int (nI (fgP H false (p + 2)).2.2)), (3, .int (nI (ix3 (H (p + 1))))), (2, .int (nI (ix5 (H p)))), (1, .int (H p)), (0, .ref (B + 51))] []
      exact a_return hb hz dX12_factor_194 hret (by rw [hr]; exact Nat.le_of_ble_eq_true rfl) (by rw [hr]; exact Nat.le_of_ble_eq_true rfl) (⟨rfl, fac_t c16 c22 t5 t3⟩)
    · have pl : p < n := by rw [hH] at c22; exact hrT_n (by decide) c22
      refine a_aload_n hb dX12_factor_25 rfl 1 rfl ?_
      refine a_aload_n hb dX12_factor_26 rfl 1 rfl ?_
      refine a_getI hb dX12_factor_27 (by rw [ow]; exact fl_RX12_91_12) ((LY.mp hL : LY (mpH h B a p false 0 l mo) B).1 51 (by decide)) ?_
      rw [mp_f8]
      show AW V 0 0 (mpH h B a p false 0 l mo) 30 [(1, .int (H p)), (0, .ref (B + 51))] [.int 0, .ref (B + 51)]
      refine a_iconst (v := 5) hb dX12_factor_30 (by decide) ?_
      refine a_icmp_ne hb 38 dX12_factor_31 (by decide) (fun c31 => ?_) (fun c31 => absurd c31 (by decide))
      refine a_iconst (v := 0) hb dX12_factor_38 (by decide) ?_
      refine a_putI (fty := .boolean) hb dX12_factor_39 (by rw [ow]; exact fp_RX12_67_12) (Or.inr (fun C T N hq => by cases hq; rfl)) ((LY.mp hL : LY (mpH h B a p false 0 l mo) B).1 51 (by decide)) rfl rfl ?_
      rw [mp_7 (q := false) (v := 0) rfl]
      show AW V 0 0 (mpH h B a p false 0 l mo) 42 [(1, .int (H p)), (0, .ref (B + 51))] []
      refine a_aload_n hb dX12_factor_42 rfl 1 rfl ?_
      refine a_dup hb dX12_factor_43 rfl ?_
      refine a_getI hb dX12_factor_44 (by rw [ow]; exact fl_RX12_91_12) ((LY.mp hL : LY (mpH h B a p false 0 l mo) B).1 51 (by decide)) ?_
      rw [mp_f8]
      show AW V 0 0 (mpH h B a p false 0 l mo) 47 [(1, .int (H p)), (0, .ref (B + 51))] [.int 0, .ref (B + 51)]
      refine a_iconst (v := 1) hb dX12_factor_47 (by decide) ?_
      refine a_iadd hb dX12_factor_48 ?_
      refine a_putI (fty := .int) hb dX12_factor_49 (by rw [ow]; exact fp_RX12_91_12) (Or.inr (fun C T N hq => by cases hq; rfl)) ((LY.mp hL : LY (mpH h B a p false 0 l mo) B).1 51 (by decide)) rfl rfl ?_
      rw [mp_8 (q := 1) (by decide)]
      show AW V 0 0 (mpH h B a p false 1 l mo) 52 [(1, .int (H p)), (0, .ref (B + 51))] []
      refine a_aload_n hb dX12_factor_52 rfl 1 rfl ?_
      refine a_dup hb dX12_factor_53 rfl ?_
      refine a_getI hb dX12_factor_54 (by rw [ow]; exact fl_RX12_61_12) ((LY.mp hL : LY (mpH h B a p false 1 l mo) B).1 51 (by decide)) ?_
      rw [mp_f5]
      show AW V 0 0 (mpH h B a p false 1 l mo) 57 [(1, .int (H p)), (0, .ref (B + 51))] [.int (nI p), .ref (B + 51)]
      refine a_aload_n hb dX12_factor_57 rfl 1 rfl ?_
      refine a_getI hb dX12_factor_58 (by rw [ow]; exact fl_RX12_67_12) ((LY.mp hL : LY (mpH h B a p false 1 l mo) B).1 51 (by decide)) ?_
      rw [mp_f7]
      show AW V 0 0 (mpH h B a p false 1 l mo) 61 [(1, .int (H p)), (0, .ref (B + 51))] [.int 0, .int (nI p), .ref (B + 51)]
      refine a_if_eq hb 68 dX12_factor_61 (by decide) (fun c61 => ?_) (fun c61 => absurd (by decide) c61)
      refine a_iconst (v := 1) hb dX12_factor_68 (by decide) ?_
      refine a_iadd hb dX12_factor_69 ?_
      refine a_putI (fty := .int) hb dX12_factor_70 (by rw [ow]; exact fp_RX12_61_12) (Or.inr (fun C T N hq => by cases hq; rfl)) ((LY.mp hL : LY (mpH h B a p false 1 l mo) B).1 51 (by decide)) rfl rfl ?_
      rw [mp_5 (q := (p + 1)) (by rw [nI_1])]
      show AW V 0 0 (mpH h B a (p + 1) false 1 l mo) 73 [(1, .int (H p)), (0, .ref (B + 51))] []
      refine a_iload_n hb dX12_factor_73 rfl 0 rfl ?_
      refine a_bipush (v := 33) hb dX12_factor_74 (by decide) ?_
      refine a_icmp_ne hb 91 dX12_factor_76 (by decide) (fun c76 => ?_) (fun c76 => absurd c76 (c16))
      refine a_aload_n hb dX12_factor_91 rfl 1 rfl ?_
      refine a_callV hb dX12_factor_92 (by rw [hg]; exact m_so4 g h B hL a n ha hac he hn H hH (p + 1) l mo (by omega) (Nat.le_succ_of_le hll)) (by rw [ow]; exact clv_RX12_100) ((LY.mp hL : LY (mpH h B a (p + 1) false 1 l mo) B).1 51 (by decide)) (by decide) rfl rfl rfl (Nat.le_of_ble_eq_true rfl) (by rw [hr]; exact ⟨by decide, by decide⟩) (by rw [hr]; exact ⟨Nat.le_of_ble_eq_true rfl, Nat.le_of_ble_eq_true rfl⟩) ?_
      intro rv h' hp_
      rw [hp_.1, hp_.2]
      clear hp_ rv h'
      have gd2_ := pEgH hH 4 (p + 1)
      generalize eQ2 : (pE (pF H 4) H (p + 1)) = q2_ at gd2_ ⊢
      show AW V 0 0 (mpG h B a 1 l mo q2_) 95 [(1, .int (H p)), (0, .ref (B + 51))] []
      show AW V 0 0 (mpH h B a q2_.2.1 q2_.1 1 (l ++ q2_.2.2.map encM) mo) 95 [(1, .int (H p)), (0, .ref (B + 51))] []
      refine a_aload_n hb dX12_factor_95 rfl 1 rfl ?_
      refine a_bipush (v := 41) hb dX12_factor_96 (by decide) ?_
      refine a_callV hb dX12_factor_98 (by rw [hg]; exact m_must g h B hL a n ha hac he hn H hH q2_.2.1 1 q2_.1 (l ++ q2_.2.2.map encM) mo (gd2_.2 (by omega)) 41) (by rw [ow]; exact clv_RX12_84) ((LY.mp hL : LY (mpH h B a q2_.2.1 q2_.1 1 (l ++ q2_.2.2.map encM) mo) B).1 51 (by decide)) (by decide) rfl rfl rfl (Nat.le_of_ble_eq_true rfl) (by rw [hr]; exact ⟨by decide, by decide⟩) (by rw [hr]; exact ⟨Nat.le_of_ble_eq_true rfl, Nat.le_of_ble_eq_true rfl⟩) ?_
      intro rv h' hp_
      rw [hp_.1, hp_.2]
      show AW V 0 0 (mpH h B a ((muP H 41 q2_.1 q2_.2.1).2) ((muP H 41 q2_.1 q2_.2.1).1) 1 (l ++ q2_.2.2.map encM) mo) 101 [(1, .int (H p)), (0, .ref (B + 51))] []
      refine a_aload_n hb dX12_factor_101 rfl 1 rfl ?_
      refine a_dup hb dX12_factor_102 rfl ?_
      refine a_getI hb dX12_factor_103 (by rw [ow]; exact fl_RX12_91_12) ((LY.mp hL : LY (mpH h B a ((muP H 41 q2_.1 q2_.2.1).2) ((muP H 41 q2_.1 q2_.2.1).1) 1 (l ++ q2_.2.2.map encM) mo) B).1 51 (by decide)) ?_
      rw [mp_f8]
      show AW V 0 0 (mpH h B a ((muP H 41 q2_.1 q2_.2.1).2) ((muP H 41 q2_.1 q2_.2.1).1) 1 (l ++ q2_.2.2.map encM) mo) 106 [(1, .int (H p)), (0, .ref (B + 51))] [.int 1, .ref (B + 51)]
      refine a_iconst (v := 1) hb dX12_factor_106 (by decide) ?_
      refine a_isub hb dX12_factor_107 ?_
      refine a_putI (fty := .int) hb dX12_factor_108 (by rw [ow]; exact fp_RX12_91_12) (Or.inr (fun C T N hq => by cases hq; rfl)) ((LY.mp hL : LY (mpH h B a ((muP H 41 q2_.1 q2_.2.1).2) ((muP H 41 q2_.1 q2_.2.1).1) 1 (l ++ q2_.2.2.map encM) mo) B).1 51 (by decide)) rfl rfl ?_
      rw [mp_8 (q := 0) (by decide)]
      show AW V 0 0 (mpH h B a ((muP H 41 q2_.1 q2_.2.1).2) ((muP H 41 q2_.1 q2_.2.1).1) 0 (l ++ q2_.2.2.map encM) mo) 111 [(1, .int (H p)), (0, .ref (B + 51))] []
      exact a_return hb hz dX12_factor_111 hret (by rw [hr]; exact Nat.le_of_ble_eq_true rfl) (by rw [hr]; exact Nat.le_of_ble_eq_true rfl) (⟨rfl, by subst eQ2; exact fac_p c16 c22⟩)
set_option maxRecDepth 100000 in
theorem m_ev5 (g : GG) (h : AH) (B : Nat) (hL : LY h B) (a n : Nat) (ha : a < 5) (hac : hI h (B + 51) 4 = nI a) (he : hI h (B + 51) 6 = nI n) (hn : n ≤ 120) (H : Nat → Int32) (hH : H = hrT (fun i => hI h (B + 52) (10 + i)) n) (p : Nat) (l : List Int32) (mo : Int32) (hp : p ≤ n) (hll : l.length ≤ p) : AM g 22 0 0 mX12_every [.ref (B + 51)] (mpH h B a p false 0 l mo) (fun rv h' => rv = none ∧ h' = mpG h B a 0 l mo (pV (pF H 5) H p)) := by
  refine AM.of [(0, .ref (B + 51))] (by decide) (Nat.le_of_ble_eq_true rfl) rfl ?_
  intro V hV
  have hb : V.2.1.2.1 = cX12_every := by subst hV; rfl
  have ow : V.2.1.1.cls = RX12 := by subst hV; rfl
  have hr : V.2.2.1 = aw_rm 22 0 0 := by subst hV; rfl
  have hz : V.2.2.2 = aw_Z V.1 (fun rv h' => rv = none ∧ h' = mpG h B a 0 l mo (pV (pF H 5) H p)) V.2.2.1 := by subst hV; rfl
  have hg : V.1 = g := by subst hV; rfl
  have hret : V.2.1.2.2.2 = none := by subst hV; rfl
  have hml : V.2.1.2.2.1 = 1 := by subst hV; rfl
  clear hV
  generalize hR : pV (pF H 5) H p = R at hz
  have loop : ∀ (k : Nat) (r : PR), r.2.1 ≤ n → (l ++ r.2.2.map encM).length ≤ r.2.1 → n ≤ r.2.1 + k → lpR (pF H 5) H 38 (2, 0, 0, 0) k r = R → AW V 0 0 (mpG h B a 0 l mo r) 4 [(0, .ref (B + 51))] [] := by
    intro k
    induction k with
    | zero =>
      intro r h1 h2 h3 h4
      show AW V 0 0 (mpH h B a r.2.1 r.1 0 (l ++ r.2.2.map encM) mo) 4 [(0, .ref (B + 51))] []
      refine a_aload_n hb dX12_every_4 rfl 0 rfl ?_
      refine a_getI hb dX12_every_5 (by rw [ow]; exact fl_RX12_67_12) ((LY.mp hL : LY (mpH h B a r.2.1 r.1 0 (l ++ r.2.2.map encM) mo) B).1 51 (by decide)) ?_
      rw [mp_f7]
      show AW V 0 0 (mpH h B a r.2.1 r.1 0 (l ++ r.2.2.map encM) mo) 8 [(0, .ref (B + 51))] [.int (b2i r.1)]
      refine a_if_ne hb 43 dX12_every_8 (by decide) (fun c8 => ?_) (fun c8 => ?_)
      · simp [b2i_0] at c8
        exact a_return hb hz dX12_every_43 hret (by rw [hr]; exact Nat.le_of_ble_eq_true rfl) (by rw [hr]; exact Nat.le_of_ble_eq_true rfl) (⟨rfl, mpG_e ((lpR_w c8).symm.trans h4)⟩)
      · simp [b2i_0] at c8
        refine a_aload_n hb dX12_every_11 rfl 0 rfl ?_
        refine a_callV hb dX12_every_12 (by rw [hg]; exact m_here g h B hL a n ha hac he hn H hH r.2.1 0 r.1 (l ++ r.2.2.map encM) mo h1) (by rw [ow]; exact clv_RX12_71) ((LY.mp hL : LY (mpH h B a r.2.1 r.1 0 (l ++ r.2.2.map encM) mo) B).1 51 (by decide)) (by decide) rfl rfl rfl (Nat.le_of_ble_eq_true rfl) (by rw [hr]; exact ⟨by decide, by decide⟩) (by rw [hr]; exact ⟨Nat.le_of_ble_eq_true rfl, Nat.le_of_ble_eq_true rfl⟩) ?_
        intro rv h' hp_
        rw [hp_.1, hp_.2]
        show AW V 0 0 (mpH h B a r.2.1 r.1 0 (l ++ r.2.2.map encM) mo) 15 [(0, .ref (B + 51))] [.int (H r.2.1)]
        refine a_bipush (v := 38) hb dX12_every_15 (by decide) ?_
        refine a_icmp_ne hb 43 dX12_every_17 (by decide) (fun c17 => ?_) (fun c17 => absurd c17 ((fun q => absurd (hrH hH q) (Nat.not_lt.mpr h3))))
        exact a_return hb hz dX12_every_43 hret (by rw [hr]; exact Nat.le_of_ble_eq_true rfl) (by rw [hr]; exact Nat.le_of_ble_eq_true rfl) (⟨rfl, mpG_e ((lpR_n c17).symm.trans h4)⟩)
    | succ k ih =>
      intro r h1 h2 h3 h4
      show AW V 0 0 (mpH h B a r.2.1 r.1 0 (l ++ r.2.2.map encM) mo) 4 [(0, .ref (B + 51))] []
      refine a_aload_n hb dX12_every_4 rfl 0 rfl ?_
      refine a_getI hb dX12_every_5 (by rw [ow]; exact fl_RX12_67_12) ((LY.mp hL : LY (mpH h B a r.2.1 r.1 0 (l ++ r.2.2.map encM) mo) B).1 51 (by decide)) ?_
      rw [mp_f7]
      show AW V 0 0 (mpH h B a r.2.1 r.1 0 (l ++ r.2.2.map encM) mo) 8 [(0, .ref (B + 51))] [.int (b2i r.1)]
      refine a_if_ne hb 43 dX12_every_8 (by decide) (fun c8 => ?_) (fun c8 => ?_)
      · simp [b2i_0] at c8
        exact a_return hb hz dX12_every_43 hret (by rw [hr]; exact Nat.le_of_ble_eq_true rfl) (by rw [hr]; exact Nat.le_of_ble_eq_true rfl) (⟨rfl, mpG_e ((lpR_w c8).symm.trans h4)⟩)
      · simp [b2i_0] at c8
        refine a_aload_n hb dX12_every_11 rfl 0 rfl ?_
        refine a_callV hb dX12_every_12 (by rw [hg]; exact m_here g h B hL a n ha hac he hn H hH r.2.1 0 r.1 (l ++ r.2.2.map encM) mo h1) (by rw [ow]; exact clv_RX12_71) ((LY.mp hL : LY (mpH h B a r.2.1 r.1 0 (l ++ r.2.2.map encM) mo) B).1 51 (by decide)) (by decide) rfl rfl rfl (Nat.le_of_ble_eq_true rfl) (by rw [hr]; exact ⟨by decide, by decide⟩) (by rw [hr]; exact ⟨Nat.le_of_ble_eq_true rfl, Nat.le_of_ble_eq_true rfl⟩) ?_
        intro rv h' hp_
        rw [hp_.1, hp_.2]
        show AW V 0 0 (mpH h B a r.2.1 r.1 0 (l ++ r.2.2.map encM) mo) 15 [(0, .ref (B + 51))] [.int (H r.2.1)]
        refine a_bipush (v := 38) hb dX12_every_15 (by decide) ?_
        refine a_icmp_ne hb 43 dX12_every_17 (by decide) (fun c17 => ?_) (fun c17 => ?_)
        · exact a_return hb hz dX12_every_43 hret (by rw [hr]; exact Nat.le_of_ble_eq_true rfl) (by rw [hr]; exact Nat.le_of_ble_eq_true rfl) (⟨rfl, mpG_e ((lpR_n c17).symm.trans h4)⟩)
        · have rl : r.2.1 < n := by rw [hH] at c17; exact hrT_n (by decide) c17
          rw [c8]
          show AW V 0 0 (mpH h B a r.2.1 false 0 (l ++ r.2.2.map encM) mo) 20 [(0, .ref (B + 51))] []
          refine a_aload_n hb dX12_every_20 rfl 0 rfl ?_
          refine a_dup hb dX12_every_21 rfl ?_
          refine a_getI hb dX12_every_22 (by rw [ow]; exact fl_RX12_61_12) ((LY.mp hL : LY (mpH h B a r.2.1 false 0 (l ++ r.2.2.map encM) mo) B).1 51 (by decide)) ?_
          rw [mp_f5]
          show AW V 0 0 (mpH h B a r.2.1 false 0 (l ++ r.2.2.map encM) mo) 25 [(0, .ref (B + 51))] [.int (nI r.2.1), .ref (B + 51)]
          refine a_iconst (v := 1) hb dX12_every_25 (by decide) ?_
          refine a_iadd hb dX12_every_26 ?_
          refine a_putI (fty := .int) hb dX12_every_27 (by rw [ow]; exact fp_RX12_61_12) (Or.inr (fun C T N hq => by cases hq; rfl)) ((LY.mp hL : LY (mpH h B a r.2.1 false 0 (l ++ r.2.2.map encM) mo) B).1 51 (by decide)) rfl rfl ?_
          rw [mp_5 (q := (r.2.1 + 1)) (by rw [nI_1])]
          show AW V 0 0 (mpH h B a (r.2.1 + 1) false 0 (l ++ r.2.2.map encM) mo) 30 [(0, .ref (B + 51))] []
          refine a_aload_n hb dX12_every_30 rfl 0 rfl ?_
          refine a_callV hb dX12_every_31 (by rw [hg]; exact m_fac5 g h B hL a n ha hac he hn H hH (r.2.1 + 1) (l ++ r.2.2.map encM) mo (by omega) (Nat.le_succ_of_le h2)) (by rw [ow]; exact clv_RX12_94) ((LY.mp hL : LY (mpH h B a (r.2.1 + 1) false 0 (l ++ r.2.2.map encM) mo) B).1 51 (by decide)) (by decide) rfl rfl rfl (Nat.le_of_ble_eq_true rfl) (by rw [hr]; exact ⟨by decide, by decide⟩) (by rw [hr]; exact ⟨Nat.le_of_ble_eq_true rfl, Nat.le_of_ble_eq_true rfl⟩) ?_
          intro rv h' hp_
          rw [hp_.1, hp_.2]
          clear hp_ rv h'
          have q1 := gdl (pFgH hH 5 (r.2.1 + 1)) (Nat.le_succ_of_le h2)
          have q2 := (pFgH hH 5 (r.2.1 + 1)).2 rl
          have gg := (pFgH hH 5 (r.2.1 + 1)).1
          have hq := @lpR_s (pF H 5) H 38 (2, 0, 0, 0) k r _ c8 c17 rfl
          rw [h4] at hq
          generalize pF H 5 (r.2.1 + 1) = q at *
          show AW V 0 0 (mpG h B a 0 (l ++ r.2.2.map encM) mo q) 34 [(0, .ref (B + 51))] []
          show AW V 0 0 (mpH h B a q.2.1 q.1 0 ((l ++ r.2.2.map encM) ++ q.2.2.map encM) mo) 34 [(0, .ref (B + 51))] []
          refine a_aload_n hb dX12_every_34 rfl 0 rfl ?_
          refine a_bipush (v := (-2)) hb dX12_every_35 (by decide) ?_
          refine a_callV hb dX12_every_37 (by rw [hg]; exact m_emits g h B hL a n ha hac he hn H hH q.2.1 0 q.1 ((l ++ r.2.2.map encM) ++ q.2.2.map encM) mo q2 (-2) (Nat.lt_of_le_of_lt (Nat.le_trans q1 (Nat.le_trans q2 hn)) (by decide))) (by rw [ow]; exact clv_RX12_97) ((LY.mp hL : LY (mpH h B a q.2.1 q.1 0 ((l ++ r.2.2.map encM) ++ q.2.2.map encM) mo) B).1 51 (by decide)) (by decide) rfl rfl rfl (Nat.le_of_ble_eq_true rfl) (by rw [hr]; exact ⟨by decide, by decide⟩) (by rw [hr]; exact ⟨Nat.le_of_ble_eq_true rfl, Nat.le_of_ble_eq_true rfl⟩) ?_
          intro rv h' hp_
          rw [hp_.1, hp_.2]
          show AW V 0 0 (mpH h B a q.2.1 q.1 0 (emL q.1 ((l ++ r.2.2.map encM) ++ q.2.2.map encM) (-2)) mo) 40 [(0, .ref (B + 51))] []
          refine a_goto hb 4 dX12_every_40 (by decide) ?_
          refine AW.eq (ih (q.1, q.2.1, r.2.2 ++ q.2.2 ++ if q.1 = true then [] else [(2, 0, 0, 0)]) q2 ?_ ?_ hq.symm) (seq_h enc_2) rfl rfl rfl
          · show (l ++ List.map encM (r.2.2 ++ q.2.2 ++ if q.1 = true then [] else [(2, 0, 0, 0)])).length ≤ q.2.1
            rw [List.length_append, List.length_map] at h2 ⊢
            rw [List.length_append, List.length_append]
            split <;> simp only [List.length_cons, List.length_nil] <;> omega
          · show n ≤ q.2.1 + k
            omega
  refine a_aload_n hb dX12_every_0 rfl 0 rfl ?_
  refine a_callV hb dX12_every_1 (by rw [hg]; exact m_fac5 g h B hL a n ha hac he hn H hH p l mo hp hll) (by rw [ow]; exact clv_RX12_94) ((LY.mp hL : LY (mpH h B a p false 0 l mo) B).1 51 (by decide)) (by decide) rfl rfl rfl (Nat.le_of_ble_eq_true rfl) (by rw [hr]; exact ⟨by decide, by decide⟩) (by rw [hr]; exact ⟨Nat.le_of_ble_eq_true rfl, Nat.le_of_ble_eq_true rfl⟩) ?_
  intro rv h' hp_
  rw [hp_.1, hp_.2]
  clear hp_ rv h'
  have gd1_ := pFgH hH 5 p
  generalize eQ1 : (pF H 5 p) = q1_ at gd1_ ⊢
  show AW V 0 0 (mpG h B a 0 l mo q1_) 4 [(0, .ref (B + 51))] []
  show AW V 0 0 (mpH h B a q1_.2.1 q1_.1 0 (l ++ q1_.2.2.map encM) mo) 4 [(0, .ref (B + 51))] []
  exact loop 120 q1_ (gd1_.2 hp) (gdl gd1_ hll) (by have z : n ≤ 120 := hn; clear hz loop; omega) ((pV_d eQ1).trans hR)
set_option maxRecDepth 100000 in
theorem m_so5 (g : GG) (h : AH) (B : Nat) (hL : LY h B) (a n : Nat) (ha : a < 5) (hac : hI h (B + 51) 4 = nI a) (he : hI h (B + 51) 6 = nI n) (hn : n ≤ 120) (H : Nat → Int32) (hH : H = hrT (fun i => hI h (B + 52) (10 + i)) n) (p : Nat) (l : List Int32) (mo : Int32) (hp : p ≤ n) (hll : l.length ≤ p) : AM g 23 0 0 mX12_some [.ref (B + 51)] (mpH h B a p false 0 l mo) (fun rv h' => rv = none ∧ h' = mpG h B a 0 l mo (pE (pF H 5) H p)) := by
  refine AM.of [(0, .ref (B + 51))] (by decide) (Nat.le_of_ble_eq_true rfl) rfl ?_
  intro V hV
  have hb : V.2.1.2.1 = cX12_some := by subst hV; rfl
  have ow : V.2.1.1.cls = RX12 := by subst hV; rfl
  have hr : V.2.2.1 = aw_rm 23 0 0 := by subst hV; rfl
  have hz : V.2.2.2 = aw_Z V.1 (fun rv h' => rv = none ∧ h' = mpG h B a 0 l mo (pE (pF H 5) H p)) V.2.2.1 := by subst hV; rfl
  have hg : V.1 = g := by subst hV; rfl
  have hret : V.2.1.2.2.2 = none := by subst hV; rfl
  have hml : V.2.1.2.2.1 = 1 := by subst hV; rfl
  clear hV
  generalize hR : pE (pF H 5) H p = R at hz
  have loop : ∀ (k : Nat) (r : PR), r.2.1 ≤ n → (l ++ r.2.2.map encM).length ≤ r.2.1 → n ≤ r.2.1 + k → lpR (pV (pF H 5) H) H 124 (3, 0, 0, 0) k r = R → AW V 0 0 (mpG h B a 0 l mo r) 4 [(0, .ref (B + 51))] [] := by
    intro k
    induction k with
    | zero =>
      intro r h1 h2 h3 h4
      show AW V 0 0 (mpH h B a r.2.1 r.1 0 (l ++ r.2.2.map encM) mo) 4 [(0, .ref (B + 51))] []
      refine a_aload_n hb dX12_some_4 rfl 0 rfl ?_
      refine a_getI hb dX12_some_5 (by rw [ow]; exact fl_RX12_67_12) ((LY.mp hL : LY (mpH h B a r.2.1 r.1 0 (l ++ r.2.2.map encM) mo) B).1 51 (by decide)) ?_
      rw [mp_f7]
      show AW V 0 0 (mpH h B a r.2.1 r.1 0 (l ++ r.2.2.map encM) mo) 8 [(0, .ref (B + 51))] [.int (b2i r.1)]
      refine a_if_ne hb 43 dX12_some_8 (by decide) (fun c8 => ?_) (fun c8 => ?_)
      · simp [b2i_0] at c8
        exact a_return hb hz dX12_some_43 hret (by rw [hr]; exact Nat.le_of_ble_eq_true rfl) (by rw [hr]; exact Nat.le_of_ble_eq_true rfl) (⟨rfl, mpG_e ((lpR_w c8).symm.trans h4)⟩)
      · simp [b2i_0] at c8
        refine a_aload_n hb dX12_some_11 rfl 0 rfl ?_
        refine a_callV hb dX12_some_12 (by rw [hg]; exact m_here g h B hL a n ha hac he hn H hH r.2.1 0 r.1 (l ++ r.2.2.map encM) mo h1) (by rw [ow]; exact clv_RX12_71) ((LY.mp hL : LY (mpH h B a r.2.1 r.1 0 (l ++ r.2.2.map encM) mo) B).1 51 (by decide)) (by decide) rfl rfl rfl (Nat.le_of_ble_eq_true rfl) (by rw [hr]; exact ⟨by decide, by decide⟩) (by rw [hr]; exact ⟨Nat.le_of_ble_eq_true rfl, Nat.le_of_ble_eq_true rfl⟩) ?_
        intro rv h' hp_
        rw [hp_.1, hp_.2]
        show AW V 0 0 (mpH h B a r.2.1 r.1 0 (l ++ r.2.2.map encM) mo) 15 [(0, .ref (B + 51))] [.int (H r.2.1)]
        refine a_bipush (v := 124) hb dX12_some_15 (by decide) ?_
        refine a_icmp_ne hb 43 dX12_some_17 (by decide) (fun c17 => ?_) (fun c17 => absurd c17 ((fun q => absurd (hrH hH q) (Nat.not_lt.mpr h3))))
        exact a_return hb hz dX12_some_43 hret (by rw [hr]; exact Nat.le_of_ble_eq_true rfl) (by rw [hr]; exact Nat.le_of_ble_eq_true rfl) (⟨rfl, mpG_e ((lpR_n c17).symm.trans h4)⟩)
    | succ k ih =>
      intro r h1 h2 h3 h4
      show AW V 0 0 (mpH h B a r.2.1 r.1 0 (l ++ r.2.2.map encM) mo) 4 [(0, .ref (B + 51))] []
      refine a_aload_n hb dX12_some_4 rfl 0 rfl ?_
      refine a_getI hb dX12_some_5 (by rw [ow]; exact fl_RX12_67_12) ((LY.mp hL : LY (mpH h B a r.2.1 r.1 0 (l ++ r.2.2.map encM) mo) B).1 51 (by decide)) ?_
      rw [mp_f7]
      show AW V 0 0 (mpH h B a r.2.1 r.1 0 (l ++ r.2.2.map encM) mo) 8 [(0, .ref (B + 51))] [.int (b2i r.1)]
      refine a_if_ne hb 43 dX12_some_8 (by decide) (fun c8 => ?_) (fun c8 => ?_)
      · simp [b2i_0] at c8
        exact a_return hb hz dX12_some_43 hret (by rw [hr]; exact Nat.le_of_ble_eq_true rfl) (by rw [hr]; exact Nat.le_of_ble_eq_true rfl) (⟨rfl, mpG_e ((lpR_w c8).symm.trans h4)⟩)
      · simp [b2i_0] at c8
        refine a_aload_n hb dX12_some_11 rfl 0 rfl ?_
        refine a_callV hb dX12_some_12 (by rw [hg]; exact m_here g h B hL a n ha hac he hn H hH r.2.1 0 r.1 (l ++ r.2.2.map encM) mo h1) (by rw [ow]; exact clv_RX12_71) ((LY.mp hL : LY (mpH h B a r.2.1 r.1 0 (l ++ r.2.2.map encM) mo) B).1 51 (by decide)) (by decide) rfl rfl rfl (Nat.le_of_ble_eq_true rfl) (by rw [hr]; exact ⟨by decide, by decide⟩) (by rw [hr]; exact ⟨Nat.le_of_ble_eq_true rfl, Nat.le_of_ble_eq_true rfl⟩) ?_
        intro rv h' hp_
        rw [hp_.1, hp_.2]
        show AW V 0 0 (mpH h B a r.2.1 r.1 0 (l ++ r.2.2.map encM) mo) 15 [(0, .ref (B + 51))] [.int (H r.2.1)]
        refine a_bipush (v := 124) hb dX12_some_15 (by decide) ?_
        refine a_icmp_ne hb 43 dX12_some_17 (by decide) (fun c17 => ?_) (fun c17 => ?_)
        · exact a_return hb hz dX12_some_43 hret (by rw [hr]; exact Nat.le_of_ble_eq_true rfl) (by rw [hr]; exact Nat.le_of_ble_eq_true rfl) (⟨rfl, mpG_e ((lpR_n c17).symm.trans h4)⟩)
        · have rl : r.2.1 < n := by rw [hH] at c17; exact hrT_n (by decide) c17
          rw [c8]
          show AW V 0 0 (mpH h B a r.2.1 false 0 (l ++ r.2.2.map encM) mo) 20 [(0, .ref (B + 51))] []
          refine a_aload_n hb dX12_some_20 rfl 0 rfl ?_
          refine a_dup hb dX12_some_21 rfl ?_
          refine a_getI hb dX12_some_22 (by rw [ow]; exact fl_RX12_61_12) ((LY.mp hL : LY (mpH h B a r.2.1 false 0 (l ++ r.2.2.map encM) mo) B).1 51 (by decide)) ?_
          rw [mp_f5]
          show AW V 0 0 (mpH h B a r.2.1 false 0 (l ++ r.2.2.map encM) mo) 25 [(0, .ref (B + 51))] [.int (nI r.2.1), .ref (B + 51)]
          refine a_iconst (v := 1) hb dX12_some_25 (by decide) ?_
          refine a_iadd hb dX12_some_26 ?_
          refine a_putI (fty := .int) hb dX12_some_27 (by rw [ow]; exact fp_RX12_61_12) (Or.inr (fun C T N hq => by cases hq; rfl)) ((LY.mp hL : LY (mpH h B a r.2.1 false 0 (l ++ r.2.2.map encM) mo) B).1 51 (by decide)) rfl rfl ?_
          rw [mp_5 (q := (r.2.1 + 1)) (by rw [nI_1])]
          show AW V 0 0 (mpH h B a (r.2.1 + 1) false 0 (l ++ r.2.2.map encM) mo) 30 [(0, .ref (B + 51))] []
          refine a_aload_n hb dX12_some_30 rfl 0 rfl ?_
          refine a_callV hb dX12_some_31 (by rw [hg]; exact m_ev5 g h B hL a n ha hac he hn H hH (r.2.1 + 1) (l ++ r.2.2.map encM) mo (by omega) (Nat.le_succ_of_le h2)) (by rw [ow]; exact clv_RX12_114) ((LY.mp hL : LY (mpH h B a (r.2.1 + 1) false 0 (l ++ r.2.2.map encM) mo) B).1 51 (by decide)) (by decide) rfl rfl rfl (Nat.le_of_ble_eq_true rfl) (by rw [hr]; exact ⟨by decide, by decide⟩) (by rw [hr]; exact ⟨Nat.le_of_ble_eq_true rfl, Nat.le_of_ble_eq_true rfl⟩) ?_
          intro rv h' hp_
          rw [hp_.1, hp_.2]
          clear hp_ rv h'
          have q1 := gdl (pVgH hH 5 (r.2.1 + 1)) (Nat.le_succ_of_le h2)
          have q2 := (pVgH hH 5 (r.2.1 + 1)).2 rl
          have gg := (pVgH hH 5 (r.2.1 + 1)).1
          have hq := @lpR_s (pV (pF H 5) H) H 124 (3, 0, 0, 0) k r _ c8 c17 rfl
          rw [h4] at hq
          generalize pV (pF H 5) H (r.2.1 + 1) = q at *
          show AW V 0 0 (mpG h B a 0 (l ++ r.2.2.map encM) mo q) 34 [(0, .ref (B + 51))] []
          show AW V 0 0 (mpH h B a q.2.1 q.1 0 ((l ++ r.2.2.map encM) ++ q.2.2.map encM) mo) 34 [(0, .ref (B + 51))] []
          refine a_aload_n hb dX12_some_34 rfl 0 rfl ?_
          refine a_bipush (v := (-3)) hb dX12_some_35 (by decide) ?_
          refine a_callV hb dX12_some_37 (by rw [hg]; exact m_emits g h B hL a n ha hac he hn H hH q.2.1 0 q.1 ((l ++ r.2.2.map encM) ++ q.2.2.map encM) mo q2 (-3) (Nat.lt_of_le_of_lt (Nat.le_trans q1 (Nat.le_trans q2 hn)) (by decide))) (by rw [ow]; exact clv_RX12_97) ((LY.mp hL : LY (mpH h B a q.2.1 q.1 0 ((l ++ r.2.2.map encM) ++ q.2.2.map encM) mo) B).1 51 (by decide)) (by decide) rfl rfl rfl (Nat.le_of_ble_eq_true rfl) (by rw [hr]; exact ⟨by decide, by decide⟩) (by rw [hr]; exact ⟨Nat.le_of_ble_eq_true rfl, Nat.le_of_ble_eq_true rfl⟩) ?_
          intro rv h' hp_
          rw [hp_.1, hp_.2]
          show AW V 0 0 (mpH h B a q.2.1 q.1 0 (emL q.1 ((l ++ r.2.2.map encM) ++ q.2.2.map encM) (-3)) mo) 40 [(0, .ref (B + 51))] []
          refine a_goto hb 4 dX12_some_40 (by decide) ?_
          refine AW.eq (ih (q.1, q.2.1, r.2.2 ++ q.2.2 ++ if q.1 = true then [] else [(3, 0, 0, 0)]) q2 ?_ ?_ hq.symm) (seq_h enc_3) rfl rfl rfl
          · show (l ++ List.map encM (r.2.2 ++ q.2.2 ++ if q.1 = true then [] else [(3, 0, 0, 0)])).length ≤ q.2.1
            rw [List.length_append, List.length_map] at h2 ⊢
            rw [List.length_append, List.length_append]
            split <;> simp only [List.length_cons, List.length_nil] <;> omega
          · show n ≤ q.2.1 + k
            omega
  refine a_aload_n hb dX12_some_0 rfl 0 rfl ?_
  refine a_callV hb dX12_some_1 (by rw [hg]; exact m_ev5 g h B hL a n ha hac he hn H hH p l mo hp hll) (by rw [ow]; exact clv_RX12_114) ((LY.mp hL : LY (mpH h B a p false 0 l mo) B).1 51 (by decide)) (by decide) rfl rfl rfl (Nat.le_of_ble_eq_true rfl) (by rw [hr]; exact ⟨by decide, by decide⟩) (by rw [hr]; exact ⟨Nat.le_of_ble_eq_true rfl, Nat.le_of_ble_eq_true rfl⟩) ?_
  intro rv h' hp_
  rw [hp_.1, hp_.2]
  clear hp_ rv h'
  have gd1_ := pVgH hH 5 p
  generalize eQ1 : (pV (pF H 5) H p) = q1_ at gd1_ ⊢
  show AW V 0 0 (mpG h B a 0 l mo q1_) 4 [(0, .ref (B + 51))] []
  show AW V 0 0 (mpH h B a q1_.2.1 q1_.1 0 (l ++ q1_.2.2.map encM) mo) 4 [(0, .ref (B + 51))] []
  exact loop 120 q1_ (gd1_.2 hp) (gdl gd1_ hll) (by have z : n ≤ 120 := hn; clear hz loop; omega) ((pE_d eQ1).trans hR)
