/-! ===== the class: law ===== -/
theorem fit_b (v : Int32) : fits (aw_ty 13) (.int (bx v)) = true := by
  show (decide (-128 ≤ bx v) && decide (bx v ≤ 127)) = true
  have e := bx_i v
  have b : -128 ≤ (bx v).toInt ∧ (bx v).toInt ≤ 127 := by
    rw [e]
    unfold Int.bmod
    dsimp only
    split <;> omega
  rw [Bool.and_eq_true, decide_eq_true_iff, decide_eq_true_iff, Int32.le_iff_toInt_le, Int32.le_iff_toInt_le, show (-128 : Int32).toInt = -128 from by decide, show (127 : Int32).toInt = 127 from by decide]
  exact b
theorem Fw.ly0 {h h' : AH} {B : Nat} (x : Fw (fun _ => False) h h') (hL : LY h B) : LY h' B := x.ly hL (fun q hq => by
  have h1 : q.1 < 62 := by
    have : ∀ q ∈ lyQ, q.1 < 62 := by decide
    exact this q hq
  rw [(x.2.2.1 (B + q.1) (by have := hL.2.2; omega) (fun z => z)).2.2])
def Wlw (B a : Nat) : Prop := a = B + 1 ∨ a = B + 5
/-- the row behind a law read (k laws then) -/
def LwS (S S' : Nat → Int32) (k : Nat) : Prop := (∀ j, j < 208 ∨ 918 ≤ j → j ≠ 2 → j ≠ 4 → j ≠ 8 → S' j = S j) ∧ (S' 2 = nI k ∧ k ≤ 5) ∧ S' 4 = nI 0 ∧ S' 8 = nI k - 1 ∧ ∀ j, j < k → oO (S' (208 + j)) 0 999 = false
theorem XN.law {h h' : AH} {B k : Nat} {S S' : Nat → Int32} {N : NN} (H : XN h B S N) (hb : HB h) (fw : Fw (Wlw B) h h') (hL : LY h' B) (i3 : hI h' (B + 1) 3 = hI h (B + 1) 3) (i7 : hI h' (B + 1) 7 = hI h (B + 1) 7) (i11 : hI h' (B + 1) 11 = hI h (B + 1) 11) (i5 : hI h' (B + 1) 5 = nI k) (i9 : hI h' (B + 1) 9 = nI 0) (c : LwS S S' k) : XN h' B S' (N.1, N.2.1, k, N.2.2.2.1, 0) := by
  have hBN := H.1.2.2
  have eS := c.1
  have K : ∀ a, a < B + 62 → a ≠ B + 1 → a ≠ B + 5 → hI h' a = hI h a ∧ hQ h' a = hQ h a := fun a h1 h2 h3 => by
    have := fw.2.2.1 a (by omega) (by unfold Wlw; omega)
    exact ⟨this.1, this.2.2⟩
  have ob := H.ob (S' := S') fw hb (by intro a; unfold Wlw; omega) (K (B + 2) (by omega) (by omega) (by omega)).2 (K (B + 6) (by omega) (by omega) (by omega)).2 (fun j h1 _ => eS j (by omega) (by omega) (by omega) (by omega))
  have G := H.2.2
  exact XN.fin hL ob ⟨i3.trans H.f3, i5, i7.trans H.f7, i9, i11.trans H.f11⟩ (H.od' (K _ (by omega) (by omega) (by omega)).1 (K _ (by omega) (by omega) (by omega)).1 (fun j _ _ => eS j (by omega) (by omega) (by omega) (by omega))) (H.tp' (K _ (by omega) (by omega) (by omega)).1 (fun j _ _ => eS j (by omega) (by omega) (by omega) (by omega))) (H.ro' (K _ (by omega) (by omega) (by omega)).1 (fun j _ _ => eS j (by omega) (by omega) (by omega) (by omega))) (H.st' (K _ (by omega) (by omega) (by omega)).1 (fun j _ _ => eS j (by omega) (by omega) (by omega) (by omega)))
    ⟨G.c0 (eS 0 (by omega) (by omega) (by omega) (by omega)), G.c1 (eS 1 (by omega) (by omega) (by omega) (by omega)), c.2.1, G.c3 (eS 3 (by omega) (by omega) (by omega) (by omega)), ⟨c.2.2.1, Nat.zero_le _⟩, ⟨by rw [eS 5 (by omega) (by omega) (by omega) (by omega)]; exact G.2.2.2.2.2.1.1, by rw [eS 6 (by omega) (by omega) (by omega) (by omega)]; exact G.2.2.2.2.2.1.2.1, by rw [eS 7 (by omega) (by omega) (by omega) (by omega)]; exact G.2.2.2.2.2.1.2.2.1, c.2.2.2.1⟩, G.p' (fun j _ _ => eS j (by omega) (by omega) (by omega) (by omega)), G.w' (fun j _ _ => eS j (by omega) (by omega) (by omega) (by omega)), c.2.2.2.2, G.r' (fun j _ _ => eS j (by omega) (by omega) (by omega) (by omega)), G.t' (fun j _ _ => eS j (by omega) (by omega) (by omega) (by omega))⟩
theorem LB.fw {A : Nat → Prop} {h h' : AH} {lq vq cq wq eq cl : Nat} {cs : List CLA} (x : Fw A h h') (l1 : lq < hN h ∧ ¬ A lq) (l2 : vq < hN h) (l3 : cq < hN h ∧ ¬ A cq) (l4 : wq < hN h ∧ ¬ A wq) (l5 : eq < hN h ∧ ¬ A eq) (H : LB h lq vq cq wq eq cl cs) : LB h' lq vq cq wq eq cl cs := by
  unfold LB
  rw [x.2.1 lq l1.1, x.2.1 vq l2, x.2.1 cq l3.1, x.2.1 wq l4.1, x.2.1 eq l5.1, (x.2.2.1 lq l1.1 l1.2).1, (x.2.2.1 lq l1.1 l1.2).2.2, (x.2.2.1 cq l3.1 l3.2).1, (x.2.2.1 wq l4.1 l4.2).1, (x.2.2.1 eq l5.1 l5.2).1]
  exact H
/-- the law that the tape spells -/
def tpC (S : Nat → Int32) (n : Nat) : LC := lawC (hrT (fun i => S (10 + i)) n)
/-- a law's object made and kept: its place, its rows, its limit -/
def LWo (h h' : AH) (B a n : Nat) (C : LC) : Prop := hQ h' (B + 5) = (fun j => if j = a then some (hN h) else hQ h (B + 5) j) ∧ hI h' (hN h) 3 = C.2.2.2 ∧ LB h' (hN h) (hN h + 4) (hN h + 5) (hN h + 2) (hN h + 3) n C.2.2.1 ∧ hT h' (hN h + 1) = (13, n)
section XL
variable {h h3 : AH} {B n a : Nat} {S S' : Nat → Int32} {N : NN} {C : LC}
theorem xl_fw0 (x : Fw (fun _ => False) h h3) (hL : LY h B) : Fw (Wlw B) h (setI h3 (B + 1) 9 0) := Fw.I (x.mo (fun _ q => absurd q id)) (Or.inl rfl)
theorem xl_q0 (x : Fw (fun _ => False) h h3) (hL : LY h B) : hQ (setI h3 (B + 1) 9 0) (B + 5) = hQ h (B + 5) := (x.2.2.1 (B + 5) (by have := hL.2.2; omega) (fun z => z)).2.2
theorem xl_0 (H : XN h B S N) (hb : HB h) (x : Fw (fun _ => False) h h3) (c : LwS S S' N.2.2.1) : XN (setI h3 (B + 1) 9 0) B S' (N.1, N.2.1, N.2.2.1, N.2.2.2.1, 0) := by
  have e1 : hI h3 (B + 1) = hI h (B + 1) := (x.2.2.1 (B + 1) (by have := H.1.2.2; omega) (fun z => z)).1
  have k : ∀ k, k ≠ 9 → hI (setI h3 (B + 1) 9 0) (B + 1) k = hI h (B + 1) k := fun k hk => by rw [hI_setI_s, upd_n hk, e1]
  exact H.law hb (xl_fw0 x H.1) (x.ly0 H.1) (k 3 (by decide)) (k 7 (by decide)) (k 11 (by decide)) ((k 5 (by decide)).trans H.f5) (by rw [hI_setI_s, upd_s]; rfl) c
theorem xl_fw1 (x : Fw (fun _ => False) h h3) (hL : LY h B) (tl : hT h3 (hN h) = (1, 0)) : Fw (Wlw B) h (setI (setQ (setI h3 (B + 1) 9 0) (B + 5) a (some (hN h))) (B + 1) 5 (nI a + 1)) := Fw.I (Fw.Q (xl_fw0 x hL) (Or.inr rfl) (Or.inr (Or.inl ⟨(x.ly0 hL).1 5 (by decide), Or.inr ⟨hN h, 1, _, rfl, tl, by decide, rfl, Or.inl rfl⟩⟩))) (Or.inl rfl)
theorem xl_q1 (x : LN h h3 n C) (hL : LY h B) (w : C.1 = false) : LWo h (setI (setQ (setI h3 (B + 1) 9 0) (B + 5) a (some (hN h))) (B + 1) 5 (nI a + 1)) B a n C := by
  obtain ⟨x1, x2, x3, x4, x5, x6, x7⟩ := x
  have hBN := hL.2.2
  refine ⟨?_, ?_, ?_, x7⟩
  · funext j
    show u2 (hQ h3) (B + 5) a (some (hN h)) (B + 5) j = _
    by_cases e : j = a
    · subst e; rw [u2_s, if_pos rfl]
    · rw [u2_k e, if_neg e, (x1.2.2.1 (B + 5) (by omega) (fun z => z)).2.2]
  · rw [hI_setI_n (by omega)]
    show hI (setI h3 (B + 1) 9 0) (hN h) 3 = _
    rw [hI_setI_n (by omega)]; exact x5
  · have H := x6 w
    have e : ∀ b, B + 62 ≤ b → hI (setI (setQ (setI h3 (B + 1) 9 0) (B + 5) a (some (hN h))) (B + 1) 5 (nI a + 1)) b = hI h3 b ∧ hQ (setI (setQ (setI h3 (B + 1) 9 0) (B + 5) a (some (hN h))) (B + 1) 5 (nI a + 1)) b = hQ h3 b := fun b hb => by
      refine ⟨?_, ?_⟩
      · rw [hI_setI_n (by omega)]
        show hI (setI h3 (B + 1) 9 0) b = _
        rw [hI_setI_n (by omega)]
      · funext j
        exact u2_a (by omega)
    unfold LB
    rw [(e (hN h) (by omega)).1, (e (hN h) (by omega)).2, (e (hN h + 5) (by omega)).1, (e (hN h + 2) (by omega)).1, (e (hN h + 3) (by omega)).1]
    exact H
theorem xl_1 (H : XN h B S N) (hb : HB h) (x : Fw (fun _ => False) h h3) (tl : hT h3 (hN h) = (1, 0)) (c : LwS S S' (N.2.2.1 + 1)) : XN (setI (setQ (setI h3 (B + 1) 9 0) (B + 5) N.2.2.1 (some (hN h))) (B + 1) 5 (nI N.2.2.1 + 1)) B S' (N.1, N.2.1, N.2.2.1 + 1, N.2.2.2.1, 0) := by
  have e1 : hI h3 (B + 1) = hI h (B + 1) := (x.2.2.1 (B + 1) (by have := H.1.2.2; omega) (fun z => z)).1
  have k : ∀ k, k ≠ 9 → k ≠ 5 → hI (setI (setQ (setI h3 (B + 1) 9 0) (B + 5) N.2.2.1 (some (hN h))) (B + 1) 5 (nI N.2.2.1 + 1)) (B + 1) k = hI h (B + 1) k := fun k hk h5 => by
    rw [hI_setI_s, upd_n h5]
    show hI (setI h3 (B + 1) 9 0) (B + 1) k = _
    rw [hI_setI_s, upd_n hk, e1]
  have hL : LY (setI (setQ (setI h3 (B + 1) 9 0) (B + 5) N.2.2.1 (some (hN h))) (B + 1) 5 (nI N.2.2.1 + 1)) B := LY.Q (h := setI h3 (B + 1) 9 0) (x.ly0 H.1) (Or.inr (Or.inr rfl))
  refine H.law hb (xl_fw1 x H.1 tl) hL (k 3 (by decide) (by decide)) (k 7 (by decide) (by decide)) (k 11 (by decide) (by decide)) (by rw [hI_setI_s, upd_s, nI_1]) ?_ c
  rw [hI_setI_s, upd_n (by decide)]
  show hI (setI h3 (B + 1) 9 0) (B + 1) 9 = _
  rw [hI_setI_s, upd_s]; rfl
end XL
set_option maxRecDepth 100000 in
theorem x_law (g : GG) (h : AH) (B : Nat) (S : Nat → Int32) (N : NN) (hX : XN h B S N) (hb_ : HB h) : AM g 30 6 271 mX11_law [.ref B] h (fun rv h' => (N.2.2.1 = 5 ∧ rv = some (.int (-4)) ∧ h' = h) ∨ (N.2.2.1 < 5 ∧ ¬ ((tpC S N.2.2.2.2).1 = false ∧ (tpC S N.2.2.2.2).2.1 = N.2.2.2.2) ∧ rv = some (.int (-10 - nI (tpC S N.2.2.2.2).2.1)) ∧ Fw (Wlw B) h h' ∧ hQ h' (B + 5) = hQ h (B + 5) ∧ ∀ S', LwS S S' N.2.2.1 → XN h' B S' (N.1, N.2.1, N.2.2.1, N.2.2.2.1, 0)) ∨ (N.2.2.1 < 5 ∧ ((tpC S N.2.2.2.2).1 = false ∧ (tpC S N.2.2.2.2).2.1 = N.2.2.2.2) ∧ rv = some (.int (nI N.2.2.1)) ∧ Fw (Wlw B) h h' ∧ LWo h h' B N.2.2.1 N.2.2.2.2 (tpC S N.2.2.2.2) ∧ ∀ S', LwS S S' (N.2.2.1 + 1) → XN h' B S' (N.1, N.2.1, N.2.2.1 + 1, N.2.2.2.1, 0))) := by
  refine AM.of [(0, .ref B)] (by decide) (Nat.le_of_ble_eq_true rfl) rfl ?_
  intro V hV
  have hb : V.2.1.2.1 = cX11_law := by subst hV; rfl
  have ow : V.2.1.1.cls = RX11 := by subst hV; rfl
  have hr : V.2.2.1 = aw_rm 30 6 271 := by subst hV; rfl
  have hz : V.2.2.2 = aw_Z V.1 (fun rv h' => (N.2.2.1 = 5 ∧ rv = some (.int (-4)) ∧ h' = h) ∨ (N.2.2.1 < 5 ∧ ¬ ((tpC S N.2.2.2.2).1 = false ∧ (tpC S N.2.2.2.2).2.1 = N.2.2.2.2) ∧ rv = some (.int (-10 - nI (tpC S N.2.2.2.2).2.1)) ∧ Fw (Wlw B) h h' ∧ hQ h' (B + 5) = hQ h (B + 5) ∧ ∀ S', LwS S S' N.2.2.1 → XN h' B S' (N.1, N.2.1, N.2.2.1, N.2.2.2.1, 0)) ∨ (N.2.2.1 < 5 ∧ ((tpC S N.2.2.2.2).1 = false ∧ (tpC S N.2.2.2.2).2.1 = N.2.2.2.2) ∧ rv = some (.int (nI N.2.2.1)) ∧ Fw (Wlw B) h h' ∧ LWo h h' B N.2.2.1 N.2.2.2.2 (tpC S N.2.2.2.2) ∧ ∀ S', LwS S S' (N.2.2.1 + 1) → XN h' B S' (N.1, N.2.1, N.2.2.1 + 1, N.2.2.2.1, 0))) V.2.2.1 := by subst hV; rfl
  have hg : V.1 = g := by subst hV; rfl
  have hret : V.2.1.2.2.2 = (some .int) := by subst hV; rfl
  have hml : V.2.1.2.2.1 = 2 := by subst hV; rfl
  clear hV
  refine a_aload_n hb dX11_law_0 rfl 0 rfl ?_
  refine a_getQ (q := (B + 1)) hb dX11_law_1 (by rw [ow]; exact fl_RX11_12_11) (hX.1.1 0 (by decide)) (hX.1.2.1 (0, 0, 1) (by decide)) ?_
  refine a_getI hb dX11_law_4 (by rw [ow]; exact fl_RX11_112_7) (hX.1.1 1 (by decide)) ?_
  rw [hX.f5]
  show AW V 0 0 h 7 [(0, .ref B)] [.int (nI N.2.2.1)]
  refine a_iconst (v := 5) hb dX11_law_7 (by decide) ?_
  refine a_icmp_lt hb 14 dX11_law_8 (by decide) (fun c8 => ?_) (fun c8 => ?_)
  · have l5 : N.2.2.1 < 5 := (nI_ltI (b := 5) (by have := hX.2.2.2.2.1.2; omega) (by decide)).mp c8
    have hBN : B + 62 ≤ hN h := hX.1.2.2
    refine a_new hb dX11_law_14 (by rw [ow]; exact cn_RX11_115) (by rw [hr]; exact ⟨by decide, by decide⟩) ?_
    have hL1 : LY (newC h 1 0) B := NW.ly NW.new hX.1
    show AW V 1 10 (newC h 1 0) 17 [(0, .ref B)] [.ref (hN h)]
    refine a_dup hb dX11_law_17 rfl ?_
    refine a_aload_n hb dX11_law_18 rfl 0 rfl ?_
    refine a_getQ (q := (B + 1)) hb dX11_law_19 (by rw [ow]; exact fl_RX11_12_11) (hL1.1 0 (by decide)) (hL1.2.1 (0, 0, 1) (by decide)) ?_
    refine a_getQ (q := (B + 7)) hb dX11_law_22 (by rw [ow]; exact fl_RX11_108_7) (hL1.1 1 (by decide)) (hL1.2.1 (1, 8, 7) (by decide)) ?_
    refine a_aload_n hb dX11_law_25 rfl 0 rfl ?_
    refine a_getQ (q := (B + 1)) hb dX11_law_26 (by rw [ow]; exact fl_RX11_12_11) (hL1.1 0 (by decide)) (hL1.2.1 (0, 0, 1) (by decide)) ?_
    refine a_getI hb dX11_law_29 (by rw [ow]; exact fl_RX11_105_7) (hL1.1 1 (by decide)) ?_
    rw [show hI (newC h 1 0) (B + 1) 9 = nI N.2.2.2.2 from by rw [hI_C (by omega)]; exact hX.f9]
    show AW V 1 10 (newC h 1 0) 32 [(0, .ref B)] [.int (nI N.2.2.2.2), .ref (B + 7), .ref (hN h), .ref (hN h)]
    refine a_callS hb dX11_law_32 (by rw [hg]; exact j_copyOf g (newC h 1 0) (B + 7) 120 N.2.2.2.2 (hL1.1 7 (by decide)) (by decide) hX.tn (by show B + 7 < hN h + 1; omega) (fun i hi => by rw [hI_C (by omega), hX.tp hi]; exact fit_b _)) (by rw [ow]; exact cls_RX11_117) rfl rfl (Nat.le_of_ble_eq_true rfl) (by rw [hr]; exact ⟨by decide, by decide⟩) (by rw [hr]; exact ⟨Nat.le_of_ble_eq_true rfl, Nat.le_of_ble_eq_true rfl⟩) ?_
    intro rv h' hq_
    obtain ⟨hv_, f, hh_, hf_⟩ := hq_
    rw [hv_, hh_]
    clear hv_ hh_ rv h'
    have hf : ∀ j, j < N.2.2.2.2 → f j = bx (S (10 + j)) := fun j hj => by rw [hf_ j hj, hI_C (by omega)]; exact hX.tp (by have := hX.tn; omega)
    show AW V 2 130 (setR (newC (newC h 1 0) 13 N.2.2.2.2) (hN h + 1) f) 35 [(0, .ref B)] [.ref (hN h + 1), .ref (hN h), .ref (hN h)]
    refine a_callI hb dX11_law_35 (by rw [hg]; exact i_X1 g (setR (newC (newC h 1 0) 13 N.2.2.2.2) (hN h + 1) f) (hN h) (hN h + 1) N.2.2.2.2 ((hT_C (h := newC h 1 0) (kd := 13) (len := N.2.2.2.2) (show hN h ≠ hN h + 1 by omega)).trans u1_s) u1_s (by show hN h < hN h + 1 + 1; omega) (by show hN h + 1 < hN h + 1 + 1; omega) hX.tn (hrT (fun i => S (10 + i)) N.2.2.2.2) (fun p hp => by rw [hI_R, hf p hp]; unfold hrT; rw [if_pos hp]; exact ⟨rfl, hX.2.2.2.2.2.2.2.2.2.2.2.2 p (by have := hX.tn; omega)⟩) (fun p hp => by unfold hrT; rw [if_neg (by omega)])) (by rw [ow]; exact cli_RX11_123) rfl rfl (Nat.le_of_ble_eq_true rfl) (by rw [hr]; exact ⟨by decide, by decide⟩) (by rw [hr]; exact ⟨Nat.le_of_ble_eq_true rfl, Nat.le_of_ble_eq_true rfl⟩) ?_
    intro rv h3 hq_
    obtain ⟨hv_, h4, l, hin_, hh_, hl_⟩ := hq_
    rw [hv_]
    have hln : LN h h3 N.2.2.2.2 (tpC S N.2.2.2.2) := by rw [hh_]; exact ln_of hin_ hl_
    clear hv_ hh_ hin_ hl_
    have hL3 : LY h3 B := hln.1.ly0 hX.1
    show AW V 6 271 h3 38 [(0, .ref B)] [.ref (hN h)]
    have hf5 : hI h3 (B + 1) 5 = nI N.2.2.1 := by rw [(hln.1.2.2.1 (B + 1) (by omega) (fun z => z)).1]; exact hX.f5
    have hN3 : hN h ≤ hN h3 := hln.1.1
    refine a_astore_n (L' := [(1, .ref (hN h)), (0, .ref B)]) hb dX11_law_38 rfl (by rw [hml]; decide) rfl ?_
    refine a_aload_n hb dX11_law_39 rfl 1 rfl ?_
    refine a_getQ (q := (B + 1)) hb dX11_law_40 (by rw [ow]; exact fl_RX11_12_11) (hL3.1 0 (by decide)) (hL3.2.1 (0, 0, 1) (by decide)) ?_
    refine a_iconst (v := 0) hb dX11_law_43 (by decide) ?_
    refine a_putI (fty := .int) hb dX11_law_44 (by rw [ow]; exact fp_RX11_105_7) (Or.inr (fun C T N hq => by cases hq; rfl)) (hL3.1 1 (by decide)) rfl rfl ?_
    refine a_aload_n hb dX11_law_47 rfl 0 rfl ?_
    refine a_getI hb dX11_law_48 (by rw [ow]; exact fl_RX11_126_1) hln.2.1 ?_
    rw [hI_setI_n (by omega), hln.2.2.2.1]
    by_cases hw : (tpC S N.2.2.2.2).1 = false ∧ (tpC S N.2.2.2.2).2.1 = N.2.2.2.2
    · rw [decide_eq_true hw]
      show AW V 6 271 (setI h3 (B + 1) 9 0) 51 [(1, .ref (hN h)), (0, .ref B)] [.int 1]
      refine a_if_ne hb 62 dX11_law_51 (by decide) (fun c51 => ?_) (fun c51 => absurd c51 (by decide))
      refine a_aload_n hb dX11_law_62 rfl 1 rfl ?_
      refine a_getQ (q := (B + 1)) hb dX11_law_63 (by rw [ow]; exact fl_RX11_12_11) (hL3.1 0 (by decide)) (hL3.2.1 (0, 0, 1) (by decide)) ?_
      refine a_getQ (q := (B + 5)) hb dX11_law_66 (by rw [ow]; exact fl_RX11_132_7) (hL3.1 1 (by decide)) (hL3.2.1 (1, 4, 5) (by decide)) ?_
      refine a_aload_n hb dX11_law_69 rfl 1 rfl ?_
      refine a_getQ (q := (B + 1)) hb dX11_law_70 (by rw [ow]; exact fl_RX11_12_11) (hL3.1 0 (by decide)) (hL3.2.1 (0, 0, 1) (by decide)) ?_
      refine a_getI hb dX11_law_73 (by rw [ow]; exact fl_RX11_112_7) (hL3.1 1 (by decide)) ?_
      rw [hI_setI_s, upd_n (by decide), hf5]
      show AW V 6 271 (setI h3 (B + 1) 9 0) 76 [(1, .ref (hN h)), (0, .ref B)] [.int (nI N.2.2.1), .ref (B + 5)]
      refine a_aload_n hb dX11_law_76 rfl 0 rfl ?_
      refine b_aast (j := N.2.2.1) (Cn := RX1) (E := RX1) hb dX11_law_77 (hL3.1 5 (by decide)) (by decide) (by decide) rfl hln.2.1 (by decide) rfl (Or.inl rfl) (IX.n (by omega)) (by omega) ?_
      have hf5b : hI (setQ (setI h3 (B + 1) 9 0) (B + 5) N.2.2.1 (some (hN h))) (B + 1) 5 = nI N.2.2.1 := by show hI (setI h3 (B + 1) 9 0) (B + 1) 5 = _; rw [hI_setI_s, upd_n (by decide)]; exact hf5
      have hL4 : LY (setQ (setI h3 (B + 1) 9 0) (B + 5) N.2.2.1 (some (hN h))) B := LY.Q (h := setI h3 (B + 1) 9 0) hL3 (Or.inr (Or.inr rfl))
      show AW V 6 271 (setQ (setI h3 (B + 1) 9 0) (B + 5) N.2.2.1 (some (hN h))) 78 [(1, .ref (hN h)), (0, .ref B)] []
      refine a_aload_n hb dX11_law_78 rfl 1 rfl ?_
      refine a_getQ (q := (B + 1)) hb dX11_law_79 (by rw [ow]; exact fl_RX11_12_11) (hL4.1 0 (by decide)) (hL4.2.1 (0, 0, 1) (by decide)) ?_
      refine a_dup hb dX11_law_82 rfl ?_
      refine a_getI hb dX11_law_83 (by rw [ow]; exact fl_RX11_112_7) (hL4.1 1 (by decide)) ?_
      rw [hf5b]
      show AW V 6 271 (setQ (setI h3 (B + 1) 9 0) (B + 5) N.2.2.1 (some (hN h))) 86 [(1, .ref (hN h)), (0, .ref B)] [.int (nI N.2.2.1), .ref (B + 1)]
      refine a_iconst (v := 1) hb dX11_law_86 (by decide) ?_
      refine a_iadd hb dX11_law_87 ?_
      refine a_putI (fty := .int) hb dX11_law_88 (by rw [ow]; exact fp_RX11_112_7) (Or.inr (fun C T N hq => by cases hq; rfl)) (hL4.1 1 (by decide)) rfl rfl ?_
      refine a_aload_n hb dX11_law_91 rfl 1 rfl ?_
      refine a_getQ (q := (B + 1)) hb dX11_law_92 (by rw [ow]; exact fl_RX11_12_11) (hL4.1 0 (by decide)) (hL4.2.1 (0, 0, 1) (by decide)) ?_
      refine a_getI hb dX11_law_95 (by rw [ow]; exact fl_RX11_112_7) (hL4.1 1 (by decide)) ?_
      rw [hI_setI_s, upd_s]
      show AW V 6 271 (setI (setQ (setI h3 (B + 1) 9 0) (B + 5) N.2.2.1 (some (hN h))) (B + 1) 5 ((nI N.2.2.1) + 1)) 98 [(1, .ref (hN h)), (0, .ref B)] [.int (nI N.2.2.1 + 1)]
      refine a_iconst (v := 1) hb dX11_law_98 (by decide) ?_
      refine a_isub hb dX11_law_99 ?_
      exact a_ireturn (ty := .int) hb hz dX11_law_100 hret rfl (by rw [hr]; exact Nat.le_of_ble_eq_true rfl) (by rw [hr]; exact Nat.le_of_ble_eq_true rfl) ((Or.inr (Or.inr ⟨l5, hw, by rw [Int32.add_sub_cancel], xl_fw1 hln.1 hX.1 hln.2.1, xl_q1 hln hX.1 hw.1, fun S' c => xl_1 hX hb_ hln.1 hln.2.1 c⟩)))
    rw [decide_eq_false hw]
    show AW V 6 271 (setI h3 (B + 1) 9 0) 51 [(1, .ref (hN h)), (0, .ref B)] [.int 0]
    refine a_if_ne hb 62 dX11_law_51 (by decide) (fun c51 => absurd c51 (by decide)) (fun c51 => ?_)
    refine a_bipush (v := (-10)) hb dX11_law_54 (by decide) ?_
    refine a_aload_n hb dX11_law_56 rfl 0 rfl ?_
    refine a_getI hb dX11_law_57 (by rw [ow]; exact fl_RX11_129_1) hln.2.1 ?_
    rw [hI_setI_n (by omega), hln.2.2.1]
    show AW V 6 271 (setI h3 (B + 1) 9 0) 60 [(1, .ref (hN h)), (0, .ref B)] [.int (nI (tpC S N.2.2.2.2).2.1), .int (-10)]
    refine a_isub hb dX11_law_60 ?_
    exact a_ireturn (ty := .int) hb hz dX11_law_61 hret rfl (by rw [hr]; exact Nat.le_of_ble_eq_true rfl) (by rw [hr]; exact Nat.le_of_ble_eq_true rfl) ((Or.inr (Or.inl ⟨l5, hw, rfl, xl_fw0 hln.1 hX.1, xl_q0 hln.1 hX.1, fun S' c => xl_0 hX hb_ hln.1 c⟩)))
  · have e5 : N.2.2.1 = 5 := by have q := hX.2.2.2.2.1.2; have z : ¬ N.2.2.1 < 5 := fun z => c8 ((nI_ltI (b := 5) (by omega) (by decide)).mpr z); omega
    refine a_bipush (v := (-4)) hb dX11_law_11 (by decide) ?_
    exact a_ireturn (ty := .int) hb hz dX11_law_13 hret rfl (by rw [hr]; exact Nat.le_of_ble_eq_true rfl) (by rw [hr]; exact Nat.le_of_ble_eq_true rfl) ((Or.inl ⟨e5, rfl, rfl⟩))
