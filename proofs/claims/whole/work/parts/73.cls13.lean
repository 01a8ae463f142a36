/-! ===== the class: what calls write ===== -/
theorem PO.up {A : Nat → Prop} {h h' : AH} {B p q : Nat} {S S' : Nat → Int32} (x : Fw A h h') (hb : HB h) (hA : ∀ a, A a → a < B + 62) (e : S' (130 + p) = S (130 + p) ∧ S' (138 + p) = S (138 + p) ∧ S' (146 + p) = S (146 + p) ∧ S' (154 + p) = S (154 + p)) (H : PO h B S p q) : PO h' B S' p q := by
  have hq := hb.lt H.2.1 (by have := kdP_lt (k := S (130 + p)); omega)
  have hn : ¬ A q := fun z => by have := hA q z; have := H.1; omega
  unfold PO
  rw [x.2.1 q hq, (x.2.2.1 q hq hn).1, e.1, e.2.1, e.2.2.1, e.2.2.2]
  exact H
theorem WO.up {A : Nat → Prop} {h h' : AH} {B p q : Nat} {S S' : Nat → Int32} (x : Fw A h h') (hb : HB h) (hA : ∀ a, A a → a < B + 62) (e : S' (178 + p) = S (178 + p) ∧ S' (183 + p) = S (183 + p) ∧ S' (188 + p) = S (188 + p) ∧ S' (193 + p) = S (193 + p) ∧ S' (198 + p) = S (198 + p) ∧ S' (203 + p) = S (203 + p)) (H : WO h B S p q) : WO h' B S' p q := by
  have hq := hb.lt H.2.1 (by decide)
  have hn : ¬ A q := fun z => by have := hA q z; have := H.1; omega
  unfold WO
  rw [x.2.1 q hq, (x.2.2.1 q hq hn).1, e.1, e.2.1, e.2.2.1, e.2.2.2.1, e.2.2.2.2.1, e.2.2.2.2.2]
  exact H
theorem RGp.cg {S S' : Nat → Int32} {p : Nat} (hp : p < 8) (e : ∀ j, 130 ≤ j → j < 178 → S' j = S j) (H : RGp S p) : RGp S' p := by
  unfold RGp
  rw [e (130 + p) (by omega) (by omega), e (138 + p) (by omega) (by omega), e (146 + p) (by omega) (by omega), e (154 + p) (by omega) (by omega), e (162 + p) (by omega) (by omega), e (170 + p) (by omega) (by omega)]
  exact H
theorem RGw.cg {S S' : Nat → Int32} {p : Nat} (hp : p < 5) (e : ∀ j, 178 ≤ j → j < 208 → S' j = S j) (H : RGw S p) : RGw S' p := by
  unfold RGw
  rw [e (178 + p) (by omega) (by omega), e (183 + p) (by omega) (by omega), e (188 + p) (by omega) (by omega), e (193 + p) (by omega) (by omega), e (198 + p) (by omega) (by omega), e (203 + p) (by omega) (by omega)]
  exact H
/-- what a call leaves: x and the new row, and but A nothing changed -/
def WX (A : Nat → Prop) (h h' : AH) (B : Nat) (S' : Nat → Int32) : Prop := (∃ N', XN h' B S' N') ∧ Fw A h h'
theorem WX.same {A : Nat → Prop} {h : AH} {B : Nat} {S S' : Nat → Int32} {N : NN} (H : XN h B S N) (e : S' = S) : WX A h h B S' := by subst e; exact ⟨⟨N, H⟩, Fw.rf⟩
def Wr (B a : Nat) : Prop := a = B + 1 ∨ a = B + 8
def Ws (B a : Nat) : Prop := a = B + 9
def Wl (B a : Nat) : Prop := a = B + 3 ∨ a = B + 4
def Wt (B a : Nat) : Prop := a = B + 1 ∨ a = B + 7
def Ww (B a : Nat) : Prop := a = B + 1 ∨ a = B + 6
def Wp (B a : Nat) : Prop := a = B + 1 ∨ a = B + 2 ∨ a = B + 3 ∨ a = B + 4
section UP
variable {A : Nat → Prop} {h h' : AH} {B : Nat} {S S' : Nat → Int32} {N : NN}
/-- the objects stay: the rows of breaks and works as they were -/
theorem XN.ob (H : XN h B S N) (x : Fw A h h') (hb : HB h) (hA : ∀ a, A a → a < B + 62) (q2 : hQ h' (B + 2) = hQ h (B + 2)) (q6 : hQ h' (B + 6) = hQ h (B + 6)) (e : ∀ j, 130 ≤ j ∧ j < 162 ∨ 178 ≤ j ∧ j < 208 → ∀ _ : True, S' j = S j) : (∀ p, p < N.1 → ∃ q, hQ h' (B + 2) p = some q ∧ PO h' B S' p q) ∧ ∀ w, w < N.2.1 → ∃ q, hQ h' (B + 6) w = some q ∧ WO h' B S' w q := by
  have n1 := H.np
  have n2 := H.nw
  refine ⟨fun p hp => ?_, fun w hw => ?_⟩
  · obtain ⟨q, h1, h2⟩ := H.ps hp
    exact ⟨q, by rw [q2]; exact h1, h2.up x hb hA ⟨e _ (by omega) trivial, e _ (by omega) trivial, e _ (by omega) trivial, e _ (by omega) trivial⟩⟩
  · obtain ⟨q, h1, h2⟩ := H.ws hw
    exact ⟨q, by rw [q6]; exact h1, h2.up x hb hA ⟨e _ (by omega) trivial, e _ (by omega) trivial, e _ (by omega) trivial, e _ (by omega) trivial, e _ (by omega) trivial, e _ (by omega) trivial⟩⟩
end UP
section FIN
variable {h h' : AH} {B : Nat} {S S' : Nat → Int32} {N N' : NN}
theorem XN.fin (hL : LY h' B) (ob : (∀ p, p < N'.1 → ∃ q, hQ h' (B + 2) p = some q ∧ PO h' B S' p q) ∧ ∀ w, w < N'.2.1 → ∃ q, hQ h' (B + 6) w = some q ∧ WO h' B S' w q)
    (ii : hI h' (B + 1) 3 = nI N'.1 ∧ hI h' (B + 1) 5 = nI N'.2.2.1 ∧ hI h' (B + 1) 7 = nI N'.2.1 ∧ hI h' (B + 1) 9 = nI N'.2.2.2.2 ∧ hI h' (B + 1) 11 = nI N'.2.2.2.1)
    (od : ∀ i, i < 8 → hI h' (B + 3) i = S' (162 + i) ∧ hI h' (B + 4) i = S' (170 + i)) (tp : ∀ i, i < 120 → hI h' (B + 7) i = (S' (10 + i)).toInt8.toInt32) (ro : ∀ i, i < 20 → hI h' (B + 8) i = S' (918 + i)) (st : ∀ i, i < 3 → hI h' (B + 9) i = S' (5 + i)) (g : RG S' N') : XN h' B S' N' :=
  ⟨hL, ⟨⟨ii.1.trans g.1.1.symm, ii.2.1.trans g.2.2.1.1.symm, ii.2.2.1.trans g.2.1.1.symm, ii.2.2.2.1.trans g.2.2.2.2.1.1.symm, ii.2.2.2.2.trans g.2.2.2.1.1.symm⟩, ob.1, ob.2, od, tp, ro, st⟩, g⟩
theorem XN.od' (H : XN h B S N) (k3 : hI h' (B + 3) = hI h (B + 3)) (k4 : hI h' (B + 4) = hI h (B + 4)) (e : ∀ j, 162 ≤ j → j < 178 → S' j = S j) : ∀ i, i < 8 → hI h' (B + 3) i = S' (162 + i) ∧ hI h' (B + 4) i = S' (170 + i) := fun i hi => by
  rw [k3, k4, e _ (by omega) (by omega), e _ (by omega) (by omega)]; exact ⟨H.on hi, H.oe hi⟩
theorem XN.tp' (H : XN h B S N) (k : hI h' (B + 7) = hI h (B + 7)) (e : ∀ j, 10 ≤ j → j < 130 → S' j = S j) : ∀ i, i < 120 → hI h' (B + 7) i = (S' (10 + i)).toInt8.toInt32 := fun i hi => by
  rw [k, e _ (by omega) (by omega)]; exact H.tp hi
theorem XN.ro' (H : XN h B S N) (k : hI h' (B + 8) = hI h (B + 8)) (e : ∀ j, 918 ≤ j → j < 938 → S' j = S j) : ∀ i, i < 20 → hI h' (B + 8) i = S' (918 + i) := fun i hi => by
  rw [k, e _ (by omega) (by omega)]; exact H.ro hi
theorem XN.st' (H : XN h B S N) (k : hI h' (B + 9) = hI h (B + 9)) (e : ∀ j, 5 ≤ j → j < 8 → S' j = S j) : ∀ i, i < 3 → hI h' (B + 9) i = S' (5 + i) := fun i hi => by
  rw [k, e _ (by omega) (by omega)]; exact H.st hi
theorem RG.s' (H : RG S N) (e : ∀ j, 5 ≤ j → j < 9 → S' j = S j) : oO (S' 5) 0 9 = false ∧ oO (S' 6) 1 9 = false ∧ oO (S' 7) 1 999 = false ∧ S' 8 = nI N.2.2.1 - 1 := by
  rw [e 5 (by omega) (by omega), e 6 (by omega) (by omega), e 7 (by omega) (by omega), e 8 (by omega) (by omega)]; exact H.2.2.2.2.2.1
theorem RG.p' (H : RG S N) (e : ∀ j, 130 ≤ j → j < 178 → S' j = S j) : ∀ p, p < N.1 → RGp S' p := fun p hp => (H.2.2.2.2.2.2.1 p hp).cg (Nat.lt_of_lt_of_le hp H.1.2) e
theorem RG.w' (H : RG S N) (e : ∀ j, 178 ≤ j → j < 208 → S' j = S j) : ∀ w, w < N.2.1 → RGw S' w := fun w hw => (H.2.2.2.2.2.2.2.1 w hw).cg (Nat.lt_of_lt_of_le hw H.2.1.2) e
theorem RG.m' (H : RG S N) (e : ∀ j, 208 ≤ j → j < 213 → S' j = S j) : ∀ a, a < N.2.2.1 → oO (S' (208 + a)) 0 999 = false := fun a ha => by
  have := H.2.2.1.2
  rw [e _ (by omega) (by omega)]; exact H.2.2.2.2.2.2.2.2.1 a ha
theorem RG.r' (H : RG S N) (e : ∀ j, 918 ≤ j → j < 938 → S' j = S j) : ∀ i, i < N.2.2.2.1 → oO (S' (918 + i)) (-99) 999 = false := fun i hi => by
  have := H.2.2.2.1.2
  rw [e _ (by omega) (by omega)]; exact H.2.2.2.2.2.2.2.2.2.1 i hi
theorem RG.t' (H : RG S N) (e : ∀ j, 10 ≤ j → j < 130 → S' j = S j) : ∀ i, i < 120 → oO (S' (10 + i)) 0 255 = false := fun i hi => by
  rw [e _ (by omega) (by omega)]; exact H.2.2.2.2.2.2.2.2.2.2 i hi
theorem RG.c0 (H : RG S N) (e : S' 0 = S 0) : S' 0 = nI N.1 ∧ N.1 ≤ 8 := by rw [e]; exact H.1
theorem RG.c1 (H : RG S N) (e : S' 1 = S 1) : S' 1 = nI N.2.1 ∧ N.2.1 ≤ 5 := by rw [e]; exact H.2.1
theorem RG.c2 (H : RG S N) (e : S' 2 = S 2) : S' 2 = nI N.2.2.1 ∧ N.2.2.1 ≤ 5 := by rw [e]; exact H.2.2.1
theorem RG.c3 (H : RG S N) (e : S' 3 = S 3) : S' 3 = nI N.2.2.2.1 ∧ N.2.2.2.1 ≤ 20 := by rw [e]; exact H.2.2.2.1
theorem RG.c4 (H : RG S N) (e : S' 4 = S 4) : S' 4 = nI N.2.2.2.2 ∧ N.2.2.2.2 ≤ 120 := by rw [e]; exact H.2.2.2.2.1
end FIN
theorem WX.row {h : AH} {B : Nat} {S : Nat → Int32} {N : NN} {v : Int32} (H : XN h B S N) (hb : HB h) (hr : N.2.2.2.1 < 20) (hv : oO v (-99) 999 = false) : WX (Wr B) h (setI (setI h (B + 8) N.2.2.2.1 v) (B + 1) 11 (nI N.2.2.2.1 + 1)) B (upd (upd S (918 + N.2.2.2.1) v) 3 (S 3 + 1)) := by
  have fw : Fw (Wr B) h (setI (setI h (B + 8) N.2.2.2.1 v) (B + 1) 11 (nI N.2.2.2.1 + 1)) := Fw.I (Fw.I Fw.rf (Or.inr rfl)) (Or.inl rfl)
  have eS : ∀ j, j ≠ 3 → j ≠ 918 + N.2.2.2.1 → upd (upd S (918 + N.2.2.2.1) v) 3 (S 3 + 1) j = S j := fun j h1 h2 => by rw [upd_n h1, upd_n h2]
  have e3 : upd (upd S (918 + N.2.2.2.1) v) 3 (S 3 + 1) 3 = nI (N.2.2.2.1 + 1) := by rw [upd_s, H.2.2.2.2.2.1.1, nI_1]
  have e9 : upd (upd S (918 + N.2.2.2.1) v) 3 (S 3 + 1) (918 + N.2.2.2.1) = v := by rw [upd_n (by omega), upd_s]
  have ob := H.ob (S' := upd (upd S (918 + N.2.2.2.1) v) 3 (S 3 + 1)) fw hb (by intro a; unfold Wr; omega) rfl rfl (fun j h1 _ => eS j (by omega) (by omega))
  generalize upd (upd S (918 + N.2.2.2.1) v) 3 (S 3 + 1) = S' at *
  have k1 : ∀ k, k ≠ 11 → hI (setI (setI h (B + 8) N.2.2.2.1 v) (B + 1) 11 (nI N.2.2.2.1 + 1)) (B + 1) k = hI h (B + 1) k := fun k hk => by rw [hI_setI_s, upd_n hk, hI_setI_n (by omega)]
  have k : ∀ a, a ≠ B + 1 → a ≠ B + 8 → hI (setI (setI h (B + 8) N.2.2.2.1 v) (B + 1) 11 (nI N.2.2.2.1 + 1)) a = hI h a := fun a h1 h2 => by rw [hI_setI_n h1, hI_setI_n h2]
  have k8 : hI (setI (setI h (B + 8) N.2.2.2.1 v) (B + 1) 11 (nI N.2.2.2.1 + 1)) (B + 8) = upd (hI h (B + 8)) N.2.2.2.1 v := by rw [hI_setI_n (by omega), hI_setI_s]
  have k11 : hI (setI (setI h (B + 8) N.2.2.2.1 v) (B + 1) 11 (nI N.2.2.2.1 + 1)) (B + 1) 11 = nI (N.2.2.2.1 + 1) := by rw [hI_setI_s, upd_s, nI_1]
  have G := H.2.2
  refine ⟨⟨(N.1, N.2.1, N.2.2.1, N.2.2.2.1 + 1, N.2.2.2.2), XN.fin H.1 ob ⟨(k1 3 (by decide)).trans H.f3, (k1 5 (by decide)).trans H.f5, (k1 7 (by decide)).trans H.f7, (k1 9 (by decide)).trans H.f9, k11⟩ (H.od' (k _ (by omega) (by omega)) (k _ (by omega) (by omega)) (fun j _ _ => eS j (by omega) (by omega))) (H.tp' (k _ (by omega) (by omega)) (fun j _ _ => eS j (by omega) (by omega))) (fun i hi => ?_) (H.st' (k _ (by omega) (by omega)) (fun j _ _ => eS j (by omega) (by omega)))
    ⟨G.c0 (eS 0 (by omega) (by omega)), G.c1 (eS 1 (by omega) (by omega)), G.c2 (eS 2 (by omega) (by omega)), ⟨e3, hr⟩, G.c4 (eS 4 (by omega) (by omega)), G.s' (fun j _ _ => eS j (by omega) (by omega)), G.p' (fun j _ _ => eS j (by omega) (by omega)), G.w' (fun j _ _ => eS j (by omega) (by omega)), G.m' (fun j _ _ => eS j (by omega) (by omega)), fun i hi => ?_, G.t' (fun j _ _ => eS j (by omega) (by omega))⟩⟩, fw⟩
  · rw [k8]
    by_cases e : i = N.2.2.2.1
    · subst e; rw [upd_s, e9]
    · rw [upd_n e, eS _ (by omega) (by omega)]; exact H.ro hi
  · have hi' : i < N.2.2.2.1 + 1 := hi
    by_cases e : i = N.2.2.2.1
    · subst e; rw [e9]; exact hv
    · rw [eS _ (by omega) (by omega)]; exact H.rr (by omega)
theorem WX.row0 {h : AH} {B : Nat} {S : Nat → Int32} {N : NN} (H : XN h B S N) (hb : HB h) : WX (Wr B) h (setI h (B + 1) 11 0) B (upd S 3 0) := by
  have fw : Fw (Wr B) h (setI h (B + 1) 11 0) := Fw.I Fw.rf (Or.inl rfl)
  have eS : ∀ j, j ≠ 3 → upd S 3 0 j = S j := fun j h1 => upd_n h1
  have e3 : upd S 3 0 3 = nI 0 := upd_s
  have ob := H.ob (S' := upd S 3 0) fw hb (by intro a; unfold Wr; omega) rfl rfl (fun j h1 _ => eS j (by omega))
  generalize upd S 3 0 = S' at *
  have k1 : ∀ k, k ≠ 11 → hI (setI h (B + 1) 11 0) (B + 1) k = hI h (B + 1) k := fun k hk => by rw [hI_setI_s, upd_n hk]
  have k : ∀ a, a ≠ B + 1 → hI (setI h (B + 1) 11 0) a = hI h a := fun a h1 => by rw [hI_setI_n h1]
  have k11 : hI (setI h (B + 1) 11 0) (B + 1) 11 = nI 0 := by rw [hI_setI_s, upd_s]; rfl
  have G := H.2.2
  exact ⟨⟨(N.1, N.2.1, N.2.2.1, 0, N.2.2.2.2), XN.fin H.1 ob ⟨(k1 3 (by decide)).trans H.f3, (k1 5 (by decide)).trans H.f5, (k1 7 (by decide)).trans H.f7, (k1 9 (by decide)).trans H.f9, k11⟩ (H.od' (k _ (by omega)) (k _ (by omega)) (fun j _ _ => eS j (by omega))) (H.tp' (k _ (by omega)) (fun j _ _ => eS j (by omega))) (H.ro' (k _ (by omega)) (fun j _ _ => eS j (by omega))) (H.st' (k _ (by omega)) (fun j _ _ => eS j (by omega)))
    ⟨G.c0 (eS 0 (by omega)), G.c1 (eS 1 (by omega)), G.c2 (eS 2 (by omega)), ⟨e3, Nat.zero_le _⟩, G.c4 (eS 4 (by omega)), G.s' (fun j _ _ => eS j (by omega)), G.p' (fun j _ _ => eS j (by omega)), G.w' (fun j _ _ => eS j (by omega)), G.m' (fun j _ _ => eS j (by omega)), fun i hi => absurd hi (Nat.not_lt_zero i), G.t' (fun j _ _ => eS j (by omega))⟩⟩, fw⟩
set_option maxRecDepth 100000 in
theorem x_row (g : GG) (h : AH) (B : Nat) (S : Nat → Int32) (N : NN) (hX : XN h B S N) (hb_ : HB h) (v : Int32) : AM g 3 0 0 mX11_row [.ref B, .int v] h (fun rv h' => rv = some (.int (spRow S N.2.2.2.1 v).1) ∧ WX (Wr B) h h' B (spRow S N.2.2.2.1 v).2) := by
  refine AM.of [(0, .ref B), (1, .int v)] (by decide) (Nat.le_of_ble_eq_true rfl) rfl ?_
  intro V hV
  have hb : V.2.1.2.1 = cX11_row := by subst hV; rfl
  have ow : V.2.1.1.cls = RX11 := by subst hV; rfl
  have hr : V.2.2.1 = aw_rm 3 0 0 := by subst hV; rfl
  have hz : V.2.2.2 = aw_Z V.1 (fun rv h' => rv = some (.int (spRow S N.2.2.2.1 v).1) ∧ WX (Wr B) h h' B (spRow S N.2.2.2.1 v).2) V.2.2.1 := by subst hV; rfl
  have hg : V.1 = g := by subst hV; rfl
  have hret : V.2.1.2.2.2 = (some .int) := by subst hV; rfl
  have hml : V.2.1.2.2.1 = 2 := by subst hV; rfl
  clear hV
  have hnp := hX.np
  have hnw := hX.nw
  have hrn := hX.rn
  have e3 : S 3 = nI N.2.2.2.1 := hX.2.2.2.2.2.1.1
  refine a_iload_n hb dX11_row_0 rfl 1 rfl ?_
  refine a_bipush (v := (-100)) hb dX11_row_1 (by decide) ?_
  refine a_icmp_ne hb 16 dX11_row_3 (by decide) (fun c3 => ?_) (fun c3 => ?_)
  · refine a_iload_n hb dX11_row_16 rfl 1 rfl ?_
    refine a_bipush (v := (-99)) hb dX11_row_17 (by decide) ?_
    refine a_sipush (v := 999) hb dX11_row_19 (by decide) ?_
    refine a_callS hb dX11_row_22 (by rw [hg]; exact w_outside g h v (-99) 999) (by rw [ow]; exact cls_RX11_53) rfl rfl (Nat.le_of_ble_eq_true rfl) (by rw [hr]; exact ⟨by decide, by decide⟩) (by rw [hr]; exact ⟨Nat.le_of_ble_eq_true rfl, Nat.le_of_ble_eq_true rfl⟩) ?_
    intro rv h' hq_
    rw [hq_.1, hq_.2]
    show AW V 0 0 h 25 [(0, .ref B), (1, .int v)] [.int (b2i (oO v (-99) 999))]
    refine a_if_eq hb 31 dX11_row_25 (by decide) (fun c25 => ?_) (fun c25 => ?_)
    · simp [b2i_0] at c25
      refine a_aload_n hb dX11_row_31 rfl 0 rfl ?_
      refine a_getQ (q := (B + 1)) hb dX11_row_32 (by rw [ow]; exact fl_RX11_12_11) (hX.1.1 0 (by decide)) (hX.1.2.1 (0, 0, 1) (by decide)) ?_
      refine a_getI hb dX11_row_35 (by rw [ow]; exact fl_RX11_250_7) (hX.1.1 1 (by decide)) ?_
      rw [hX.f11]
      show AW V 0 0 h 38 [(0, .ref B), (1, .int v)] [.int (nI N.2.2.2.1)]
      refine a_bipush (v := 20) hb dX11_row_38 (by decide) ?_
      refine a_icmp_lt hb 46 dX11_row_40 (by decide) (fun c40 => ?_) (fun c40 => ?_)
      · have l20 : N.2.2.2.1 < 20 := (nI_ltI (a := N.2.2.2.1) (b := 20) (by omega) (by decide)).mp c40
        refine a_aload_n hb dX11_row_46 rfl 0 rfl ?_
        refine a_getQ (q := (B + 1)) hb dX11_row_47 (by rw [ow]; exact fl_RX11_12_11) (hX.1.1 0 (by decide)) (hX.1.2.1 (0, 0, 1) (by decide)) ?_
        refine a_getQ (q := (B + 8)) hb dX11_row_50 (by rw [ow]; exact fl_RX11_253_7) (hX.1.1 1 (by decide)) (hX.1.2.1 (1, 10, 8) (by decide)) ?_
        refine a_aload_n hb dX11_row_53 rfl 0 rfl ?_
        refine a_getQ (q := (B + 1)) hb dX11_row_54 (by rw [ow]; exact fl_RX11_12_11) (hX.1.1 0 (by decide)) (hX.1.2.1 (0, 0, 1) (by decide)) ?_
        refine a_getI hb dX11_row_57 (by rw [ow]; exact fl_RX11_250_7) (hX.1.1 1 (by decide)) ?_
        rw [hX.f11]
        show AW V 0 0 h 60 [(0, .ref B), (1, .int v)] [.int (nI N.2.2.2.1), .ref (B + 8)]
        refine a_iload_n hb dX11_row_60 rfl 1 rfl ?_
        refine b_iast (j := N.2.2.2.1) hb dX11_row_61 (hX.1.1 8 (by decide)) (IX.n (by omega)) (by omega) ?_
        refine a_aload_n hb dX11_row_62 rfl 0 rfl ?_
        refine a_getQ (q := (B + 1)) hb dX11_row_63 (by rw [ow]; exact fl_RX11_12_11) (hX.1.1 0 (by decide)) (hX.1.2.1 (0, 0, 1) (by decide)) ?_
        refine a_dup hb dX11_row_66 rfl ?_
        refine a_getI hb dX11_row_67 (by rw [ow]; exact fl_RX11_250_7) (hX.1.1 1 (by decide)) ?_
        rw [show hI (setI h (B + 8) N.2.2.2.1 v) (B + 1) 11 = nI N.2.2.2.1 from by first | (rw [hI_setI_n (by omega)]; exact hX.f11) | (rw [hI_setI_n (by omega), hI_setI_n (by omega)]; exact hX.f11)]
        show AW V 0 0 (setI h (B + 8) N.2.2.2.1 v) 70 [(0, .ref B), (1, .int v)] [.int (nI N.2.2.2.1), .ref (B + 1)]
        refine a_iconst (v := 1) hb dX11_row_70 (by decide) ?_
        refine a_iadd hb dX11_row_71 ?_
        refine a_putI (fty := .int) hb dX11_row_72 (by rw [ow]; exact fp_RX11_250_7) (Or.inr (fun C T N hq => by cases hq; rfl)) (hX.1.1 1 (by decide)) rfl rfl ?_
        refine a_aload_n hb dX11_row_75 rfl 0 rfl ?_
        refine a_getQ (q := (B + 1)) hb dX11_row_76 (by rw [ow]; exact fl_RX11_12_11) (hX.1.1 0 (by decide)) (hX.1.2.1 (0, 0, 1) (by decide)) ?_
        refine a_getI hb dX11_row_79 (by rw [ow]; exact fl_RX11_250_7) (hX.1.1 1 (by decide)) ?_
        rw [hI_setI_s, upd_s]
        show AW V 0 0 (setI (setI h (B + 8) N.2.2.2.1 v) (B + 1) 11 ((nI N.2.2.2.1) + 1)) 82 [(0, .ref B), (1, .int v)] [.int (nI N.2.2.2.1 + 1)]
        exact a_ireturn (ty := .int) hb hz dX11_row_82 hret rfl (by rw [hr]; exact Nat.le_of_ble_eq_true rfl) (by rw [hr]; exact Nat.le_of_ble_eq_true rfl) (⟨by rw [spRow, if_neg (by simpa using c3), if_neg (by simp [c25]), if_neg (by rw [e3]; intro q; have z := (nI_eq (a := N.2.2.2.1) (b := 20) (by omega) (by decide)).mp q; omega), e3], by rw [spRow, if_neg (by simpa using c3), if_neg (by simp [c25]), if_neg (by rw [e3]; intro q; have z := (nI_eq (a := N.2.2.2.1) (b := 20) (by omega) (by decide)).mp q; omega)]; exact WX.row hX hb_ l20 (by simpa using c25)⟩)
      · refine a_bipush (v := (-4)) hb dX11_row_43 (by decide) ?_
        exact a_ireturn (ty := .int) hb hz dX11_row_45 hret rfl (by rw [hr]; exact Nat.le_of_ble_eq_true rfl) (by rw [hr]; exact Nat.le_of_ble_eq_true rfl) (⟨by rw [spRow, if_neg (by simpa using c3), if_neg (by simp [c25]), if_pos (by rw [e3]; have z := (nI_leI (a := 20) (b := N.2.2.2.1) (by decide) (by omega)).mp (Int32.not_lt.mp c40); rw [show N.2.2.2.1 = 20 by omega]; rfl)], by rw [spRow, if_neg (by simpa using c3), if_neg (by simp [c25]), if_pos (by rw [e3]; have z := (nI_leI (a := 20) (b := N.2.2.2.1) (by decide) (by omega)).mp (Int32.not_lt.mp c40); rw [show N.2.2.2.1 = 20 by omega]; rfl)]; exact WX.same hX rfl⟩)
    · simp [b2i_0] at c25
      refine a_bipush (v := (-2)) hb dX11_row_28 (by decide) ?_
      exact a_ireturn (ty := .int) hb hz dX11_row_30 hret rfl (by rw [hr]; exact Nat.le_of_ble_eq_true rfl) (by rw [hr]; exact Nat.le_of_ble_eq_true rfl) (⟨by rw [spRow, if_neg (by simpa using c3), if_pos (by simp [c25])], by rw [spRow, if_neg (by simpa using c3), if_pos (by simp [c25])]; exact WX.same hX rfl⟩)
  · refine a_aload_n hb dX11_row_6 rfl 0 rfl ?_
    refine a_getQ (q := (B + 1)) hb dX11_row_7 (by rw [ow]; exact fl_RX11_12_11) (hX.1.1 0 (by decide)) (hX.1.2.1 (0, 0, 1) (by decide)) ?_
    refine a_iconst (v := 0) hb dX11_row_10 (by decide) ?_
    refine a_putI (fty := .int) hb dX11_row_11 (by rw [ow]; exact fp_RX11_250_7) (Or.inr (fun C T N hq => by cases hq; rfl)) (hX.1.1 1 (by decide)) rfl rfl ?_
    refine a_iconst (v := 0) hb dX11_row_14 (by decide) ?_
    exact a_ireturn (ty := .int) hb hz dX11_row_15 hret rfl (by rw [hr]; exact Nat.le_of_ble_eq_true rfl) (by rw [hr]; exact Nat.le_of_ble_eq_true rfl) (⟨by rw [spRow, if_pos (by simpa using c3)], by rw [spRow, if_pos (by simpa using c3)]; exact WX.row0 hX hb_⟩)
