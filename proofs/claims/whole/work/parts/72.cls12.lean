/-! ===== the class: objects made, what calls write ===== -/
/-- behind the last cell nothing lies -/
def HB (h : AH) : Prop := ∀ a, hN h ≤ a → 99 ≤ (hT h a).1
theorem HB.lt {h : AH} (H : HB h) {a kd len : Nat} (ht : hT h a = (kd, len)) (hk : kd < 99) : a < hN h := by
  rcases Nat.lt_or_ge a (hN h) with q | q
  · exact q
  · have := H a q; rw [ht] at this; omega
def TYo (h : AH) (E : String) (o : Option Nat) : Prop := o = none ∨ ∃ q kd Cn, o = some q ∧ hT h q = (kd, 0) ∧ kd < 13 ∧ (aw_cl[kd]?).map (fun q => q.1) = some Cn ∧ (Cn = E ∨ (Cn, E) ∈ aw_cs)
def TY (h : AH) (b : Nat) : Prop := (∀ p, p < 8 → TYo h RX2 (hQ h (b + 1) p)) ∧ (∀ a, a < 5 → TYo h RX1 (hQ h (b + 4) a)) ∧ ∀ w, w < 5 → TYo h RX10 (hQ h (b + 5) w)
/-- the rows of breaks, laws, works of the State at b hold such objects or none -/
def TZ (h : AH) (b : Nat) : Prop := (hT h (b + 1) = (18, 8) ∧ hT h (b + 4) = (17, 5) ∧ hT h (b + 5) = (19, 5)) ∧ TY h b
theorem TZ.up {h h' : AH} (hb : HB h) (e : ∀ a, a < hN h → hT h' a = hT h a ∧ hQ h' a = hQ h a) : ∀ b, TZ h b → TZ h' b := fun b x => by
  have l1 := hb.lt x.1.1 (by decide)
  have l4 := hb.lt x.1.2.1 (by decide)
  have l5 := hb.lt x.1.2.2 (by decide)
  have t : ∀ E o, TYo h E o → TYo h' E o := fun E o z => by
    rcases z with z | ⟨q, kd, Cn, z1, z2, z3, z4, z5⟩
    · exact Or.inl z
    · exact Or.inr ⟨q, kd, Cn, z1, by rw [(e q (hb.lt z2 (by omega))).1]; exact z2, z3, z4, z5⟩
  refine ⟨⟨by rw [(e _ l1).1]; exact x.1.1, by rw [(e _ l4).1]; exact x.1.2.1, by rw [(e _ l5).1]; exact x.1.2.2⟩, fun p hp => ?_, fun p hp => ?_, fun p hp => ?_⟩
  · rw [(e _ l1).2]; exact t _ _ (x.2.1 p hp)
  · rw [(e _ l4).2]; exact t _ _ (x.2.2.1 p hp)
  · rw [(e _ l5).2]; exact t _ _ (x.2.2.2 p hp)
def TV (h : AH) (a : Nat) (v : Option Nat) : Prop := (hT h a = (18, 8) ∧ TYo h RX2 v) ∨ (hT h a = (17, 5) ∧ TYo h RX1 v) ∨ (hT h a = (19, 5) ∧ TYo h RX10 v)
theorem TZ.Q {h : AH} {a k : Nat} {v : Option Nat} (tv : TV h a v) {b : Nat} (x : TZ h b) : TZ (setQ h a k v) b := by
  have key : ∀ (c kd len : Nat) (E : String) (p : Nat), hT h c = (kd, len) → (hT h a = (kd, len) → TYo h E v) → TYo h E (hQ h c p) → TYo (setQ h a k v) E (hQ (setQ h a k v) c p) := fun c kd len E p ht hv z => by
    show TYo h E (u2 (hQ h) a k v c p)
    by_cases e : c = a
    · subst e
      by_cases e2 : p = k
      · subst e2; rw [u2_s]; exact hv ht
      · rw [u2_k e2]; exact z
    · rw [u2_a e]; exact z
  refine ⟨x.1, fun p hp => key _ _ _ _ p x.1.1 (fun q => ?_) (x.2.1 p hp), fun p hp => key _ _ _ _ p x.1.2.1 (fun q => ?_) (x.2.2.1 p hp), fun p hp => key _ _ _ _ p x.1.2.2 (fun q => ?_) (x.2.2.2 p hp)⟩
  · rcases tv with t | t | t
    · exact t.2
    · exact absurd (q.symm.trans t.1) (by decide)
    · exact absurd (q.symm.trans t.1) (by decide)
  · rcases tv with t | t | t
    · exact absurd (q.symm.trans t.1) (by decide)
    · exact t.2
    · exact absurd (q.symm.trans t.1) (by decide)
  · rcases tv with t | t | t
    · exact absurd (q.symm.trans t.1) (by decide)
    · exact absurd (q.symm.trans t.1) (by decide)
    · exact t.2
/-- cells may come, none goes; but A nothing changed -/
def Fw (A : Nat → Prop) (h h' : AH) : Prop := hN h ≤ hN h' ∧ (∀ a, a < hN h → hT h' a = hT h a) ∧ (∀ a, a < hN h → ¬ A a → hI h' a = hI h a ∧ hJ h' a = hJ h a ∧ hQ h' a = hQ h a) ∧ (HB h → HB h' ∧ ∀ b, TZ h b → TZ h' b)
theorem Fw.rf {A : Nat → Prop} {h : AH} : Fw A h h := ⟨Nat.le_refl _, fun _ _ => rfl, fun _ _ _ => ⟨rfl, rfl, rfl⟩, fun q => ⟨q, fun _ z => z⟩⟩
theorem Fw.tr {A : Nat → Prop} {h h1 h2 : AH} (x : Fw A h h1) (y : Fw A h1 h2) : Fw A h h2 := ⟨Nat.le_trans x.1 y.1, fun a q => (y.2.1 a (Nat.lt_of_lt_of_le q x.1)).trans (x.2.1 a q), fun a q n => by
  have p := y.2.2.1 a (Nat.lt_of_lt_of_le q x.1) n
  have r := x.2.2.1 a q n
  exact ⟨p.1.trans r.1, p.2.1.trans r.2.1, p.2.2.trans r.2.2⟩, fun q => ⟨(y.2.2.2 (x.2.2.2 q).1).1, fun b z => (y.2.2.2 (x.2.2.2 q).1).2 b ((x.2.2.2 q).2 b z)⟩⟩
theorem Fw.mo {A A' : Nat → Prop} {h h1 : AH} (x : Fw A h h1) (m : ∀ a, A a → A' a) : Fw A' h h1 := ⟨x.1, x.2.1, fun a q n => x.2.2.1 a q (fun z => n (m a z)), x.2.2.2⟩
theorem Fw.I {A : Nat → Prop} {h h1 : AH} {a k : Nat} {v : Int32} (x : Fw A h h1) (ha : A a) : Fw A h (setI h1 a k v) := ⟨x.1, x.2.1, fun b q n => by
  have := x.2.2.1 b q n
  exact ⟨(hI_setI_n (fun e => n (by rw [e]; exact ha))).trans this.1, this.2.1, this.2.2⟩, x.2.2.2⟩
theorem Fw.Q {A : Nat → Prop} {h h1 : AH} {a k : Nat} {v : Option Nat} (x : Fw A h h1) (ha : A a) (tv : TV h1 a v) : Fw A h (setQ h1 a k v) := ⟨x.1, x.2.1, fun b q n => by
  have := x.2.2.1 b q n
  exact ⟨this.1, this.2.1, (funext fun _ => u2_a (fun e => n (by rw [e]; exact ha))).trans this.2.2⟩, fun q => ⟨(x.2.2.2 q).1, fun b z => TZ.Q tv ((x.2.2.2 q).2 b z)⟩⟩
/-- one object more -/
def NW (h h' : AH) (kd : Nat) : Prop := hN h' = hN h + 1 ∧ hT h' = u1 (hT h) (hN h) (kd, 0) ∧ ∀ b, b ≠ hN h → hI h' b = hI h b ∧ hJ h' b = hJ h b ∧ hQ h' b = hQ h b
theorem NW.fw {A : Nat → Prop} {h h' : AH} {kd : Nat} (x : NW h h' kd) : Fw A h h' := ⟨by rw [x.1]; omega, fun a q => by rw [x.2.1]; exact u1_n (by omega), fun a q _ => x.2.2 a (by omega), fun H => ⟨fun a q => by
  rw [x.1] at q
  rw [x.2.1, u1_n (by omega)]
  exact H a (by omega), TZ.up H (fun a q => ⟨by rw [x.2.1]; exact u1_n (by omega), (x.2.2 a (by omega)).2.2⟩)⟩⟩
theorem NW.tyo {h h' : AH} {kd : Nat} {E Cn : String} (x : NW h h' kd) (hk : kd < 13) (hc : (aw_cl[kd]?).map (fun q => q.1) = some Cn) (he : Cn = E ∨ (Cn, E) ∈ aw_cs) : TYo h' E (some (hN h)) := Or.inr ⟨hN h, kd, Cn, rfl, by rw [x.2.1]; exact u1_s, hk, hc, he⟩
theorem NW.new {h : AH} {kd : Nat} : NW h (newC h kd 0) kd := ⟨rfl, rfl, fun b hb => ⟨u1_n hb, u1_n hb, u1_n hb⟩⟩
theorem NW.I {h h1 : AH} {kd k : Nat} {v : Int32} (x : NW h h1 kd) : NW h (setI h1 (hN h) k v) kd := ⟨x.1, x.2.1, fun b hb => by
  have := x.2.2 b hb
  exact ⟨(hI_setI_n hb).trans this.1, this.2.1, this.2.2⟩⟩
theorem NW.ly {h h' : AH} {kd B : Nat} (x : NW h h' kd) (hL : LY h B) : LY h' B := ⟨fun i hi => by
  rw [x.2.1, u1_n (by have := hL.2.2; omega)]; exact hL.1 i hi, fun q hq => by
  have h1 : q.1 < 62 := by
    have : ∀ q ∈ lyQ, q.1 < 62 := by decide
    exact this q hq
  rw [(x.2.2 (B + q.1) (by have := hL.2.2; omega)).2.2]; exact hL.2.1 q hq, by rw [x.1]; have := hL.2.2; omega⟩
theorem Fw.ly {A : Nat → Prop} {h h' : AH} {B : Nat} (x : Fw A h h') (hL : LY h B) (hA : ∀ q ∈ lyQ, hQ h' (B + q.1) q.2.1 = hQ h (B + q.1) q.2.1) : LY h' B := ⟨fun i hi => by
  rw [x.2.1 _ (by have := hL.2.2; omega)]; exact hL.1 i hi, fun q hq => by rw [hA q hq]; exact hL.2.1 q hq, Nat.le_trans hL.2.2 x.1⟩
def pzF (f : Nat → Int32) (n k t z v : Int32) : Nat → Int32 := upd (upd (upd (upd (upd f 0 n) 1 k) 2 t) 3 z) 4 v
theorem kdP_lt {k : Int32} : kdP k < 13 := by unfold kdP; (repeat' split) <;> decide
theorem kdP_cl (k : Int32) : ∃ Cn, (aw_cl[kdP k]?).map (fun q => q.1) = some Cn ∧ (Cn = "KettleBeats$Pause" ∨ (Cn, "KettleBeats$Pause") ∈ aw_cs) := by
  unfold kdP
  (repeat' split)
  · exact ⟨_, rfl, Or.inr (by decide)⟩
  · exact ⟨_, rfl, Or.inr (by decide)⟩
  · exact ⟨_, rfl, Or.inr (by decide)⟩
  · exact ⟨_, rfl, Or.inr (by decide)⟩
  · exact ⟨_, rfl, Or.inr (by decide)⟩
  · exact ⟨_, rfl, Or.inr (by decide)⟩
  · exact ⟨_, rfl, Or.inl rfl⟩
set_option maxRecDepth 100000 in
theorem i_X2_2 (g : GG) (h : AH) (a : Nat) (ht : hT h a = (2, 0)) (n k t z v : Int32) : AM g 1 0 0 mX2_init [.ref a, .int n, .int k, .int t, .int z, .int v] h (fun rv h' => rv = none ∧ h' = (setI (setI (setI (setI (setI h a 0 n) a 1 k) a 2 t) a 3 z) a 4 v)) := by
  refine AM.of [(0, .ref a), (1, .int n), (2, .int k), (3, .int t), (4, .int z), (5, .int v)] (by decide) (Nat.le_of_ble_eq_true rfl) rfl ?_
  intro V hV
  have hb : V.2.1.2.1 = cX2_init := by subst hV; rfl
  have ow : V.2.1.1.cls = RX2 := by subst hV; rfl
  have hr : V.2.2.1 = aw_rm 1 0 0 := by subst hV; rfl
  have hz : V.2.2.2 = aw_Z V.1 (fun rv h' => rv = none ∧ h' = (setI (setI (setI (setI (setI h a 0 n) a 1 k) a 2 t) a 3 z) a 4 v)) V.2.2.1 := by subst hV; rfl
  have hg : V.1 = g := by subst hV; rfl
  have hret : V.2.1.2.2.2 = none := by subst hV; rfl
  have hml : V.2.1.2.2.1 = 6 := by subst hV; rfl
  have hnm : V.2.1.1.name = "<init>" := by subst hV; rfl
  clear hV
  refine a_aload_n hb dX2_init_0 rfl 0 rfl ?_
  refine a_objInit hb dX2_init_1 (by rw [ow]; exact kw_246) kw_108 kw_109 (by decide) (by rw [hr]; exact ⟨by decide, by decide⟩) ?_
  refine a_aload_n hb dX2_init_4 rfl 0 rfl ?_
  refine a_iload_n hb dX2_init_5 rfl 1 rfl ?_
  refine a_putI (fty := .int) hb dX2_init_6 (by rw [ow]; exact fp_RX2_7_2) (Or.inl (by rw [hnm])) ht rfl rfl ?_
  refine a_aload_n hb dX2_init_9 rfl 0 rfl ?_
  refine a_iload_n hb dX2_init_10 rfl 2 rfl ?_
  refine a_putI (fty := .int) hb dX2_init_11 (by rw [ow]; exact fp_RX2_13_2) (Or.inl (by rw [hnm])) ht rfl rfl ?_
  refine a_aload_n hb dX2_init_14 rfl 0 rfl ?_
  refine a_iload_n hb dX2_init_15 rfl 3 rfl ?_
  refine a_putI (fty := .int) hb dX2_init_16 (by rw [ow]; exact fp_RX2_16_2) (Or.inl (by rw [hnm])) ht rfl rfl ?_
  refine a_aload_n hb dX2_init_19 rfl 0 rfl ?_
  refine a_iload hb dX2_init_20 4 rfl ?_
  refine a_putI (fty := .int) hb dX2_init_22 (by rw [ow]; exact fp_RX2_19_2) (Or.inl (by rw [hnm])) ht rfl rfl ?_
  refine a_aload_n hb dX2_init_25 rfl 0 rfl ?_
  refine a_iload hb dX2_init_26 5 rfl ?_
  refine a_putI (fty := .int) hb dX2_init_28 (by rw [ow]; exact fp_RX2_22_2) (Or.inl (by rw [hnm])) ht rfl rfl ?_
  exact a_return hb hz dX2_init_31 hret (by rw [hr]; exact Nat.le_of_ble_eq_true rfl) (by rw [hr]; exact Nat.le_of_ble_eq_true rfl) (⟨rfl, rfl⟩)
set_option maxRecDepth 100000 in
theorem i_X2_9 (g : GG) (h : AH) (a : Nat) (ht : hT h a = (9, 0)) (n k t z v : Int32) : AM g 1 0 0 mX2_init [.ref a, .int n, .int k, .int t, .int z, .int v] h (fun rv h' => rv = none ∧ h' = (setI (setI (setI (setI (setI h a 0 n) a 1 k) a 2 t) a 3 z) a 4 v)) := by
  refine AM.of [(0, .ref a), (1, .int n), (2, .int k), (3, .int t), (4, .int z), (5, .int v)] (by decide) (Nat.le_of_ble_eq_true rfl) rfl ?_
  intro V hV
  have hb : V.2.1.2.1 = cX2_init := by subst hV; rfl
  have ow : V.2.1.1.cls = RX2 := by subst hV; rfl
  have hr : V.2.2.1 = aw_rm 1 0 0 := by subst hV; rfl
  have hz : V.2.2.2 = aw_Z V.1 (fun rv h' => rv = none ∧ h' = (setI (setI (setI (setI (setI h a 0 n) a 1 k) a 2 t) a 3 z) a 4 v)) V.2.2.1 := by subst hV; rfl
  have hg : V.1 = g := by subst hV; rfl
  have hret : V.2.1.2.2.2 = none := by subst hV; rfl
  have hml : V.2.1.2.2.1 = 6 := by subst hV; rfl
  have hnm : V.2.1.1.name = "<init>" := by subst hV; rfl
  clear hV
  refine a_aload_n hb dX2_init_0 rfl 0 rfl ?_
  refine a_objInit hb dX2_init_1 (by rw [ow]; exact kw_246) kw_108 kw_109 (by decide) (by rw [hr]; exact ⟨by decide, by decide⟩) ?_
  refine a_aload_n hb dX2_init_4 rfl 0 rfl ?_
  refine a_iload_n hb dX2_init_5 rfl 1 rfl ?_
  refine a_putI (fty := .int) hb dX2_init_6 (by rw [ow]; exact fp_RX2_7_9) (Or.inl (by rw [hnm])) ht rfl rfl ?_
  refine a_aload_n hb dX2_init_9 rfl 0 rfl ?_
  refine a_iload_n hb dX2_init_10 rfl 2 rfl ?_
  refine a_putI (fty := .int) hb dX2_init_11 (by rw [ow]; exact fp_RX2_13_9) (Or.inl (by rw [hnm])) ht rfl rfl ?_
  refine a_aload_n hb dX2_init_14 rfl 0 rfl ?_
  refine a_iload_n hb dX2_init_15 rfl 3 rfl ?_
  refine a_putI (fty := .int) hb dX2_init_16 (by rw [ow]; exact fp_RX2_16_9) (Or.inl (by rw [hnm])) ht rfl rfl ?_
  refine a_aload_n hb dX2_init_19 rfl 0 rfl ?_
  refine a_iload hb dX2_init_20 4 rfl ?_
  refine a_putI (fty := .int) hb dX2_init_22 (by rw [ow]; exact fp_RX2_19_9) (Or.inl (by rw [hnm])) ht rfl rfl ?_
  refine a_aload_n hb dX2_init_25 rfl 0 rfl ?_
  refine a_iload hb dX2_init_26 5 rfl ?_
  refine a_putI (fty := .int) hb dX2_init_28 (by rw [ow]; exact fp_RX2_22_9) (Or.inl (by rw [hnm])) ht rfl rfl ?_
  exact a_return hb hz dX2_init_31 hret (by rw [hr]; exact Nat.le_of_ble_eq_true rfl) (by rw [hr]; exact Nat.le_of_ble_eq_true rfl) (⟨rfl, rfl⟩)
set_option maxRecDepth 100000 in
theorem i_X2_0 (g : GG) (h : AH) (a : Nat) (ht : hT h a = (0, 0)) (n k t z v : Int32) : AM g 1 0 0 mX2_init [.ref a, .int n, .int k, .int t, .int z, .int v] h (fun rv h' => rv = none ∧ h' = (setI (setI (setI (setI (setI h a 0 n) a 1 k) a 2 t) a 3 z) a 4 v)) := by
  refine AM.of [(0, .ref a), (1, .int n), (2, .int k), (3, .int t), (4, .int z), (5, .int v)] (by decide) (Nat.le_of_ble_eq_true rfl) rfl ?_
  intro V hV
  have hb : V.2.1.2.1 = cX2_init := by subst hV; rfl
  have ow : V.2.1.1.cls = RX2 := by subst hV; rfl
  have hr : V.2.2.1 = aw_rm 1 0 0 := by subst hV; rfl
  have hz : V.2.2.2 = aw_Z V.1 (fun rv h' => rv = none ∧ h' = (setI (setI (setI (setI (setI h a 0 n) a 1 k) a 2 t) a 3 z) a 4 v)) V.2.2.1 := by subst hV; rfl
  have hg : V.1 = g := by subst hV; rfl
  have hret : V.2.1.2.2.2 = none := by subst hV; rfl
  have hml : V.2.1.2.2.1 = 6 := by subst hV; rfl
  have hnm : V.2.1.1.name = "<init>" := by subst hV; rfl
  clear hV
  refine a_aload_n hb dX2_init_0 rfl 0 rfl ?_
  refine a_objInit hb dX2_init_1 (by rw [ow]; exact kw_246) kw_108 kw_109 (by decide) (by rw [hr]; exact ⟨by decide, by decide⟩) ?_
  refine a_aload_n hb dX2_init_4 rfl 0 rfl ?_
  refine a_iload_n hb dX2_init_5 rfl 1 rfl ?_
  refine a_putI (fty := .int) hb dX2_init_6 (by rw [ow]; exact fp_RX2_7_0) (Or.inl (by rw [hnm])) ht rfl rfl ?_
  refine a_aload_n hb dX2_init_9 rfl 0 rfl ?_
  refine a_iload_n hb dX2_init_10 rfl 2 rfl ?_
  refine a_putI (fty := .int) hb dX2_init_11 (by rw [ow]; exact fp_RX2_13_0) (Or.inl (by rw [hnm])) ht rfl rfl ?_
  refine a_aload_n hb dX2_init_14 rfl 0 rfl ?_
  refine a_iload_n hb dX2_init_15 rfl 3 rfl ?_
  refine a_putI (fty := .int) hb dX2_init_16 (by rw [ow]; exact fp_RX2_16_0) (Or.inl (by rw [hnm])) ht rfl rfl ?_
  refine a_aload_n hb dX2_init_19 rfl 0 rfl ?_
  refine a_iload hb dX2_init_20 4 rfl ?_
  refine a_putI (fty := .int) hb dX2_init_22 (by rw [ow]; exact fp_RX2_19_0) (Or.inl (by rw [hnm])) ht rfl rfl ?_
  refine a_aload_n hb dX2_init_25 rfl 0 rfl ?_
  refine a_iload hb dX2_init_26 5 rfl ?_
  refine a_putI (fty := .int) hb dX2_init_28 (by rw [ow]; exact fp_RX2_22_0) (Or.inl (by rw [hnm])) ht rfl rfl ?_
  exact a_return hb hz dX2_init_31 hret (by rw [hr]; exact Nat.le_of_ble_eq_true rfl) (by rw [hr]; exact Nat.le_of_ble_eq_true rfl) (⟨rfl, rfl⟩)
set_option maxRecDepth 100000 in
theorem i_X2_3 (g : GG) (h : AH) (a : Nat) (ht : hT h a = (3, 0)) (n k t z v : Int32) : AM g 1 0 0 mX2_init [.ref a, .int n, .int k, .int t, .int z, .int v] h (fun rv h' => rv = none ∧ h' = (setI (setI (setI (setI (setI h a 0 n) a 1 k) a 2 t) a 3 z) a 4 v)) := by
  refine AM.of [(0, .ref a), (1, .int n), (2, .int k), (3, .int t), (4, .int z), (5, .int v)] (by decide) (Nat.le_of_ble_eq_true rfl) rfl ?_
  intro V hV
  have hb : V.2.1.2.1 = cX2_init := by subst hV; rfl
  have ow : V.2.1.1.cls = RX2 := by subst hV; rfl
  have hr : V.2.2.1 = aw_rm 1 0 0 := by subst hV; rfl
  have hz : V.2.2.2 = aw_Z V.1 (fun rv h' => rv = none ∧ h' = (setI (setI (setI (setI (setI h a 0 n) a 1 k) a 2 t) a 3 z) a 4 v)) V.2.2.1 := by subst hV; rfl
  have hg : V.1 = g := by subst hV; rfl
  have hret : V.2.1.2.2.2 = none := by subst hV; rfl
  have hml : V.2.1.2.2.1 = 6 := by subst hV; rfl
  have hnm : V.2.1.1.name = "<init>" := by subst hV; rfl
  clear hV
  refine a_aload_n hb dX2_init_0 rfl 0 rfl ?_
  refine a_objInit hb dX2_init_1 (by rw [ow]; exact kw_246) kw_108 kw_109 (by decide) (by rw [hr]; exact ⟨by decide, by decide⟩) ?_
  refine a_aload_n hb dX2_init_4 rfl 0 rfl ?_
  refine a_iload_n hb dX2_init_5 rfl 1 rfl ?_
  refine a_putI (fty := .int) hb dX2_init_6 (by rw [ow]; exact fp_RX2_7_3) (Or.inl (by rw [hnm])) ht rfl rfl ?_
  refine a_aload_n hb dX2_init_9 rfl 0 rfl ?_
  refine a_iload_n hb dX2_init_10 rfl 2 rfl ?_
  refine a_putI (fty := .int) hb dX2_init_11 (by rw [ow]; exact fp_RX2_13_3) (Or.inl (by rw [hnm])) ht rfl rfl ?_
  refine a_aload_n hb dX2_init_14 rfl 0 rfl ?_
  refine a_iload_n hb dX2_init_15 rfl 3 rfl ?_
  refine a_putI (fty := .int) hb dX2_init_16 (by rw [ow]; exact fp_RX2_16_3) (Or.inl (by rw [hnm])) ht rfl rfl ?_
  refine a_aload_n hb dX2_init_19 rfl 0 rfl ?_
  refine a_iload hb dX2_init_20 4 rfl ?_
  refine a_putI (fty := .int) hb dX2_init_22 (by rw [ow]; exact fp_RX2_19_3) (Or.inl (by rw [hnm])) ht rfl rfl ?_
  refine a_aload_n hb dX2_init_25 rfl 0 rfl ?_
  refine a_iload hb dX2_init_26 5 rfl ?_
  refine a_putI (fty := .int) hb dX2_init_28 (by rw [ow]; exact fp_RX2_22_3) (Or.inl (by rw [hnm])) ht rfl rfl ?_
  exact a_return hb hz dX2_init_31 hret (by rw [hr]; exact Nat.le_of_ble_eq_true rfl) (by rw [hr]; exact Nat.le_of_ble_eq_true rfl) (⟨rfl, rfl⟩)
set_option maxRecDepth 100000 in
theorem i_X2_4 (g : GG) (h : AH) (a : Nat) (ht : hT h a = (4, 0)) (n k t z v : Int32) : AM g 1 0 0 mX2_init [.ref a, .int n, .int k, .int t, .int z, .int v] h (fun rv h' => rv = none ∧ h' = (setI (setI (setI (setI (setI h a 0 n) a 1 k) a 2 t) a 3 z) a 4 v)) := by
  refine AM.of [(0, .ref a), (1, .int n), (2, .int k), (3, .int t), (4, .int z), (5, .int v)] (by decide) (Nat.le_of_ble_eq_true rfl) rfl ?_
  intro V hV
  have hb : V.2.1.2.1 = cX2_init := by subst hV; rfl
  have ow : V.2.1.1.cls = RX2 := by subst hV; rfl
  have hr : V.2.2.1 = aw_rm 1 0 0 := by subst hV; rfl
  have hz : V.2.2.2 = aw_Z V.1 (fun rv h' => rv = none ∧ h' = (setI (setI (setI (setI (setI h a 0 n) a 1 k) a 2 t) a 3 z) a 4 v)) V.2.2.1 := by subst hV; rfl
  have hg : V.1 = g := by subst hV; rfl
  have hret : V.2.1.2.2.2 = none := by subst hV; rfl
  have hml : V.2.1.2.2.1 = 6 := by subst hV; rfl
  have hnm : V.2.1.1.name = "<init>" := by subst hV; rfl
  clear hV
  refine a_aload_n hb dX2_init_0 rfl 0 rfl ?_
  refine a_objInit hb dX2_init_1 (by rw [ow]; exact kw_246) kw_108 kw_109 (by decide) (by rw [hr]; exact ⟨by decide, by decide⟩) ?_
  refine a_aload_n hb dX2_init_4 rfl 0 rfl ?_
  refine a_iload_n hb dX2_init_5 rfl 1 rfl ?_
  refine a_putI (fty := .int) hb dX2_init_6 (by rw [ow]; exact fp_RX2_7_4) (Or.inl (by rw [hnm])) ht rfl rfl ?_
  refine a_aload_n hb dX2_init_9 rfl 0 rfl ?_
  refine a_iload_n hb dX2_init_10 rfl 2 rfl ?_
  refine a_putI (fty := .int) hb dX2_init_11 (by rw [ow]; exact fp_RX2_13_4) (Or.inl (by rw [hnm])) ht rfl rfl ?_
  refine a_aload_n hb dX2_init_14 rfl 0 rfl ?_
  refine a_iload_n hb dX2_init_15 rfl 3 rfl ?_
  refine a_putI (fty := .int) hb dX2_init_16 (by rw [ow]; exact fp_RX2_16_4) (Or.inl (by rw [hnm])) ht rfl rfl ?_
  refine a_aload_n hb dX2_init_19 rfl 0 rfl ?_
  refine a_iload hb dX2_init_20 4 rfl ?_
  refine a_putI (fty := .int) hb dX2_init_22 (by rw [ow]; exact fp_RX2_19_4) (Or.inl (by rw [hnm])) ht rfl rfl ?_
  refine a_aload_n hb dX2_init_25 rfl 0 rfl ?_
  refine a_iload hb dX2_init_26 5 rfl ?_
  refine a_putI (fty := .int) hb dX2_init_28 (by rw [ow]; exact fp_RX2_22_4) (Or.inl (by rw [hnm])) ht rfl rfl ?_
  exact a_return hb hz dX2_init_31 hret (by rw [hr]; exact Nat.le_of_ble_eq_true rfl) (by rw [hr]; exact Nat.le_of_ble_eq_true rfl) (⟨rfl, rfl⟩)
set_option maxRecDepth 100000 in
theorem i_X2_5 (g : GG) (h : AH) (a : Nat) (ht : hT h a = (5, 0)) (n k t z v : Int32) : AM g 1 0 0 mX2_init [.ref a, .int n, .int k, .int t, .int z, .int v] h (fun rv h' => rv = none ∧ h' = (setI (setI (setI (setI (setI h a 0 n) a 1 k) a 2 t) a 3 z) a 4 v)) := by
  refine AM.of [(0, .ref a), (1, .int n), (2, .int k), (3, .int t), (4, .int z), (5, .int v)] (by decide) (Nat.le_of_ble_eq_true rfl) rfl ?_
  intro V hV
  have hb : V.2.1.2.1 = cX2_init := by subst hV; rfl
  have ow : V.2.1.1.cls = RX2 := by subst hV; rfl
  have hr : V.2.2.1 = aw_rm 1 0 0 := by subst hV; rfl
  have hz : V.2.2.2 = aw_Z V.1 (fun rv h' => rv = none ∧ h' = (setI (setI (setI (setI (setI h a 0 n) a 1 k) a 2 t) a 3 z) a 4 v)) V.2.2.1 := by subst hV; rfl
  have hg : V.1 = g := by subst hV; rfl
  have hret : V.2.1.2.2.2 = none := by subst hV; rfl
  have hml : V.2.1.2.2.1 = 6 := by subst hV; rfl
  have hnm : V.2.1.1.name = "<init>" := by subst hV; rfl
  clear hV
  refine a_aload_n hb dX2_init_0 rfl 0 rfl ?_
  refine a_objInit hb dX2_init_1 (by rw [ow]; exact kw_246) kw_108 kw_109 (by decide) (by rw [hr]; exact ⟨by decide, by decide⟩) ?_
  refine a_aload_n hb dX2_init_4 rfl 0 rfl ?_
  refine a_iload_n hb dX2_init_5 rfl 1 rfl ?_
  refine a_putI (fty := .int) hb dX2_init_6 (by rw [ow]; exact fp_RX2_7_5) (Or.inl (by rw [hnm])) ht rfl rfl ?_
  refine a_aload_n hb dX2_init_9 rfl 0 rfl ?_
  refine a_iload_n hb dX2_init_10 rfl 2 rfl ?_
  refine a_putI (fty := .int) hb dX2_init_11 (by rw [ow]; exact fp_RX2_13_5) (Or.inl (by rw [hnm])) ht rfl rfl ?_
  refine a_aload_n hb dX2_init_14 rfl 0 rfl ?_
  refine a_iload_n hb dX2_init_15 rfl 3 rfl ?_
  refine a_putI (fty := .int) hb dX2_init_16 (by rw [ow]; exact fp_RX2_16_5) (Or.inl (by rw [hnm])) ht rfl rfl ?_
  refine a_aload_n hb dX2_init_19 rfl 0 rfl ?_
  refine a_iload hb dX2_init_20 4 rfl ?_
  refine a_putI (fty := .int) hb dX2_init_22 (by rw [ow]; exact fp_RX2_19_5) (Or.inl (by rw [hnm])) ht rfl rfl ?_
  refine a_aload_n hb dX2_init_25 rfl 0 rfl ?_
  refine a_iload hb dX2_init_26 5 rfl ?_
  refine a_putI (fty := .int) hb dX2_init_28 (by rw [ow]; exact fp_RX2_22_5) (Or.inl (by rw [hnm])) ht rfl rfl ?_
  exact a_return hb hz dX2_init_31 hret (by rw [hr]; exact Nat.le_of_ble_eq_true rfl) (by rw [hr]; exact Nat.le_of_ble_eq_true rfl) (⟨rfl, rfl⟩)
set_option maxRecDepth 100000 in
theorem i_X2_6 (g : GG) (h : AH) (a : Nat) (ht : hT h a = (6, 0)) (n k t z v : Int32) : AM g 1 0 0 mX2_init [.ref a, .int n, .int k, .int t, .int z, .int v] h (fun rv h' => rv = none ∧ h' = (setI (setI (setI (setI (setI h a 0 n) a 1 k) a 2 t) a 3 z) a 4 v)) := by
  refine AM.of [(0, .ref a), (1, .int n), (2, .int k), (3, .int t), (4, .int z), (5, .int v)] (by decide) (Nat.le_of_ble_eq_true rfl) rfl ?_
  intro V hV
  have hb : V.2.1.2.1 = cX2_init := by subst hV; rfl
  have ow : V.2.1.1.cls = RX2 := by subst hV; rfl
  have hr : V.2.2.1 = aw_rm 1 0 0 := by subst hV; rfl
  have hz : V.2.2.2 = aw_Z V.1 (fun rv h' => rv = none ∧ h' = (setI (setI (setI (setI (setI h a 0 n) a 1 k) a 2 t) a 3 z) a 4 v)) V.2.2.1 := by subst hV; rfl
  have hg : V.1 = g := by subst hV; rfl
  have hret : V.2.1.2.2.2 = none := by subst hV; rfl
  have hml : V.2.1.2.2.1 = 6 := by subst hV; rfl
  have hnm : V.2.1.1.name = "<init>" := by subst hV; rfl
  clear hV
  refine a_aload_n hb dX2_init_0 rfl 0 rfl ?_
  refine a_objInit hb dX2_init_1 (by rw [ow]; exact kw_246) kw_108 kw_109 (by decide) (by rw [hr]; exact ⟨by decide, by decide⟩) ?_
  refine a_aload_n hb dX2_init_4 rfl 0 rfl ?_
  refine a_iload_n hb dX2_init_5 rfl 1 rfl ?_
  refine a_putI (fty := .int) hb dX2_init_6 (by rw [ow]; exact fp_RX2_7_6) (Or.inl (by rw [hnm])) ht rfl rfl ?_
  refine a_aload_n hb dX2_init_9 rfl 0 rfl ?_
  refine a_iload_n hb dX2_init_10 rfl 2 rfl ?_
  refine a_putI (fty := .int) hb dX2_init_11 (by rw [ow]; exact fp_RX2_13_6) (Or.inl (by rw [hnm])) ht rfl rfl ?_
  refine a_aload_n hb dX2_init_14 rfl 0 rfl ?_
  refine a_iload_n hb dX2_init_15 rfl 3 rfl ?_
  refine a_putI (fty := .int) hb dX2_init_16 (by rw [ow]; exact fp_RX2_16_6) (Or.inl (by rw [hnm])) ht rfl rfl ?_
  refine a_aload_n hb dX2_init_19 rfl 0 rfl ?_
  refine a_iload hb dX2_init_20 4 rfl ?_
  refine a_putI (fty := .int) hb dX2_init_22 (by rw [ow]; exact fp_RX2_19_6) (Or.inl (by rw [hnm])) ht rfl rfl ?_
  refine a_aload_n hb dX2_init_25 rfl 0 rfl ?_
  refine a_iload hb dX2_init_26 5 rfl ?_
  refine a_putI (fty := .int) hb dX2_init_28 (by rw [ow]; exact fp_RX2_22_6) (Or.inl (by rw [hnm])) ht rfl rfl ?_
  exact a_return hb hz dX2_init_31 hret (by rw [hr]; exact Nat.le_of_ble_eq_true rfl) (by rw [hr]; exact Nat.le_of_ble_eq_true rfl) (⟨rfl, rfl⟩)
set_option maxRecDepth 100000 in
theorem i_X9_9 (g : GG) (h : AH) (a : Nat) (ht : hT h a = (9, 0)) (n k t z v : Int32) : AM g 2 0 0 mX9_init [.ref a, .int n, .int k, .int t, .int z, .int v] h (fun rv h' => rv = none ∧ h' = (setI (setI (setI (setI (setI h a 0 n) a 1 k) a 2 t) a 3 z) a 4 v)) := by
  refine AM.of [(0, .ref a), (1, .int n), (2, .int k), (3, .int t), (4, .int z), (5, .int v)] (by decide) (Nat.le_of_ble_eq_true rfl) rfl ?_
  intro V hV
  have hb : V.2.1.2.1 = cX9_init := by subst hV; rfl
  have ow : V.2.1.1.cls = RX9 := by subst hV; rfl
  have hr : V.2.2.1 = aw_rm 2 0 0 := by subst hV; rfl
  have hz : V.2.2.2 = aw_Z V.1 (fun rv h' => rv = none ∧ h' = (setI (setI (setI (setI (setI h a 0 n) a 1 k) a 2 t) a 3 z) a 4 v)) V.2.2.1 := by subst hV; rfl
  have hg : V.1 = g := by subst hV; rfl
  have hret : V.2.1.2.2.2 = none := by subst hV; rfl
  have hml : V.2.1.2.2.1 = 6 := by subst hV; rfl
  have hnm : V.2.1.1.name = "<init>" := by subst hV; rfl
  clear hV
  refine a_aload_n hb dX9_init_0 rfl 0 rfl ?_
  refine a_iload_n hb dX9_init_1 rfl 1 rfl ?_
  refine a_iload_n hb dX9_init_2 rfl 2 rfl ?_
  refine a_iload_n hb dX9_init_3 rfl 3 rfl ?_
  refine a_iload hb dX9_init_4 4 rfl ?_
  refine a_iload hb dX9_init_6 5 rfl ?_
  refine a_callI hb dX9_init_8 (by rw [hg]; exact i_X2_9 g h a ht n k t z v) (by rw [ow]; exact cli_RX9_1) rfl rfl (Nat.le_of_ble_eq_true rfl) (by rw [hr]; exact ⟨by decide, by decide⟩) (by rw [hr]; exact ⟨Nat.le_of_ble_eq_true rfl, Nat.le_of_ble_eq_true rfl⟩) ?_
  intro rv h' hq_
  rw [hq_.1, hq_.2]
  show AW V 0 0 (setI (setI (setI (setI (setI h a 0 n) a 1 k) a 2 t) a 3 z) a 4 v) 11 [(0, .ref a), (1, .int n), (2, .int k), (3, .int t), (4, .int z), (5, .int v)] []
  exact a_return hb hz dX9_init_11 hret (by rw [hr]; exact Nat.le_of_ble_eq_true rfl) (by rw [hr]; exact Nat.le_of_ble_eq_true rfl) (⟨rfl, rfl⟩)
set_option maxRecDepth 100000 in
theorem i_X9_0 (g : GG) (h : AH) (a : Nat) (ht : hT h a = (0, 0)) (n k t z v : Int32) : AM g 2 0 0 mX9_init [.ref a, .int n, .int k, .int t, .int z, .int v] h (fun rv h' => rv = none ∧ h' = (setI (setI (setI (setI (setI h a 0 n) a 1 k) a 2 t) a 3 z) a 4 v)) := by
  refine AM.of [(0, .ref a), (1, .int n), (2, .int k), (3, .int t), (4, .int z), (5, .int v)] (by decide) (Nat.le_of_ble_eq_true rfl) rfl ?_
  intro V hV
  have hb : V.2.1.2.1 = cX9_init := by subst hV; rfl
  have ow : V.2.1.1.cls = RX9 := by subst hV; rfl
  have hr : V.2.2.1 = aw_rm 2 0 0 := by subst hV; rfl
  have hz : V.2.2.2 = aw_Z V.1 (fun rv h' => rv = none ∧ h' = (setI (setI (setI (setI (setI h a 0 n) a 1 k) a 2 t) a 3 z) a 4 v)) V.2.2.1 := by subst hV; rfl
  have hg : V.1 = g := by subst hV; rfl
  have hret : V.2.1.2.2.2 = none := by subst hV; rfl
  have hml : V.2.1.2.2.1 = 6 := by subst hV; rfl
  have hnm : V.2.1.1.name = "<init>" := by subst hV; rfl
  clear hV
  refine a_aload_n hb dX9_init_0 rfl 0 rfl ?_
  refine a_iload_n hb dX9_init_1 rfl 1 rfl ?_
  refine a_iload_n hb dX9_init_2 rfl 2 rfl ?_
  refine a_iload_n hb dX9_init_3 rfl 3 rfl ?_
  refine a_iload hb dX9_init_4 4 rfl ?_
  refine a_iload hb dX9_init_6 5 rfl ?_
  refine a_callI hb dX9_init_8 (by rw [hg]; exact i_X2_0 g h a ht n k t z v) (by rw [ow]; exact cli_RX9_1) rfl rfl (Nat.le_of_ble_eq_true rfl) (by rw [hr]; exact ⟨by decide, by decide⟩) (by rw [hr]; exact ⟨Nat.le_of_ble_eq_true rfl, Nat.le_of_ble_eq_true rfl⟩) ?_
  intro rv h' hq_
  rw [hq_.1, hq_.2]
  show AW V 0 0 (setI (setI (setI (setI (setI h a 0 n) a 1 k) a 2 t) a 3 z) a 4 v) 11 [(0, .ref a), (1, .int n), (2, .int k), (3, .int t), (4, .int z), (5, .int v)] []
  exact a_return hb hz dX9_init_11 hret (by rw [hr]; exact Nat.le_of_ble_eq_true rfl) (by rw [hr]; exact Nat.le_of_ble_eq_true rfl) (⟨rfl, rfl⟩)
set_option maxRecDepth 100000 in
theorem i_X9_6 (g : GG) (h : AH) (a : Nat) (ht : hT h a = (6, 0)) (n k t z v : Int32) : AM g 2 0 0 mX9_init [.ref a, .int n, .int k, .int t, .int z, .int v] h (fun rv h' => rv = none ∧ h' = (setI (setI (setI (setI (setI h a 0 n) a 1 k) a 2 t) a 3 z) a 4 v)) := by
  refine AM.of [(0, .ref a), (1, .int n), (2, .int k), (3, .int t), (4, .int z), (5, .int v)] (by decide) (Nat.le_of_ble_eq_true rfl) rfl ?_
  intro V hV
  have hb : V.2.1.2.1 = cX9_init := by subst hV; rfl
  have ow : V.2.1.1.cls = RX9 := by subst hV; rfl
  have hr : V.2.2.1 = aw_rm 2 0 0 := by subst hV; rfl
  have hz : V.2.2.2 = aw_Z V.1 (fun rv h' => rv = none ∧ h' = (setI (setI (setI (setI (setI h a 0 n) a 1 k) a 2 t) a 3 z) a 4 v)) V.2.2.1 := by subst hV; rfl
  have hg : V.1 = g := by subst hV; rfl
  have hret : V.2.1.2.2.2 = none := by subst hV; rfl
  have hml : V.2.1.2.2.1 = 6 := by subst hV; rfl
  have hnm : V.2.1.1.name = "<init>" := by subst hV; rfl
  clear hV
  refine a_aload_n hb dX9_init_0 rfl 0 rfl ?_
  refine a_iload_n hb dX9_init_1 rfl 1 rfl ?_
  refine a_iload_n hb dX9_init_2 rfl 2 rfl ?_
  refine a_iload_n hb dX9_init_3 rfl 3 rfl ?_
  refine a_iload hb dX9_init_4 4 rfl ?_
  refine a_iload hb dX9_init_6 5 rfl ?_
  refine a_callI hb dX9_init_8 (by rw [hg]; exact i_X2_6 g h a ht n k t z v) (by rw [ow]; exact cli_RX9_1) rfl rfl (Nat.le_of_ble_eq_true rfl) (by rw [hr]; exact ⟨by decide, by decide⟩) (by rw [hr]; exact ⟨Nat.le_of_ble_eq_true rfl, Nat.le_of_ble_eq_true rfl⟩) ?_
  intro rv h' hq_
  rw [hq_.1, hq_.2]
  show AW V 0 0 (setI (setI (setI (setI (setI h a 0 n) a 1 k) a 2 t) a 3 z) a 4 v) 11 [(0, .ref a), (1, .int n), (2, .int k), (3, .int t), (4, .int z), (5, .int v)] []
  exact a_return hb hz dX9_init_11 hret (by rw [hr]; exact Nat.le_of_ble_eq_true rfl) (by rw [hr]; exact Nat.le_of_ble_eq_true rfl) (⟨rfl, rfl⟩)
set_option maxRecDepth 100000 in
theorem i_X0 (g : GG) (h : AH) (a : Nat) (ht : hT h a = (0, 0)) (n k t z v : Int32) : AM g 3 0 0 mX0_init [.ref a, .int n, .int k, .int t, .int z, .int v] h (fun rv h' => rv = none ∧ h' = (setI (setI (setI (setI (setI h a 0 n) a 1 k) a 2 t) a 3 z) a 4 v)) := by
  refine AM.of [(0, .ref a), (1, .int n), (2, .int k), (3, .int t), (4, .int z), (5, .int v)] (by decide) (Nat.le_of_ble_eq_true rfl) rfl ?_
  intro V hV
  have hb : V.2.1.2.1 = cX0_init := by subst hV; rfl
  have ow : V.2.1.1.cls = RX0 := by subst hV; rfl
  have hr : V.2.2.1 = aw_rm 3 0 0 := by subst hV; rfl
  have hz : V.2.2.2 = aw_Z V.1 (fun rv h' => rv = none ∧ h' = (setI (setI (setI (setI (setI h a 0 n) a 1 k) a 2 t) a 3 z) a 4 v)) V.2.2.1 := by subst hV; rfl
  have hg : V.1 = g := by subst hV; rfl
  have hret : V.2.1.2.2.2 = none := by subst hV; rfl
  have hml : V.2.1.2.2.1 = 6 := by subst hV; rfl
  have hnm : V.2.1.1.name = "<init>" := by subst hV; rfl
  clear hV
  refine a_aload_n hb dX0_init_0 rfl 0 rfl ?_
  refine a_iload_n hb dX0_init_1 rfl 1 rfl ?_
  refine a_iload_n hb dX0_init_2 rfl 2 rfl ?_
  refine a_iload_n hb dX0_init_3 rfl 3 rfl ?_
  refine a_iload hb dX0_init_4 4 rfl ?_
  refine a_iload hb dX0_init_6 5 rfl ?_
  refine a_callI hb dX0_init_8 (by rw [hg]; exact i_X9_0 g h a ht n k t z v) (by rw [ow]; exact cli_RX0_1) rfl rfl (Nat.le_of_ble_eq_true rfl) (by rw [hr]; exact ⟨by decide, by decide⟩) (by rw [hr]; exact ⟨Nat.le_of_ble_eq_true rfl, Nat.le_of_ble_eq_true rfl⟩) ?_
  intro rv h' hq_
  rw [hq_.1, hq_.2]
  show AW V 0 0 (setI (setI (setI (setI (setI h a 0 n) a 1 k) a 2 t) a 3 z) a 4 v) 11 [(0, .ref a), (1, .int n), (2, .int k), (3, .int t), (4, .int z), (5, .int v)] []
  exact a_return hb hz dX0_init_11 hret (by rw [hr]; exact Nat.le_of_ble_eq_true rfl) (by rw [hr]; exact Nat.le_of_ble_eq_true rfl) (⟨rfl, rfl⟩)
set_option maxRecDepth 100000 in
theorem i_X6 (g : GG) (h : AH) (a : Nat) (ht : hT h a = (6, 0)) (n k t z v : Int32) : AM g 3 0 0 mX6_init [.ref a, .int n, .int k, .int t, .int z, .int v] h (fun rv h' => rv = none ∧ h' = (setI (setI (setI (setI (setI h a 0 n) a 1 k) a 2 t) a 3 z) a 4 v)) := by
  refine AM.of [(0, .ref a), (1, .int n), (2, .int k), (3, .int t), (4, .int z), (5, .int v)] (by decide) (Nat.le_of_ble_eq_true rfl) rfl ?_
  intro V hV
  have hb : V.2.1.2.1 = cX6_init := by subst hV; rfl
  have ow : V.2.1.1.cls = RX6 := by subst hV; rfl
  have hr : V.2.2.1 = aw_rm 3 0 0 := by subst hV; rfl
  have hz : V.2.2.2 = aw_Z V.1 (fun rv h' => rv = none ∧ h' = (setI (setI (setI (setI (setI h a 0 n) a 1 k) a 2 t) a 3 z) a 4 v)) V.2.2.1 := by subst hV; rfl
  have hg : V.1 = g := by subst hV; rfl
  have hret : V.2.1.2.2.2 = none := by subst hV; rfl
  have hml : V.2.1.2.2.1 = 6 := by subst hV; rfl
  have hnm : V.2.1.1.name = "<init>" := by subst hV; rfl
  clear hV
  refine a_aload_n hb dX6_init_0 rfl 0 rfl ?_
  refine a_iload_n hb dX6_init_1 rfl 1 rfl ?_
  refine a_iload_n hb dX6_init_2 rfl 2 rfl ?_
  refine a_iload_n hb dX6_init_3 rfl 3 rfl ?_
  refine a_iload hb dX6_init_4 4 rfl ?_
  refine a_iload hb dX6_init_6 5 rfl ?_
  refine a_callI hb dX6_init_8 (by rw [hg]; exact i_X9_6 g h a ht n k t z v) (by rw [ow]; exact cli_RX6_1) rfl rfl (Nat.le_of_ble_eq_true rfl) (by rw [hr]; exact ⟨by decide, by decide⟩) (by rw [hr]; exact ⟨Nat.le_of_ble_eq_true rfl, Nat.le_of_ble_eq_true rfl⟩) ?_
  intro rv h' hq_
  rw [hq_.1, hq_.2]
  show AW V 0 0 (setI (setI (setI (setI (setI h a 0 n) a 1 k) a 2 t) a 3 z) a 4 v) 11 [(0, .ref a), (1, .int n), (2, .int k), (3, .int t), (4, .int z), (5, .int v)] []
  exact a_return hb hz dX6_init_11 hret (by rw [hr]; exact Nat.le_of_ble_eq_true rfl) (by rw [hr]; exact Nat.le_of_ble_eq_true rfl) (⟨rfl, rfl⟩)
set_option maxRecDepth 100000 in
theorem i_X3 (g : GG) (h : AH) (a : Nat) (ht : hT h a = (3, 0)) (n k t z v : Int32) : AM g 2 0 0 mX3_init [.ref a, .int n, .int k, .int t, .int z, .int v] h (fun rv h' => rv = none ∧ h' = (setI (setI (setI (setI (setI h a 0 n) a 1 k) a 2 t) a 3 z) a 4 v)) := by
  refine AM.of [(0, .ref a), (1, .int n), (2, .int k), (3, .int t), (4, .int z), (5, .int v)] (by decide) (Nat.le_of_ble_eq_true rfl) rfl ?_
  intro V hV
  have hb : V.2.1.2.1 = cX3_init := by subst hV; rfl
  have ow : V.2.1.1.cls = RX3 := by subst hV; rfl
  have hr : V.2.2.1 = aw_rm 2 0 0 := by subst hV; rfl
  have hz : V.2.2.2 = aw_Z V.1 (fun rv h' => rv = none ∧ h' = (setI (setI (setI (setI (setI h a 0 n) a 1 k) a 2 t) a 3 z) a 4 v)) V.2.2.1 := by subst hV; rfl
  have hg : V.1 = g := by subst hV; rfl
  have hret : V.2.1.2.2.2 = none := by subst hV; rfl
  have hml : V.2.1.2.2.1 = 6 := by subst hV; rfl
  have hnm : V.2.1.1.name = "<init>" := by subst hV; rfl
  clear hV
  refine a_aload_n hb dX3_init_0 rfl 0 rfl ?_
  refine a_iload_n hb dX3_init_1 rfl 1 rfl ?_
  refine a_iload_n hb dX3_init_2 rfl 2 rfl ?_
  refine a_iload_n hb dX3_init_3 rfl 3 rfl ?_
  refine a_iload hb dX3_init_4 4 rfl ?_
  refine a_iload hb dX3_init_6 5 rfl ?_
  refine a_callI hb dX3_init_8 (by rw [hg]; exact i_X2_3 g h a ht n k t z v) (by rw [ow]; exact cli_RX3_1) rfl rfl (Nat.le_of_ble_eq_true rfl) (by rw [hr]; exact ⟨by decide, by decide⟩) (by rw [hr]; exact ⟨Nat.le_of_ble_eq_true rfl, Nat.le_of_ble_eq_true rfl⟩) ?_
  intro rv h' hq_
  rw [hq_.1, hq_.2]
  show AW V 0 0 (setI (setI (setI (setI (setI h a 0 n) a 1 k) a 2 t) a 3 z) a 4 v) 11 [(0, .ref a), (1, .int n), (2, .int k), (3, .int t), (4, .int z), (5, .int v)] []
  exact a_return hb hz dX3_init_11 hret (by rw [hr]; exact Nat.le_of_ble_eq_true rfl) (by rw [hr]; exact Nat.le_of_ble_eq_true rfl) (⟨rfl, rfl⟩)
set_option maxRecDepth 100000 in
theorem i_X4_4 (g : GG) (h : AH) (a : Nat) (ht : hT h a = (4, 0)) (n k t z v : Int32) : AM g 2 0 0 mX4_init [.ref a, .int n, .int k, .int t, .int z, .int v] h (fun rv h' => rv = none ∧ h' = (setI (setI (setI (setI (setI h a 0 n) a 1 k) a 2 t) a 3 z) a 4 v)) := by
  refine AM.of [(0, .ref a), (1, .int n), (2, .int k), (3, .int t), (4, .int z), (5, .int v)] (by decide) (Nat.le_of_ble_eq_true rfl) rfl ?_
  intro V hV
  have hb : V.2.1.2.1 = cX4_init := by subst hV; rfl
  have ow : V.2.1.1.cls = RX4 := by subst hV; rfl
  have hr : V.2.2.1 = aw_rm 2 0 0 := by subst hV; rfl
  have hz : V.2.2.2 = aw_Z V.1 (fun rv h' => rv = none ∧ h' = (setI (setI (setI (setI (setI h a 0 n) a 1 k) a 2 t) a 3 z) a 4 v)) V.2.2.1 := by subst hV; rfl
  have hg : V.1 = g := by subst hV; rfl
  have hret : V.2.1.2.2.2 = none := by subst hV; rfl
  have hml : V.2.1.2.2.1 = 6 := by subst hV; rfl
  have hnm : V.2.1.1.name = "<init>" := by subst hV; rfl
  clear hV
  refine a_aload_n hb dX4_init_0 rfl 0 rfl ?_
  refine a_iload_n hb dX4_init_1 rfl 1 rfl ?_
  refine a_iload_n hb dX4_init_2 rfl 2 rfl ?_
  refine a_iload_n hb dX4_init_3 rfl 3 rfl ?_
  refine a_iload hb dX4_init_4 4 rfl ?_
  refine a_iload hb dX4_init_6 5 rfl ?_
  refine a_callI hb dX4_init_8 (by rw [hg]; exact i_X2_4 g h a ht n k t z v) (by rw [ow]; exact cli_RX4_1) rfl rfl (Nat.le_of_ble_eq_true rfl) (by rw [hr]; exact ⟨by decide, by decide⟩) (by rw [hr]; exact ⟨Nat.le_of_ble_eq_true rfl, Nat.le_of_ble_eq_true rfl⟩) ?_
  intro rv h' hq_
  rw [hq_.1, hq_.2]
  show AW V 0 0 (setI (setI (setI (setI (setI h a 0 n) a 1 k) a 2 t) a 3 z) a 4 v) 11 [(0, .ref a), (1, .int n), (2, .int k), (3, .int t), (4, .int z), (5, .int v)] []
  exact a_return hb hz dX4_init_11 hret (by rw [hr]; exact Nat.le_of_ble_eq_true rfl) (by rw [hr]; exact Nat.le_of_ble_eq_true rfl) (⟨rfl, rfl⟩)
set_option maxRecDepth 100000 in
theorem i_X4_5 (g : GG) (h : AH) (a : Nat) (ht : hT h a = (5, 0)) (n k t z v : Int32) : AM g 2 0 0 mX4_init [.ref a, .int n, .int k, .int t, .int z, .int v] h (fun rv h' => rv = none ∧ h' = (setI (setI (setI (setI (setI h a 0 n) a 1 k) a 2 t) a 3 z) a 4 v)) := by
  refine AM.of [(0, .ref a), (1, .int n), (2, .int k), (3, .int t), (4, .int z), (5, .int v)] (by decide) (Nat.le_of_ble_eq_true rfl) rfl ?_
  intro V hV
  have hb : V.2.1.2.1 = cX4_init := by subst hV; rfl
  have ow : V.2.1.1.cls = RX4 := by subst hV; rfl
  have hr : V.2.2.1 = aw_rm 2 0 0 := by subst hV; rfl
  have hz : V.2.2.2 = aw_Z V.1 (fun rv h' => rv = none ∧ h' = (setI (setI (setI (setI (setI h a 0 n) a 1 k) a 2 t) a 3 z) a 4 v)) V.2.2.1 := by subst hV; rfl
  have hg : V.1 = g := by subst hV; rfl
  have hret : V.2.1.2.2.2 = none := by subst hV; rfl
  have hml : V.2.1.2.2.1 = 6 := by subst hV; rfl
  have hnm : V.2.1.1.name = "<init>" := by subst hV; rfl
  clear hV
  refine a_aload_n hb dX4_init_0 rfl 0 rfl ?_
  refine a_iload_n hb dX4_init_1 rfl 1 rfl ?_
  refine a_iload_n hb dX4_init_2 rfl 2 rfl ?_
  refine a_iload_n hb dX4_init_3 rfl 3 rfl ?_
  refine a_iload hb dX4_init_4 4 rfl ?_
  refine a_iload hb dX4_init_6 5 rfl ?_
  refine a_callI hb dX4_init_8 (by rw [hg]; exact i_X2_5 g h a ht n k t z v) (by rw [ow]; exact cli_RX4_1) rfl rfl (Nat.le_of_ble_eq_true rfl) (by rw [hr]; exact ⟨by decide, by decide⟩) (by rw [hr]; exact ⟨Nat.le_of_ble_eq_true rfl, Nat.le_of_ble_eq_true rfl⟩) ?_
  intro rv h' hq_
  rw [hq_.1, hq_.2]
  show AW V 0 0 (setI (setI (setI (setI (setI h a 0 n) a 1 k) a 2 t) a 3 z) a 4 v) 11 [(0, .ref a), (1, .int n), (2, .int k), (3, .int t), (4, .int z), (5, .int v)] []
  exact a_return hb hz dX4_init_11 hret (by rw [hr]; exact Nat.le_of_ble_eq_true rfl) (by rw [hr]; exact Nat.le_of_ble_eq_true rfl) (⟨rfl, rfl⟩)
set_option maxRecDepth 100000 in
theorem i_X5 (g : GG) (h : AH) (a : Nat) (ht : hT h a = (5, 0)) (n k t z v : Int32) : AM g 3 0 0 mX5_init [.ref a, .int n, .int k, .int t, .int z, .int v] h (fun rv h' => rv = none ∧ h' = (setI (setI (setI (setI (setI h a 0 n) a 1 k) a 2 t) a 3 z) a 4 v)) := by
  refine AM.of [(0, .ref a), (1, .int n), (2, .int k), (3, .int t), (4, .int z), (5, .int v)] (by decide) (Nat.le_of_ble_eq_true rfl) rfl ?_
  intro V hV
  have hb : V.2.1.2.1 = cX5_init := by subst hV; rfl
  have ow : V.2.1.1.cls = RX5 := by subst hV; rfl
  have hr : V.2.2.1 = aw_rm 3 0 0 := by subst hV; rfl
  have hz : V.2.2.2 = aw_Z V.1 (fun rv h' => rv = none ∧ h' = (setI (setI (setI (setI (setI h a 0 n) a 1 k) a 2 t) a 3 z) a 4 v)) V.2.2.1 := by subst hV; rfl
  have hg : V.1 = g := by subst hV; rfl
  have hret : V.2.1.2.2.2 = none := by subst hV; rfl
  have hml : V.2.1.2.2.1 = 6 := by subst hV; rfl
  have hnm : V.2.1.1.name = "<init>" := by subst hV; rfl
  clear hV
  refine a_aload_n hb dX5_init_0 rfl 0 rfl ?_
  refine a_iload_n hb dX5_init_1 rfl 1 rfl ?_
  refine a_iload_n hb dX5_init_2 rfl 2 rfl ?_
  refine a_iload_n hb dX5_init_3 rfl 3 rfl ?_
  refine a_iload hb dX5_init_4 4 rfl ?_
  refine a_iload hb dX5_init_6 5 rfl ?_
  refine a_callI hb dX5_init_8 (by rw [hg]; exact i_X4_5 g h a ht n k t z v) (by rw [ow]; exact cli_RX5_1) rfl rfl (Nat.le_of_ble_eq_true rfl) (by rw [hr]; exact ⟨by decide, by decide⟩) (by rw [hr]; exact ⟨Nat.le_of_ble_eq_true rfl, Nat.le_of_ble_eq_true rfl⟩) ?_
  intro rv h' hq_
  rw [hq_.1, hq_.2]
  show AW V 0 0 (setI (setI (setI (setI (setI h a 0 n) a 1 k) a 2 t) a 3 z) a 4 v) 11 [(0, .ref a), (1, .int n), (2, .int k), (3, .int t), (4, .int z), (5, .int v)] []
  exact a_return hb hz dX5_init_11 hret (by rw [hr]; exact Nat.le_of_ble_eq_true rfl) (by rw [hr]; exact Nat.le_of_ble_eq_true rfl) (⟨rfl, rfl⟩)
set_option maxRecDepth 100000 in
theorem i_X10 (g : GG) (h : AH) (a : Nat) (ht : hT h a = (10, 0)) (n k t z v u : Int32) : AM g 1 0 0 mX10_init [.ref a, .int n, .int k, .int t, .int z, .int v, .int u] h (fun rv h' => rv = none ∧ h' = (setI (setI (setI (setI (setI (setI h a 0 n) a 1 k) a 2 t) a 3 z) a 4 v) a 5 u)) := by
  refine AM.of [(0, .ref a), (1, .int n), (2, .int k), (3, .int t), (4, .int z), (5, .int v), (6, .int u)] (by decide) (Nat.le_of_ble_eq_true rfl) rfl ?_
  intro V hV
  have hb : V.2.1.2.1 = cX10_init := by subst hV; rfl
  have ow : V.2.1.1.cls = RX10 := by subst hV; rfl
  have hr : V.2.2.1 = aw_rm 1 0 0 := by subst hV; rfl
  have hz : V.2.2.2 = aw_Z V.1 (fun rv h' => rv = none ∧ h' = (setI (setI (setI (setI (setI (setI h a 0 n) a 1 k) a 2 t) a 3 z) a 4 v) a 5 u)) V.2.2.1 := by subst hV; rfl
  have hg : V.1 = g := by subst hV; rfl
  have hret : V.2.1.2.2.2 = none := by subst hV; rfl
  have hml : V.2.1.2.2.1 = 7 := by subst hV; rfl
  have hnm : V.2.1.1.name = "<init>" := by subst hV; rfl
  clear hV
  refine a_aload_n hb dX10_init_0 rfl 0 rfl ?_
  refine a_objInit hb dX10_init_1 (by rw [ow]; exact kw_708) kw_108 kw_109 (by decide) (by rw [hr]; exact ⟨by decide, by decide⟩) ?_
  refine a_aload_n hb dX10_init_4 rfl 0 rfl ?_
  refine a_iload_n hb dX10_init_5 rfl 1 rfl ?_
  refine a_putI (fty := .int) hb dX10_init_6 (by rw [ow]; exact fp_RX10_7_10) (Or.inl (by rw [hnm])) ht rfl rfl ?_
  refine a_aload_n hb dX10_init_9 rfl 0 rfl ?_
  refine a_iload_n hb dX10_init_10 rfl 2 rfl ?_
  refine a_putI (fty := .int) hb dX10_init_11 (by rw [ow]; exact fp_RX10_13_10) (Or.inl (by rw [hnm])) ht rfl rfl ?_
  refine a_aload_n hb dX10_init_14 rfl 0 rfl ?_
  refine a_iload_n hb dX10_init_15 rfl 3 rfl ?_
  refine a_putI (fty := .int) hb dX10_init_16 (by rw [ow]; exact fp_RX10_16_10) (Or.inl (by rw [hnm])) ht rfl rfl ?_
  refine a_aload_n hb dX10_init_19 rfl 0 rfl ?_
  refine a_iload hb dX10_init_20 4 rfl ?_
  refine a_putI (fty := .int) hb dX10_init_22 (by rw [ow]; exact fp_RX10_19_10) (Or.inl (by rw [hnm])) ht rfl rfl ?_
  refine a_aload_n hb dX10_init_25 rfl 0 rfl ?_
  refine a_iload hb dX10_init_26 5 rfl ?_
  refine a_putI (fty := .int) hb dX10_init_28 (by rw [ow]; exact fp_RX10_22_10) (Or.inl (by rw [hnm])) ht rfl rfl ?_
  refine a_aload_n hb dX10_init_31 rfl 0 rfl ?_
  refine a_iload hb dX10_init_32 6 rfl ?_
  refine a_putI (fty := .int) hb dX10_init_34 (by rw [ow]; exact fp_RX10_25_10) (Or.inl (by rw [hnm])) ht rfl rfl ?_
  exact a_return hb hz dX10_init_37 hret (by rw [hr]; exact Nat.le_of_ble_eq_true rfl) (by rw [hr]; exact Nat.le_of_ble_eq_true rfl) (⟨rfl, rfl⟩)
set_option maxRecDepth 100000 in
theorem x_newPause (g : GG) (h : AH) (n k t z v : Int32) : AM g 4 1 5 mX11_newPause [.int n, .int k, .int t, .int z, .int v] h (fun rv h' => rv = some (.ref (hN h)) ∧ NW h h' (kdP k) ∧ ∀ j, j < 5 → hI h' (hN h) j = pzF (fun _ => 0) n k t z v j) := by
  refine AM.of [(0, .int n), (1, .int k), (2, .int t), (3, .int z), (4, .int v)] (by decide) (Nat.le_of_ble_eq_true rfl) rfl ?_
  intro V hV
  have hb : V.2.1.2.1 = cX11_newPause := by subst hV; rfl
  have ow : V.2.1.1.cls = RX11 := by subst hV; rfl
  have hr : V.2.2.1 = aw_rm 4 1 5 := by subst hV; rfl
  have hz : V.2.2.2 = aw_Z V.1 (fun rv h' => rv = some (.ref (hN h)) ∧ NW h h' (kdP k) ∧ ∀ j, j < 5 → hI h' (hN h) j = pzF (fun _ => 0) n k t z v j) V.2.2.1 := by subst hV; rfl
  have hg : V.1 = g := by subst hV; rfl
  have hret : V.2.1.2.2.2 = (some (.object "KettleBeats$Pause")) := by subst hV; rfl
  have hml : V.2.1.2.2.1 = 5 := by subst hV; rfl
  clear hV
  refine a_iload_n hb dX11_newPause_0 rfl 1 rfl ?_
  by_cases q1_1 : k = 1
  · refine a_tableIn (off := 39) hb 40 dX11_newPause_1 (by rw [q1_1]; decide) (by rw [q1_1]; decide) (by rw [q1_1]; decide) (by decide) ?_
    refine a_new hb dX11_newPause_40 (by rw [ow]; exact cn_RX11_291) (by rw [hr]; exact ⟨by decide, by decide⟩) ?_
    refine a_dup hb dX11_newPause_43 rfl ?_
    refine a_iload_n hb dX11_newPause_44 rfl 0 rfl ?_
    refine a_iload_n hb dX11_newPause_45 rfl 1 rfl ?_
    refine a_iload_n hb dX11_newPause_46 rfl 2 rfl ?_
    refine a_iload_n hb dX11_newPause_47 rfl 3 rfl ?_
    refine a_iload hb dX11_newPause_48 4 rfl ?_
    refine a_callI hb dX11_newPause_50 (by rw [hg]; exact i_X9_9 g (newC h 9 0) (hN h) (u1_s : hT (newC h 9 0) (hN h) = (9, 0)) n k t z v) (by rw [ow]; exact cli_RX11_293) rfl rfl (Nat.le_of_ble_eq_true rfl) (by rw [hr]; exact ⟨by decide, by decide⟩) (by rw [hr]; exact ⟨Nat.le_of_ble_eq_true rfl, Nat.le_of_ble_eq_true rfl⟩) ?_
    intro rv h' hq_
    rw [hq_.1, hq_.2]
    show AW V 1 5 (setI (setI (setI (setI (setI (newC h 9 0) (hN h) 0 n) (hN h) 1 k) (hN h) 2 t) (hN h) 3 z) (hN h) 4 v) 53 [(0, .int n), (1, .int k), (2, .int t), (3, .int z), (4, .int v)] [.ref (hN h)]
    exact a_areturn (ty := (.object "KettleBeats$Pause")) hb hz dX11_newPause_53 hret (Or.inl ⟨_, rfl⟩) (by rw [hr]; exact Nat.le_of_ble_eq_true rfl) (by rw [hr]; exact Nat.le_of_ble_eq_true rfl) (⟨rfl, by rw [q1_1]; exact NW.I (NW.I (NW.I (NW.I (NW.I NW.new)))), fun j hj => by simp only [setI_R, hI_R, setR_R]; rw [show hI (newC h 9 0) (hN h) = fun _ => 0 from u1_s]; rfl⟩)
  by_cases q1_2 : k = 2
  · refine a_tableIn (off := 53) hb 54 dX11_newPause_1 (by rw [q1_2]; decide) (by rw [q1_2]; decide) (by rw [q1_2]; decide) (by decide) ?_
    refine a_new hb dX11_newPause_54 (by rw [ow]; exact cn_RX11_296) (by rw [hr]; exact ⟨by decide, by decide⟩) ?_
    refine a_dup hb dX11_newPause_57 rfl ?_
    refine a_iload_n hb dX11_newPause_58 rfl 0 rfl ?_
    refine a_iload_n hb dX11_newPause_59 rfl 1 rfl ?_
    refine a_iload_n hb dX11_newPause_60 rfl 2 rfl ?_
    refine a_iload_n hb dX11_newPause_61 rfl 3 rfl ?_
    refine a_iload hb dX11_newPause_62 4 rfl ?_
    refine a_callI hb dX11_newPause_64 (by rw [hg]; exact i_X0 g (newC h 0 0) (hN h) (u1_s : hT (newC h 0 0) (hN h) = (0, 0)) n k t z v) (by rw [ow]; exact cli_RX11_298) rfl rfl (Nat.le_of_ble_eq_true rfl) (by rw [hr]; exact ⟨by decide, by decide⟩) (by rw [hr]; exact ⟨Nat.le_of_ble_eq_true rfl, Nat.le_of_ble_eq_true rfl⟩) ?_
    intro rv h' hq_
    rw [hq_.1, hq_.2]
    show AW V 1 5 (setI (setI (setI (setI (setI (newC h 0 0) (hN h) 0 n) (hN h) 1 k) (hN h) 2 t) (hN h) 3 z) (hN h) 4 v) 67 [(0, .int n), (1, .int k), (2, .int t), (3, .int z), (4, .int v)] [.ref (hN h)]
    exact a_areturn (ty := (.object "KettleBeats$Pause")) hb hz dX11_newPause_67 hret (Or.inl ⟨_, rfl⟩) (by rw [hr]; exact Nat.le_of_ble_eq_true rfl) (by rw [hr]; exact Nat.le_of_ble_eq_true rfl) (⟨rfl, by rw [q1_2]; exact NW.I (NW.I (NW.I (NW.I (NW.I NW.new)))), fun j hj => by simp only [setI_R, hI_R, setR_R]; rw [show hI (newC h 0 0) (hN h) = fun _ => 0 from u1_s]; rfl⟩)
  by_cases q1_3 : k = 3
  · refine a_tableIn (off := 67) hb 68 dX11_newPause_1 (by rw [q1_3]; decide) (by rw [q1_3]; decide) (by rw [q1_3]; decide) (by decide) ?_
    refine a_new hb dX11_newPause_68 (by rw [ow]; exact cn_RX11_299) (by rw [hr]; exact ⟨by decide, by decide⟩) ?_
    refine a_dup hb dX11_newPause_71 rfl ?_
    refine a_iload_n hb dX11_newPause_72 rfl 0 rfl ?_
    refine a_iload_n hb dX11_newPause_73 rfl 1 rfl ?_
    refine a_iload_n hb dX11_newPause_74 rfl 2 rfl ?_
    refine a_iload_n hb dX11_newPause_75 rfl 3 rfl ?_
    refine a_iload hb dX11_newPause_76 4 rfl ?_
    refine a_callI hb dX11_newPause_78 (by rw [hg]; exact i_X3 g (newC h 3 0) (hN h) (u1_s : hT (newC h 3 0) (hN h) = (3, 0)) n k t z v) (by rw [ow]; exact cli_RX11_301) rfl rfl (Nat.le_of_ble_eq_true rfl) (by rw [hr]; exact ⟨by decide, by decide⟩) (by rw [hr]; exact ⟨Nat.le_of_ble_eq_true rfl, Nat.le_of_ble_eq_true rfl⟩) ?_
    intro rv h' hq_
    rw [hq_.1, hq_.2]
    show AW V 1 5 (setI (setI (setI (setI (setI (newC h 3 0) (hN h) 0 n) (hN h) 1 k) (hN h) 2 t) (hN h) 3 z) (hN h) 4 v) 81 [(0, .int n), (1, .int k), (2, .int t), (3, .int z), (4, .int v)] [.ref (hN h)]
    exact a_areturn (ty := (.object "KettleBeats$Pause")) hb hz dX11_newPause_81 hret (Or.inl ⟨_, rfl⟩) (by rw [hr]; exact Nat.le_of_ble_eq_true rfl) (by rw [hr]; exact Nat.le_of_ble_eq_true rfl) (⟨rfl, by rw [q1_3]; exact NW.I (NW.I (NW.I (NW.I (NW.I NW.new)))), fun j hj => by simp only [setI_R, hI_R, setR_R]; rw [show hI (newC h 3 0) (hN h) = fun _ => 0 from u1_s]; rfl⟩)
  by_cases q1_4 : k = 4
  · refine a_tableIn (off := 81) hb 82 dX11_newPause_1 (by rw [q1_4]; decide) (by rw [q1_4]; decide) (by rw [q1_4]; decide) (by decide) ?_
    refine a_new hb dX11_newPause_82 (by rw [ow]; exact cn_RX11_302) (by rw [hr]; exact ⟨by decide, by decide⟩) ?_
    refine a_dup hb dX11_newPause_85 rfl ?_
    refine a_iload_n hb dX11_newPause_86 rfl 0 rfl ?_
    refine a_iload_n hb dX11_newPause_87 rfl 1 rfl ?_
    refine a_iload_n hb dX11_newPause_88 rfl 2 rfl ?_
    refine a_iload_n hb dX11_newPause_89 rfl 3 rfl ?_
    refine a_iload hb dX11_newPause_90 4 rfl ?_
    refine a_callI hb dX11_newPause_92 (by rw [hg]; exact i_X4_4 g (newC h 4 0) (hN h) (u1_s : hT (newC h 4 0) (hN h) = (4, 0)) n k t z v) (by rw [ow]; exact cli_RX11_304) rfl rfl (Nat.le_of_ble_eq_true rfl) (by rw [hr]; exact ⟨by decide, by decide⟩) (by rw [hr]; exact ⟨Nat.le_of_ble_eq_true rfl, Nat.le_of_ble_eq_true rfl⟩) ?_
    intro rv h' hq_
    rw [hq_.1, hq_.2]
    show AW V 1 5 (setI (setI (setI (setI (setI (newC h 4 0) (hN h) 0 n) (hN h) 1 k) (hN h) 2 t) (hN h) 3 z) (hN h) 4 v) 95 [(0, .int n), (1, .int k), (2, .int t), (3, .int z), (4, .int v)] [.ref (hN h)]
    exact a_areturn (ty := (.object "KettleBeats$Pause")) hb hz dX11_newPause_95 hret (Or.inl ⟨_, rfl⟩) (by rw [hr]; exact Nat.le_of_ble_eq_true rfl) (by rw [hr]; exact Nat.le_of_ble_eq_true rfl) (⟨rfl, by rw [q1_4]; exact NW.I (NW.I (NW.I (NW.I (NW.I NW.new)))), fun j hj => by simp only [setI_R, hI_R, setR_R]; rw [show hI (newC h 4 0) (hN h) = fun _ => 0 from u1_s]; rfl⟩)
  by_cases q1_5 : k = 5
  · refine a_tableIn (off := 95) hb 96 dX11_newPause_1 (by rw [q1_5]; decide) (by rw [q1_5]; decide) (by rw [q1_5]; decide) (by decide) ?_
    refine a_new hb dX11_newPause_96 (by rw [ow]; exact cn_RX11_305) (by rw [hr]; exact ⟨by decide, by decide⟩) ?_
    refine a_dup hb dX11_newPause_99 rfl ?_
    refine a_iload_n hb dX11_newPause_100 rfl 0 rfl ?_
    refine a_iload_n hb dX11_newPause_101 rfl 1 rfl ?_
    refine a_iload_n hb dX11_newPause_102 rfl 2 rfl ?_
    refine a_iload_n hb dX11_newPause_103 rfl 3 rfl ?_
    refine a_iload hb dX11_newPause_104 4 rfl ?_
    refine a_callI hb dX11_newPause_106 (by rw [hg]; exact i_X5 g (newC h 5 0) (hN h) (u1_s : hT (newC h 5 0) (hN h) = (5, 0)) n k t z v) (by rw [ow]; exact cli_RX11_307) rfl rfl (Nat.le_of_ble_eq_true rfl) (by rw [hr]; exact ⟨by decide, by decide⟩) (by rw [hr]; exact ⟨Nat.le_of_ble_eq_true rfl, Nat.le_of_ble_eq_true rfl⟩) ?_
    intro rv h' hq_
    rw [hq_.1, hq_.2]
    show AW V 1 5 (setI (setI (setI (setI (setI (newC h 5 0) (hN h) 0 n) (hN h) 1 k) (hN h) 2 t) (hN h) 3 z) (hN h) 4 v) 109 [(0, .int n), (1, .int k), (2, .int t), (3, .int z), (4, .int v)] [.ref (hN h)]
    exact a_areturn (ty := (.object "KettleBeats$Pause")) hb hz dX11_newPause_109 hret (Or.inl ⟨_, rfl⟩) (by rw [hr]; exact Nat.le_of_ble_eq_true rfl) (by rw [hr]; exact Nat.le_of_ble_eq_true rfl) (⟨rfl, by rw [q1_5]; exact NW.I (NW.I (NW.I (NW.I (NW.I NW.new)))), fun j hj => by simp only [setI_R, hI_R, setR_R]; rw [show hI (newC h 5 0) (hN h) = fun _ => 0 from u1_s]; rfl⟩)
  by_cases q1_6 : k = 6
  · refine a_tableIn (off := 109) hb 110 dX11_newPause_1 (by rw [q1_6]; decide) (by rw [q1_6]; decide) (by rw [q1_6]; decide) (by decide) ?_
    refine a_new hb dX11_newPause_110 (by rw [ow]; exact cn_RX11_308) (by rw [hr]; exact ⟨by decide, by decide⟩) ?_
    refine a_dup hb dX11_newPause_113 rfl ?_
    refine a_iload_n hb dX11_newPause_114 rfl 0 rfl ?_
    refine a_iload_n hb dX11_newPause_115 rfl 1 rfl ?_
    refine a_iload_n hb dX11_newPause_116 rfl 2 rfl ?_
    refine a_iload_n hb dX11_newPause_117 rfl 3 rfl ?_
    refine a_iload hb dX11_newPause_118 4 rfl ?_
    refine a_callI hb dX11_newPause_120 (by rw [hg]; exact i_X6 g (newC h 6 0) (hN h) (u1_s : hT (newC h 6 0) (hN h) = (6, 0)) n k t z v) (by rw [ow]; exact cli_RX11_310) rfl rfl (Nat.le_of_ble_eq_true rfl) (by rw [hr]; exact ⟨by decide, by decide⟩) (by rw [hr]; exact ⟨Nat.le_of_ble_eq_true rfl, Nat.le_of_ble_eq_true rfl⟩) ?_
    intro rv h' hq_
    rw [hq_.1, hq_.2]
    show AW V 1 5 (setI (setI (setI (setI (setI (newC h 6 0) (hN h) 0 n) (hN h) 1 k) (hN h) 2 t) (hN h) 3 z) (hN h) 4 v) 123 [(0, .int n), (1, .int k), (2, .int t), (3, .int z), (4, .int v)] [.ref (hN h)]
    exact a_areturn (ty := (.object "KettleBeats$Pause")) hb hz dX11_newPause_123 hret (Or.inl ⟨_, rfl⟩) (by rw [hr]; exact Nat.le_of_ble_eq_true rfl) (by rw [hr]; exact Nat.le_of_ble_eq_true rfl) (⟨rfl, by rw [q1_6]; exact NW.I (NW.I (NW.I (NW.I (NW.I NW.new)))), fun j hj => by simp only [setI_R, hI_R, setR_R]; rw [show hI (newC h 6 0) (hN h) = fun _ => 0 from u1_s]; rfl⟩)
  refine a_tableOut hb 124 dX11_newPause_1 (by have z1 := lv_neT (k := 1) (a := 1) q1_1 (by decide); have z2 := lv_neT (k := 2) (a := 2) q1_2 (by decide); have z3 := lv_neT (k := 3) (a := 3) q1_3 (by decide); have z4 := lv_neT (k := 4) (a := 4) q1_4 (by decide); have z5 := lv_neT (k := 5) (a := 5) q1_5 (by decide); have z6 := lv_neT (k := 6) (a := 6) q1_6 (by decide); omega) (by decide) ?_
  refine a_new hb dX11_newPause_124 (by rw [ow]; exact cn_RX11_83) (by rw [hr]; exact ⟨by decide, by decide⟩) ?_
  refine a_dup hb dX11_newPause_127 rfl ?_
  refine a_iload_n hb dX11_newPause_128 rfl 0 rfl ?_
  refine a_iload_n hb dX11_newPause_129 rfl 1 rfl ?_
  refine a_iload_n hb dX11_newPause_130 rfl 2 rfl ?_
  refine a_iload_n hb dX11_newPause_131 rfl 3 rfl ?_
  refine a_iload hb dX11_newPause_132 4 rfl ?_
  refine a_callI hb dX11_newPause_134 (by rw [hg]; exact i_X2_2 g (newC h 2 0) (hN h) (u1_s : hT (newC h 2 0) (hN h) = (2, 0)) n k t z v) (by rw [ow]; exact cli_RX11_311) rfl rfl (Nat.le_of_ble_eq_true rfl) (by rw [hr]; exact ⟨by decide, by decide⟩) (by rw [hr]; exact ⟨Nat.le_of_ble_eq_true rfl, Nat.le_of_ble_eq_true rfl⟩) ?_
  intro rv h' hq_
  rw [hq_.1, hq_.2]
  show AW V 1 5 (setI (setI (setI (setI (setI (newC h 2 0) (hN h) 0 n) (hN h) 1 k) (hN h) 2 t) (hN h) 3 z) (hN h) 4 v) 137 [(0, .int n), (1, .int k), (2, .int t), (3, .int z), (4, .int v)] [.ref (hN h)]
  exact a_areturn (ty := (.object "KettleBeats$Pause")) hb hz dX11_newPause_137 hret (Or.inl ⟨_, rfl⟩) (by rw [hr]; exact Nat.le_of_ble_eq_true rfl) (by rw [hr]; exact Nat.le_of_ble_eq_true rfl) (⟨rfl, by rw [kdP, if_neg q1_1, if_neg q1_2, if_neg q1_3, if_neg q1_4, if_neg q1_5, if_neg q1_6]; exact NW.I (NW.I (NW.I (NW.I (NW.I NW.new)))), fun j hj => by simp only [setI_R, hI_R, setR_R]; rw [show hI (newC h 2 0) (hN h) = fun _ => 0 from u1_s]; rfl⟩)
