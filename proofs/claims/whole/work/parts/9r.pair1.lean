/-! ===== the pair: what stands between two calls ===== -/
/-- law a of a State: its object at lq, its rows behind it, and the row's steps -/
def LWb (h : AH) (B : Nat) (S : Nat → Int32) (a lq cl n : Nat) (cs : List CLA) : Prop := B + 62 ≤ lq ∧ hT h (lq + 1) = (13, cl) ∧ LB h lq (lq + 4) (lq + 5) (lq + 2) (lq + 3) cl cs ∧ cl ≤ 120 ∧ (∀ c ∈ cs, okC c) ∧ cs.length ≤ 8 ∧ (encC cs).length ≤ cl ∧ hI h lq 3 = S (208 + a) ∧ S (213 + a) = nI n ∧ n ≤ 140 ∧ (encL cs).length = n ∧ RD S (218 + 140 * a) (encL cs)
/-- the State at b stands for the row S, its laws too -/
def ST (h : AH) (B b : Nat) (S : Nat → Int32) (N : NN) : Prop := RS h B b S N ∧ RG S N ∧ ∀ a, a < N.2.2.1 → ∃ lq cl n cs, hQ h (b + 4) a = some lq ∧ LWb h B S a lq cl n cs
def IMG (h : AH) (B : Nat) : Prop := (hI h B 2 = 0 ∧ hI h (B + 51) 3 = 0) ∨ (¬ hI h B 2 = 0 ∧ ¬ hI h (B + 51) 3 = 0 ∧ ∃ N, ST h B (B + 10) (hI h (B + 53)) N)
def TRC (h : AH) (B : Nat) : Prop := ∃ rn, rn ≤ 20 ∧ hI h (B + 19) 1 = nI rn ∧ hI h (B + 51) 21 = nI rn ∧ ∀ j, j < rn → hI h (B + 20) j = hI h (B + 61) j
def INV (h : AH) (B : Nat) : Prop := LY h B ∧ HB h ∧ TY h (B + 1) ∧ TY h (B + 10) ∧ (∃ N, ST h B (B + 1) (hI h (B + 52)) N) ∧ IMG h B ∧ TRC h B ∧ hI h (B + 56) = fun _ => 0
theorem ST.xn {h : AH} {B : Nat} {S : Nat → Int32} {N : NN} (H : ST h B (B + 1) S N) (hL : LY h B) : XN h B S N := ⟨hL, H.1, H.2.1⟩
/-- a row of values that a law's object has -/
def VQ (h : AH) (B vq : Nat) : Prop := ∃ lq cl, vq = lq + 4 ∧ B + 62 ≤ lq ∧ hT h lq = (1, 0) ∧ hT h (lq + 1) = (13, cl) ∧ hT h vq = (14, 5)
theorem FR.hb {A : Nat → Prop} {h h1 : AH} (x : FR A h h1) (H : HB h) : HB h1 := by
  unfold HB
  rw [x.1, x.2.1]; exact H
theorem FR.ty {A : Nat → Prop} {h h1 : AH} {b : Nat} (x : FR A h h1) (H : TY h b) : TY h1 b := by
  unfold TY TYo
  rw [x.2.1, x.2.2.1]; exact H
theorem LWb.fr {h h1 : AH} {B vq a lq cl n : Nat} {S : Nat → Int32} {cs : List CLA} (x : FR (Ay B vq) h h1) (v : VQ h B vq) (H : LWb h B S a lq cl n cs) : LWb h1 B S a lq cl n cs := by
  obtain ⟨lq0, cl0, rfl, v1, v2, v3, v4⟩ := v
  obtain ⟨g1, g2, ⟨b1, b2, b3, b4, b5, b6, b7, b8⟩, g4⟩ := H
  have n0 : lq ≠ lq0 + 4 := fun e => by rw [e, v4] at b1; cases b1
  have n5 : lq + 5 ≠ lq0 + 4 := fun e => by rw [show lq + 1 = lq0 by omega, v2] at g2; cases g2
  have n2 : lq + 2 ≠ lq0 + 4 := fun e => by have := b3.2.2.1; rw [e, v4] at this; cases this
  have n3 : lq + 3 ≠ lq0 + 4 := fun e => by have := b3.2.2.2; rw [e, v4] at this; cases this
  have e : ∀ q, q ≠ lq0 + 4 → B + 62 ≤ q → hI h1 q = hI h q := fun q n1 n2 => x.2.2.2.2 q (by unfold Ay; omega)
  unfold LWb LB
  rw [x.2.1, x.2.2.1, e lq n0 g1, e (lq + 5) n5 (by omega), e (lq + 2) n2 (by omega), e (lq + 3) n3 (by omega)]
  exact ⟨g1, g2, ⟨b1, b2, b3, b4, b5, b6, b7, b8⟩, g4⟩
theorem ST.fr {h h1 : AH} {B vq b : Nat} {S : Nat → Int32} {N : NN} (x : FR (Ay B vq) h h1) (v : VQ h B vq) (hb : b + 8 < B + 21) (H : ST h B b S N) : ST h1 B b S N := by
  have v' := v
  obtain ⟨lq0, cl0, rfl, v1, v2, v3, v4⟩ := v
  refine ⟨H.1.fr x v4 (by omega) hb, H.2.1, fun a ha => ?_⟩
  obtain ⟨lq, cl, n, cs, h1', h2⟩ := H.2.2 a ha
  exact ⟨lq, cl, n, cs, by rw [x.2.2.1]; exact h1', h2.fr x v'⟩
theorem INV.x {h h1 : AH} {B vq : Nat} (H : INV h B) (x : FR (Ay B vq) h h1) (v : VQ h B vq) : INV h1 B := by
  obtain ⟨hL, hb, t1, t2, ⟨N, hs⟩, hi, ⟨rn, r1, r2, r3, r4⟩, hd⟩ := H
  have hv : B + 62 ≤ vq := by obtain ⟨lq0, cl0, rfl, v1, -⟩ := v; omega
  have e : ∀ q, q < 21 ∨ (51 ≤ q ∧ q < 62) → hI h1 (B + q) = hI h (B + q) := fun q hq => x.2.2.2.2 _ (by unfold Ay; omega)
  have e0 := e 0 (by omega)
  rw [Nat.add_zero] at e0
  refine ⟨x.ly hL, x.hb hb, x.ty t1, x.ty t2, ⟨N, ?_⟩, ?_, ⟨rn, r1, ?_, ?_, ?_⟩, ?_⟩
  · rw [e 52 (by omega)]; exact hs.fr x v (by omega)
  · unfold IMG
    rw [e0, e 51 (by omega), e 53 (by omega)]
    rcases hi with hi | ⟨i1, i2, M, i3⟩
    · exact Or.inl hi
    · exact Or.inr ⟨i1, i2, M, i3.fr x v (by omega)⟩
  · rw [e 19 (by omega)]; exact r2
  · rw [e 51 (by omega)]; exact r3
  · rw [e 20 (by omega), e 61 (by omega)]; exact r4
  · rw [e 56 (by omega)]; exact hd
/-- the model's own cells -/
def Amo (B a : Nat) : Prop := B + 51 ≤ a ∧ a < B + 62
theorem LWb.frm {h h1 : AH} {B a lq cl n : Nat} {S : Nat → Int32} {cs : List CLA} (x : FR (Amo B) h h1) (H : LWb h B S a lq cl n cs) : LWb h1 B S a lq cl n cs := by
  have g1 := H.1
  have e : ∀ q, B + 62 ≤ q → hI h1 q = hI h q := fun q n2 => x.2.2.2.2 q (by unfold Amo; omega)
  unfold LWb LB
  rw [x.2.1, x.2.2.1, e lq (by omega), e (lq + 5) (by omega), e (lq + 2) (by omega), e (lq + 3) (by omega)]
  exact H
theorem RS.frm {h h' : AH} {B b : Nat} {S : Nat → Int32} {N : NN} (x : FR (Amo B) h h') (hb : b + 8 < B + 51) (H : RS h B b S N) : RS h' B b S N := by
  have e : ∀ i, i ≤ 8 → hI h' (b + i) = hI h (b + i) := fun i hi => x.2.2.2.2 _ (by unfold Amo; omega)
  have e0 := e 0 (by omega)
  rw [Nat.add_zero] at e0
  have eo : ∀ q, B + 62 ≤ q → hI h' q = hI h q := fun q n2 => x.2.2.2.2 q (by unfold Amo; omega)
  unfold RS
  rw [e0, e 2 (by omega), e 3 (by omega), e 6 (by omega), e 7 (by omega), e 8 (by omega), x.2.2.1]
  refine ⟨H.1, fun p hp => ?_, fun w hw => ?_, H.2.2.2⟩
  · obtain ⟨q, h1, h2⟩ := H.2.1 p hp
    refine ⟨q, h1, ?_⟩
    unfold PO
    rw [x.2.1, eo q h2.1]; exact h2
  · obtain ⟨q, h1, h2⟩ := H.2.2.1 w hw
    refine ⟨q, h1, ?_⟩
    unfold WO
    rw [x.2.1, eo q h2.1]; exact h2
theorem ST.frm {h h1 : AH} {B b : Nat} {S : Nat → Int32} {N : NN} (x : FR (Amo B) h h1) (hb : b + 8 < B + 51) (H : ST h B b S N) : ST h1 B b S N := by
  refine ⟨H.1.frm x hb, H.2.1, fun a ha => ?_⟩
  obtain ⟨lq, cl, n, cs, h1', h2⟩ := H.2.2 a ha
  exact ⟨lq, cl, n, cs, by rw [x.2.2.1]; exact h1', h2.frm x⟩
theorem INV.m {h h1 : AH} {B : Nat} (H : INV h B) (x : FR (Amo B) h h1) (e52 : hI h1 (B + 52) = hI h (B + 52)) (e53 : hI h1 (B + 53) = hI h (B + 53)) (e3 : hI h1 (B + 51) 3 = hI h (B + 51) 3) (e21 : hI h1 (B + 51) 21 = hI h (B + 51) 21) (e56 : hI h1 (B + 56) = hI h (B + 56)) (e61 : hI h1 (B + 61) = hI h (B + 61)) : INV h1 B := by
  obtain ⟨hL, hb, t1, t2, ⟨N, hs⟩, hi, ⟨rn, r1, r2, r3, r4⟩, hd⟩ := H
  have e : ∀ q, q < 51 → hI h1 (B + q) = hI h (B + q) := fun q hq => x.2.2.2.2 _ (by unfold Amo; omega)
  have e0 := e 0 (by omega)
  rw [Nat.add_zero] at e0
  refine ⟨x.ly hL, x.hb hb, x.ty t1, x.ty t2, ⟨N, ?_⟩, ?_, ⟨rn, r1, ?_, ?_, ?_⟩, ?_⟩
  · rw [e52]; exact hs.frm x (by omega)
  · unfold IMG
    rw [e0, e3, e53]
    rcases hi with hi | ⟨i1, i2, M, i3⟩
    · exact Or.inl hi
    · exact Or.inr ⟨i1, i2, M, i3.frm x (by omega)⟩
  · rw [e 19 (by omega)]; exact r2
  · rw [e21]; exact r3
  · rw [e 20 (by omega), e61]; exact r4
  · rw [e56]; exact hd
/-! writers -/
theorem LWb.fw {A : Nat → Prop} {h h1 : AH} {B a lq cl n : Nat} {S S' : Nat → Int32} {cs : List CLA} (x : Fw A h h1) (hb : HB h) (hA : ∀ q, A q → q < B + 62) (ha : a < 5) (eS : ∀ j, 208 ≤ j → j < 918 → S' j = S j) (H : LWb h B S a lq cl n cs) : LWb h1 B S' a lq cl n cs := by
  obtain ⟨g1, g2, lb, g4, g5, g6, g7, g8, g9, g10, g11, g12⟩ := H
  have nA : ∀ q, B + 62 ≤ q → ¬ A q := fun q h1 h2 => by have := hA q h2; omega
  have l0 := hb.lt lb.1 (by decide)
  have l1 := hb.lt g2 (by decide)
  have l4 := hb.lt lb.2.2.1.1 (by decide)
  have l5 := hb.lt lb.2.2.1.2.1 (by decide)
  have l2 := hb.lt lb.2.2.1.2.2.1 (by decide)
  have l3 := hb.lt lb.2.2.1.2.2.2 (by decide)
  refine ⟨g1, by rw [x.2.1 _ l1]; exact g2, lb.fw x ⟨l0, nA _ g1⟩ l4 ⟨l5, nA _ (by omega)⟩ ⟨l2, nA _ (by omega)⟩ ⟨l3, nA _ (by omega)⟩, g4, g5, g6, g7, ?_, ?_, g10, g11, fun j hj => ?_⟩
  · rw [(x.2.2.1 lq l0 (nA _ g1)).1, g8, eS _ (by omega) (by omega)]
  · rw [eS _ (by omega) (by omega)]; exact g9
  · rw [eS _ (by omega) (by omega)]; exact g12 j hj
theorem RS.fw {A : Nat → Prop} {h h1 : AH} {B b : Nat} {S : Nat → Int32} {N : NN} (x : Fw A h h1) (hb : HB h) (hA : ∀ q, A q → q < b) (hbB : b + 9 < B + 62) (hBN : B + 62 ≤ hN h) (H : RS h B b S N) : RS h1 B b S N := by
  have e : ∀ i, i ≤ 8 → hI h1 (b + i) = hI h (b + i) ∧ hQ h1 (b + i) = hQ h (b + i) := fun i hi => by
    have := x.2.2.1 (b + i) (by omega) (fun z => by have := hA _ z; omega)
    exact ⟨this.1, this.2.2⟩
  have e0 := (e 0 (by omega)).1
  rw [Nat.add_zero] at e0
  unfold RS
  rw [e0, (e 1 (by omega)).2, (e 5 (by omega)).2, (e 2 (by omega)).1, (e 3 (by omega)).1, (e 6 (by omega)).1, (e 7 (by omega)).1, (e 8 (by omega)).1]
  refine ⟨H.1, fun p hp => ?_, fun w hw => ?_, H.2.2.2⟩
  · obtain ⟨q, h1, h2⟩ := H.2.1 p hp
    exact ⟨q, h1, h2.up x hb (fun a z => by have := hA a z; omega) ⟨rfl, rfl, rfl, rfl⟩⟩
  · obtain ⟨q, h1, h2⟩ := H.2.2.1 w hw
    exact ⟨q, h1, h2.up x hb (fun a z => by have := hA a z; omega) ⟨rfl, rfl, rfl, rfl, rfl, rfl⟩⟩
theorem ST.fw {A : Nat → Prop} {h h1 : AH} {B : Nat} {S : Nat → Int32} {N : NN} (x : Fw A h h1) (hb : HB h) (hA : ∀ q, A q → q < B + 10) (hBN : B + 62 ≤ hN h) (H : ST h B (B + 10) S N) : ST h1 B (B + 10) S N := by
  refine ⟨H.1.fw x hb hA (by omega) hBN, H.2.1, fun a ha => ?_⟩
  obtain ⟨lq, cl, n, cs, h1', h2⟩ := H.2.2 a ha
  have := (x.2.2.1 (B + 10 + 4) (by omega) (fun z => by have := hA _ z; omega)).2.2
  exact ⟨lq, cl, n, cs, by rw [this]; exact h1', h2.fw x hb (fun q z => by have := hA q z; omega) (by have := H.2.1.2.2.1.2; omega) (fun _ _ _ => rfl)⟩
theorem TZ.of {h : AH} {B : Nat} (hL : LY h B) (H : TY h (B + 1)) : TZ h (B + 1) := ⟨⟨hL.1 2 (by decide), hL.1 5 (by decide), hL.1 6 (by decide)⟩, H⟩
theorem TZ.of2 {h : AH} {B : Nat} (hL : LY h B) (H : TY h (B + 10)) : TZ h (B + 10) := ⟨⟨hL.1 11 (by decide), hL.1 14 (by decide), hL.1 15 (by decide)⟩, H⟩
/-- a call that writes the State: the model's row follows -/
theorem INV.w {A : Nat → Prop} {h h1 : AH} {B : Nat} {S' : Nat → Int32} {N' : NN} (H : INV h B) (x : Fw A h h1) (hA : ∀ q, A q → B + 1 ≤ q ∧ q < B + 10) (hX : XN h1 B S' N') (lw : ∀ a, a < N'.2.2.1 → ∃ lq cl n cs, hQ h1 (B + 5) a = some lq ∧ LWb h1 B S' a lq cl n cs) : INV (setR h1 (B + 52) S') B := by
  obtain ⟨hL, hb, t1, t2, ⟨N, hs⟩, hi, ⟨rn, r1, r2, r3, r4⟩, hd⟩ := H
  have hBN := hL.2.2
  have e : ∀ q, q = 0 ∨ (10 ≤ q ∧ q < 62) → hI h1 (B + q) = hI h (B + q) := fun q hq => (x.2.2.1 _ (by omega) (fun z => by have := hA _ z; omega)).1
  have e0 := e 0 (by omega)
  rw [Nat.add_zero] at e0
  have hb1 := x.2.2.2 hb
  have fr : FR (Amo B) h1 (setR h1 (B + 52) S') := ⟨rfl, rfl, rfl, fun _ _ => rfl, fun a na => hI_Rn (fun q => na (by unfold Amo; omega))⟩
  have e2 : ∀ q, q ≠ 52 → hI (setR h1 (B + 52) S') (B + q) = hI h1 (B + q) := fun q hq => hI_Rn (by omega)
  have e20 : hI (setR h1 (B + 52) S') B = hI h1 B := hI_Rn (by omega)
  refine ⟨fr.ly hX.1, fr.hb hb1.1, fr.ty (hb1.2 _ (TZ.of hL t1)).2, fr.ty (hb1.2 _ (TZ.of2 hL t2)).2, ⟨N', ?_⟩, ?_, ⟨rn, r1, ?_, ?_, ?_⟩, ?_⟩
  · rw [hI_R]
    refine ⟨hX.2.1.frm fr (by omega), hX.2.2, fun a ha => ?_⟩
    obtain ⟨lq, cl, n, cs, q1, q2⟩ := lw a ha
    exact ⟨lq, cl, n, cs, q1, q2.frm fr⟩
  · unfold IMG
    rw [e20, e0, e2 51 (by omega), e 51 (by omega), e2 53 (by omega), e 53 (by omega)]
    rcases hi with hi | ⟨i1, i2, M, i3⟩
    · exact Or.inl hi
    · exact Or.inr ⟨i1, i2, M, (i3.fw x hb (fun q z => (hA q z).2) hBN).frm fr (by omega)⟩
  · rw [e2 19 (by omega), e 19 (by omega)]; exact r2
  · rw [e2 51 (by omega), e 51 (by omega)]; exact r3
  · rw [e2 20 (by omega), e2 61 (by omega), e 20 (by omega), e 61 (by omega)]; exact r4
  · rw [e2 56 (by omega), e 56 (by omega)]; exact hd
/-- .. and the laws stay -/
theorem INV.ww {A : Nat → Prop} {h h1 : AH} {B : Nat} {S' : Nat → Int32} (H : INV h B) (hA : ∀ q, A q → B + 1 ≤ q ∧ q < B + 10 ∧ q ≠ B + 5) (wx : WX A h h1 B S') (eS : ∀ j, j = 2 ∨ (208 ≤ j ∧ j < 918) → S' j = hI h (B + 52) j) : LY h1 B ∧ hI h1 (B + 52) = hI h (B + 52) ∧ INV (setR h1 (B + 52) S') B := by
  obtain ⟨⟨N', hX⟩, x⟩ := wx
  have H' := H
  obtain ⟨hL, hb, -, -, ⟨N, hs⟩, -⟩ := H'
  have hBN := hL.2.2
  refine ⟨hX.1, (x.2.2.1 (B + 52) (by omega) (fun z => by have := hA _ z; omega)).1, H.w x (fun q z => ⟨(hA q z).1, (hA q z).2.1⟩) hX (fun a ha => ?_)⟩
  have n1 := hX.2.2.2.2.1
  have n2 := hs.2.1.2.2.1
  have en : N'.2.2.1 = N.2.2.1 := by
    have e := eS 2 (Or.inl rfl)
    rw [n1.1, n2.1] at e
    exact nI_inj (by omega) (by omega) e
  rw [en] at ha
  obtain ⟨lq, cl, n, cs, q1, q2⟩ := hs.2.2 a ha
  have := (x.2.2.1 (B + 5) (by omega) (fun z => by have := hA _ z; omega)).2.2
  exact ⟨lq, cl, n, cs, by rw [this]; exact q1, q2.fw x hb (fun q z => by have := hA q z; omega) (by omega) (fun j h1 h2 => eS j (Or.inr ⟨h1, h2⟩))⟩
