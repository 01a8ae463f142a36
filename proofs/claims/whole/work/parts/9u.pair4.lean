/-! ===== the pair: act, image, undo ===== -/
theorem LWb.frg {A : Nat → Prop} {h h1 : AH} {B a lq cl n : Nat} {S : Nat → Int32} {cs : List CLA} (x : FR A h h1) (hA : ∀ q, A q → q < B + 62) (H : LWb h B S a lq cl n cs) : LWb h1 B S a lq cl n cs := by
  have g1 := H.1
  have e : ∀ q, B + 62 ≤ q → hI h1 q = hI h q := fun q n2 => x.2.2.2.2 q (fun z => by have := hA q z; omega)
  unfold LWb LB
  rw [x.2.1, x.2.2.1, e lq (by omega), e (lq + 5) (by omega), e (lq + 2) (by omega), e (lq + 3) (by omega)]
  exact H
theorem RS.frg {A : Nat → Prop} {h h' : AH} {B b : Nat} {S : Nat → Int32} {N : NN} (x : FR A h h') (hA : ∀ q, A q → q < B + 62 ∧ (q < b ∨ b + 8 < q)) (H : RS h B b S N) : RS h' B b S N := by
  have e : ∀ i, i ≤ 8 → hI h' (b + i) = hI h (b + i) := fun i hi => x.2.2.2.2 _ (fun z => by have := hA _ z; omega)
  have e0 := e 0 (by omega)
  rw [Nat.add_zero] at e0
  have eo : ∀ q, B + 62 ≤ q → hI h' q = hI h q := fun q n2 => x.2.2.2.2 q (fun z => by have := hA _ z; omega)
  unfold RS
  rw [e0, e 2 (by omega), e 3 (by omega), e 6 (by omega), e 7 (by omega), e 8 (by omega), x.2.2.1]
  refine ⟨H.1, fun p hp => ?_, fun w hw => ?_, H.2.2.2⟩
  · obtain ⟨q, h1, h2⟩ := H.2.1 p hp
    refine ⟨q, h1, ?_⟩
    unfold PO
    rw [x.2.1, eo q h2.1]; exact h2
  · obtain ⟨q, h1, h2⟩ := H.2.2.1 w hw
    refine ⟨q, h1, ?_⟩
    unfold WO
    rw [x.2.1, eo q h2.1]; exact h2
theorem ST.frg {A : Nat → Prop} {h h1 : AH} {B b : Nat} {S : Nat → Int32} {N : NN} (x : FR A h h1) (hA : ∀ q, A q → q < B + 62 ∧ (q < b ∨ b + 8 < q)) (H : ST h B b S N) : ST h1 B b S N := by
  refine ⟨H.1.frg x hA, H.2.1, fun a ha => ?_⟩
  obtain ⟨lq, cl, n, cs, h1', h2⟩ := H.2.2 a ha
  exact ⟨lq, cl, n, cs, by rw [x.2.2.1]; exact h1', h2.frg x (fun q z => (hA q z).1)⟩
def Aact (B a : Nat) : Prop := a = B + 19 ∨ a = B + 20 ∨ a = B + 51 ∨ a = B + 61
theorem INV.act {h h1 : AH} {B : Nat} (H : INV h B) (x : FR (Aact B) h h1) (e3 : hI h1 (B + 51) 3 = hI h (B + 51) 3) (tr : TRC h1 B) : INV h1 B := by
  obtain ⟨hL, hb, t1, t2, ⟨N, hs⟩, hi, -, hd⟩ := H
  have e : ∀ q, q ≠ 19 → q ≠ 20 → q ≠ 51 → q ≠ 61 → hI h1 (B + q) = hI h (B + q) := fun q h1 h2 h3 h4 => x.2.2.2.2 _ (by unfold Aact; omega)
  have e0 : hI h1 B = hI h B := x.2.2.2.2 _ (by unfold Aact; omega)
  refine ⟨x.ly hL, x.hb hb, x.ty t1, x.ty t2, ⟨N, ?_⟩, ?_, tr, ?_⟩
  · rw [e 52 (by omega) (by omega) (by omega) (by omega)]; exact hs.frg x (by intro a; unfold Aact; omega)
  · unfold IMG
    rw [e0, e3, e 53 (by omega) (by omega) (by omega) (by omega)]
    rcases hi with hi | ⟨i1, i2, M, i3⟩
    · exact Or.inl hi
    · exact Or.inr ⟨i1, i2, M, i3.frg x (by intro a; unfold Aact; omega)⟩
  · rw [e 56 (by omega) (by omega) (by omega) (by omega)]; exact hd
theorem s_act (g : GG) (h : AH) (B : Nat) (H : INV h B) (p a x : Int32) : SIMI g h B mX11_act mX12_act [.int p, .int a, .int x] := by
  obtain ⟨hL, hb, ty1, ty2, ⟨N, hs⟩, hi, htr, hd⟩ := id H
  have hX := hs.xn hL
  have G := hs.2.1
  refine ⟨_, fun h1 => WAc h h1 B (hI h (B + 52)) N (acS (hI h (B + 52)) p a x).2, 9, 0, 0, 9, ⟨by decide, by decide, by decide, by decide⟩, x_act g h B _ N hX p a x, fun h1 k1 => ⟨k1.1.1, ?_⟩⟩
  obtain ⟨k1, k2, k3, k4⟩ := k1
  have e52 : hI h1 (B + 52) = hI h (B + 52) := k2.2.2.2.2 _ (by unfold Wa; omega)
  have e51 : hI h1 (B + 51) = hI h (B + 51) := k2.2.2.2.2 _ (by unfold Wa; omega)
  have M_ := m_act g h1 B k1.1 N.1 (by rw [e52, G.1.1]; exact IX.n (by have := G.1.2; omega)) G.1.2 p a x
  rw [e52] at M_
  refine M_.weak (fun v h2 q => ⟨q.1, ?_⟩)
  obtain ⟨-, q2, q3, q4, q5⟩ := q
  have z : FR (Aact B) h h2 := (k2.mo (by intro a; unfold Wa Aact; omega)).tr (q2.mo (by intro a; unfold Ac Aact; omega))
  have f19 : hI h2 (B + 19) = hI h1 (B + 19) := q2.2.2.2.2 _ (by unfold Ac; omega)
  have f20 : hI h2 (B + 20) = hI h1 (B + 20) := q2.2.2.2.2 _ (by unfold Ac; omega)
  have hl := acS_l (S := hI h (B + 52)) (p := p) (a := a) (x := x)
  exact H.act z (by rw [q3 3 (by decide), e51]) ⟨_, by omega, by rw [f19]; exact k3, q4, fun j hj => by rw [f20, k4 j hj, q5 j hj]⟩
/-! copies -/
theorem RGp.eq {S S' : Nat → Int32} {p : Nat} (hp : p < 8) (e : ∀ j, j < 938 → S' j = S j) (H : RGp S p) : RGp S' p := H.cg hp (fun j _ h2 => e j (by omega))
theorem RG.eq {S S' : Nat → Int32} {N : NN} (e : ∀ j, j < 938 → S' j = S j) (G : RG S N) : RG S' N :=
  ⟨G.c0 (e 0 (by omega)), G.c1 (e 1 (by omega)), G.c2 (e 2 (by omega)), G.c3 (e 3 (by omega)), G.c4 (e 4 (by omega)), G.s' (fun j _ _ => e j (by omega)), G.p' (fun j _ _ => e j (by omega)), G.w' (fun j _ _ => e j (by omega)), G.m' (fun j _ _ => e j (by omega)), G.r' (fun j _ _ => e j (by omega)), G.t' (fun j _ _ => e j (by omega))⟩
theorem LWb.eq {h : AH} {B a lq cl n : Nat} {S S' : Nat → Int32} {cs : List CLA} (ha : a < 5) (e : ∀ j, j < 938 → S' j = S j) (H : LWb h B S a lq cl n cs) : LWb h B S' a lq cl n cs := by
  obtain ⟨g1, g2, lb, g4, g5, g6, g7, g8, g9, g10, g11, g12⟩ := H
  exact ⟨g1, g2, lb, g4, g5, g6, g7, by rw [e _ (by omega)]; exact g8, by rw [e _ (by omega)]; exact g9, g10, g11, fun j hj => by rw [e _ (by omega)]; exact g12 j hj⟩
theorem LWb.cf {h h1 : AH} {B d a lq cl n : Nat} {S : Nat → Int32} {cs : List CLA} (x : CF d h h1) (hd : d + 9 < B + 62) (H : LWb h B S a lq cl n cs) : LWb h1 B S a lq cl n cs := by
  have g1 := H.1
  have e : ∀ q, B + 62 ≤ q → hI h1 q = hI h q := fun q n2 => x.2.2.2.1 q (by omega) (by omega) (by omega) (by omega) (by omega) (by omega)
  have eq : hQ h1 lq = hQ h lq := x.2.2.2.2 lq (by omega) (by omega) (by omega)
  unfold LWb LB
  rw [x.2.1, eq, e lq (by omega), e (lq + 5) (by omega), e (lq + 2) (by omega), e (lq + 3) (by omega)]
  exact H
theorem ST.cf {h h1 : AH} {B d b : Nat} {S : Nat → Int32} {N : NN} (x : CF d h h1) (hd : d + 9 < B + 62) (hbd : b + 8 < d ∨ d + 8 < b) (hb : b + 9 < B + 62) (H : ST h B b S N) : ST h1 B b S N := by
  have eo : ∀ q, B + 62 ≤ q → hI h1 q = hI h q := fun q n2 => x.2.2.2.1 q (by omega) (by omega) (by omega) (by omega) (by omega) (by omega)
  have e : ∀ i, i ≤ 8 → hI h1 (b + i) = hI h (b + i) ∧ hQ h1 (b + i) = hQ h (b + i) := fun i hi => ⟨x.2.2.2.1 _ (by omega) (by omega) (by omega) (by omega) (by omega) (by omega), x.2.2.2.2 _ (by omega) (by omega) (by omega)⟩
  have e0 := (e 0 (by omega)).1
  rw [Nat.add_zero] at e0
  obtain ⟨⟨r1, r2, r3, r4⟩, G, L⟩ := H
  refine ⟨?_, G, fun a ha => ?_⟩
  · unfold RS
    rw [e0, (e 1 (by omega)).2, (e 5 (by omega)).2, (e 2 (by omega)).1, (e 3 (by omega)).1, (e 6 (by omega)).1, (e 7 (by omega)).1, (e 8 (by omega)).1]
    refine ⟨r1, fun p hp => ?_, fun w hw => ?_, r4⟩
    · obtain ⟨q, h1', h2⟩ := r2 p hp
      refine ⟨q, h1', ?_⟩
      unfold PO
      rw [x.2.1, eo q h2.1]; exact h2
    · obtain ⟨q, h1', h2⟩ := r3 w hw
      refine ⟨q, h1', ?_⟩
      unfold WO
      rw [x.2.1, eo q h2.1]; exact h2
  · obtain ⟨lq, cl, n, cs, q1, q2⟩ := L a ha
    exact ⟨lq, cl, n, cs, by rw [(e 4 (by omega)).2]; exact q1, q2.cf x hd⟩
theorem ST.cp {h h1 : AH} {B d s : Nat} {S S' : Nat → Int32} {N : NN} (x : CF d h h1) (c : CPF h h1 d s) (hd : d + 9 < B + 62) (eS : ∀ j, j < 938 → S' j = S j) (H : ST h B s S N) : ST h1 B d S' N := by
  have eo : ∀ q, B + 62 ≤ q → hI h1 q = hI h q := fun q n2 => x.2.2.2.1 q (by omega) (by omega) (by omega) (by omega) (by omega) (by omega)
  obtain ⟨c1, c3, c4, c5, c6, c7, c8, c9, c10, c11, c12⟩ := c
  obtain ⟨⟨⟨r3, r5, r7, r9, r11⟩, rp, rw_, ro, rt, rr, rs⟩, G, L⟩ := H
  have n8 := G.1.2
  have n5 := G.2.1.2
  have na := G.2.2.1.2
  refine ⟨⟨⟨?_, ?_, ?_, ?_, ?_⟩, fun p hp => ?_, fun w hw => ?_, fun i hi => ?_, fun i hi => ?_, fun i hi => ?_, fun i hi => ?_⟩, G.eq eS, fun a ha => ?_⟩
  · rw [c3, r3, eS _ (by omega)]
  · rw [c5, r5, eS _ (by omega)]
  · rw [c7, r7, eS _ (by omega)]
  · rw [c9, r9, eS _ (by omega)]
  · rw [c11, r11, eS _ (by omega)]
  · obtain ⟨q, h1', h2⟩ := rp p hp
    refine ⟨q, by rw [(c1 p (by omega)).1]; exact h1', ?_⟩
    unfold PO
    rw [x.2.1, eo q h2.1, eS _ (by omega), eS _ (by omega), eS _ (by omega), eS _ (by omega)]; exact h2
  · obtain ⟨q, h1', h2⟩ := rw_ w hw
    refine ⟨q, by rw [c6 w (by omega)]; exact h1', ?_⟩
    unfold WO
    rw [x.2.1, eo q h2.1, eS _ (by omega), eS _ (by omega), eS _ (by omega), eS _ (by omega), eS _ (by omega), eS _ (by omega)]; exact h2
  · rw [(c1 i hi).2.1, (c1 i hi).2.2, eS _ (by omega), eS _ (by omega)]; exact ro i hi
  · rw [c8 i hi, eS _ (by omega)]; exact rt i hi
  · rw [c10 i hi, eS _ (by omega)]; exact rr i hi
  · rw [c12 i hi, eS _ (by omega)]; exact rs i hi
  · obtain ⟨lq, cl, n, cs, q1, q2⟩ := L a ha
    exact ⟨lq, cl, n, cs, by rw [c4 a (by omega)]; exact q1, (q2.cf x hd).eq (by omega) eS⟩
theorem TY.cp {h h1 : AH} {d s : Nat} (x : CF d h h1) (c : CPF h h1 d s) (H : TY h s) : TY h1 d := by
  obtain ⟨c1, c3, c4, c5, c6, -⟩ := c
  exact ⟨fun p hp => by rw [(c1 p hp).1]; exact (H.1 p hp).cf x, fun p hp => by rw [c4 p hp]; exact (H.2.1 p hp).cf x, fun p hp => by rw [c6 p hp]; exact (H.2.2 p hp).cf x⟩
theorem TY.cf {h h1 : AH} {d b : Nat} (x : CF d h h1) (n : b + 8 < d ∨ d + 8 < b) (H : TY h b) : TY h1 b := by
  have e : ∀ i, i ≤ 8 → hQ h1 (b + i) = hQ h (b + i) := fun i hi => x.2.2.2.2 _ (by omega) (by omega) (by omega)
  exact ⟨fun p hp => by rw [e 1 (by omega)]; exact (H.1 p hp).cf x, fun p hp => by rw [e 4 (by omega)]; exact (H.2.1 p hp).cf x, fun p hp => by rw [e 5 (by omega)]; exact (H.2.2 p hp).cf x⟩
theorem CF.hb {h h1 : AH} {d : Nat} (x : CF d h h1) (H : HB h) : HB h1 := by
  unfold HB
  rw [x.1, x.2.1]; exact H
theorem cpy_l {f g : Nat → Int32} : ∀ j, j < 938 → cpyI f g 938 j = f j := fun j hj => if_pos hj
theorem s_image (g : GG) (h : AH) (B : Nat) (H : INV h B) : SIMI g h B mX11_image mX12_image [] := by
  obtain ⟨hL, hb, ty1, ty2, ⟨N, hs⟩, hi, ⟨rn, r1, r2, r3, r4⟩, hd⟩ := id H
  have hX := hs.xn hL
  have G := hs.2.1
  refine ⟨nI N.1, fun h1 => ∃ h0, CF (B + 10) h h0 ∧ CPF h h0 (B + 10) (B + 1) ∧ h1 = setI h0 B 2 1, 2, 0, 0, 1, ⟨by decide, by decide, by decide, by decide⟩, (x_image g h B hL ty1 (fun i hi => by rw [hX.tp hi]; exact fit_b _)).weak (fun v h1 q => ?_), fun h1 k1 => ?_⟩
  · obtain ⟨h0, q1, q2, q3, q4⟩ := q
    exact ⟨by rw [q4, hX.f3], h0, q1, q2, q3⟩
  · obtain ⟨h0, cf, cp, rfl⟩ := k1
    have l0 : LY h0 B := cf.ly (Or.inr rfl) hL
    have e : ∀ q, q ≠ 10 → q ≠ 12 → q ≠ 13 → q ≠ 16 → q ≠ 17 → q ≠ 18 → hI h0 (B + q) = hI h (B + q) := fun q a1 a2 a3 a4 a5 a6 => cf.2.2.2.1 _ (by omega) (by omega) (by omega) (by omega) (by omega) (by omega)
    have e1 : ∀ q, q ≠ 0 → hI (setI h0 B 2 1) (B + q) = hI h0 (B + q) := fun q hq => hI_setI_n (by omega)
    refine ⟨l0, (m_image g (setI h0 B 2 1) B l0).weak (fun v h2 q => ⟨?_, ?_⟩)⟩
    · rw [q.1, e1 52 (by omega), e 52 (by omega) (by omega) (by omega) (by omega) (by omega) (by omega), G.1.1]
    · obtain ⟨-, q2⟩ := q
      have hBN := hL.2.2
      have f1 : FR (fun a => a = B) h0 (setI h0 B 2 1) := FR.I FR.rf rfl
      have f2 : FR (fun a => a = B ∨ a = B + 51 ∨ a = B + 53) h0 h2 := by
        rw [q2]
        exact FR.I ((f1.mo (fun a z => Or.inl z)).tr ⟨rfl, rfl, rfl, fun _ _ => rfl, fun a na => hI_Rn (fun z => na (Or.inr (Or.inr z)))⟩) (Or.inr (Or.inl rfl))
      have g53 : hI h2 (B + 53) = cpyI (hI h (B + 52)) (hI h0 (B + 53)) 938 := by
        rw [q2, hI_setI_n (by omega), hI_R, e1 52 (by omega), e1 53 (by omega), e 52 (by omega) (by omega) (by omega) (by omega) (by omega) (by omega)]
      have g51 : ∀ k, k ≠ 3 → hI h2 (B + 51) k = hI h (B + 51) k := fun k hk => by
        rw [q2, hI_setI_s, upd_n hk, hI_Rn (by omega), e1 51 (by omega), e 51 (by omega) (by omega) (by omega) (by omega) (by omega) (by omega)]
      have g3 : hI h2 (B + 51) 3 = 1 := by rw [q2, hI_setI_s, upd_s]
      have g0 : hI h2 B 2 = 1 := by rw [q2, hI_setI_n (by omega), hI_Rn (by omega), hI_setI_s, upd_s]
      have gg : ∀ q, q ≠ 0 → q ≠ 51 → q ≠ 53 → q ≠ 10 → q ≠ 12 → q ≠ 13 → q ≠ 16 → q ≠ 17 → q ≠ 18 → hI h2 (B + q) = hI h (B + q) := fun q a0 a1 a2 a3 a4 a5 a6 a7 a8 => (f2.2.2.2.2 _ (by omega)).trans (e q a3 a4 a5 a6 a7 a8)
      refine ⟨f2.ly l0, f2.hb (cf.hb hb), f2.ty (ty1.cf cf (by omega)), f2.ty (TY.cp cf cp ty1), ⟨N, ?_⟩, Or.inr ⟨by rw [g0]; decide, by rw [g3]; decide, N, ?_⟩, ⟨rn, r1, ?_, ?_, ?_⟩, ?_⟩
      · rw [gg 52 (by omega) (by omega) (by omega) (by omega) (by omega) (by omega) (by omega) (by omega) (by omega)]
        exact (hs.cf cf (by omega) (by omega) (by omega)).frg f2 (fun q z => by omega)
      · rw [g53]
        exact (hs.cp cf cp (by omega) (S' := cpyI (hI h (B + 52)) (hI h0 (B + 53)) 938) cpy_l).frg f2 (fun q z => by omega)
      · rw [gg 19 (by omega) (by omega) (by omega) (by omega) (by omega) (by omega) (by omega) (by omega) (by omega)]; exact r2
      · rw [g51 21 (by decide)]; exact r3
      · rw [gg 20 (by omega) (by omega) (by omega) (by omega) (by omega) (by omega) (by omega) (by omega) (by omega), gg 61 (by omega) (by omega) (by omega) (by omega) (by omega) (by omega) (by omega) (by omega) (by omega)]; exact r4
      · rw [gg 56 (by omega) (by omega) (by omega) (by omega) (by omega) (by omega) (by omega) (by omega) (by omega)]; exact hd
theorem s_undo (g : GG) (h : AH) (B : Nat) (H : INV h B) : SIMI g h B mX11_undo mX12_undo [] := by
  obtain ⟨hL, hb, ty1, ty2, ⟨N, hs⟩, hi, ⟨rn, r1, r2, r3, r4⟩, hd⟩ := id H
  rcases hi with ⟨i1, i2⟩ | ⟨i1, i2, M, i3⟩
  · refine ⟨-3, fun h1 => h1 = h, 2, 0, 0, 1, ⟨by decide, by decide, by decide, by decide⟩, (x_undo g h B hL (fun q => absurd i1 q)).weak (fun v h1 q => ?_), fun h1 k1 => ?_⟩
    · rw [if_pos i1] at q; exact q
    · subst k1
      refine ⟨hL, (m_undo g h1 B hL).weak (fun v h2 q => ?_)⟩
      rw [if_pos i2] at q
      exact ⟨q.1, by rw [q.2]; exact H⟩
  · refine ⟨nI M.1, fun h1 => CF (B + 1) h h1 ∧ CPF h h1 (B + 1) (B + 10), 2, 0, 0, 1, ⟨by decide, by decide, by decide, by decide⟩, (x_undo g h B hL (fun _ => ⟨ty2, fun i hi => by rw [show B + 16 = B + 10 + 6 from rfl, i3.1.2.2.2.2.1 i hi]; exact fit_b _⟩)).weak (fun v h1 q => ?_), fun h1 k1 => ?_⟩
    · rw [if_neg i1] at q
      exact ⟨by rw [q.2.2, i3.1.1.1, i3.2.1.1.1], q.1, q.2.1⟩
    · obtain ⟨cf, cp⟩ := k1
      have l1 : LY h1 B := cf.ly (Or.inl rfl) hL
      have e : ∀ q, q ≠ 1 → q ≠ 3 → q ≠ 4 → q ≠ 7 → q ≠ 8 → q ≠ 9 → hI h1 (B + q) = hI h (B + q) := fun q a1 a2 a3 a4 a5 a6 => cf.2.2.2.1 _ (by omega) (by omega) (by omega) (by omega) (by omega) (by omega)
      have e0 : hI h1 B = hI h B := cf.2.2.2.1 _ (by omega) (by omega) (by omega) (by omega) (by omega) (by omega)
      have E : ∀ q, 10 ≤ q → hI h1 (B + q) = hI h (B + q) := fun q hq => e q (by omega) (by omega) (by omega) (by omega) (by omega) (by omega)
      refine ⟨l1, (m_undo g h1 B l1).weak (fun v h2 q => ?_)⟩
      rw [E 51 (by omega), if_neg i2, E 53 (by omega), E 52 (by omega)] at q
      obtain ⟨q1, q2⟩ := q
      refine ⟨by rw [q1, i3.2.1.1.1], ?_⟩
      have fr : FR (Amo B) h1 h2 := by
        rw [q2]
        exact ⟨rfl, rfl, rfl, fun _ _ => rfl, fun a na => hI_Rn (fun q => na (by unfold Amo; omega))⟩
      have e2 : ∀ q, q ≠ 52 → hI h2 (B + q) = hI h1 (B + q) := fun q hq => by rw [q2]; exact hI_Rn (by omega)
      have e20 : hI h2 B = hI h1 B := by rw [q2]; exact hI_Rn (by omega)
      refine ⟨fr.ly l1, fr.hb (cf.hb hb), fr.ty (TY.cp cf cp ty2), fr.ty (ty2.cf cf (by omega)), ⟨M, ?_⟩, Or.inr ⟨by rw [e20, e0]; exact i1, by rw [e2 51 (by omega), E 51 (by omega)]; exact i2, M, ?_⟩, ⟨rn, r1, ?_, ?_, ?_⟩, ?_⟩
      · rw [q2, hI_R, ← q2]
        exact (i3.cp cf cp (by omega) (S' := cpyI (hI h (B + 53)) (hI h (B + 52)) 938) cpy_l).frm fr (by omega)
      · rw [e2 53 (by omega), E 53 (by omega)]
        exact (i3.cf cf (by omega) (by omega) (by omega)).frm fr (by omega)
      · rw [e2 19 (by omega), E 19 (by omega)]; exact r2
      · rw [e2 51 (by omega), E 51 (by omega)]; exact r3
      · rw [e2 20 (by omega), e2 61 (by omega), E 20 (by omega), E 61 (by omega)]; exact r4
      · rw [e2 56 (by omega), E 56 (by omega)]; exact hd
