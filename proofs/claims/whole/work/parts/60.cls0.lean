/-! ===== the class: its cells and the row of the model ===== -/
/-- of a break's kind the class of its object -/
def kdP (k : Int32) : Nat := if k = 1 then 9 else if k = 2 then 0 else if k = 3 then 3 else if k = 4 then 4 else if k = 5 then 5 else if k = 6 then 6 else 2
def PO (h : AH) (B : Nat) (S : Nat → Int32) (p q : Nat) : Prop := B + 62 ≤ q ∧ hT h q = (kdP (S (130 + p)), 0) ∧ hI h q 0 = nI p ∧ hI h q 1 = S (130 + p) ∧ hI h q 2 = S (138 + p) ∧ hI h q 3 = S (146 + p) ∧ hI h q 4 = S (154 + p)
def WO (h : AH) (B : Nat) (S : Nat → Int32) (w q : Nat) : Prop := B + 62 ≤ q ∧ hT h q = (10, 0) ∧ hI h q 0 = S (178 + w) ∧ hI h q 1 = S (183 + w) ∧ hI h q 2 = S (188 + w) ∧ hI h q 3 = S (193 + w) ∧ hI h q 4 = S (198 + w) ∧ hI h q 5 = S (203 + w)
/-- how many of each: breaks, works, laws, the row, the tape -/
abbrev NN : Type := Nat × Nat × Nat × Nat × Nat
def RGp (S : Nat → Int32) (p : Nat) : Prop := oO (S (130 + p)) 0 6 = false ∧ oO (S (138 + p)) 0 39 = false ∧ oO (S (146 + p)) 0 99 = false ∧ oO (S (154 + p)) 0 9 = false ∧ oO (S (162 + p)) 0 10 = false ∧ oO (S (170 + p)) 0 10 = false ∧ ¬ 10 < S (162 + p) + S (170 + p)
def RGw (S : Nat → Int32) (w : Nat) : Prop := oO (S (178 + w)) 0 9 = false ∧ oO (S (183 + w)) 1 99 = false ∧ oO (S (188 + w)) 1 40 = false ∧ oO (S (193 + w)) 0 99 = false ∧ oO (S (198 + w)) 0 39 = false ∧ oO (S (203 + w)) 0 40 = false
def RG (S : Nat → Int32) (N : NN) : Prop :=
  (S 0 = nI N.1 ∧ N.1 ≤ 8) ∧ (S 1 = nI N.2.1 ∧ N.2.1 ≤ 5) ∧ (S 2 = nI N.2.2.1 ∧ N.2.2.1 ≤ 5) ∧ (S 3 = nI N.2.2.2.1 ∧ N.2.2.2.1 ≤ 20) ∧ (S 4 = nI N.2.2.2.2 ∧ N.2.2.2.2 ≤ 120) ∧
  (oO (S 5) 0 9 = false ∧ oO (S 6) 1 9 = false ∧ oO (S 7) 1 999 = false ∧ S 8 = nI N.2.2.1 - 1) ∧
  (∀ p, p < N.1 → RGp S p) ∧ (∀ w, w < N.2.1 → RGw S w) ∧ (∀ a, a < N.2.2.1 → oO (S (208 + a)) 0 999 = false) ∧ (∀ i, i < N.2.2.2.1 → oO (S (918 + i)) (-99) 999 = false) ∧ (∀ i, i < 120 → oO (S (10 + i)) 0 255 = false)
/-- the State at b stands for the row S -/
def RS (h : AH) (B b : Nat) (S : Nat → Int32) (N : NN) : Prop :=
  (hI h b 3 = S 0 ∧ hI h b 5 = S 2 ∧ hI h b 7 = S 1 ∧ hI h b 9 = S 4 ∧ hI h b 11 = S 3) ∧
  (∀ p, p < N.1 → ∃ q, hQ h (b + 1) p = some q ∧ PO h B S p q) ∧ (∀ w, w < N.2.1 → ∃ q, hQ h (b + 5) w = some q ∧ WO h B S w q) ∧
  (∀ i, i < 8 → hI h (b + 2) i = S (162 + i) ∧ hI h (b + 3) i = S (170 + i)) ∧ (∀ i, i < 120 → hI h (b + 6) i = (S (10 + i)).toInt8.toInt32) ∧ (∀ i, i < 20 → hI h (b + 7) i = S (918 + i)) ∧ (∀ i, i < 3 → hI h (b + 8) i = S (5 + i))
/-- rows to reckon in -/
def Ay (B vq a : Nat) : Prop := a = vq ∨ (B + 21 ≤ a ∧ a < B + 51)
theorem PO.fr {h h' : AH} {B vq p q : Nat} {S : Nat → Int32} (x : FR (Ay B vq) h h') (hv : hT h vq = (14, 5)) (H : PO h B S p q) : PO h' B S p q := by
  have hq : q ≠ vq := fun e => by have := H.2.1; rw [e, hv] at this; exact absurd (show (5 : Nat) = 0 from congrArg Prod.snd this) (by decide)
  have e : hI h' q = hI h q := x.2.2.2.2 q (by unfold Ay; have := H.1; omega)
  unfold PO
  rw [e, x.2.1]; exact H
theorem WO.fr {h h' : AH} {B vq p q : Nat} {S : Nat → Int32} (x : FR (Ay B vq) h h') (hv : hT h vq = (14, 5)) (H : WO h B S p q) : WO h' B S p q := by
  have hq : q ≠ vq := fun e => by have := H.2.1; rw [e, hv] at this; exact absurd (show (5 : Nat) = 0 from congrArg Prod.snd this) (by decide)
  have e : hI h' q = hI h q := x.2.2.2.2 q (by unfold Ay; have := H.1; omega)
  unfold WO
  rw [e, x.2.1]; exact H
theorem RS.fr {h h' : AH} {B vq b : Nat} {S : Nat → Int32} {N : NN} (x : FR (Ay B vq) h h') (hv : hT h vq = (14, 5)) (hv2 : B + 62 ≤ vq) (hb : b + 8 < B + 21) (H : RS h B b S N) : RS h' B b S N := by
  have e : ∀ i, i ≤ 8 → hI h' (b + i) = hI h (b + i) := fun i hi => x.2.2.2.2 _ (by unfold Ay; omega)
  have e0 := e 0 (by omega)
  rw [Nat.add_zero] at e0
  unfold RS
  rw [e0, e 2 (by omega), e 3 (by omega), e 6 (by omega), e 7 (by omega), e 8 (by omega), x.2.2.1]
  refine ⟨H.1, fun p hp => ?_, fun w hw => ?_, H.2.2.2⟩
  · obtain ⟨q, h1, h2⟩ := H.2.1 p hp; exact ⟨q, h1, h2.fr x hv⟩
  · obtain ⟨q, h1, h2⟩ := H.2.2.1 w hw; exact ⟨q, h1, h2.fr x hv⟩
/-- x at B and the row S -/
def XN (h : AH) (B : Nat) (S : Nat → Int32) (N : NN) : Prop := LY h B ∧ RS h B (B + 1) S N ∧ RG S N
/-- the newest law: its object, its values, its number -/
def Lw (h : AH) (B lq vq hl : Nat) (S : Nat → Int32) (N : NN) : Prop := hl + 1 = N.2.2.1 ∧ hQ h (B + 5) hl = some lq ∧ B + 62 ≤ lq ∧ hT h lq = (1, 0) ∧ hI h lq 3 = S (208 + hl) ∧ B + 62 ≤ vq ∧ hT h vq = (14, 5)
def Xv (B vq a : Nat) : Prop := a = vq ∧ B ≤ a
def PcX (g : GG) (h : AH) (B lq vq : Nat) (P : PF) : Prop := ∀ h1, FR (Ay B vq) h h1 → ∀ a c z k t : Int32, AM g 3 0 0 mX1_percent [.ref lq, .int a, .int c, .int z, .int k, .int t] h1 (fun rv h' => rv = some (.int (P a c z k t)) ∧ FR (Xv B vq) h1 h')
/-- numbers that a law may give -/
def PB (P : PF) : Prop := ∀ a c z k t : Int32, 0 ≤ (P a c z k t).toInt ∧ (P a c z k t).toInt ≤ 7992
def CX (g : GG) (h : AH) (B vq lq hl : Nat) (S : Nat → Int32) (N : NN) (P : PF) : Prop := XN h B S N ∧ Lw h B lq vq hl S N ∧ PcX g h B lq vq P ∧ PB P
theorem CX.ly {g : GG} {h : AH} {B vq lq hl : Nat} {S : Nat → Int32} {N : NN} {P : PF} (H : CX g h B vq lq hl S N P) : LY h B := H.1.1
theorem CX.fr {g : GG} {h h' : AH} {B vq lq hl : Nat} {S : Nat → Int32} {N : NN} {P : PF} (H : CX g h B vq lq hl S N P) (x : FR (Ay B vq) h h') : CX g h' B vq lq hl S N P := by
  obtain ⟨⟨h1, h2, h3⟩, ⟨l1, l2, l3, l4, l5, l6, l7⟩, hp, hb⟩ := H
  have hne : lq ≠ vq := fun e => by rw [e, l7] at l4; exact absurd (show (14 : Nat) = 1 from congrArg Prod.fst l4) (by decide)
  have e : hI h' lq = hI h lq := x.2.2.2.2 lq (by unfold Ay; omega)
  exact ⟨⟨x.ly h1, h2.fr x l7 l6 (by omega), h3⟩, ⟨l1, by rw [x.2.2.1]; exact l2, l3, by rw [x.2.1]; exact l4, by rw [e]; exact l5, l6, by rw [x.2.1]; exact l7⟩, fun h1 y => hp h1 (x.tr y), hb⟩
theorem Xv.y {B vq a : Nat} (h : Xv B vq a) : Ay B vq a := Or.inl h.1
section XNA
variable {h : AH} {B : Nat} {S : Nat → Int32} {N : NN}
theorem XN.f3 (H : XN h B S N) : hI h (B + 1) 3 = nI N.1 := H.2.1.1.1.trans H.2.2.1.1
theorem XN.f5 (H : XN h B S N) : hI h (B + 1) 5 = nI N.2.2.1 := H.2.1.1.2.1.trans H.2.2.2.2.1.1
theorem XN.f7 (H : XN h B S N) : hI h (B + 1) 7 = nI N.2.1 := H.2.1.1.2.2.1.trans H.2.2.2.1.1
theorem XN.f9 (H : XN h B S N) : hI h (B + 1) 9 = nI N.2.2.2.2 := H.2.1.1.2.2.2.1.trans H.2.2.2.2.2.2.1.1
theorem XN.f11 (H : XN h B S N) : hI h (B + 1) 11 = nI N.2.2.2.1 := H.2.1.1.2.2.2.2.trans H.2.2.2.2.2.1.1
theorem XN.np (H : XN h B S N) : N.1 ≤ 8 := H.2.2.1.2
theorem XN.nw (H : XN h B S N) : N.2.1 ≤ 5 := H.2.2.2.1.2
theorem XN.nl (H : XN h B S N) : N.2.2.1 ≤ 5 := H.2.2.2.2.1.2
theorem XN.rn (H : XN h B S N) : N.2.2.2.1 ≤ 20 := H.2.2.2.2.2.1.2
theorem XN.tn (H : XN h B S N) : N.2.2.2.2 ≤ 120 := H.2.2.2.2.2.2.1.2
theorem XN.ps (H : XN h B S N) {p : Nat} (hp : p < N.1) : ∃ q, hQ h (B + 2) p = some q ∧ PO h B S p q := H.2.1.2.1 p hp
theorem XN.ws (H : XN h B S N) {w : Nat} (hw : w < N.2.1) : ∃ q, hQ h (B + 6) w = some q ∧ WO h B S w q := H.2.1.2.2.1 w hw
theorem XN.on (H : XN h B S N) {i : Nat} (hi : i < 8) : hI h (B + 3) i = S (162 + i) := (H.2.1.2.2.2.1 i hi).1
theorem XN.oe (H : XN h B S N) {i : Nat} (hi : i < 8) : hI h (B + 4) i = S (170 + i) := (H.2.1.2.2.2.1 i hi).2
theorem XN.tp (H : XN h B S N) {i : Nat} (hi : i < 120) : hI h (B + 7) i = (S (10 + i)).toInt8.toInt32 := H.2.1.2.2.2.2.1 i hi
theorem XN.ro (H : XN h B S N) {i : Nat} (hi : i < 20) : hI h (B + 8) i = S (918 + i) := H.2.1.2.2.2.2.2.1 i hi
theorem XN.st (H : XN h B S N) {i : Nat} (hi : i < 3) : hI h (B + 9) i = S (5 + i) := H.2.1.2.2.2.2.2.2 i hi
theorem XN.r6 (H : XN h B S N) : oO (S 6) 1 9 = false := H.2.2.2.2.2.2.2.1.2.1
theorem XN.r7 (H : XN h B S N) : oO (S 7) 1 999 = false := H.2.2.2.2.2.2.2.1.2.2.1
theorem XN.rp (H : XN h B S N) {p : Nat} (hp : p < N.1) : RGp S p := H.2.2.2.2.2.2.2.2.1 p hp
theorem XN.rw_ (H : XN h B S N) {w : Nat} (hw : w < N.2.1) : RGw S w := H.2.2.2.2.2.2.2.2.2.1 w hw
theorem XN.rm (H : XN h B S N) {a : Nat} (ha : a < N.2.2.1) : oO (S (208 + a)) 0 999 = false := H.2.2.2.2.2.2.2.2.2.2.1 a ha
end XNA
/-- at least 1 -/
theorem mx1 {n b : Int32} (h : oO n 1 b = false) : (if 1 < n then n else 1) = n := by
  simp only [oO, Bool.or_eq_false_iff, decide_eq_false_iff_not, Int32.not_lt] at h
  split
  · rfl
  · rename_i q; exact Int32.le_antisymm h.1 (Int32.not_lt.mp q)
theorem ge1_ne {n b : Int32} (h : oO n 1 b = false) : ¬ n = 0 := fun e => by
  subst e
  simp only [oO, Bool.or_eq_false_iff, decide_eq_false_iff_not] at h
  exact h.1 (by decide)
theorem kd_c {k : Int32} (h : oO k 0 6 = false) : k = 0 ∨ k = 1 ∨ k = 2 ∨ k = 3 ∨ k = 4 ∨ k = 5 ∨ k = 6 := by
  obtain ⟨h1, h2⟩ := oO_le (b := 6) (by decide) h
  obtain ⟨e, _⟩ := h1.eq
  generalize k.toNatClampNeg = n at *
  subst e
  have : n = 0 ∨ n = 1 ∨ n = 2 ∨ n = 3 ∨ n = 4 ∨ n = 5 ∨ n = 6 := by omega
  rcases this with e | e | e | e | e | e | e <;> subst e <;> decide
set_option maxRecDepth 100000 in
theorem x_heads (g : GG) (h : AH) (B vq lq hl : Nat) (S : Nat → Int32) (N : NN) (P : PF) (hC : CX g h B vq lq hl S N P) (z : Int32) : AM g 1 0 0 mX7_heads [.ref (B + 1), .int z] h (fun rv h' => rv = some (.int (z / S 6)) ∧ h' = h) := by
  refine AM.of [(0, .ref (B + 1)), (1, .int z)] (by decide) (Nat.le_of_ble_eq_true rfl) rfl ?_
  intro V hV
  have hb : V.2.1.2.1 = cX7_heads := by subst hV; rfl
  have ow : V.2.1.1.cls = RX7 := by subst hV; rfl
  have hr : V.2.2.1 = aw_rm 1 0 0 := by subst hV; rfl
  have hz : V.2.2.2 = aw_Z V.1 (fun rv h' => rv = some (.int (z / S 6)) ∧ h' = h) V.2.2.1 := by subst hV; rfl
  have hg : V.1 = g := by subst hV; rfl
  have hret : V.2.1.2.2.2 = (some .int) := by subst hV; rfl
  have hml : V.2.1.2.2.1 = 2 := by subst hV; rfl
  clear hV
  have hvq : B + 62 ≤ vq := hC.2.1.2.2.2.2.2.1
  have hnp := hC.1.np
  have hnw := hC.1.nw
  refine a_iload_n hb dX7_heads_0 rfl 1 rfl ?_
  refine a_iconst (v := 1) hb dX7_heads_1 (by decide) ?_
  refine a_aload_n hb dX7_heads_2 rfl 0 rfl ?_
  refine a_getQ (q := (B + 9)) hb dX7_heads_3 (by rw [ow]; exact fl_RX7_59_7) (hC.1.1.1 1 (by decide)) (hC.1.1.2.1 (1, 12, 9) (by decide)) ?_
  refine a_iconst (v := 1) hb dX7_heads_6 (by decide) ?_
  refine b_iald (j := 1) hb dX7_heads_7 (hC.1.1.1 9 (by decide)) ⟨by decide, by decide⟩ (by decide) ?_
  rw [hC.1.st (i := 1) (by decide)]
  show AW V 0 0 h 8 [(0, .ref (B + 1)), (1, .int z)] [.int (S 6), .int 1, .int z]
  refine a_mmax hb dX7_heads_8 (by rw [ow]; exact kw_647) kw_490 kw_94 kw_491 (by rw [hr]; exact ⟨by decide, Nat.le_of_ble_eq_true rfl⟩) (by rw [hr]; exact ⟨Nat.le_of_ble_eq_true rfl, Nat.le_of_ble_eq_true rfl⟩) ?_
  rw [mx1 hC.1.r6]
  show AW V 0 0 h 11 [(0, .ref (B + 1)), (1, .int z)] [.int (S 6), .int z]
  refine a_idiv hb dX7_heads_11 (ge1_ne hC.1.r6) ?_
  exact a_ireturn (ty := .int) hb hz dX7_heads_12 hret rfl (by rw [hr]; exact Nat.le_of_ble_eq_true rfl) (by rw [hr]; exact Nat.le_of_ble_eq_true rfl) (⟨rfl, rfl⟩)
set_option maxRecDepth 100000 in
theorem x_newestLaw (g : GG) (h : AH) (B vq lq hl : Nat) (S : Nat → Int32) (N : NN) (P : PF) (hC : CX g h B vq lq hl S N P) : AM g 1 0 0 mX7_newestLaw [.ref (B + 1)] h (fun rv h' => rv = some (.ref lq) ∧ h' = h) := by
  refine AM.of [(0, .ref (B + 1))] (by decide) (Nat.le_of_ble_eq_true rfl) rfl ?_
  intro V hV
  have hb : V.2.1.2.1 = cX7_newestLaw := by subst hV; rfl
  have ow : V.2.1.1.cls = RX7 := by subst hV; rfl
  have hr : V.2.2.1 = aw_rm 1 0 0 := by subst hV; rfl
  have hz : V.2.2.2 = aw_Z V.1 (fun rv h' => rv = some (.ref lq) ∧ h' = h) V.2.2.1 := by subst hV; rfl
  have hg : V.1 = g := by subst hV; rfl
  have hret : V.2.1.2.2.2 = (some (.object "KettleBeats$Law")) := by subst hV; rfl
  have hml : V.2.1.2.2.1 = 1 := by subst hV; rfl
  clear hV
  have hvq : B + 62 ≤ vq := hC.2.1.2.2.2.2.2.1
  have hnp := hC.1.np
  have hnw := hC.1.nw
  have hl1 : hl + 1 = N.2.2.1 := hC.2.1.1
  have hnl := hC.1.nl
  refine a_aload_n hb dX7_newestLaw_0 rfl 0 rfl ?_
  refine a_getI hb dX7_newestLaw_1 (by rw [ow]; exact fl_RX7_34_7) (hC.1.1.1 1 (by decide)) ?_
  rw [hC.1.f5]
  show AW V 0 0 h 4 [(0, .ref (B + 1))] [.int (nI N.2.2.1)]
  refine a_if_ne hb 11 dX7_newestLaw_4 (by decide) (fun c4 => ?_) (fun c4 => absurd c4 (nI_ne0 (by omega) (by omega)))
  refine a_aload_n hb dX7_newestLaw_11 rfl 0 rfl ?_
  refine a_getQ (q := (B + 5)) hb dX7_newestLaw_12 (by rw [ow]; exact fl_RX7_30_7) (hC.1.1.1 1 (by decide)) (hC.1.1.2.1 (1, 4, 5) (by decide)) ?_
  refine a_aload_n hb dX7_newestLaw_15 rfl 0 rfl ?_
  refine a_getI hb dX7_newestLaw_16 (by rw [ow]; exact fl_RX7_34_7) (hC.1.1.1 1 (by decide)) ?_
  rw [hC.1.f5]
  show AW V 0 0 h 19 [(0, .ref (B + 1))] [.int (nI N.2.2.1), .ref (B + 5)]
  refine a_iconst (v := 1) hb dX7_newestLaw_19 (by decide) ?_
  refine a_isub hb dX7_newestLaw_20 ?_
  refine b_aaldS (j := hl) (q := lq) hb dX7_newestLaw_21 (hC.1.1.1 5 (by decide)) (by decide) (by decide) (by rw [← hl1, ← nI_1, Int32.add_sub_cancel]; exact IX.n (by omega)) (by omega) hC.2.1.2.1 ?_
  exact a_areturn (ty := (.object "KettleBeats$Law")) hb hz dX7_newestLaw_22 hret (Or.inl ⟨_, rfl⟩) (by rw [hr]; exact Nat.le_of_ble_eq_true rfl) (by rw [hr]; exact Nat.le_of_ble_eq_true rfl) (⟨rfl, rfl⟩)
set_option maxRecDepth 100000 in
theorem x_percent (g : GG) (h : AH) (B vq lq hl : Nat) (S : Nat → Int32) (N : NN) (P : PF) (hC : CX g h B vq lq hl S N P) (z k a t : Int32) : AM g 4 0 0 mX7_percent [.ref (B + 1), .int z, .int k, .int a, .int t] h (fun rv h' => rv = some (.int (P a (S 5) z k t)) ∧ FR (Xv B vq) h h') := by
  refine AM.of [(0, .ref (B + 1)), (1, .int z), (2, .int k), (3, .int a), (4, .int t)] (by decide) (Nat.le_of_ble_eq_true rfl) rfl ?_
  intro V hV
  have hb : V.2.1.2.1 = cX7_percent := by subst hV; rfl
  have ow : V.2.1.1.cls = RX7 := by subst hV; rfl
  have hr : V.2.2.1 = aw_rm 4 0 0 := by subst hV; rfl
  have hz : V.2.2.2 = aw_Z V.1 (fun rv h' => rv = some (.int (P a (S 5) z k t)) ∧ FR (Xv B vq) h h') V.2.2.1 := by subst hV; rfl
  have hg : V.1 = g := by subst hV; rfl
  have hret : V.2.1.2.2.2 = (some .int) := by subst hV; rfl
  have hml : V.2.1.2.2.1 = 6 := by subst hV; rfl
  clear hV
  have hvq : B + 62 ≤ vq := hC.2.1.2.2.2.2.2.1
  have hnp := hC.1.np
  have hnw := hC.1.nw
  refine a_aload_n hb dX7_percent_0 rfl 0 rfl ?_
  refine a_callV hb dX7_percent_1 (by rw [hg]; exact x_newestLaw g h B vq lq hl S N P hC) (by rw [ow]; exact clv_RX7_74) (hC.1.1.1 1 (by decide)) (by decide) rfl rfl rfl (Nat.le_of_ble_eq_true rfl) (by rw [hr]; exact ⟨by decide, by decide⟩) (by rw [hr]; exact ⟨Nat.le_of_ble_eq_true rfl, Nat.le_of_ble_eq_true rfl⟩) ?_
  intro rv h' hq_
  rw [hq_.1, hq_.2]
  show AW V 0 0 h 4 [(0, .ref (B + 1)), (1, .int z), (2, .int k), (3, .int a), (4, .int t)] [.ref lq]
  refine a_astore (L' := [(5, .ref lq), (0, .ref (B + 1)), (1, .int z), (2, .int k), (3, .int a), (4, .int t)]) hb dX7_percent_4 (by rw [hml]; decide) rfl ?_
  refine a_aload hb dX7_percent_6 0 rfl ?_
  refine a_ifnonnull hb 15 dX7_percent_8 (by decide) ?_
  refine a_aload hb dX7_percent_15 0 rfl ?_
  refine a_iload_n hb dX7_percent_17 rfl 4 rfl ?_
  refine a_aload_n hb dX7_percent_18 rfl 1 rfl ?_
  refine a_getQ (q := (B + 9)) hb dX7_percent_19 (by rw [ow]; exact fl_RX7_59_7) (hC.1.1.1 1 (by decide)) (hC.1.1.2.1 (1, 12, 9) (by decide)) ?_
  refine a_iconst (v := 0) hb dX7_percent_22 (by decide) ?_
  refine b_iald (j := 0) hb dX7_percent_23 (hC.1.1.1 9 (by decide)) ⟨by decide, by decide⟩ (by decide) ?_
  rw [hC.1.st (i := 0) (by decide)]
  show AW V 0 0 h 24 [(5, .ref lq), (0, .ref (B + 1)), (1, .int z), (2, .int k), (3, .int a), (4, .int t)] [.int (S 5), .int a, .ref lq]
  refine a_iload_n hb dX7_percent_24 rfl 2 rfl ?_
  refine a_iload_n hb dX7_percent_25 rfl 3 rfl ?_
  refine a_iload hb dX7_percent_26 5 rfl ?_
  refine a_callV hb dX7_percent_28 (by rw [hg]; exact hC.2.2.1 h (FR.mo (A := Xv B vq) (A' := Ay B vq) FR.rf (by intro a; unfold Xv Ay; omega)) a (S 5) z k t) (by rw [ow]; exact clv_RX7_78) hC.2.1.2.2.2.1 (by decide) rfl rfl rfl (Nat.le_of_ble_eq_true rfl) (by rw [hr]; exact ⟨by decide, by decide⟩) (by rw [hr]; exact ⟨Nat.le_of_ble_eq_true rfl, Nat.le_of_ble_eq_true rfl⟩) ?_
  intro rv h1_ hp
  obtain ⟨hv, hf1⟩ := hp
  rw [hv]
  have hF1 := FR.tr FR.rf hf1
  have hC1 := hC.fr (FR.mo (A := Xv B vq) (A' := Ay B vq) hF1 (by intro a; unfold Xv Ay; omega))
  clear hv
  show AW V 0 0 h1_ 31 [(5, .ref lq), (0, .ref (B + 1)), (1, .int z), (2, .int k), (3, .int a), (4, .int t)] [.int (P a (S 5) z k t)]
  exact a_ireturn (ty := .int) hb hz dX7_percent_31 hret rfl (by rw [hr]; exact Nat.le_of_ble_eq_true rfl) (by rw [hr]; exact Nat.le_of_ble_eq_true rfl) (⟨rfl, hF1⟩)
set_option maxRecDepth 100000 in
theorem x_plain (g : GG) (h : AH) (B vq lq hl : Nat) (S : Nat → Int32) (N : NN) (P : PF) (hC : CX g h B vq lq hl S N P) (z k a t : Int32) : AM g 4 0 0 mX7_plain [.ref (B + 1), .int z, .int k, .int a, .int t] h (fun rv h' => rv = some (.int (plS P S hl k z a t)) ∧ FR (Xv B vq) h h') := by
  refine AM.of [(0, .ref (B + 1)), (1, .int z), (2, .int k), (3, .int a), (4, .int t)] (by decide) (Nat.le_of_ble_eq_true rfl) rfl ?_
  intro V hV
  have hb : V.2.1.2.1 = cX7_plain := by subst hV; rfl
  have ow : V.2.1.1.cls = RX7 := by subst hV; rfl
  have hr : V.2.2.1 = aw_rm 4 0 0 := by subst hV; rfl
  have hz : V.2.2.2 = aw_Z V.1 (fun rv h' => rv = some (.int (plS P S hl k z a t)) ∧ FR (Xv B vq) h h') V.2.2.1 := by subst hV; rfl
  have hg : V.1 = g := by subst hV; rfl
  have hret : V.2.1.2.2.2 = (some .int) := by subst hV; rfl
  have hml : V.2.1.2.2.1 = 7 := by subst hV; rfl
  clear hV
  have hvq : B + 62 ≤ vq := hC.2.1.2.2.2.2.2.1
  have hnp := hC.1.np
  have hnw := hC.1.nw
  refine a_aload_n hb dX7_plain_0 rfl 0 rfl ?_
  refine a_callV hb dX7_plain_1 (by rw [hg]; exact x_newestLaw g h B vq lq hl S N P hC) (by rw [ow]; exact clv_RX7_74) (hC.1.1.1 1 (by decide)) (by decide) rfl rfl rfl (Nat.le_of_ble_eq_true rfl) (by rw [hr]; exact ⟨by decide, by decide⟩) (by rw [hr]; exact ⟨Nat.le_of_ble_eq_true rfl, Nat.le_of_ble_eq_true rfl⟩) ?_
  intro rv h' hq_
  rw [hq_.1, hq_.2]
  show AW V 0 0 h 4 [(0, .ref (B + 1)), (1, .int z), (2, .int k), (3, .int a), (4, .int t)] [.ref lq]
  refine a_astore (L' := [(5, .ref lq), (0, .ref (B + 1)), (1, .int z), (2, .int k), (3, .int a), (4, .int t)]) hb dX7_plain_4 (by rw [hml]; decide) rfl ?_
  refine a_aload hb dX7_plain_6 0 rfl ?_
  refine a_ifnull hb dX7_plain_8 ?_
  refine a_iload_n hb dX7_plain_11 rfl 4 rfl ?_
  refine a_if_ge hb 17 dX7_plain_12 (by decide) (fun c12 => ?_) (fun c12 => ?_)
  · refine a_aload_n hb dX7_plain_17 rfl 1 rfl ?_
    refine a_iload_n hb dX7_plain_18 rfl 2 rfl ?_
    refine a_callV hb dX7_plain_19 (by rw [hg]; exact x_heads g h B vq lq hl S N P hC z) (by rw [ow]; exact clv_RX7_82) (hC.1.1.1 1 (by decide)) (by decide) rfl rfl rfl (Nat.le_of_ble_eq_true rfl) (by rw [hr]; exact ⟨by decide, by decide⟩) (by rw [hr]; exact ⟨Nat.le_of_ble_eq_true rfl, Nat.le_of_ble_eq_true rfl⟩) ?_
    intro rv h' hq_
    rw [hq_.1, hq_.2]
    show AW V 0 0 h 22 [(5, .ref lq), (0, .ref (B + 1)), (1, .int z), (2, .int k), (3, .int a), (4, .int t)] [.int (z / S 6)]
    refine a_aload hb dX7_plain_22 0 rfl ?_
    refine a_iload_n hb dX7_plain_24 rfl 4 rfl ?_
    refine a_aload_n hb dX7_plain_25 rfl 1 rfl ?_
    refine a_getQ (q := (B + 9)) hb dX7_plain_26 (by rw [ow]; exact fl_RX7_59_7) (hC.1.1.1 1 (by decide)) (hC.1.1.2.1 (1, 12, 9) (by decide)) ?_
    refine a_iconst (v := 0) hb dX7_plain_29 (by decide) ?_
    refine b_iald (j := 0) hb dX7_plain_30 (hC.1.1.1 9 (by decide)) ⟨by decide, by decide⟩ (by decide) ?_
    rw [hC.1.st (i := 0) (by decide)]
    show AW V 0 0 h 31 [(5, .ref lq), (0, .ref (B + 1)), (1, .int z), (2, .int k), (3, .int a), (4, .int t)] [.int (S 5), .int a, .ref lq, .int (z / S 6)]
    refine a_iload_n hb dX7_plain_31 rfl 2 rfl ?_
    refine a_iload_n hb dX7_plain_32 rfl 3 rfl ?_
    refine a_iload hb dX7_plain_33 5 rfl ?_
    refine a_callV hb dX7_plain_35 (by rw [hg]; exact hC.2.2.1 h (FR.mo (A := Xv B vq) (A' := Ay B vq) FR.rf (by intro a; unfold Xv Ay; omega)) a (S 5) z k t) (by rw [ow]; exact clv_RX7_78) hC.2.1.2.2.2.1 (by decide) rfl rfl rfl (Nat.le_of_ble_eq_true rfl) (by rw [hr]; exact ⟨by decide, by decide⟩) (by rw [hr]; exact ⟨Nat.le_of_ble_eq_true rfl, Nat.le_of_ble_eq_true rfl⟩) ?_
    intro rv h1_ hp
    obtain ⟨hv, hf1⟩ := hp
    rw [hv]
    have hF1 := FR.tr FR.rf hf1
    have hC1 := hC.fr (FR.mo (A := Xv B vq) (A' := Ay B vq) hF1 (by intro a; unfold Xv Ay; omega))
    clear hv
    show AW V 0 0 h1_ 38 [(5, .ref lq), (0, .ref (B + 1)), (1, .int z), (2, .int k), (3, .int a), (4, .int t)] [.int (P a (S 5) z k t), .int (z / S 6)]
    refine a_imul hb dX7_plain_38 ?_
    refine a_bipush (v := 100) hb dX7_plain_39 (by decide) ?_
    refine a_idiv hb dX7_plain_41 (by decide) ?_
    refine a_istore (L' := [(6, .int (((z / S 6) * (P a (S 5) z k t)) / 100)), (5, .ref lq), (0, .ref (B + 1)), (1, .int z), (2, .int k), (3, .int a), (4, .int t)]) hb dX7_plain_42 (by rw [hml]; decide) rfl ?_
    refine a_iload hb dX7_plain_44 0 rfl ?_
    refine a_aload hb dX7_plain_46 1 rfl ?_
    refine a_getI hb dX7_plain_48 (by rw [ow]; exact fl_RX7_86_1) hC1.2.1.2.2.2.1 ?_
    rw [hC1.2.1.2.2.2.2.1]
    show AW V 0 0 h1_ 51 [(6, .int (((z / S 6) * (P a (S 5) z k t)) / 100)), (5, .ref lq), (0, .ref (B + 1)), (1, .int z), (2, .int k), (3, .int a), (4, .int t)] [.int (S (208 + hl)), .int (((z / S 6) * (P a (S 5) z k t)) / 100)]
    refine a_mmin hb dX7_plain_51 (by rw [ow]; exact kw_660) kw_407 kw_94 kw_408 (by rw [hr]; exact ⟨by decide, Nat.le_of_ble_eq_true rfl⟩) (by rw [hr]; exact ⟨Nat.le_of_ble_eq_true rfl, Nat.le_of_ble_eq_true rfl⟩) ?_
    exact a_ireturn (ty := .int) hb hz dX7_plain_54 hret rfl (by rw [hr]; exact Nat.le_of_ble_eq_true rfl) (by rw [hr]; exact Nat.le_of_ble_eq_true rfl) (⟨by unfold plS; first | rw [if_pos (Int32.not_le.mp c12)] | rw [if_neg (fun q => Int32.not_le.mpr q c12)], hF1⟩)
  · refine a_iconst (v := 0) hb dX7_plain_15 (by decide) ?_
    exact a_ireturn (ty := .int) hb hz dX7_plain_16 hret rfl (by rw [hr]; exact Nat.le_of_ble_eq_true rfl) (by rw [hr]; exact Nat.le_of_ble_eq_true rfl) (⟨by unfold plS; first | rw [if_pos (Int32.not_le.mp c12)] | rw [if_neg (fun q => Int32.not_le.mpr q c12)], FR.rf⟩)
