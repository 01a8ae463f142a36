/-! ===== how a law is read: steps, places, faults ===== -/
/-- a step of a law: 0 a test (subject, sign, number), 1 not, 2 and, 3 or -/
abbrev St : Type := Nat × Nat × Nat × Nat
def encM (s : St) : Int32 := match s.1 with
  | 0 => nI s.2.1 + 8 * nI s.2.2.1 + 32 * nI s.2.2.2
  | 1 => -1
  | 2 => -2
  | _ => -3
def hrT (tx : Nat → Int32) (n p : Nat) : Int32 := if p < n then tx p else -1
def isD (c : Int32) : Bool := !oO c 48 57
def dvD (c : Int32) : Nat := (c - 48).toNatClampNeg
def nmL (H : Nat → Int32) : Nat → Nat → Nat → Nat × Nat
  | 0, v, p => (v, p)
  | k + 1, v, p => if 0 < v ∧ isD (H p) = true then nmL H k (10 * v + dvD (H p)) (p + 1) else (v, p)
/-- a number: is there none, the place behind it, the number -/
def pN (H : Nat → Int32) (p : Nat) : Bool × Nat × Nat := if isD (H p) = true then (false, (nmL H 2 (dvD (H p)) (p + 1)).2, (nmL H 2 (dvD (H p)) (p + 1)).1) else (true, p, 0)
def ix5 (c : Int32) : Nat := if c = 97 then 0 else if c = 99 then 1 else if c = 115 then 2 else if c = 107 then 3 else if c = 116 then 4 else 5
def ix3 (c : Int32) : Nat := if c = 60 then 0 else if c = 61 then 1 else if c = 62 then 2 else 3
/-- is it wrong, the place, the steps -/
abbrev PR : Type := Bool × Nat × List St
def pT (H : Nat → Int32) (p : Nat) : PR := if ix5 (H p) = 5 then (true, p, []) else if ix3 (H (p + 1)) = 3 then (true, p + 1, []) else ((pN H (p + 2)).1, (pN H (p + 2)).2.1, if (pN H (p + 2)).1 = true then [] else [(0, ix5 (H p), ix3 (H (p + 1)), (pN H (p + 2)).2.2)])
def apS (r : PR) (st : St) : PR := (r.1, r.2.1, r.2.2 ++ if r.1 = true then [] else [st])
def lpR (F : Nat → PR) (H : Nat → Int32) (c : Int32) (st : St) : Nat → PR → PR
  | 0, r => r
  | k + 1, r => if r.1 = true then r else if H r.2.1 = c then lpR F H c st k ((F (r.2.1 + 1)).1, (F (r.2.1 + 1)).2.1, r.2.2 ++ (F (r.2.1 + 1)).2.2 ++ if (F (r.2.1 + 1)).1 = true then [] else [st]) else r
def pV (F : Nat → PR) (H : Nat → Int32) (p : Nat) : PR := lpR F H 38 (2, 0, 0, 0) 120 (F p)
def pE (F : Nat → PR) (H : Nat → Int32) (p : Nat) : PR := lpR (pV F H) H 124 (3, 0, 0, 0) 120 (pV F H p)
def clR (H : Nat → Int32) (r : PR) : PR := if r.1 = true then r else if H r.2.1 = 41 then (false, r.2.1 + 1, r.2.2) else (true, r.2.1, r.2.2)
def pF (H : Nat → Int32) : Nat → Nat → PR
  | 0, p => if H p = 33 then (true, p, []) else if H p = 40 then (true, p, []) else pT H p
  | k + 1, p => if H p = 33 then apS (pF H k (p + 1)) (1, 0, 0, 0) else if H p = 40 then clR H (pE (pF H k) H (p + 1)) else pT H p
def muP (H : Nat → Int32) (c : Int32) (w : Bool) (p : Nat) : Bool × Nat := if w = true then (true, p) else if H p = c then (false, p + 1) else (true, p)
def spS (H : Nat → Int32) : List Int32 → Bool → Nat → Bool × Nat
  | [], w, p => (w, p)
  | c :: l, w, p => spS H l (muP H c w p).1 (muP H c w p).2
def fgP (H : Nat → Int32) (w : Bool) (p : Nat) : Bool × Nat × Nat := if w = true then (true, p, 0) else pN H p
def fcP (H : Nat → Int32) (k : Nat) (w : Bool) (p : Nat) : PR := if w = true then (true, p, []) else pF H k p
def evP (H : Nat → Int32) (k : Nat) (w : Bool) (p : Nat) : PR := if w = true then (true, p, []) else pV (pF H k) H p
def soP (H : Nat → Int32) (k : Nat) (w : Bool) (p : Nat) : PR := if w = true then (true, p, []) else pE (pF H k) H p
def emL (w : Bool) (l : List Int32) (s : Int32) : List Int32 := if w = true then l else l ++ [s]
/-- draw and ease behind their word: wrong, place, steps, number -/
def mcA (H : Nat → Int32) (wd : List Int32) (p : Nat) : Bool × Nat := spS H wd false p
def mcB (H : Nat → Int32) (wd : List Int32) (p : Nat) : Bool × Nat × Nat := fgP H (mcA H wd p).1 (mcA H wd p).2
def mcC (H : Nat → Int32) (wd : List Int32) (p : Nat) : Bool × Nat := muP H 32 (mcB H wd p).1 (mcB H wd p).2.1
def mcE (H : Nat → Int32) (wd : List Int32) (p : Nat) : PR := soP H 5 (mcC H wd p).1 (mcC H wd p).2
def mcS (H : Nat → Int32) (wd : List Int32) (p : Nat) : Bool × Nat × List St × Nat := ((mcE H wd p).1, (mcE H wd p).2.1, (mcE H wd p).2.2, (mcB H wd p).2.2)
def wdM : List Int32 := [109, 111, 115, 116, 32]
def wdE : List Int32 := [101, 97, 115, 101, 32]
def wdD : List Int32 := [100, 114, 97, 119, 32]
/-- most: wrong, place, number -/
def moS (H : Nat → Int32) (p : Nat) : Bool × Nat × Nat := fgP H (spS H wdM false p).1 (spS H wdM false p).2
abbrev LR : Type := Bool × Nat × List Int32 × Int32
/-- a clause, the steps as the model lays them -/
def clP (H : Nat → Int32) (p : Nat) (l : List Int32) (mo : Int32) : LR :=
  if H p = 100 then ((mcS H wdD p).1, (mcS H wdD p).2.1, emL (mcS H wdD p).1 (l ++ (mcS H wdD p).2.2.1.map encM) (-10 - nI (mcS H wdD p).2.2.2), mo)
  else if H p = 101 then ((mcS H wdE p).1, (mcS H wdE p).2.1, emL (mcS H wdE p).1 (l ++ (mcS H wdE p).2.2.1.map encM) (-2000 - nI (mcS H wdE p).2.2.2), mo)
  else if H p = 109 then ((moS H p).1, (moS H p).2.1, l, if (moS H p).1 = true then mo else nI (moS H p).2.2)
  else (true, p, l, mo)
def clL (H : Nat → Int32) : Nat → LR → LR
  | 0, r => r
  | k + 1, r => if r.1 = true then r else if H r.2.1 = 59 then clL H k (clP H (r.2.1 + 1) r.2.2.1 r.2.2.2) else r
def lawP (H : Nat → Int32) : LR := clL H 7 (clP H 0 [] 999)
/-! small facts -/
theorem isD_iff {c : Int32} : isD c = true ↔ oO c 48 57 = false := by unfold isD; cases oO c 48 57 <;> simp
theorem dvD_i {c : Int32} (h : isD c = true) : c - 48 = nI (dvD c) ∧ dvD c ≤ 9 := by
  rw [isD_iff] at h
  simp only [oO, Bool.or_eq_false_iff, decide_eq_false_iff_not, Int32.not_lt] at h
  obtain ⟨h1, h2⟩ := h
  have a1 := Int32.le_iff_toInt_le.mp h1
  have a2 := Int32.le_iff_toInt_le.mp h2
  have e48 : (48 : Int32).toInt = 48 := by decide
  have e57 : (57 : Int32).toInt = 57 := by decide
  rw [e48] at a1
  rw [e57] at a2
  have e : (c - 48).toInt = c.toInt - 48 := by
    rw [Int32.toInt_sub, e48]
    exact Int.bmod_eq_of_le (by omega) (by omega)
  have h0 : ¬ (c - 48) < 0 := by
    rw [Int32.lt_iff_toInt_lt, e]
    have : (0 : Int32).toInt = 0 := by decide
    omega
  have := aw_nn h0
  refine ⟨?_, by unfold dvD; omega⟩
  obtain ⟨j, hj, ej⟩ := nI_of h0
  rw [ej]
  unfold dvD
  rw [ej, nI_clamp hj]
theorem fg_0 {c : Int32} (h : isD c = true) : 10 * 0 + c - 48 = nI (dvD c) := by
  rw [show (10 : Int32) * 0 = 0 from by decide, Int32.zero_add]; exact (dvD_i h).1
theorem fg_n {c : Int32} {v : Nat} (h : isD c = true) : 10 * nI v + c - 48 = nI (10 * v + dvD c) := by
  rw [Int32.sub_eq_add_neg, Int32.add_assoc, ← Int32.sub_eq_add_neg, (dvD_i h).1, show (10 : Int32) = nI 10 from rfl, pk_mul, nI_add]
/-! places only grow, stay within the text, and steps are no more than bytes -/
def gdP (n p : Nat) (r : PR) : Prop := p + r.2.2.length ≤ r.2.1 ∧ (p ≤ n → r.2.1 ≤ n)
theorem hrT_n {tx : Nat → Int32} {n p : Nat} {c : Int32} (hc : c ≠ -1) (h : hrT tx n p = c) : p < n := by
  unfold hrT at h
  split at h
  · assumption
  · exact absurd h.symm hc
theorem hrT_d {tx : Nat → Int32} {n p : Nat} (h : isD (hrT tx n p) = true) : p < n := by
  unfold hrT at h
  split at h
  · assumption
  · exact absurd h (by decide)
theorem hrT_5 {tx : Nat → Int32} {n p : Nat} (h : ¬ ix5 (hrT tx n p) = 5) : p < n := by
  unfold hrT at h
  split at h
  · assumption
  · exact absurd (by decide) h
theorem hrT_3 {tx : Nat → Int32} {n p : Nat} (h : ¬ ix3 (hrT tx n p) = 3) : p < n := by
  unfold hrT at h
  split at h
  · assumption
  · exact absurd (by decide) h
theorem nmL_g {tx : Nat → Int32} {n : Nat} : ∀ k v p, p ≤ (nmL (hrT tx n) k v p).2 ∧ (p ≤ n → (nmL (hrT tx n) k v p).2 ≤ n)
  | 0, v, p => ⟨Nat.le_refl _, fun h => h⟩
  | k + 1, v, p => by
    unfold nmL
    split
    · rename_i q
      have hp := hrT_d q.2
      have := nmL_g (tx := tx) (n := n) k (10 * v + dvD (hrT tx n p)) (p + 1)
      exact ⟨by omega, fun _ => this.2 (by omega)⟩
    · exact ⟨Nat.le_refl _, fun h => h⟩
theorem nmL_v {tx : Nat → Int32} {n : Nat} : ∀ k v p, (nmL (hrT tx n) k v p).1 < (v + 1) * 10 ^ k
  | 0, v, p => by show v < _; omega
  | k + 1, v, p => by
    unfold nmL
    split
    · rename_i q
      have hd := (dvD_i q.2).2
      have := nmL_v (tx := tx) (n := n) k (10 * v + dvD (hrT tx n p)) (p + 1)
      have e : (10 * v + dvD (hrT tx n p) + 1) * 10 ^ k ≤ (10 * v + 10) * 10 ^ k := Nat.mul_le_mul_right _ (by omega)
      have e2 : (v + 1) * 10 ^ (k + 1) = (10 * v + 10) * 10 ^ k := by
        rw [Nat.pow_succ, Nat.mul_comm (10 ^ k) 10, ← Nat.mul_assoc]
        congr 1
        omega
      omega
    · have : 1 ≤ 10 ^ (k + 1) := Nat.one_le_pow _ _ (by decide)
      have := Nat.mul_le_mul_left (v + 1) this
      show v < _
      omega
theorem pN_g {tx : Nat → Int32} {n p : Nat} : p ≤ (pN (hrT tx n) p).2.1 ∧ (p ≤ n → (pN (hrT tx n) p).2.1 ≤ n) ∧ (pN (hrT tx n) p).2.2 ≤ 999 ∧ ((pN (hrT tx n) p).1 = false → p + 1 ≤ (pN (hrT tx n) p).2.1) := by
  unfold pN
  split
  · rename_i q
    have h1 := nmL_g (tx := tx) (n := n) 2 (dvD (hrT tx n p)) (p + 1)
    have h2 := nmL_v (tx := tx) (n := n) 2 (dvD (hrT tx n p)) (p + 1)
    have hp := hrT_d q
    have hd := (dvD_i q).2
    refine ⟨?_, fun _ => h1.2 (by omega), ?_, fun _ => h1.1⟩
    · show p ≤ (nmL _ _ _ _).2; omega
    · show (nmL _ _ _ _).1 ≤ 999
      have e : (10 : Nat) ^ 2 = 100 := by decide
      rw [e] at h2
      omega
  · exact ⟨Nat.le_refl _, fun h => h, Nat.zero_le _, fun h => Bool.noConfusion h⟩
theorem pT_g {tx : Nat → Int32} {n p : Nat} : gdP n p (pT (hrT tx n) p) := by
  unfold pT
  split
  · exact ⟨Nat.le_refl _, fun h => h⟩
  · rename_i q
    have hp := hrT_5 q
    split
    · exact ⟨Nat.le_succ _, fun _ => hp⟩
    · rename_i q3
      have hp3 := hrT_3 q3
      have h := pN_g (tx := tx) (n := n) (p := p + 2)
      refine ⟨?_, fun _ => h.2.1 (by omega)⟩
      show p + List.length (if _ then _ else _) ≤ (pN (hrT tx n) (p + 2)).2.1
      split
      · have := h.1; simp only [List.length_nil]; omega
      · have := h.1; simp only [List.length_cons, List.length_nil]; omega
theorem apS_g {n p : Nat} {r : PR} {st : St} (h : gdP n (p + 1) r) (hp : p < n) : gdP n p (apS r st) := by
  refine ⟨?_, fun _ => h.2 (by omega)⟩
  have := h.1
  show p + (r.2.2 ++ if _ then _ else _).length ≤ r.2.1
  rw [List.length_append]
  split <;> simp only [List.length_cons, List.length_nil] <;> omega
theorem lpR_g {F : Nat → PR} {tx : Nat → Int32} {n : Nat} {c : Int32} {st : St} (hc : c ≠ -1) (hF : ∀ q, gdP n q (F q)) : ∀ k p r, gdP n p r → gdP n p (lpR F (hrT tx n) c st k r)
  | 0, p, r, h => h
  | k + 1, p, r, h => by
    unfold lpR
    split
    · exact h
    · split
      · rename_i q
        have hp := hrT_n hc q
        have h2 := hF (r.2.1 + 1)
        refine lpR_g hc hF k p _ ⟨?_, fun _ => h2.2 (by omega)⟩
        have a1 := h.1
        have a2 := h2.1
        show p + (r.2.2 ++ (F (r.2.1 + 1)).2.2 ++ if _ then _ else _).length ≤ (F (r.2.1 + 1)).2.1
        rw [List.length_append, List.length_append]
        split <;> simp only [List.length_cons, List.length_nil] <;> omega
      · exact h
theorem pV_g {F : Nat → PR} {tx : Nat → Int32} {n : Nat} (hF : ∀ q, gdP n q (F q)) (p : Nat) : gdP n p (pV F (hrT tx n) p) := lpR_g (by decide) hF 120 p _ (hF p)
theorem pE_g {F : Nat → PR} {tx : Nat → Int32} {n : Nat} (hF : ∀ q, gdP n q (F q)) (p : Nat) : gdP n p (pE F (hrT tx n) p) := lpR_g (by decide) (pV_g hF) 120 p _ (pV_g hF p)
theorem pF_g {tx : Nat → Int32} {n : Nat} : ∀ k p, gdP n p (pF (hrT tx n) k p)
  | 0, p => by
    unfold pF
    split
    · exact ⟨Nat.le_refl _, fun h => h⟩
    · split
      · exact ⟨Nat.le_refl _, fun h => h⟩
      · exact pT_g
  | k + 1, p => by
    unfold pF
    split
    · rename_i q; exact apS_g (pF_g k (p + 1)) (hrT_n (by decide) q)
    · split
      · rename_i q
        have hp := hrT_n (by decide) q
        have h := pE_g (tx := tx) (n := n) (F := pF (hrT tx n) k) (pF_g (tx := tx) (n := n) k) (p + 1)
        have a1 := h.1
        unfold clR
        split
        · exact ⟨by omega, fun _ => h.2 (by omega)⟩
        · split
          · rename_i q2
            have := hrT_n (by decide) q2
            exact ⟨by show p + (pE _ _ _).2.2.length ≤ (pE _ _ _).2.1 + 1; omega, fun _ => this⟩
          · exact ⟨by show p + (pE _ _ _).2.2.length ≤ (pE _ _ _).2.1; omega, fun _ => h.2 (by omega)⟩
      · exact pT_g
theorem soP_g {tx : Nat → Int32} {n : Nat} {k : Nat} {w : Bool} {p : Nat} : gdP n p (soP (hrT tx n) k w p) := by
  unfold soP
  split
  · exact ⟨Nat.le_refl _, fun h => h⟩
  · exact pE_g (pF_g k) p
theorem muP_g {tx : Nat → Int32} {n : Nat} {c : Int32} (hc : c ≠ -1) {w : Bool} {p : Nat} : p ≤ (muP (hrT tx n) c w p).2 ∧ (p ≤ n → (muP (hrT tx n) c w p).2 ≤ n) := by
  unfold muP
  split
  · exact ⟨Nat.le_refl _, fun h => h⟩
  · split
    · rename_i q; exact ⟨Nat.le_succ _, fun _ => hrT_n hc q⟩
    · exact ⟨Nat.le_refl _, fun h => h⟩
theorem spS_g {tx : Nat → Int32} {n : Nat} : ∀ (l : List Int32) (w : Bool) (p : Nat), (∀ c ∈ l, c ≠ -1) → p ≤ (spS (hrT tx n) l w p).2 ∧ (p ≤ n → (spS (hrT tx n) l w p).2 ≤ n)
  | [], w, p, _ => ⟨Nat.le_refl _, fun h => h⟩
  | c :: l, w, p, hc => by
    have h1 := muP_g (tx := tx) (n := n) (hc c List.mem_cons_self) (w := w) (p := p)
    have h2 := spS_g (tx := tx) (n := n) l (muP (hrT tx n) c w p).1 (muP (hrT tx n) c w p).2 (fun d hd => hc d (List.mem_cons_of_mem _ hd))
    exact ⟨Nat.le_trans h1.1 h2.1, fun h => h2.2 (h1.2 h)⟩
theorem fgP_g {tx : Nat → Int32} {n p : Nat} {w : Bool} : p ≤ (fgP (hrT tx n) w p).2.1 ∧ (p ≤ n → (fgP (hrT tx n) w p).2.1 ≤ n) ∧ (fgP (hrT tx n) w p).2.2 ≤ 999 := by
  unfold fgP
  split
  · exact ⟨Nat.le_refl _, fun h => h, Nat.zero_le _⟩
  · exact ⟨pN_g.1, pN_g.2.1, pN_g.2.2.1⟩
theorem muP_w {H : Nat → Int32} {c : Int32} {w : Bool} {p : Nat} (h : (muP H c w p).1 = false) : w = false ∧ (muP H c w p).2 = p + 1 := by
  unfold muP at *
  split at h
  · exact Bool.noConfusion h
  · rename_i q
    split at h
    · rename_i q2; rw [if_neg q, if_pos q2]; exact ⟨by simpa using q, rfl⟩
    · exact Bool.noConfusion h
theorem soP_w {H : Nat → Int32} {k : Nat} {w : Bool} {p : Nat} (h : (soP H k w p).1 = false) : w = false := by
  unfold soP at h
  split at h
  · exact Bool.noConfusion h
  · rename_i q; simpa using q
theorem mcA_g {tx : Nat → Int32} {n : Nat} {wd : List Int32} (hwd : ∀ c ∈ wd, c ≠ -1) (p : Nat) : p ≤ (mcA (hrT tx n) wd p).2 ∧ (p ≤ n → (mcA (hrT tx n) wd p).2 ≤ n) := spS_g wd false p hwd
theorem mcB_g {tx : Nat → Int32} {n : Nat} {wd : List Int32} (hwd : ∀ c ∈ wd, c ≠ -1) (p : Nat) : p ≤ (mcB (hrT tx n) wd p).2.1 ∧ (p ≤ n → (mcB (hrT tx n) wd p).2.1 ≤ n) ∧ (mcB (hrT tx n) wd p).2.2 ≤ 999 := by
  have h1 := mcA_g (tx := tx) (n := n) hwd p
  have h2 := fgP_g (tx := tx) (n := n) (p := (mcA (hrT tx n) wd p).2) (w := (mcA (hrT tx n) wd p).1)
  exact ⟨Nat.le_trans h1.1 h2.1, fun h => h2.2.1 (h1.2 h), h2.2.2⟩
theorem mcC_g {tx : Nat → Int32} {n : Nat} {wd : List Int32} (hwd : ∀ c ∈ wd, c ≠ -1) (p : Nat) : p + (if (mcC (hrT tx n) wd p).1 = true then 0 else 1) ≤ (mcC (hrT tx n) wd p).2 ∧ (p ≤ n → (mcC (hrT tx n) wd p).2 ≤ n) := by
  have h1 := mcB_g (tx := tx) (n := n) hwd p
  have h2 := muP_g (tx := tx) (n := n) (c := 32) (by decide) (p := (mcB (hrT tx n) wd p).2.1) (w := (mcB (hrT tx n) wd p).1)
  refine ⟨?_, fun h => h2.2 (h1.2.1 h)⟩
  split
  · exact Nat.le_trans h1.1 h2.1
  · rename_i q
    have q' : (muP (hrT tx n) 32 (mcB (hrT tx n) wd p).1 (mcB (hrT tx n) wd p).2.1).1 = false := by
      have : ¬ (mcC (hrT tx n) wd p).1 = true := q
      unfold mcC at this
      simpa using this
    have := (muP_w q').2
    unfold mcC
    omega
/-- draw, ease: places and steps -/
theorem mcS_g {tx : Nat → Int32} {n : Nat} {wd : List Int32} (hwd : ∀ c ∈ wd, c ≠ -1) (p : Nat) : (p ≤ n → (mcS (hrT tx n) wd p).2.1 ≤ n) ∧ p + (mcS (hrT tx n) wd p).2.2.1.length + (if (mcS (hrT tx n) wd p).1 = true then 0 else 1) ≤ (mcS (hrT tx n) wd p).2.1 ∧ (mcS (hrT tx n) wd p).2.2.2 ≤ 999 := by
  have h1 := mcC_g (tx := tx) (n := n) hwd p
  have h2 := soP_g (tx := tx) (n := n) (k := 5) (p := (mcC (hrT tx n) wd p).2) (w := (mcC (hrT tx n) wd p).1)
  refine ⟨fun h => h2.2 (h1.2 h), ?_, (mcB_g hwd p).2.2⟩
  have a1 := h1.1
  have a2 := h2.1
  show p + (mcE (hrT tx n) wd p).2.2.length + (if (mcE (hrT tx n) wd p).1 = true then 0 else 1) ≤ (mcE (hrT tx n) wd p).2.1
  change (mcC (hrT tx n) wd p).2 + (mcE (hrT tx n) wd p).2.2.length ≤ (mcE (hrT tx n) wd p).2.1 at a2
  split
  · omega
  · rename_i q
    have q' : (soP (hrT tx n) 5 (mcC (hrT tx n) wd p).1 (mcC (hrT tx n) wd p).2).1 = false := by
      have : ¬ (mcE (hrT tx n) wd p).1 = true := q
      unfold mcE at this
      simpa using this
    rw [soP_w q', if_neg (by decide)] at a1
    omega
theorem moS_g {tx : Nat → Int32} {n : Nat} (p : Nat) : p ≤ (moS (hrT tx n) p).2.1 ∧ (p ≤ n → (moS (hrT tx n) p).2.1 ≤ n) ∧ (moS (hrT tx n) p).2.2 ≤ 999 := by
  have h1 := spS_g (tx := tx) (n := n) wdM false p (by decide)
  have h2 := fgP_g (tx := tx) (n := n) (p := (spS (hrT tx n) wdM false p).2) (w := (spS (hrT tx n) wdM false p).1)
  exact ⟨Nat.le_trans h1.1 h2.1, fun h => h2.2.1 (h1.2 h), h2.2.2⟩
theorem clP_g {tx : Nat → Int32} {n : Nat} (p : Nat) (l : List Int32) (mo : Int32) (hl : l.length ≤ p) : (p ≤ n → (clP (hrT tx n) p l mo).2.1 ≤ n) ∧ p ≤ (clP (hrT tx n) p l mo).2.1 ∧ (clP (hrT tx n) p l mo).2.2.1.length ≤ (clP (hrT tx n) p l mo).2.1 := by
  unfold clP
  split
  · have h := mcS_g (tx := tx) (n := n) (wd := wdD) (by decide) p
    have h2 := h.2.1
    refine ⟨h.1, ?_, ?_⟩
    · show p ≤ (mcS _ _ _).2.1; omega
    · show (emL _ _ _).length ≤ (mcS _ _ _).2.1
      unfold emL
      split
      · rename_i q
        rw [List.length_append, List.length_map]; omega
      · rename_i q
        rw [if_neg q] at h2
        rw [List.length_append, List.length_append, List.length_map, List.length_singleton]; omega
  · split
    · have h := mcS_g (tx := tx) (n := n) (wd := wdE) (by decide) p
      have h2 := h.2.1
      refine ⟨h.1, ?_, ?_⟩
      · show p ≤ (mcS _ _ _).2.1; omega
      · show (emL _ _ _).length ≤ (mcS _ _ _).2.1
        unfold emL
        split
        · rename_i q
          rw [List.length_append, List.length_map]; omega
        · rename_i q
          rw [if_neg q] at h2
          rw [List.length_append, List.length_append, List.length_map, List.length_singleton]; omega
    · split
      · have h := moS_g (tx := tx) (n := n) p
        exact ⟨h.2.1, h.1, Nat.le_trans hl h.1⟩
      · exact ⟨fun h => h, Nat.le_refl _, hl⟩
