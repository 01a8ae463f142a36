/-! ===== what a law says: clauses, their steps, how they are reckoned ===== -/
/-- a clause: does it ease, its number, its steps -/
abbrev CLA : Type := Bool × Nat × List St
def mkM (c : CLA) : Int32 := if c.1 = true then -2000 - nI c.2.1 else -10 - nI c.2.1
def encL : List CLA → List Int32
  | [] => []
  | c :: cs => c.2.2.map encM ++ mkM c :: encL cs
abbrev LC : Type := Bool × Nat × List CLA × Int32
def clC (H : Nat → Int32) (p : Nat) (cs : List CLA) (mo : Int32) : LC :=
  if H p = 100 then ((mcS H wdD p).1, (mcS H wdD p).2.1, if (mcS H wdD p).1 = true then cs else cs ++ [(false, (mcS H wdD p).2.2.2, (mcS H wdD p).2.2.1)], mo)
  else if H p = 101 then ((mcS H wdE p).1, (mcS H wdE p).2.1, if (mcS H wdE p).1 = true then cs else cs ++ [(true, (mcS H wdE p).2.2.2, (mcS H wdE p).2.2.1)], mo)
  else if H p = 109 then ((moS H p).1, (moS H p).2.1, cs, if (moS H p).1 = true then mo else nI (moS H p).2.2)
  else (true, p, cs, mo)
def clK (H : Nat → Int32) : Nat → LC → LC
  | 0, r => r
  | k + 1, r => if r.1 = true then r else if H r.2.1 = 59 then clK H k (clC H (r.2.1 + 1) r.2.2.1 r.2.2.2) else r
def lawC (H : Nat → Int32) : LC := clK H 7 (clC H 0 [] 999)
theorem encL_app : ∀ (a b : List CLA), encL (a ++ b) = encL a ++ encL b
  | [], b => rfl
  | c :: a, b => by
    show c.2.2.map encM ++ mkM c :: encL (a ++ b) = _
    rw [encL_app a b]
    show _ = (c.2.2.map encM ++ mkM c :: encL a) ++ encL b
    simp
/-- the clauses and the model's list -/
def LCr (r : LR) (q : LC) : Prop := r.1 = q.1 ∧ r.2.1 = q.2.1 ∧ r.2.2.2 = q.2.2.2 ∧ (r.1 = false → r.2.2.1 = encL q.2.2.1)
theorem clC_r {H : Nat → Int32} {p : Nat} {l : List Int32} {cs : List CLA} {mo : Int32} (h : l = encL cs) : LCr (clP H p l mo) (clC H p cs mo) := by
  subst h
  unfold clP clC
  split
  · refine ⟨rfl, rfl, rfl, fun e => ?_⟩
    have e' : (mcS H wdD p).1 = false := e
    show emL (mcS H wdD p).1 _ _ = encL (if _ then _ else _)
    rw [e', if_neg (by decide), encL_app, emL, if_neg (by decide)]
    simp [encL, mkM]
  · split
    · refine ⟨rfl, rfl, rfl, fun e => ?_⟩
      have e' : (mcS H wdE p).1 = false := e
      show emL (mcS H wdE p).1 _ _ = encL (if _ then _ else _)
      rw [e', if_neg (by decide), encL_app, emL, if_neg (by decide)]
      simp [encL, mkM]
    · split
      · exact ⟨rfl, rfl, rfl, fun _ => rfl⟩
      · exact ⟨rfl, rfl, rfl, fun e => Bool.noConfusion e⟩
theorem clK_r {H : Nat → Int32} : ∀ k (r : LR) (q : LC), LCr r q → LCr (clL H k r) (clK H k q)
  | 0, r, q, h => h
  | k + 1, r, q, h => by
    unfold clL clK
    rw [← h.1, ← h.2.1, ← h.2.2.1]
    by_cases e : r.1 = true
    · rw [if_pos e, if_pos e]; exact h
    · rw [if_neg e, if_neg e]
      by_cases e2 : H r.2.1 = 59
      · rw [if_pos e2, if_pos e2]
        exact clK_r k _ _ (clC_r (h.2.2.2 (by simpa using e)))
      · rw [if_neg e2, if_neg e2]; exact h
theorem lawC_r {H : Nat → Int32} : LCr (lawP H) (lawC H) := clK_r 7 _ _ (clC_r rfl)
/-! tests, stacks -/
def tsT (vl : Nat → Int32) (s : St) : Bool := if s.2.2.1 = 0 then decide (vl s.2.1 < nI s.2.2.2) else if s.2.2.1 = 1 then decide (vl s.2.1 = nI s.2.2.2) else decide (nI s.2.2.2 < vl s.2.1)
/-- one step upon a stack, its top first; no deeper than 14 -/
def ev1 (vl : Nat → Int32) (s : St) (st : List Bool) : Option (List Bool) :=
  if s.1 = 0 then (if st.length < 14 then some (tsT vl s :: st) else none)
  else if s.1 = 1 then (match st with | b :: r => some ((!b) :: r) | _ => none)
  else if s.1 = 2 then (match st with | b :: a :: r => some ((a && b) :: r) | _ => none)
  else (match st with | b :: a :: r => some ((a || b) :: r) | _ => none)
def Ev (vl : Nat → Int32) : List St → List Bool → Option (List Bool)
  | [], st => some st
  | s :: ss, st => (ev1 vl s st).bind (Ev vl ss)
theorem Ev_app {vl : Nat → Int32} : ∀ (a b : List St) (st : List Bool), Ev vl (a ++ b) st = (Ev vl a st).bind (Ev vl b)
  | [], b, st => rfl
  | s :: a, b, st => by
    show (ev1 vl s st).bind (Ev vl (a ++ b)) = ((ev1 vl s st).bind (Ev vl a)).bind (Ev vl b)
    cases ev1 vl s st with
    | none => rfl
    | some x => exact Ev_app a b x
/-- steps that put one truth more, and need d places -/
def GE (d : Nat) (ss : List St) : Prop := ∀ vl st, st.length + d ≤ 14 → ∃ v, Ev vl ss st = some (v :: st)
/-- steps as the text has them -/
def okS (s : St) : Prop := s.1 ≤ 3 ∧ (s.1 = 0 → s.2.1 < 5 ∧ s.2.2.1 < 3 ∧ s.2.2.2 ≤ 999)
def GS (d : Nat) (r : PR) : Prop := (∀ s ∈ r.2.2, okS s) ∧ (r.1 = false → GE d r.2.2)
theorem GE.mono {d e : Nat} {ss : List St} (h : GE d ss) (l : d ≤ e) : GE e ss := fun vl st q => h vl st (by omega)
theorem GE.bin {d e : Nat} {a b : List St} (k : Nat) (hk : k = 2 ∨ k = 3) (ha : GE d a) (hb : GE e b) (l : e + 1 ≤ d) : GE d (a ++ b ++ [(k, 0, 0, 0)]) := fun vl st q => by
  obtain ⟨v, hv⟩ := ha vl st q
  obtain ⟨w, hw⟩ := hb vl (v :: st) (by rw [List.length_cons]; omega)
  rw [Ev_app, Ev_app, hv]
  show ∃ x, ((Ev vl b (v :: st)).bind (Ev vl [(k, 0, 0, 0)])) = _
  rw [hw]
  rcases hk with rfl | rfl
  · exact ⟨v && w, rfl⟩
  · exact ⟨v || w, rfl⟩
theorem GE.not {d : Nat} {a : List St} (ha : GE d a) : GE d (a ++ [(1, 0, 0, 0)]) := fun vl st q => by
  obtain ⟨v, hv⟩ := ha vl st q
  rw [Ev_app, hv]
  exact ⟨!v, rfl⟩
theorem ix5_l {c : Int32} : ix5 c ≤ 5 := by unfold ix5; (repeat' split) <;> decide
theorem ix3_l {c : Int32} : ix3 c ≤ 3 := by unfold ix3; (repeat' split) <;> decide
theorem GS.test {tx : Nat → Int32} {n p : Nat} : GS 1 (pT (hrT tx n) p) := by
  unfold pT
  split
  · exact ⟨fun s h => absurd h (List.not_mem_nil), fun h => Bool.noConfusion h⟩
  · rename_i q5
    split
    · exact ⟨fun s h => absurd h (List.not_mem_nil), fun h => Bool.noConfusion h⟩
    · rename_i q3
      have h5 := ix5_l (c := hrT tx n p)
      have h3 := ix3_l (c := hrT tx n (p + 1))
      have h9 := (pN_g (tx := tx) (n := n) (p := p + 2)).2.2.1
      refine ⟨fun s h => ?_, fun h => ?_⟩
      · change s ∈ (if (pN (hrT tx n) (p + 2)).1 = true then _ else _) at h
        split at h
        · exact absurd h (List.not_mem_nil)
        · rw [List.mem_singleton] at h
          subst h
          exact ⟨Nat.zero_le _, fun _ => ⟨by show ix5 _ < 5; omega, by show ix3 _ < 3; omega, h9⟩⟩
      · have e : (pN (hrT tx n) (p + 2)).1 = false := h
        show GE 1 (if (pN (hrT tx n) (p + 2)).1 = true then _ else _)
        rw [e, if_neg (by decide)]
        intro vl st q
        have q' : st.length < 14 := by omega
        exact ⟨_, by simp [Ev, ev1, q']; rfl⟩
theorem okS_1 : okS (1, 0, 0, 0) := ⟨by decide, fun h => absurd h (by decide)⟩
theorem okS_2 : okS (2, 0, 0, 0) := ⟨by decide, fun h => absurd h (by decide)⟩
theorem okS_3 : okS (3, 0, 0, 0) := ⟨by decide, fun h => absurd h (by decide)⟩
theorem GS.lp {F : Nat → PR} {H : Nat → Int32} {c : Int32} {k : Nat} {d e : Nat} (hk : k = 2 ∨ k = 3) (hF : ∀ q, GS e (F q)) (l : e + 1 ≤ d) : ∀ m r, GS d r → GS d (lpR F H c (k, 0, 0, 0) m r)
  | 0, r, h => h
  | m + 1, r, h => by
    unfold lpR
    split
    · exact h
    · rename_i q
      split
      · refine GS.lp hk hF l m _ ⟨fun s hs => ?_, fun w => ?_⟩
        · rw [List.mem_append, List.mem_append] at hs
          rcases hs with (hs | hs) | hs
          · exact h.1 s hs
          · exact (hF _).1 s hs
          · split at hs
            · exact absurd hs (List.not_mem_nil)
            · rw [List.mem_singleton] at hs
              subst hs
              rcases hk with rfl | rfl
              · exact okS_2
              · exact okS_3
        · have w' : (F (r.2.1 + 1)).1 = false := w
          show GE d (r.2.2 ++ (F (r.2.1 + 1)).2.2 ++ if _ then _ else _)
          rw [w', if_neg (by decide)]
          exact GE.bin k hk (h.2 (by simpa using q)) ((hF _).2 w') l
      · exact h
theorem GS.mono {d e : Nat} {r : PR} (h : GS d r) (l : d ≤ e) : GS e r := ⟨h.1, fun w => (h.2 w).mono l⟩
theorem GS.V {F : Nat → PR} {H : Nat → Int32} {e : Nat} (hF : ∀ q, GS e (F q)) (p : Nat) : GS (e + 1) (pV F H p) := GS.lp (Or.inl rfl) hF (Nat.le_refl _) 120 _ ((hF p).mono (Nat.le_succ _))
theorem GS.E {F : Nat → PR} {H : Nat → Int32} {e : Nat} (hF : ∀ q, GS e (F q)) (p : Nat) : GS (e + 2) (pE F H p) := GS.lp (Or.inr rfl) (GS.V hF) (Nat.le_refl _) 120 _ ((GS.V hF p).mono (Nat.le_succ _))
theorem GS.F {tx : Nat → Int32} {n : Nat} : ∀ k p, GS (2 * k + 1) (pF (hrT tx n) k p)
  | 0, p => by
    unfold pF
    split
    · exact ⟨fun s h => absurd h (List.not_mem_nil), fun h => Bool.noConfusion h⟩
    · split
      · exact ⟨fun s h => absurd h (List.not_mem_nil), fun h => Bool.noConfusion h⟩
      · exact GS.test
  | k + 1, p => by
    unfold pF
    split
    · have h := GS.F (tx := tx) (n := n) k (p + 1)
      refine ⟨fun s hs => ?_, fun w => ?_⟩
      · change s ∈ _ ++ _ at hs
        rw [List.mem_append] at hs
        rcases hs with hs | hs
        · exact h.1 s hs
        · split at hs
          · exact absurd hs (List.not_mem_nil)
          · rw [List.mem_singleton] at hs
            subst hs; exact okS_1
      · have w' : (pF (hrT tx n) k (p + 1)).1 = false := w
        show GE _ (_ ++ if _ then _ else _)
        rw [w', if_neg (by decide)]
        exact ((h.2 w').not).mono (by omega)
    · split
      · have h := GS.E (H := hrT tx n) (GS.F (tx := tx) (n := n) k) (p + 1)
        unfold clR
        split
        · exact h.mono (by omega)
        · rename_i q
          split
          · exact ⟨h.1, fun _ => (h.2 (by simpa using q)).mono (by omega)⟩
          · exact ⟨h.1, fun w => Bool.noConfusion w⟩
      · exact GS.test.mono (by omega)
theorem GS.so {tx : Nat → Int32} {n : Nat} {w : Bool} {p : Nat} : GS 13 (soP (hrT tx n) 5 w p) := by
  unfold soP
  split
  · exact ⟨fun s h => absurd h (List.not_mem_nil), fun h => Bool.noConfusion h⟩
  · exact GS.E (GS.F 5) p
/-- a clause that is one -/
def okC (c : CLA) : Prop := c.2.1 ≤ 999 ∧ (∀ s ∈ c.2.2, okS s) ∧ GE 13 c.2.2
theorem okC_mc {tx : Nat → Int32} {n p : Nat} {wd : List Int32} (hw : ∀ c ∈ wd, c ≠ -1) (b : Bool) (h : (mcS (hrT tx n) wd p).1 = false) : okC (b, (mcS (hrT tx n) wd p).2.2.2, (mcS (hrT tx n) wd p).2.2.1) := by
  have g := GS.so (tx := tx) (n := n) (w := (mcC (hrT tx n) wd p).1) (p := (mcC (hrT tx n) wd p).2)
  exact ⟨(mcS_g hw p).2.2, g.1, g.2 h⟩
/-- clauses so far: not more than so many, each one -/
def okL (k : Nat) (q : LC) : Prop := q.2.2.1.length ≤ k ∧ (∀ c ∈ q.2.2.1, okC c) ∧ ∃ m : Nat, m ≤ 999 ∧ q.2.2.2 = nI m
theorem okL_C {tx : Nat → Int32} {n p k : Nat} {cs : List CLA} {mo : Int32} (h : okL k (false, p, cs, mo)) : okL (k + 1) (clC (hrT tx n) p cs mo) := by
  obtain ⟨h1, h2, h3⟩ := h
  change cs.length ≤ k at h1
  change ∀ c ∈ cs, okC c at h2
  have add : ∀ b wd, (∀ c ∈ wd, c ≠ (-1 : Int32)) → ((if (mcS (hrT tx n) wd p).1 = true then cs else cs ++ [(b, (mcS (hrT tx n) wd p).2.2.2, (mcS (hrT tx n) wd p).2.2.1)]).length ≤ k + 1 ∧ ∀ c ∈ (if (mcS (hrT tx n) wd p).1 = true then cs else cs ++ [(b, (mcS (hrT tx n) wd p).2.2.2, (mcS (hrT tx n) wd p).2.2.1)]), okC c) := by
    intro b wd hw
    split
    · exact ⟨by omega, h2⟩
    · rename_i q
      refine ⟨by rw [List.length_append, List.length_singleton]; omega, fun c hc => ?_⟩
      rw [List.mem_append, List.mem_singleton] at hc
      rcases hc with hc | hc
      · exact h2 c hc
      · subst hc; exact okC_mc hw b (by simpa using q)
  unfold clC
  split
  · exact ⟨(add false wdD (by decide)).1, (add false wdD (by decide)).2, h3⟩
  · split
    · exact ⟨(add true wdE (by decide)).1, (add true wdE (by decide)).2, h3⟩
    · split
      · refine ⟨by show cs.length ≤ k + 1; omega, h2, ?_⟩
        show ∃ m : Nat, m ≤ 999 ∧ (if (moS (hrT tx n) p).1 = true then mo else nI (moS (hrT tx n) p).2.2) = nI m
        split
        · exact h3
        · exact ⟨_, (moS_g p).2.2, rfl⟩
      · exact ⟨by show cs.length ≤ k + 1; omega, h2, h3⟩
theorem okL_K {tx : Nat → Int32} {n : Nat} : ∀ m k (q : LC), okL k q → okL (k + m) (clK (hrT tx n) m q)
  | 0, k, q, h => h
  | m + 1, k, q, h => by
    unfold clK
    split
    · exact ⟨by have := h.1; omega, h.2⟩
    · split
      · have := okL_K (tx := tx) (n := n) m (k + 1) _ (okL_C (tx := tx) (n := n) (p := q.2.1 + 1) (k := k) (cs := q.2.2.1) (mo := q.2.2.2) h)
        rw [show k + (m + 1) = k + 1 + m by omega]; exact this
      · exact ⟨by have := h.1; omega, h.2⟩
theorem lawC_ok {tx : Nat → Int32} {n : Nat} : okL 8 (lawC (hrT tx n)) := okL_K 7 1 _ (okL_C ⟨Nat.le_refl _, fun c h => absurd h (List.not_mem_nil), 999, Nat.le_refl _, rfl⟩)
/-! what the clauses sum to -/
def trC (vl : Nat → Int32) (c : CLA) : Bool := match Ev vl c.2.2 [] with | some (v :: _) => v | _ => false
def wtC (vl : Nat → Int32) (c : CLA) : Int32 := if trC vl c = true then (if c.1 = true then -nI c.2.1 else nI c.2.1) else 0
def smC (vl : Nat → Int32) : List CLA → Int32 → Int32
  | [], s => s
  | c :: cs, s => smC vl cs (s + wtC vl c)
def vlF (a c z k t : Int32) : Nat → Int32 := fun j => if j = 0 then a else if j = 1 then c else if j = 2 then z else if j = 3 then k else t
def pcP (cs : List CLA) : PF := fun a c z k t => if smC (vlF a c z k t) cs 0 < 0 then 0 else smC (vlF a c z k t) cs 0
theorem trC_e {vl : Nat → Int32} {c : CLA} (h : okC c) : Ev vl c.2.2 [] = some [trC vl c] := by
  obtain ⟨v, hv⟩ := h.2.2 vl [] (by show 0 + 13 ≤ 14; omega)
  unfold trC
  rw [hv]
