/-! ===== the class: a state copied ===== -/
theorem b_aastO {V : VV} {cs ss : Nat} {h : AH} {pc : Nat} {L : List (Nat × Value)} {st : List Value} {cc : ByteArray} (hb : V.2.1.2.1 = cc) {a kd len j : Nat} {o : Option Nat} {E : String} {i : Int32} (hd : decode cc pc = .ok (.aastore, 1)) (ht : hT h a = (kd, len)) (hk1 : 17 ≤ kd) (hk2 : kd ≤ 19) (hE : aw_ty kd = .object E) (hx : IX i j) (hj : j < len) (ho : TYo h E o) (kk : AW V cs ss (setQ h a j o) (pc + 1) L st) : AW V cs ss h pc L (va_rf o :: .int i :: .ref a :: st) := by
  rcases ho with e | ⟨q, kd2, Cn, e, h1, h2, h3, h4⟩
  · subst e; exact b_aastN hb hd ht hk1 hk2 hE hx hj kk
  · subst e; exact b_aast hb hd ht hk1 hk2 hE h1 h2 h3 h4 hx hj kk
/-- but the State at d nothing changed -/
def CF (d : Nat) (h h1 : AH) : Prop := hN h1 = hN h ∧ hT h1 = hT h ∧ hJ h1 = hJ h ∧ (∀ a, a ≠ d → a ≠ d + 2 → a ≠ d + 3 → a ≠ d + 6 → a ≠ d + 7 → a ≠ d + 8 → hI h1 a = hI h a) ∧ ∀ a, a ≠ d + 1 → a ≠ d + 4 → a ≠ d + 5 → hQ h1 a = hQ h a
theorem CF.rf {d : Nat} {h : AH} : CF d h h := ⟨rfl, rfl, rfl, fun _ _ _ _ _ _ _ => rfl, fun _ _ _ _ => rfl⟩
theorem CF.I {d a k : Nat} {h h1 : AH} {v : Int32} (x : CF d h h1) (ha : a = d ∨ a = d + 2 ∨ a = d + 3 ∨ a = d + 6 ∨ a = d + 7 ∨ a = d + 8) : CF d h (setI h1 a k v) := ⟨x.1, x.2.1, x.2.2.1, fun b q0 q2 q3 q6 q7 q8 => (hI_setI_n (by omega)).trans (x.2.2.2.1 b q0 q2 q3 q6 q7 q8), x.2.2.2.2⟩
theorem CF.R {d a : Nat} {h h1 : AH} {f : Nat → Int32} (x : CF d h h1) (ha : a = d ∨ a = d + 2 ∨ a = d + 3 ∨ a = d + 6 ∨ a = d + 7 ∨ a = d + 8) : CF d h (setR h1 a f) := ⟨x.1, x.2.1, x.2.2.1, fun b q0 q2 q3 q6 q7 q8 => (hI_Rn (by omega)).trans (x.2.2.2.1 b q0 q2 q3 q6 q7 q8), x.2.2.2.2⟩
theorem CF.Q {d a k : Nat} {h h1 : AH} {v : Option Nat} (x : CF d h h1) (ha : a = d + 1 ∨ a = d + 4 ∨ a = d + 5) : CF d h (setQ h1 a k v) := ⟨x.1, x.2.1, x.2.2.1, x.2.2.2.1, fun b q1 q4 q5 => (funext fun _ => u2_a (by omega)).trans (x.2.2.2.2 b q1 q4 q5)⟩
theorem CF.ly {d B : Nat} {h h1 : AH} (x : CF d h h1) (hd : d = B + 1 ∨ d = B + 10) (hL : LY h B) : LY h1 B := ⟨fun i hi => by rw [x.2.1]; exact hL.1 i hi, fun q hq => by
  have h1 : q.1 = 0 ∨ q.1 = 1 ∨ q.1 = 10 ∨ q.1 = 19 ∨ q.1 = 25 ∨ q.1 = 51 := by
    have : ∀ q ∈ lyQ, q.1 = 0 ∨ q.1 = 1 ∨ q.1 = 10 ∨ q.1 = 19 ∨ q.1 = 25 ∨ q.1 = 51 := by decide
    exact this q hq
  rw [x.2.2.2.2 (B + q.1) (by omega) (by omega) (by omega)]; exact hL.2.1 q hq, by rw [x.1]; exact hL.2.2⟩
theorem TYo.cf {d : Nat} {h h1 : AH} {E : String} {o : Option Nat} (x : CF d h h1) (H : TYo h E o) : TYo h1 E o := by
  rcases H with e | ⟨q, kd, Cn, e, h1, h2⟩
  · exact Or.inl e
  · exact Or.inr ⟨q, kd, Cn, e, by rw [x.2.1]; exact h1, h2⟩
theorem hQ_Qs {h : AH} {a k : Nat} {v : Option Nat} : hQ (setQ h a k v) a k = v := u2_s
theorem hQ_Qk {h : AH} {a k j : Nat} {v : Option Nat} (e : j ≠ k) : hQ (setQ h a k v) a j = hQ h a j := u2_k e
theorem hQ_Qa {h : AH} {a b k : Nat} {v : Option Nat} (e : b ≠ a) : hQ (setQ h a k v) b = hQ h b := funext fun _ => u2_a e
theorem hQ_I {h : AH} {a k : Nat} {v : Int32} : hQ (setI h a k v) = hQ h := rfl
theorem hI_Q2 {h : AH} {a k : Nat} {v : Option Nat} : hI (setQ h a k v) = hI h := rfl
theorem rowQ {h : AH} {a i : Nat} {v : Option Nat} {F : Nat → Option Nat} (h1 : ∀ t, t < i → hQ h a t = F t) (h2 : v = F i) : ∀ t, t < i + 1 → hQ (setQ h a i v) a t = F t := fun t ht => by
  by_cases e : t = i
  · subst e; rw [hQ_Qs]; exact h2
  · rw [hQ_Qk e]; exact h1 t (by omega)
