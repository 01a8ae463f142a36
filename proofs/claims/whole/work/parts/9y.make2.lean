/-! ===== the class's constructor ===== -/
/-- a State as it begins, at s and behind -/
def C7 (h : AH) (s : Nat) : Prop := hT h s = (7, 0) ∧ hT h (s + 1) = (18, 8) ∧ hT h (s + 2) = (14, 8) ∧ hT h (s + 3) = (14, 8) ∧ hT h (s + 4) = (17, 5) ∧ hT h (s + 5) = (19, 5) ∧ hT h (s + 6) = (13, 120) ∧ hT h (s + 7) = (14, 20) ∧ hT h (s + 8) = (14, 3) ∧ hQ h s 0 = some (s + 1) ∧ hQ h s 1 = some (s + 2) ∧ hQ h s 2 = some (s + 3) ∧ hQ h s 4 = some (s + 4) ∧ hQ h s 6 = some (s + 5) ∧ hQ h s 8 = some (s + 6) ∧ hQ h s 10 = some (s + 7) ∧ hQ h s 12 = some (s + 8) ∧ hI h s 3 = 0 ∧ hI h s 5 = 0 ∧ hI h s 7 = 0 ∧ hI h s 9 = 0 ∧ hI h s 11 = 0 ∧ (∀ j, hQ h (s + 1) j = none) ∧ (∀ j, hI h (s + 2) j = 0) ∧ (∀ j, hI h (s + 3) j = 0) ∧ (∀ j, hQ h (s + 4) j = none) ∧ (∀ j, hQ h (s + 5) j = none) ∧ (∀ j, hI h (s + 6) j = 0) ∧ (∀ j, hI h (s + 7) j = 0) ∧ hI h (s + 8) 0 = 0 ∧ hI h (s + 8) 1 = 1 ∧ hI h (s + 8) 2 = 100
theorem B7.c {h h' : AH} {s : Nat} (H : B7 h h' s) (ht : hT h s = (7, 0)) (e : hN h = s + 1) : C7 h' s ∧ hN h' = s + 9 ∧ (∀ a, a < s + 1 ∨ s + 9 ≤ a → hT h' a = hT h a) ∧ ∀ a, a < s → hI h' a = hI h a ∧ hQ h' a = hQ h a := by
  unfold B7 at H
  rw [e] at H
  exact ⟨⟨(H.2.1 s (Or.inl (by omega))).trans ht, H.2.2.2.1, H.2.2.2.2.1, H.2.2.2.2.2.1, H.2.2.2.2.2.2.1, H.2.2.2.2.2.2.2.1, H.2.2.2.2.2.2.2.2.1, H.2.2.2.2.2.2.2.2.2.1, H.2.2.2.2.2.2.2.2.2.2.1, H.2.2.2.2.2.2.2.2.2.2.2.1, H.2.2.2.2.2.2.2.2.2.2.2.2.1, H.2.2.2.2.2.2.2.2.2.2.2.2.2.1, H.2.2.2.2.2.2.2.2.2.2.2.2.2.2.1, H.2.2.2.2.2.2.2.2.2.2.2.2.2.2.2.1, H.2.2.2.2.2.2.2.2.2.2.2.2.2.2.2.2.1, H.2.2.2.2.2.2.2.2.2.2.2.2.2.2.2.2.2.1, H.2.2.2.2.2.2.2.2.2.2.2.2.2.2.2.2.2.2.1, H.2.2.2.2.2.2.2.2.2.2.2.2.2.2.2.2.2.2.2.1, H.2.2.2.2.2.2.2.2.2.2.2.2.2.2.2.2.2.2.2.2.1, H.2.2.2.2.2.2.2.2.2.2.2.2.2.2.2.2.2.2.2.2.2.1, H.2.2.2.2.2.2.2.2.2.2.2.2.2.2.2.2.2.2.2.2.2.2.1, H.2.2.2.2.2.2.2.2.2.2.2.2.2.2.2.2.2.2.2.2.2.2.2.1, H.2.2.2.2.2.2.2.2.2.2.2.2.2.2.2.2.2.2.2.2.2.2.2.2.1, H.2.2.2.2.2.2.2.2.2.2.2.2.2.2.2.2.2.2.2.2.2.2.2.2.2.1, H.2.2.2.2.2.2.2.2.2.2.2.2.2.2.2.2.2.2.2.2.2.2.2.2.2.2.1, H.2.2.2.2.2.2.2.2.2.2.2.2.2.2.2.2.2.2.2.2.2.2.2.2.2.2.2.1, H.2.2.2.2.2.2.2.2.2.2.2.2.2.2.2.2.2.2.2.2.2.2.2.2.2.2.2.2.1, H.2.2.2.2.2.2.2.2.2.2.2.2.2.2.2.2.2.2.2.2.2.2.2.2.2.2.2.2.2.1, H.2.2.2.2.2.2.2.2.2.2.2.2.2.2.2.2.2.2.2.2.2.2.2.2.2.2.2.2.2.2.1, H.2.2.2.2.2.2.2.2.2.2.2.2.2.2.2.2.2.2.2.2.2.2.2.2.2.2.2.2.2.2.2.1, H.2.2.2.2.2.2.2.2.2.2.2.2.2.2.2.2.2.2.2.2.2.2.2.2.2.2.2.2.2.2.2.2.1, H.2.2.2.2.2.2.2.2.2.2.2.2.2.2.2.2.2.2.2.2.2.2.2.2.2.2.2.2.2.2.2.2.2⟩, H.1, H.2.1, fun a ha => H.2.2.1 a (by omega) (by omega)⟩
theorem C7.kp {h h' : AH} {s : Nat} (H : C7 h s) (e : ∀ a, s ≤ a → a < s + 9 → hT h' a = hT h a ∧ hI h' a = hI h a ∧ hQ h' a = hQ h a) : C7 h' s := by
  unfold C7
  rw [(e s (by omega) (by omega)).1, (e (s + 1) (by omega) (by omega)).1, (e (s + 2) (by omega) (by omega)).1, (e (s + 3) (by omega) (by omega)).1, (e (s + 4) (by omega) (by omega)).1, (e (s + 5) (by omega) (by omega)).1, (e (s + 6) (by omega) (by omega)).1, (e (s + 7) (by omega) (by omega)).1, (e (s + 8) (by omega) (by omega)).1, (e s (by omega) (by omega)).2.1, (e (s + 2) (by omega) (by omega)).2.1, (e (s + 3) (by omega) (by omega)).2.1, (e (s + 6) (by omega) (by omega)).2.1, (e (s + 7) (by omega) (by omega)).2.1, (e (s + 8) (by omega) (by omega)).2.1, (e s (by omega) (by omega)).2.2, (e (s + 1) (by omega) (by omega)).2.2, (e (s + 4) (by omega) (by omega)).2.2, (e (s + 5) (by omega) (by omega)).2.2]
  exact H
theorem hQ_sn {h : AH} {a k b : Nat} {v : Option Nat} (e : b ≠ a) : hQ (setQ h a k v) b = hQ h b := funext fun _ => u2_a e
theorem hQ_ss {h : AH} {a k : Nat} {v : Option Nat} : hQ (setQ h a k v) a k = v := u2_s
theorem hQ_sk {h : AH} {a k j : Nat} {v : Option Nat} (e : j ≠ k) : hQ (setQ h a k v) a j = hQ h a j := u2_k e
theorem hT_sQ {h : AH} {a k : Nat} {v : Option Nat} : hT (setQ h a k v) = hT h := rfl
theorem hI_sQ {h : AH} {a k : Nat} {v : Option Nat} : hI (setQ h a k v) = hI h := rfl
theorem hN_sQ {h : AH} {a k : Nat} {v : Option Nat} : hN (setQ h a k v) = hN h := rfl
theorem hT_sI {h : AH} {a k : Nat} {v : Int32} : hT (setI h a k v) = hT h := rfl
theorem hQ_sI {h : AH} {a k : Nat} {v : Int32} : hQ (setI h a k v) = hQ h := rfl
theorem hN_sI {h : AH} {a k : Nat} {v : Int32} : hN (setI h a k v) = hN h := rfl
theorem hN_C {h : AH} {kd len : Nat} : hN (newC h kd len) = hN h + 1 := rfl
theorem hN_G {h : AH} {N K : Nat} : hN (grH h N K) = hN h + 1 + N := rfl
theorem hT_Ce {h : AH} {kd len a : Nat} (e : a = hN h) : hT (newC h kd len) a = (kd, len) := u1_e e
/-- x as it begins, at B and behind -/
def BX (h h' : AH) (B : Nat) : Prop := hN h' = B + 51 ∧ (∀ a, a < B ∨ B + 51 ≤ a → hT h' a = hT h a) ∧ (∀ a, a < B → hI h' a = hI h a ∧ hQ h' a = hQ h a) ∧ hT h' B = (11, 0) ∧ C7 h' (B + 1) ∧ C7 h' (B + 10) ∧ (hT h' (B + 19) = (8, 0) ∧ hQ h' (B + 19) 0 = some (B + 20) ∧ hI h' (B + 19) 1 = 0 ∧ hT h' (B + 20) = (14, 20)) ∧ (hT h' (B + 21) = (14, 40) ∧ hT h' (B + 22) = (14, 40) ∧ hT h' (B + 23) = (14, 40) ∧ hT h' (B + 24) = (14, 40)) ∧ hT h' (B + 25) = (20, 24) ∧ (∀ j, j < 24 → hT h' (B + 26 + j) = (14, 40) ∧ hQ h' (B + 25) j = some (B + 26 + j)) ∧ hT h' (B + 50) = (14, 8) ∧ hQ h' B 0 = some (B + 1) ∧ hQ h' B 1 = some (B + 10) ∧ hQ h' B 3 = some (B + 19) ∧ hQ h' B 4 = some (B + 21) ∧ hQ h' B 5 = some (B + 22) ∧ hQ h' B 6 = some (B + 23) ∧ hQ h' B 7 = some (B + 24) ∧ hQ h' B 8 = some (B + 25) ∧ hQ h' B 9 = some (B + 50) ∧ hI h' B 2 = 0
set_option maxHeartbeats 1000000 in
theorem bx_of {h h2 h4 h6 : AH} {B : Nat} (e0 : hN h = B + 1) (t0 : hT h B = (11, 0)) (f2 : B7 (newC h 7 0) h2 (B + 1)) (f4 : B7 (newC (setQ h2 B 0 (some (B + 1))) 7 0) h4 (B + 10)) (f6 : B8 (newC (setI (setQ h4 B 1 (some (B + 10))) B 2 0) 8 0) h6 (B + 19)) : BX h (setQ (newC (setQ (grH (setQ (newC (setQ (newC (setQ (newC (setQ (newC (setQ h6 B 3 (some (B + 19))) 14 40) B 4 (some (B + 21))) 14 40) B 5 (some (B + 22))) 14 40) B 6 (some (B + 23))) 14 40) B 7 (some (B + 24))) 24 40) B 8 (some (B + 25))) 14 8) B 9 (some (B + 50))) B := by
  have t1 : hT (newC h 7 0) (B + 1) = (7, 0) := hT_Ce e0.symm
  obtain ⟨c2, n2, ft2, fv2⟩ := f2.c t1 (by show hN h + 1 = _; omega)
  have t3 : hT (newC (setQ h2 B 0 (some (B + 1))) 7 0) (B + 10) = (7, 0) := hT_Ce (by show B + 10 = hN h2; omega)
  obtain ⟨c4, n4, ft4, fv4⟩ := f4.c t3 (by show hN h2 + 1 = _; omega)
  have t5 : hT (newC (setI (setQ h4 B 1 (some (B + 10))) B 2 0) 8 0) (B + 19) = (8, 0) := hT_Ce (by show B + 19 = hN h4; omega)
  have n5 : hN (newC (setI (setQ h4 B 1 (some (B + 10))) B 2 0) 8 0) = B + 20 := by show hN h4 + 1 = _; omega
  unfold B8 at f6
  rw [n5] at f6
  obtain ⟨n6, ft6, fv6, u1_, u2_, u3_, u4_⟩ := f6
  have n6 : hN h6 = B + 21 := n6
  have kt : ∀ a, a < B + 21 → hT (setQ (newC (setQ (grH (setQ (newC (setQ (newC (setQ (newC (setQ (newC (setQ h6 B 3 (some (B + 19))) 14 40) B 4 (some (B + 21))) 14 40) B 5 (some (B + 22))) 14 40) B 6 (some (B + 23))) 14 40) B 7 (some (B + 24))) 24 40) B 8 (some (B + 25))) 14 8) B 9 (some (B + 50))) a = hT h6 a := fun a ha => by repeat (first | rw [hT_sQ] | rw [hI_sQ] | rw [hT_sI] | rw [hQ_sI] | rw [hI_setI_n (by omega)] | rw [hQ_sn (by omega)] | rw [hQ_ss] | rw [hQ_sk (by omega)] | rw [hT_C (by simp only [hN_sQ, hN_sI, hN_C, hN_G, n6]; omega)] | rw [hI_C (by simp only [hN_sQ, hN_sI, hN_C, hN_G, n6]; omega)] | rw [hQ_C (by simp only [hN_sQ, hN_sI, hN_C, hN_G, n6]; omega)] | rw [hT_Ce (by simp only [hN_sQ, hN_sI, hN_C, hN_G, n6])] | rw [gr_t (by simp only [hN_sQ, hN_sI, hN_C, hN_G, n6]; omega)] | rw [gr_i (by simp only [hN_sQ, hN_sI, hN_C, hN_G, n6]; omega)] | rw [gr_q (by simp only [hN_sQ, hN_sI, hN_C, hN_G, n6]; omega)])
  have ki : ∀ a, a < B + 21 → hI (setQ (newC (setQ (grH (setQ (newC (setQ (newC (setQ (newC (setQ (newC (setQ h6 B 3 (some (B + 19))) 14 40) B 4 (some (B + 21))) 14 40) B 5 (some (B + 22))) 14 40) B 6 (some (B + 23))) 14 40) B 7 (some (B + 24))) 24 40) B 8 (some (B + 25))) 14 8) B 9 (some (B + 50))) a = hI h6 a := fun a ha => by repeat (first | rw [hT_sQ] | rw [hI_sQ] | rw [hT_sI] | rw [hQ_sI] | rw [hI_setI_n (by omega)] | rw [hQ_sn (by omega)] | rw [hQ_ss] | rw [hQ_sk (by omega)] | rw [hT_C (by simp only [hN_sQ, hN_sI, hN_C, hN_G, n6]; omega)] | rw [hI_C (by simp only [hN_sQ, hN_sI, hN_C, hN_G, n6]; omega)] | rw [hQ_C (by simp only [hN_sQ, hN_sI, hN_C, hN_G, n6]; omega)] | rw [hT_Ce (by simp only [hN_sQ, hN_sI, hN_C, hN_G, n6])] | rw [gr_t (by simp only [hN_sQ, hN_sI, hN_C, hN_G, n6]; omega)] | rw [gr_i (by simp only [hN_sQ, hN_sI, hN_C, hN_G, n6]; omega)] | rw [gr_q (by simp only [hN_sQ, hN_sI, hN_C, hN_G, n6]; omega)])
  have kq : ∀ a, a < B + 21 → a ≠ B → hQ (setQ (newC (setQ (grH (setQ (newC (setQ (newC (setQ (newC (setQ (newC (setQ h6 B 3 (some (B + 19))) 14 40) B 4 (some (B + 21))) 14 40) B 5 (some (B + 22))) 14 40) B 6 (some (B + 23))) 14 40) B 7 (some (B + 24))) 24 40) B 8 (some (B + 25))) 14 8) B 9 (some (B + 50))) a = hQ h6 a := fun a ha hb => by repeat (first | rw [hT_sQ] | rw [hI_sQ] | rw [hT_sI] | rw [hQ_sI] | rw [hI_setI_n (by omega)] | rw [hQ_sn (by omega)] | rw [hQ_ss] | rw [hQ_sk (by omega)] | rw [hT_C (by simp only [hN_sQ, hN_sI, hN_C, hN_G, n6]; omega)] | rw [hI_C (by simp only [hN_sQ, hN_sI, hN_C, hN_G, n6]; omega)] | rw [hQ_C (by simp only [hN_sQ, hN_sI, hN_C, hN_G, n6]; omega)] | rw [hT_Ce (by simp only [hN_sQ, hN_sI, hN_C, hN_G, n6])] | rw [gr_t (by simp only [hN_sQ, hN_sI, hN_C, hN_G, n6]; omega)] | rw [gr_i (by simp only [hN_sQ, hN_sI, hN_C, hN_G, n6]; omega)] | rw [gr_q (by simp only [hN_sQ, hN_sI, hN_C, hN_G, n6]; omega)])
  have k5t : ∀ a, a < B + 19 → hT h6 a = hT h4 a := fun a ha => (ft6 a (Or.inl (by omega))).trans (hT_C (h := setI (setQ h4 B 1 (some (B + 10))) B 2 0) (by show a ≠ hN h4; omega))
  have k5i : ∀ a, a < B + 19 → a ≠ B → hI h6 a = hI h4 a ∧ hQ h6 a = hQ h4 a := fun a ha hb => by
    have := fv6 a (by omega) (by omega)
    refine ⟨this.1.trans ?_, this.2.trans ?_⟩
    · exact (hI_C (h := setI (setQ h4 B 1 (some (B + 10))) B 2 0) (by show a ≠ hN h4; omega)).trans (hI_setI_n hb)
    · exact (hQ_C (h := setI (setQ h4 B 1 (some (B + 10))) B 2 0) (by show a ≠ hN h4; omega)).trans (hQ_sn hb)
  have k3t : ∀ a, a < B + 10 → hT h4 a = hT h2 a := fun a ha => (ft4 a (Or.inl (by omega))).trans (hT_C (h := setQ h2 B 0 (some (B + 1))) (by show a ≠ hN h2; omega))
  have k3i : ∀ a, a < B + 10 → a ≠ B → hI h4 a = hI h2 a ∧ hQ h4 a = hQ h2 a := fun a ha hb => by
    have := fv4 a (by omega)
    exact ⟨this.1.trans (hI_C (h := setQ h2 B 0 (some (B + 1))) (by show a ≠ hN h2; omega)), (this.2.trans (hQ_C (h := setQ h2 B 0 (some (B + 1))) (by show a ≠ hN h2; omega))).trans (hQ_sn hb)⟩
  have b2t : hT h2 B = (11, 0) := (ft2 B (Or.inl (by omega))).trans ((hT_C (by omega)).trans t0)
  have q0 : hQ h6 B 0 = some (B + 1) := by
    rw [(fv6 B (by omega) (by omega)).2, hQ_C (h := setI (setQ h4 B 1 (some (B + 10))) B 2 0) (by show B ≠ hN h4; omega), hQ_sI, hQ_sk (by decide), (fv4 B (by omega)).2, hQ_C (h := setQ h2 B 0 (some (B + 1))) (by show B ≠ hN h2; omega), hQ_ss]
  have q1 : hQ h6 B 1 = some (B + 10) := by
    rw [(fv6 B (by omega) (by omega)).2, hQ_C (h := setI (setQ h4 B 1 (some (B + 10))) B 2 0) (by show B ≠ hN h4; omega), hQ_sI, hQ_ss]
  have i2 : hI h6 B 2 = 0 := by
    rw [(fv6 B (by omega) (by omega)).1, hI_C (h := setI (setQ h4 B 1 (some (B + 10))) B 2 0) (by show B ≠ hN h4; omega), hI_setI_s, upd_s]
  refine ⟨?_, fun a ha => ?_, fun a ha => ⟨?_, ?_⟩, ?_, c2.kp (fun a h1 h2' => ⟨?_, ?_, ?_⟩), c4.kp (fun a h1 h2' => ⟨?_, ?_, ?_⟩), ⟨?_, ?_, ?_, ?_⟩, ⟨?_, ?_, ?_, ?_⟩, ?_, fun j hj => ⟨?_, ?_⟩, ?_, ?_, ?_, ?_, ?_, ?_, ?_, ?_, ?_, ?_, ?_⟩
  · show hN h6 + 1 + 1 + 1 + 1 + 1 + 24 + 1 = _; omega
  · rcases ha with ha | ha
    · rw [kt a (by omega), k5t a (by omega), k3t a (by omega), ft2 a (Or.inl (by omega)), hT_C (by omega)]
    · have s6 : hT h6 a = hT h a := by
        rw [ft6 a (Or.inr (by omega)), hT_C (h := setI (setQ h4 B 1 (some (B + 10))) B 2 0) (by show a ≠ hN h4; omega)]
        show hT h4 a = _
        rw [ft4 a (Or.inr (by omega)), hT_C (h := setQ h2 B 0 (some (B + 1))) (by show a ≠ hN h2; omega)]
        show hT h2 a = _
        rw [ft2 a (Or.inr (by omega)), hT_C (by omega)]
      rw [← s6]
      repeat (first | rw [hT_sQ] | rw [hI_sQ] | rw [hT_sI] | rw [hQ_sI] | rw [hI_setI_n (by omega)] | rw [hQ_sn (by omega)] | rw [hQ_ss] | rw [hQ_sk (by omega)] | rw [hT_C (by simp only [hN_sQ, hN_sI, hN_C, hN_G, n6]; omega)] | rw [hI_C (by simp only [hN_sQ, hN_sI, hN_C, hN_G, n6]; omega)] | rw [hQ_C (by simp only [hN_sQ, hN_sI, hN_C, hN_G, n6]; omega)] | rw [hT_Ce (by simp only [hN_sQ, hN_sI, hN_C, hN_G, n6])] | rw [gr_t (by simp only [hN_sQ, hN_sI, hN_C, hN_G, n6]; omega)] | rw [gr_i (by simp only [hN_sQ, hN_sI, hN_C, hN_G, n6]; omega)] | rw [gr_q (by simp only [hN_sQ, hN_sI, hN_C, hN_G, n6]; omega)])
  · rw [ki a (by omega), (k5i a (by omega) (by omega)).1, (k3i a (by omega) (by omega)).1, (fv2 a (by omega)).1, hI_C (by omega)]
  · rw [kq a (by omega) (by omega), (k5i a (by omega) (by omega)).2, (k3i a (by omega) (by omega)).2, (fv2 a (by omega)).2, hQ_C (by omega)]
  · rw [kt B (by omega), k5t B (by omega), k3t B (by omega)]; exact b2t
  · rw [kt a (by omega), k5t a (by omega), k3t a (by omega)]
  · rw [ki a (by omega), (k5i a (by omega) (by omega)).1, (k3i a (by omega) (by omega)).1]
  · rw [kq a (by omega) (by omega), (k5i a (by omega) (by omega)).2, (k3i a (by omega) (by omega)).2]
  · rw [kt a (by omega), k5t a (by omega)]
  · rw [ki a (by omega), (k5i a (by omega) (by omega)).1]
  · rw [kq a (by omega) (by omega), (k5i a (by omega) (by omega)).2]
  · rw [kt _ (by omega), ft6 _ (Or.inl (by omega))]; exact t5
  · rw [kq _ (by omega) (by omega)]; exact u2_
  · rw [ki _ (by omega)]; exact u3_
  · rw [kt _ (by omega)]; exact u1_
  · repeat (first | rw [hT_sQ] | rw [hI_sQ] | rw [hT_sI] | rw [hQ_sI] | rw [hI_setI_n (by omega)] | rw [hQ_sn (by omega)] | rw [hQ_ss] | rw [hQ_sk (by omega)] | rw [hT_C (by simp only [hN_sQ, hN_sI, hN_C, hN_G, n6]; omega)] | rw [hI_C (by simp only [hN_sQ, hN_sI, hN_C, hN_G, n6]; omega)] | rw [hQ_C (by simp only [hN_sQ, hN_sI, hN_C, hN_G, n6]; omega)] | rw [hT_Ce (by simp only [hN_sQ, hN_sI, hN_C, hN_G, n6])] | rw [gr_t (by simp only [hN_sQ, hN_sI, hN_C, hN_G, n6]; omega)] | rw [gr_i (by simp only [hN_sQ, hN_sI, hN_C, hN_G, n6]; omega)] | rw [gr_q (by simp only [hN_sQ, hN_sI, hN_C, hN_G, n6]; omega)])
  · repeat (first | rw [hT_sQ] | rw [hI_sQ] | rw [hT_sI] | rw [hQ_sI] | rw [hI_setI_n (by omega)] | rw [hQ_sn (by omega)] | rw [hQ_ss] | rw [hQ_sk (by omega)] | rw [hT_C (by simp only [hN_sQ, hN_sI, hN_C, hN_G, n6]; omega)] | rw [hI_C (by simp only [hN_sQ, hN_sI, hN_C, hN_G, n6]; omega)] | rw [hQ_C (by simp only [hN_sQ, hN_sI, hN_C, hN_G, n6]; omega)] | rw [hT_Ce (by simp only [hN_sQ, hN_sI, hN_C, hN_G, n6])] | rw [gr_t (by simp only [hN_sQ, hN_sI, hN_C, hN_G, n6]; omega)] | rw [gr_i (by simp only [hN_sQ, hN_sI, hN_C, hN_G, n6]; omega)] | rw [gr_q (by simp only [hN_sQ, hN_sI, hN_C, hN_G, n6]; omega)])
  · repeat (first | rw [hT_sQ] | rw [hI_sQ] | rw [hT_sI] | rw [hQ_sI] | rw [hI_setI_n (by omega)] | rw [hQ_sn (by omega)] | rw [hQ_ss] | rw [hQ_sk (by omega)] | rw [hT_C (by simp only [hN_sQ, hN_sI, hN_C, hN_G, n6]; omega)] | rw [hI_C (by simp only [hN_sQ, hN_sI, hN_C, hN_G, n6]; omega)] | rw [hQ_C (by simp only [hN_sQ, hN_sI, hN_C, hN_G, n6]; omega)] | rw [hT_Ce (by simp only [hN_sQ, hN_sI, hN_C, hN_G, n6])] | rw [gr_t (by simp only [hN_sQ, hN_sI, hN_C, hN_G, n6]; omega)] | rw [gr_i (by simp only [hN_sQ, hN_sI, hN_C, hN_G, n6]; omega)] | rw [gr_q (by simp only [hN_sQ, hN_sI, hN_C, hN_G, n6]; omega)])
  · repeat (first | rw [hT_sQ] | rw [hI_sQ] | rw [hT_sI] | rw [hQ_sI] | rw [hI_setI_n (by omega)] | rw [hQ_sn (by omega)] | rw [hQ_ss] | rw [hQ_sk (by omega)] | rw [hT_C (by simp only [hN_sQ, hN_sI, hN_C, hN_G, n6]; omega)] | rw [hI_C (by simp only [hN_sQ, hN_sI, hN_C, hN_G, n6]; omega)] | rw [hQ_C (by simp only [hN_sQ, hN_sI, hN_C, hN_G, n6]; omega)] | rw [hT_Ce (by simp only [hN_sQ, hN_sI, hN_C, hN_G, n6])] | rw [gr_t (by simp only [hN_sQ, hN_sI, hN_C, hN_G, n6]; omega)] | rw [gr_i (by simp only [hN_sQ, hN_sI, hN_C, hN_G, n6]; omega)] | rw [gr_q (by simp only [hN_sQ, hN_sI, hN_C, hN_G, n6]; omega)])
  · rw [hT_sQ, hT_C (by simp only [hN_sQ, hN_sI, hN_C, hN_G, n6]; omega), hT_sQ]; exact (congrArg (hT (grH (setQ (newC (setQ (newC (setQ (newC (setQ (newC (setQ h6 B 3 (some (B + 19))) 14 40) B 4 (some (B + 21))) 14 40) B 5 (some (B + 22))) 14 40) B 6 (some (B + 23))) 14 40) B 7 (some (B + 24))) 24 40)) (show B + 25 = hN (setQ (newC (setQ (newC (setQ (newC (setQ (newC (setQ h6 B 3 (some (B + 19))) 14 40) B 4 (some (B + 21))) 14 40) B 5 (some (B + 22))) 14 40) B 6 (some (B + 23))) 14 40) B 7 (some (B + 24))) by simp only [hN_sQ, hN_C, n6])).trans gr_t0
  · rw [hT_sQ, hT_C (by simp only [hN_sQ, hN_sI, hN_C, hN_G, n6]; omega), hT_sQ]; exact (congrArg (hT (grH (setQ (newC (setQ (newC (setQ (newC (setQ (newC (setQ h6 B 3 (some (B + 19))) 14 40) B 4 (some (B + 21))) 14 40) B 5 (some (B + 22))) 14 40) B 6 (some (B + 23))) 14 40) B 7 (some (B + 24))) 24 40)) (show B + 26 + j = hN (setQ (newC (setQ (newC (setQ (newC (setQ (newC (setQ h6 B 3 (some (B + 19))) 14 40) B 4 (some (B + 21))) 14 40) B 5 (some (B + 22))) 14 40) B 6 (some (B + 23))) 14 40) B 7 (some (B + 24))) + 1 + j by simp only [hN_sQ, hN_C, n6])).trans (gr_t1 hj)
  · rw [hQ_sn (by omega), hQ_C (by simp only [hN_sQ, hN_sI, hN_C, hN_G, n6]; omega), hQ_sn (by omega)]; exact ((congrArg (fun z => hQ (grH (setQ (newC (setQ (newC (setQ (newC (setQ (newC (setQ h6 B 3 (some (B + 19))) 14 40) B 4 (some (B + 21))) 14 40) B 5 (some (B + 22))) 14 40) B 6 (some (B + 23))) 14 40) B 7 (some (B + 24))) 24 40) z j) (show B + 25 = hN (setQ (newC (setQ (newC (setQ (newC (setQ (newC (setQ h6 B 3 (some (B + 19))) 14 40) B 4 (some (B + 21))) 14 40) B 5 (some (B + 22))) 14 40) B 6 (some (B + 23))) 14 40) B 7 (some (B + 24))) by simp only [hN_sQ, hN_C, n6])).trans (gr_q0 hj)).trans (by simp only [hN_sQ, hN_C, n6])
  · rw [hT_sQ]; exact hT_Ce (by simp only [hN_sQ, hN_sI, hN_C, hN_G, n6])
  · (repeat (first | rw [hT_sQ] | rw [hI_sQ] | rw [hT_sI] | rw [hQ_sI] | rw [hI_setI_n (by omega)] | rw [hQ_sn (by omega)] | rw [hQ_ss] | rw [hQ_sk (by omega)] | rw [hT_C (by simp only [hN_sQ, hN_sI, hN_C, hN_G, n6]; omega)] | rw [hI_C (by simp only [hN_sQ, hN_sI, hN_C, hN_G, n6]; omega)] | rw [hQ_C (by simp only [hN_sQ, hN_sI, hN_C, hN_G, n6]; omega)] | rw [hT_Ce (by simp only [hN_sQ, hN_sI, hN_C, hN_G, n6])] | rw [gr_t (by simp only [hN_sQ, hN_sI, hN_C, hN_G, n6]; omega)] | rw [gr_i (by simp only [hN_sQ, hN_sI, hN_C, hN_G, n6]; omega)] | rw [gr_q (by simp only [hN_sQ, hN_sI, hN_C, hN_G, n6]; omega)])); exact q0
  · (repeat (first | rw [hT_sQ] | rw [hI_sQ] | rw [hT_sI] | rw [hQ_sI] | rw [hI_setI_n (by omega)] | rw [hQ_sn (by omega)] | rw [hQ_ss] | rw [hQ_sk (by omega)] | rw [hT_C (by simp only [hN_sQ, hN_sI, hN_C, hN_G, n6]; omega)] | rw [hI_C (by simp only [hN_sQ, hN_sI, hN_C, hN_G, n6]; omega)] | rw [hQ_C (by simp only [hN_sQ, hN_sI, hN_C, hN_G, n6]; omega)] | rw [hT_Ce (by simp only [hN_sQ, hN_sI, hN_C, hN_G, n6])] | rw [gr_t (by simp only [hN_sQ, hN_sI, hN_C, hN_G, n6]; omega)] | rw [gr_i (by simp only [hN_sQ, hN_sI, hN_C, hN_G, n6]; omega)] | rw [gr_q (by simp only [hN_sQ, hN_sI, hN_C, hN_G, n6]; omega)])); exact q1
  · repeat (first | rw [hT_sQ] | rw [hI_sQ] | rw [hT_sI] | rw [hQ_sI] | rw [hI_setI_n (by omega)] | rw [hQ_sn (by omega)] | rw [hQ_ss] | rw [hQ_sk (by omega)] | rw [hT_C (by simp only [hN_sQ, hN_sI, hN_C, hN_G, n6]; omega)] | rw [hI_C (by simp only [hN_sQ, hN_sI, hN_C, hN_G, n6]; omega)] | rw [hQ_C (by simp only [hN_sQ, hN_sI, hN_C, hN_G, n6]; omega)] | rw [hT_Ce (by simp only [hN_sQ, hN_sI, hN_C, hN_G, n6])] | rw [gr_t (by simp only [hN_sQ, hN_sI, hN_C, hN_G, n6]; omega)] | rw [gr_i (by simp only [hN_sQ, hN_sI, hN_C, hN_G, n6]; omega)] | rw [gr_q (by simp only [hN_sQ, hN_sI, hN_C, hN_G, n6]; omega)])
  · repeat (first | rw [hT_sQ] | rw [hI_sQ] | rw [hT_sI] | rw [hQ_sI] | rw [hI_setI_n (by omega)] | rw [hQ_sn (by omega)] | rw [hQ_ss] | rw [hQ_sk (by omega)] | rw [hT_C (by simp only [hN_sQ, hN_sI, hN_C, hN_G, n6]; omega)] | rw [hI_C (by simp only [hN_sQ, hN_sI, hN_C, hN_G, n6]; omega)] | rw [hQ_C (by simp only [hN_sQ, hN_sI, hN_C, hN_G, n6]; omega)] | rw [hT_Ce (by simp only [hN_sQ, hN_sI, hN_C, hN_G, n6])] | rw [gr_t (by simp only [hN_sQ, hN_sI, hN_C, hN_G, n6]; omega)] | rw [gr_i (by simp only [hN_sQ, hN_sI, hN_C, hN_G, n6]; omega)] | rw [gr_q (by simp only [hN_sQ, hN_sI, hN_C, hN_G, n6]; omega)])
  · repeat (first | rw [hT_sQ] | rw [hI_sQ] | rw [hT_sI] | rw [hQ_sI] | rw [hI_setI_n (by omega)] | rw [hQ_sn (by omega)] | rw [hQ_ss] | rw [hQ_sk (by omega)] | rw [hT_C (by simp only [hN_sQ, hN_sI, hN_C, hN_G, n6]; omega)] | rw [hI_C (by simp only [hN_sQ, hN_sI, hN_C, hN_G, n6]; omega)] | rw [hQ_C (by simp only [hN_sQ, hN_sI, hN_C, hN_G, n6]; omega)] | rw [hT_Ce (by simp only [hN_sQ, hN_sI, hN_C, hN_G, n6])] | rw [gr_t (by simp only [hN_sQ, hN_sI, hN_C, hN_G, n6]; omega)] | rw [gr_i (by simp only [hN_sQ, hN_sI, hN_C, hN_G, n6]; omega)] | rw [gr_q (by simp only [hN_sQ, hN_sI, hN_C, hN_G, n6]; omega)])
  · repeat (first | rw [hT_sQ] | rw [hI_sQ] | rw [hT_sI] | rw [hQ_sI] | rw [hI_setI_n (by omega)] | rw [hQ_sn (by omega)] | rw [hQ_ss] | rw [hQ_sk (by omega)] | rw [hT_C (by simp only [hN_sQ, hN_sI, hN_C, hN_G, n6]; omega)] | rw [hI_C (by simp only [hN_sQ, hN_sI, hN_C, hN_G, n6]; omega)] | rw [hQ_C (by simp only [hN_sQ, hN_sI, hN_C, hN_G, n6]; omega)] | rw [hT_Ce (by simp only [hN_sQ, hN_sI, hN_C, hN_G, n6])] | rw [gr_t (by simp only [hN_sQ, hN_sI, hN_C, hN_G, n6]; omega)] | rw [gr_i (by simp only [hN_sQ, hN_sI, hN_C, hN_G, n6]; omega)] | rw [gr_q (by simp only [hN_sQ, hN_sI, hN_C, hN_G, n6]; omega)])
  · repeat (first | rw [hT_sQ] | rw [hI_sQ] | rw [hT_sI] | rw [hQ_sI] | rw [hI_setI_n (by omega)] | rw [hQ_sn (by omega)] | rw [hQ_ss] | rw [hQ_sk (by omega)] | rw [hT_C (by simp only [hN_sQ, hN_sI, hN_C, hN_G, n6]; omega)] | rw [hI_C (by simp only [hN_sQ, hN_sI, hN_C, hN_G, n6]; omega)] | rw [hQ_C (by simp only [hN_sQ, hN_sI, hN_C, hN_G, n6]; omega)] | rw [hT_Ce (by simp only [hN_sQ, hN_sI, hN_C, hN_G, n6])] | rw [gr_t (by simp only [hN_sQ, hN_sI, hN_C, hN_G, n6]; omega)] | rw [gr_i (by simp only [hN_sQ, hN_sI, hN_C, hN_G, n6]; omega)] | rw [gr_q (by simp only [hN_sQ, hN_sI, hN_C, hN_G, n6]; omega)])
  · repeat (first | rw [hT_sQ] | rw [hI_sQ] | rw [hT_sI] | rw [hQ_sI] | rw [hI_setI_n (by omega)] | rw [hQ_sn (by omega)] | rw [hQ_ss] | rw [hQ_sk (by omega)] | rw [hT_C (by simp only [hN_sQ, hN_sI, hN_C, hN_G, n6]; omega)] | rw [hI_C (by simp only [hN_sQ, hN_sI, hN_C, hN_G, n6]; omega)] | rw [hQ_C (by simp only [hN_sQ, hN_sI, hN_C, hN_G, n6]; omega)] | rw [hT_Ce (by simp only [hN_sQ, hN_sI, hN_C, hN_G, n6])] | rw [gr_t (by simp only [hN_sQ, hN_sI, hN_C, hN_G, n6]; omega)] | rw [gr_i (by simp only [hN_sQ, hN_sI, hN_C, hN_G, n6]; omega)] | rw [gr_q (by simp only [hN_sQ, hN_sI, hN_C, hN_G, n6]; omega)])
  · repeat (first | rw [hT_sQ] | rw [hI_sQ] | rw [hT_sI] | rw [hQ_sI] | rw [hI_setI_n (by omega)] | rw [hQ_sn (by omega)] | rw [hQ_ss] | rw [hQ_sk (by omega)] | rw [hT_C (by simp only [hN_sQ, hN_sI, hN_C, hN_G, n6]; omega)] | rw [hI_C (by simp only [hN_sQ, hN_sI, hN_C, hN_G, n6]; omega)] | rw [hQ_C (by simp only [hN_sQ, hN_sI, hN_C, hN_G, n6]; omega)] | rw [hT_Ce (by simp only [hN_sQ, hN_sI, hN_C, hN_G, n6])] | rw [gr_t (by simp only [hN_sQ, hN_sI, hN_C, hN_G, n6]; omega)] | rw [gr_i (by simp only [hN_sQ, hN_sI, hN_C, hN_G, n6]; omega)] | rw [gr_q (by simp only [hN_sQ, hN_sI, hN_C, hN_G, n6]; omega)])
  · rw [ki B (by omega)]; exact i2
set_option maxRecDepth 100000 in
theorem i_X11 (g : GG) (h : AH) (B : Nat) (t0 : hT h B = (11, 0)) (e0 : hN h = B + 1) : AM g 3 50 1554 mX11_init [.ref B] h (fun rv h' => rv = none ∧ BX h h' B) := by
  refine AM.of [(0, .ref B)] (by decide) (Nat.le_of_ble_eq_true rfl) rfl ?_
  intro V hV
  have hb : V.2.1.2.1 = cX11_init := by subst hV; rfl
  have ow : V.2.1.1.cls = RX11 := by subst hV; rfl
  have hr : V.2.2.1 = aw_rm 3 50 1554 := by subst hV; rfl
  have hz : V.2.2.2 = aw_Z V.1 (fun rv h' => rv = none ∧ BX h h' B) V.2.2.1 := by subst hV; rfl
  have hg : V.1 = g := by subst hV; rfl
  have hret : V.2.1.2.2.2 = none := by subst hV; rfl
  have hml : V.2.1.2.2.1 = 1 := by subst hV; rfl
  have hnm : V.2.1.1.name = "<init>" := by subst hV; rfl
  clear hV
  refine a_aload_n hb dX11_init_0 rfl 0 rfl ?_
  refine a_objInit hb dX11_init_1 (by rw [ow]; exact kw_107) kw_108 kw_109 (by decide) (by rw [hr]; exact ⟨by decide, by decide⟩) ?_
  refine a_aload_n hb dX11_init_4 rfl 0 rfl ?_
  refine a_new hb dX11_init_5 (by rw [ow]; exact cn_RX11_9) (by rw [hr]; exact ⟨by decide, by decide⟩) ?_
  rw [show hN h = B + 1 from by simp only [hN_sQ, hN_sI, hN_C, hN_G, e0]; first | done | omega]
  show AW V 1 13 (newC h 7 0) 8 [(0, .ref B)] [.ref (B + 1), .ref B]
  refine a_dup hb dX11_init_8 rfl ?_
  refine a_callN hb dX11_init_9 (by rw [hg]; exact i_X7 g (newC h 7 0) (B + 1) (hT_Ce (by simp only [hN_sQ, hN_sI, hN_C, hN_G, e0]; first | done | omega)) (by simp only [hN_sQ, hN_sI, hN_C, hN_G, e0]; omega)) (by rw [ow]; exact cln_RX11_11) rfl rfl (Nat.le_of_ble_eq_true rfl) (by rw [hr]; exact ⟨by decide, by decide⟩) (by rw [hr]; exact ⟨Nat.le_of_ble_eq_true rfl, Nat.le_of_ble_eq_true rfl⟩) ?_
  intro rv h2 hq_
  obtain ⟨hv_, f2⟩ := hq_
  rw [hv_]
  clear hv_
  have c_h2 := f2.c (hT_Ce (by simp only [hN_sQ, hN_sI, hN_C, hN_G, e0]; first | done | omega)) (by simp only [hN_sQ, hN_sI, hN_C, hN_G, e0]; first | done | omega)
  have n_h2 : hN h2 = B + 10 := c_h2.2.1
  have t_h2 : hT h2 B = (11, 0) := (c_h2.2.2.1 B (Or.inl (by omega))).trans (show hT (newC h 7 0) B = (11, 0) from (hT_C (by simp only [hN_sQ, hN_sI, hN_C, hN_G, e0]; omega)).trans (t0))
  show AW V 9 190 h2 12 [(0, .ref B)] [.ref (B + 1), .ref B]
  refine a_putQ (fty := .object "KettleBeats$State") hb dX11_init_12 (by rw [ow]; exact fp_RX11_12_11) (Or.inl (by rw [hnm])) (show hT h2 B = (11, 0) from t_h2) rfl rfl ?_
  refine a_aload_n hb dX11_init_15 rfl 0 rfl ?_
  refine a_new hb dX11_init_16 (by rw [ow]; exact cn_RX11_9) (by rw [hr]; exact ⟨by decide, by decide⟩) ?_
  rw [show hN (setQ h2 B 0 (some (B + 1))) = B + 10 from by simp only [hN_sQ, hN_sI, hN_C, hN_G, n_h2]; first | done | omega]
  show AW V 10 203 (newC (setQ h2 B 0 (some (B + 1))) 7 0) 19 [(0, .ref B)] [.ref (B + 10), .ref B]
  refine a_dup hb dX11_init_19 rfl ?_
  refine a_callN hb dX11_init_20 (by rw [hg]; exact i_X7 g (newC (setQ h2 B 0 (some (B + 1))) 7 0) (B + 10) (hT_Ce (by simp only [hN_sQ, hN_sI, hN_C, hN_G, n_h2]; first | done | omega)) (by simp only [hN_sQ, hN_sI, hN_C, hN_G, n_h2]; omega)) (by rw [ow]; exact cln_RX11_11) rfl rfl (Nat.le_of_ble_eq_true rfl) (by rw [hr]; exact ⟨by decide, by decide⟩) (by rw [hr]; exact ⟨Nat.le_of_ble_eq_true rfl, Nat.le_of_ble_eq_true rfl⟩) ?_
  intro rv h4 hq_
  obtain ⟨hv_, f4⟩ := hq_
  rw [hv_]
  clear hv_
  have c_h4 := f4.c (hT_Ce (by simp only [hN_sQ, hN_sI, hN_C, hN_G, n_h2]; first | done | omega)) (by simp only [hN_sQ, hN_sI, hN_C, hN_G, n_h2]; first | done | omega)
  have n_h4 : hN h4 = B + 19 := c_h4.2.1
  have t_h4 : hT h4 B = (11, 0) := (c_h4.2.2.1 B (Or.inl (by omega))).trans (show hT (newC (setQ h2 B 0 (some (B + 1))) 7 0) B = (11, 0) from (hT_C (by simp only [hN_sQ, hN_sI, hN_C, hN_G, n_h2]; omega)).trans (t_h2))
  show AW V 18 380 h4 23 [(0, .ref B)] [.ref (B + 10), .ref B]
  refine a_putQ (fty := .object "KettleBeats$State") hb dX11_init_23 (by rw [ow]; exact fp_RX11_18_11) (Or.inl (by rw [hnm])) (show hT h4 B = (11, 0) from t_h4) rfl rfl ?_
  refine a_aload_n hb dX11_init_26 rfl 0 rfl ?_
  refine a_iconst (v := 0) hb dX11_init_27 (by decide) ?_
  refine a_putI (fty := .boolean) hb dX11_init_28 (by rw [ow]; exact fp_RX11_21_11) (Or.inl (by rw [hnm])) (show hT (setQ h4 B 1 (some (B + 10))) B = (11, 0) from t_h4) rfl rfl ?_
  refine a_aload_n hb dX11_init_31 rfl 0 rfl ?_
  refine a_new hb dX11_init_32 (by rw [ow]; exact cn_RX11_25) (by rw [hr]; exact ⟨by decide, by decide⟩) ?_
  rw [show hN (setI (setQ h4 B 1 (some (B + 10))) B 2 0) = B + 19 from by simp only [hN_sQ, hN_sI, hN_C, hN_G, n_h4]; first | done | omega]
  show AW V 19 382 (newC (setI (setQ h4 B 1 (some (B + 10))) B 2 0) 8 0) 35 [(0, .ref B)] [.ref (B + 19), .ref B]
  refine a_dup hb dX11_init_35 rfl ?_
  refine a_callN hb dX11_init_36 (by rw [hg]; exact i_X8 g (newC (setI (setQ h4 B 1 (some (B + 10))) B 2 0) 8 0) (B + 19) (hT_Ce (by simp only [hN_sQ, hN_sI, hN_C, hN_G, n_h4]; first | done | omega)) (by simp only [hN_sQ, hN_sI, hN_C, hN_G, n_h4]; omega)) (by rw [ow]; exact cln_RX11_27) rfl rfl (Nat.le_of_ble_eq_true rfl) (by rw [hr]; exact ⟨by decide, by decide⟩) (by rw [hr]; exact ⟨Nat.le_of_ble_eq_true rfl, Nat.le_of_ble_eq_true rfl⟩) ?_
  intro rv h6 hq_
  obtain ⟨hv_, f6⟩ := hq_
  rw [hv_]
  clear hv_
  have n_h6 : hN h6 = B + 21 := by rw [f6.1]; simp only [hN_sQ, hN_sI, hN_C, hN_G, n_h4]
  have t_h6 : hT h6 B = (11, 0) := (f6.2.1 B (Or.inl (by simp only [hN_sQ, hN_sI, hN_C, hN_G, n_h4]; omega))).trans (show hT (newC (setI (setQ h4 B 1 (some (B + 10))) B 2 0) 8 0) B = (11, 0) from (hT_C (by simp only [hN_sQ, hN_sI, hN_C, hN_G, n_h4]; omega)).trans (t_h4))
  show AW V 20 402 h6 39 [(0, .ref B)] [.ref (B + 19), .ref B]
  refine a_putQ (fty := .object "KettleBeats$Trace") hb dX11_init_39 (by rw [ow]; exact fp_RX11_28_11) (Or.inl (by rw [hnm])) (show hT h6 B = (11, 0) from t_h6) rfl rfl ?_
  refine a_aload_n hb dX11_init_42 rfl 0 rfl ?_
  refine a_bipush (v := 40) hb dX11_init_43 (by decide) ?_
  refine a_newa (kd := 14) (N := 40) hb dX11_init_45 rfl (by decide) (by decide) kw_175 (by decide) (by decide) (by omega) (by rw [hr]; exact ⟨by decide, by decide⟩) ?_
  rw [show hN (setQ h6 B 3 (some (B + 19))) = B + 21 from by simp only [hN_sQ, hN_sI, hN_C, hN_G, n_h6]; first | done | omega]
  show AW V 21 442 (newC (setQ h6 B 3 (some (B + 19))) 14 40) 47 [(0, .ref B)] [.ref (B + 21), .ref B]
  refine a_putQ (fty := .array .int) hb dX11_init_47 (by rw [ow]; exact fp_RX11_32_11) (Or.inl (by rw [hnm])) (show hT (newC (setQ h6 B 3 (some (B + 19))) 14 40) B = (11, 0) from (hT_C (by simp only [hN_sQ, hN_sI, hN_C, hN_G, n_h6]; omega)).trans (t_h6)) rfl rfl ?_
  refine a_aload_n hb dX11_init_50 rfl 0 rfl ?_
  refine a_bipush (v := 40) hb dX11_init_51 (by decide) ?_
  refine a_newa (kd := 14) (N := 40) hb dX11_init_53 rfl (by decide) (by decide) kw_175 (by decide) (by decide) (by omega) (by rw [hr]; exact ⟨by decide, by decide⟩) ?_
  rw [show hN (setQ (newC (setQ h6 B 3 (some (B + 19))) 14 40) B 4 (some (B + 21))) = B + 22 from by simp only [hN_sQ, hN_sI, hN_C, hN_G, n_h6]; first | done | omega]
  show AW V 22 482 (newC (setQ (newC (setQ h6 B 3 (some (B + 19))) 14 40) B 4 (some (B + 21))) 14 40) 55 [(0, .ref B)] [.ref (B + 22), .ref B]
  refine a_putQ (fty := .array .int) hb dX11_init_55 (by rw [ow]; exact fp_RX11_36_11) (Or.inl (by rw [hnm])) (show hT (newC (setQ (newC (setQ h6 B 3 (some (B + 19))) 14 40) B 4 (some (B + 21))) 14 40) B = (11, 0) from (hT_C (by simp only [hN_sQ, hN_sI, hN_C, hN_G, n_h6]; omega)).trans ((hT_C (by simp only [hN_sQ, hN_sI, hN_C, hN_G, n_h6]; omega)).trans (t_h6))) rfl rfl ?_
  refine a_aload_n hb dX11_init_58 rfl 0 rfl ?_
  refine a_bipush (v := 40) hb dX11_init_59 (by decide) ?_
  refine a_newa (kd := 14) (N := 40) hb dX11_init_61 rfl (by decide) (by decide) kw_175 (by decide) (by decide) (by omega) (by rw [hr]; exact ⟨by decide, by decide⟩) ?_
  rw [show hN (setQ (newC (setQ (newC (setQ h6 B 3 (some (B + 19))) 14 40) B 4 (some (B + 21))) 14 40) B 5 (some (B + 22))) = B + 23 from by simp only [hN_sQ, hN_sI, hN_C, hN_G, n_h6]; first | done | omega]
  show AW V 23 522 (newC (setQ (newC (setQ (newC (setQ h6 B 3 (some (B + 19))) 14 40) B 4 (some (B + 21))) 14 40) B 5 (some (B + 22))) 14 40) 63 [(0, .ref B)] [.ref (B + 23), .ref B]
  refine a_putQ (fty := .array .int) hb dX11_init_63 (by rw [ow]; exact fp_RX11_39_11) (Or.inl (by rw [hnm])) (show hT (newC (setQ (newC (setQ (newC (setQ h6 B 3 (some (B + 19))) 14 40) B 4 (some (B + 21))) 14 40) B 5 (some (B + 22))) 14 40) B = (11, 0) from (hT_C (by simp only [hN_sQ, hN_sI, hN_C, hN_G, n_h6]; omega)).trans ((hT_C (by simp only [hN_sQ, hN_sI, hN_C, hN_G, n_h6]; omega)).trans ((hT_C (by simp only [hN_sQ, hN_sI, hN_C, hN_G, n_h6]; omega)).trans (t_h6)))) rfl rfl ?_
  refine a_aload_n hb dX11_init_66 rfl 0 rfl ?_
  refine a_bipush (v := 40) hb dX11_init_67 (by decide) ?_
  refine a_newa (kd := 14) (N := 40) hb dX11_init_69 rfl (by decide) (by decide) kw_175 (by decide) (by decide) (by omega) (by rw [hr]; exact ⟨by decide, by decide⟩) ?_
  rw [show hN (setQ (newC (setQ (newC (setQ (newC (setQ h6 B 3 (some (B + 19))) 14 40) B 4 (some (B + 21))) 14 40) B 5 (some (B + 22))) 14 40) B 6 (some (B + 23))) = B + 24 from by simp only [hN_sQ, hN_sI, hN_C, hN_G, n_h6]; first | done | omega]
  show AW V 24 562 (newC (setQ (newC (setQ (newC (setQ (newC (setQ h6 B 3 (some (B + 19))) 14 40) B 4 (some (B + 21))) 14 40) B 5 (some (B + 22))) 14 40) B 6 (some (B + 23))) 14 40) 71 [(0, .ref B)] [.ref (B + 24), .ref B]
  refine a_putQ (fty := .array .int) hb dX11_init_71 (by rw [ow]; exact fp_RX11_42_11) (Or.inl (by rw [hnm])) (show hT (newC (setQ (newC (setQ (newC (setQ (newC (setQ h6 B 3 (some (B + 19))) 14 40) B 4 (some (B + 21))) 14 40) B 5 (some (B + 22))) 14 40) B 6 (some (B + 23))) 14 40) B = (11, 0) from (hT_C (by simp only [hN_sQ, hN_sI, hN_C, hN_G, n_h6]; omega)).trans ((hT_C (by simp only [hN_sQ, hN_sI, hN_C, hN_G, n_h6]; omega)).trans ((hT_C (by simp only [hN_sQ, hN_sI, hN_C, hN_G, n_h6]; omega)).trans ((hT_C (by simp only [hN_sQ, hN_sI, hN_C, hN_G, n_h6]; omega)).trans (t_h6))))) rfl rfl ?_
  refine a_aload_n hb dX11_init_74 rfl 0 rfl ?_
  refine a_bipush (v := 24) hb dX11_init_75 (by decide) ?_
  refine a_bipush (v := 40) hb dX11_init_77 (by decide) ?_
  refine a_multi (N := 24) (K := 40) hb dX11_init_79 (by rw [ow]; exact kw_192) kw_175 (by decide) (by decide) (by decide) (by decide) ⟨by decide, by decide⟩ (by rw [hr]; exact ⟨by decide, by decide⟩) ?_
  rw [show hN (setQ (newC (setQ (newC (setQ (newC (setQ (newC (setQ h6 B 3 (some (B + 19))) 14 40) B 4 (some (B + 21))) 14 40) B 5 (some (B + 22))) 14 40) B 6 (some (B + 23))) 14 40) B 7 (some (B + 24))) = B + 25 from by simp only [hN_sQ, hN_sI, hN_C, hN_G, n_h6]; first | done | omega]
  show AW V 49 1546 (grH (setQ (newC (setQ (newC (setQ (newC (setQ (newC (setQ h6 B 3 (some (B + 19))) 14 40) B 4 (some (B + 21))) 14 40) B 5 (some (B + 22))) 14 40) B 6 (some (B + 23))) 14 40) B 7 (some (B + 24))) 24 40) 83 [(0, .ref B)] [.ref (B + 25), .ref B]
  refine a_putQ (fty := .array (.array .int)) hb dX11_init_83 (by rw [ow]; exact fp_RX11_47_11) (Or.inl (by rw [hnm])) (show hT (grH (setQ (newC (setQ (newC (setQ (newC (setQ (newC (setQ h6 B 3 (some (B + 19))) 14 40) B 4 (some (B + 21))) 14 40) B 5 (some (B + 22))) 14 40) B 6 (some (B + 23))) 14 40) B 7 (some (B + 24))) 24 40) B = (11, 0) from (gr_t (by simp only [hN_sQ, hN_sI, hN_C, hN_G, n_h6]; omega)).trans ((hT_C (by simp only [hN_sQ, hN_sI, hN_C, hN_G, n_h6]; omega)).trans ((hT_C (by simp only [hN_sQ, hN_sI, hN_C, hN_G, n_h6]; omega)).trans ((hT_C (by simp only [hN_sQ, hN_sI, hN_C, hN_G, n_h6]; omega)).trans ((hT_C (by simp only [hN_sQ, hN_sI, hN_C, hN_G, n_h6]; omega)).trans (t_h6)))))) rfl rfl ?_
  refine a_aload_n hb dX11_init_86 rfl 0 rfl ?_
  refine a_bipush (v := 8) hb dX11_init_87 (by decide) ?_
  refine a_newa (kd := 14) (N := 8) hb dX11_init_89 rfl (by decide) (by decide) kw_175 (by decide) (by decide) (by omega) (by rw [hr]; exact ⟨by decide, by decide⟩) ?_
  rw [show hN (setQ (grH (setQ (newC (setQ (newC (setQ (newC (setQ (newC (setQ h6 B 3 (some (B + 19))) 14 40) B 4 (some (B + 21))) 14 40) B 5 (some (B + 22))) 14 40) B 6 (some (B + 23))) 14 40) B 7 (some (B + 24))) 24 40) B 8 (some (B + 25))) = B + 50 from by simp only [hN_sQ, hN_sI, hN_C, hN_G, n_h6]; first | done | omega]
  show AW V 50 1554 (newC (setQ (grH (setQ (newC (setQ (newC (setQ (newC (setQ (newC (setQ h6 B 3 (some (B + 19))) 14 40) B 4 (some (B + 21))) 14 40) B 5 (some (B + 22))) 14 40) B 6 (some (B + 23))) 14 40) B 7 (some (B + 24))) 24 40) B 8 (some (B + 25))) 14 8) 91 [(0, .ref B)] [.ref (B + 50), .ref B]
  refine a_putQ (fty := .array .int) hb dX11_init_91 (by rw [ow]; exact fp_RX11_50_11) (Or.inl (by rw [hnm])) (show hT (newC (setQ (grH (setQ (newC (setQ (newC (setQ (newC (setQ (newC (setQ h6 B 3 (some (B + 19))) 14 40) B 4 (some (B + 21))) 14 40) B 5 (some (B + 22))) 14 40) B 6 (some (B + 23))) 14 40) B 7 (some (B + 24))) 24 40) B 8 (some (B + 25))) 14 8) B = (11, 0) from (hT_C (by simp only [hN_sQ, hN_sI, hN_C, hN_G, n_h6]; omega)).trans ((gr_t (by simp only [hN_sQ, hN_sI, hN_C, hN_G, n_h6]; omega)).trans ((hT_C (by simp only [hN_sQ, hN_sI, hN_C, hN_G, n_h6]; omega)).trans ((hT_C (by simp only [hN_sQ, hN_sI, hN_C, hN_G, n_h6]; omega)).trans ((hT_C (by simp only [hN_sQ, hN_sI, hN_C, hN_G, n_h6]; omega)).trans ((hT_C (by simp only [hN_sQ, hN_sI, hN_C, hN_G, n_h6]; omega)).trans (t_h6))))))) rfl rfl ?_
  exact a_return hb hz dX11_init_94 hret (by rw [hr]; exact Nat.le_of_ble_eq_true rfl) (by rw [hr]; exact Nat.le_of_ble_eq_true rfl) (⟨rfl, bx_of e0 t0 f2 f4 f6⟩)
