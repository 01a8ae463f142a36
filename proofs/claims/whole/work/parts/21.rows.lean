/-! ===== rows of the abstract heap as functions; places that are sums ===== -/
theorem setI_R {h : AH} {a j : Nat} {v : Int32} : setI h a j v = setR h a (upd (hI h a) j v) := by
  unfold setI setR
  congr 3
  funext b k
  by_cases e : b = a
  · subst e; simp [u2, u1, upd]
  · simp [u2, u1, e]
theorem hI_R {h : AH} {a : Nat} {f : Nat → Int32} : hI (setR h a f) a = f := u1_s
theorem hI_Rn {h : AH} {a b : Nat} {f : Nat → Int32} (e : b ≠ a) : hI (setR h a f) b = hI h b := u1_n e
theorem hT_R {h : AH} {a : Nat} {f : Nat → Int32} : hT (setR h a f) = hT h := rfl
theorem hQ_R {h : AH} {a : Nat} {f : Nat → Int32} : hQ (setR h a f) = hQ h := rfl
theorem hJ_R {h : AH} {a : Nat} {f : Nat → Int32} : hJ (setR h a f) = hJ h := rfl
theorem hN_R {h : AH} {a : Nat} {f : Nat → Int32} : hN (setR h a f) = hN h := rfl
theorem setR_R {h : AH} {a : Nat} {f f' : Nat → Int32} : setR (setR h a f) a f' = setR h a f' := by
  have : u1 (u1 (hI h) a f) a f' = u1 (hI h) a f' := by
    funext b
    by_cases e : b = a
    · subst e; simp [u1]
    · simp [u1, e]
  show ((hN h, hT h, u1 (u1 (hI h) a f) a f', hJ h, hQ h) : AH) = _
  rw [this]
  rfl
theorem setR_id {h : AH} {a : Nat} : setR h a (hI h a) = h := by
  have : u1 (hI h) a (hI h a) = hI h := by
    funext b
    by_cases e : b = a
    · subst e; simp [u1]
    · simp [u1, e]
  unfold setR
  rw [this]
  rfl
theorem LY.R {h : AH} {B a : Nat} {f : Nat → Int32} (hL : LY h B) : LY (setR h a f) B := hL
theorem LY.I {h : AH} {B a k : Nat} {v : Int32} (hL : LY h B) : LY (setI h a k v) B := hL
theorem LY.J {h : AH} {B a k : Nat} {v : Int64} (hL : LY h B) : LY (setJ h a k v) B := hL
theorem IX.eq {i : Int32} {j : Nat} (h : IX i j) : i = nI j ∧ j < 2 ^ 31 := by
  obtain ⟨k, hk, e⟩ := nI_of h.1
  have := h.2
  rw [e, nI_clamp hk] at this
  subst this
  exact ⟨e, hk⟩
theorem IX.add {a b : Int32} {m n : Nat} (h1 : IX a m) (h2 : IX b n) (h : m + n < 2 ^ 31) : IX (a + b) (m + n) := by
  rw [h1.eq.1, h2.eq.1, nI_add]; exact IX.n h
theorem IX.mul {a b : Int32} {m n : Nat} (h1 : IX a m) (h2 : IX b n) (h : m * n < 2 ^ 31) : IX (a * b) (m * n) := by
  rw [h1.eq.1, h2.eq.1, pk_mul]; exact IX.n h
theorem IX.sub {a b : Int32} {m n : Nat} (h1 : IX a m) (h2 : IX b n) (h : n ≤ m) : IX (a - b) (m - n) := by
  rw [h1.eq.1, h2.eq.1, pk_sub h]; exact IX.n (by have := h1.eq.2; omega)
theorem IX.of {a : Int32} (h : ¬ a < 0) : IX a a.toNatClampNeg := ⟨h, rfl⟩
theorem upd_s {f : Nat → Int32} {k : Nat} {x : Int32} : upd f k x k = x := if_pos rfl
theorem upd_n {f : Nat → Int32} {k j : Nat} {x : Int32} (h : j ≠ k) : upd f k x j = f j := if_neg h
/-- within bounds, as Nats -/
theorem oO_le {n z : Int32} {b : Nat} (hz : z.toInt = (b : Int)) (h : oO n 0 z = false) : IX n n.toNatClampNeg ∧ n.toNatClampNeg ≤ b := by
  simp only [oO, Bool.or_eq_false_iff, decide_eq_false_iff_not] at h
  have t2 := Int32.le_iff_toInt_le.mp (Int32.not_lt.mp h.2)
  have e := aw_nn h.1
  exact ⟨⟨h.1, rfl⟩, by omega⟩
theorem oO_lt {n c : Int32} {k : Nat} (hc : IX c k) (h : oO n 0 (c - 1) = false) : IX n n.toNatClampNeg ∧ n.toNatClampNeg < k := by
  simp only [oO, Bool.or_eq_false_iff, decide_eq_false_iff_not] at h
  have e := aw_nn h.1
  have hk := hc.eq
  refine ⟨⟨h.1, rfl⟩, ?_⟩
  have t2 := Int32.le_iff_toInt_le.mp (Int32.not_lt.mp h.2)
  rw [hk.1] at t2
  rcases Nat.eq_zero_or_pos k with q | q
  · subst q
    have e0 : (nI 0 - 1).toInt = -1 := by decide
    omega
  · have e1 : nI k - 1 = nI (k - 1) := by
      have := pk_sub (a := k) (b := 1) q
      rw [← this]; rfl
    rw [e1, nI_toInt (by omega)] at t2
    omega
