/-! ===== the class: numbers stay small; int and long agree ===== -/
def Xd (B vq a : Nat) : Prop := a = vq ∨ a = B + 21
def Xm (B vq a : Nat) : Prop := a = B + 22 ∧ 0 ≤ vq
def Xo (B vq a : Nat) : Prop := a = B + 23 ∧ 0 ≤ vq
def Xb (B vq a : Nat) : Prop := a = vq ∨ a = B + 21 ∨ a = B + 22
def Xs (B vq a : Nat) : Prop := a = vq ∨ a = B + 21 ∨ a = B + 22 ∨ a = B + 23
def Xt (B vq a : Nat) : Prop := a = B + 24 ∧ 0 ≤ vq
def Xu (B vq a : Nat) : Prop := a = vq ∨ a = B + 21 ∨ a = B + 22 ∨ a = B + 23 ∨ a = B + 24
def Xr (B vq a : Nat) : Prop := a = vq ∨ (B + 26 ≤ a ∧ a < B + 50)
def Xw (B vq a : Nat) : Prop := a = vq ∨ a = B + 21 ∨ (B + 26 ≤ a ∧ a < B + 50)
def Xg (B vq a : Nat) : Prop := a = vq ∨ a = B + 21 ∨ a = B + 22 ∨ (B + 26 ≤ a ∧ a < B + 51)
theorem td_nn {a b : Int} (ha : 0 ≤ a) (hb : 1 ≤ b) : 0 ≤ a.tdiv b ∧ a.tdiv b ≤ a := by
  rw [Int.tdiv_eq_ediv_of_nonneg ha]
  exact ⟨Int.ediv_nonneg ha (by omega), Int.ediv_le_self _ ha⟩
theorem td_b {a b : Int} {m : Int} (h1 : -m ≤ a) (h2 : a ≤ m) (hb : 1 ≤ b) : -m ≤ a.tdiv b ∧ a.tdiv b ≤ m := by
  rcases Int.le_total 0 a with h | h
  · have := td_nn h hb; omega
  · have := td_nn (a := -a) (b := b) (by omega) hb
    rw [Int.neg_tdiv] at this
    omega
theorem ti_div {a b : Int32} (hb : 1 ≤ b.toInt) : (a / b).toInt = a.toInt.tdiv b.toInt := by
  refine Int32.toInt_div_of_ne_right a b (fun e => ?_)
  rw [e, show (-1 : Int32).toInt = -1 from by decide] at hb
  omega
theorem ti_neg {a : Int32} (h1 : -2147483647 ≤ a.toInt) : (-a).toInt = -a.toInt := by
  have := Int32.toInt_lt a
  have := Int32.le_toInt a
  rw [Int32.toInt_neg]; exact Int.bmod_eq_of_le (by omega) (by omega)
section BND
variable {P : PF} {S : Nat → Int32} {N : NN} {hl : Nat}
theorem r_z {p : Nat} (h : RGp S p) : 0 ≤ (S (146 + p)).toInt ∧ (S (146 + p)).toInt ≤ 99 := by have := oO_ti h.2.2.1; rw [t0, t99] at this; exact this
theorem hd_r {z : Int32} (h6 : oO (S 6) 1 9 = false) (h1 : 0 ≤ z.toInt) (h2 : z.toInt ≤ 99) : 0 ≤ (z / S 6).toInt ∧ (z / S 6).toInt ≤ 99 := by
  have a := oO_ti h6
  rw [t1] at a
  rw [ti_div a.1]
  have := td_nn h1 a.1
  omega
theorem pl_r {k z a t : Int32} (hP : PB P) (h6 : oO (S 6) 1 9 = false) (hm : oO (S (208 + hl)) 0 999 = false) (h1 : 0 ≤ z.toInt) (h2 : z.toInt ≤ 99) : 0 ≤ (plS P S hl k z a t).toInt ∧ (plS P S hl k z a t).toInt ≤ 999 := by
  have m := oO_ti hm
  rw [t0, t999] at m
  have hz := hd_r h6 h1 h2
  have hp := hP a (S 5) z k t
  have lo : 0 ≤ (z / S 6).toInt * (P a (S 5) z k t).toInt := Int.mul_nonneg hz.1 hp.1
  have hi : (z / S 6).toInt * (P a (S 5) z k t).toInt ≤ 99 * 7992 := Int.mul_le_mul hz.2 hp.2 hp.1 (by omega)
  have em := ti_mul (a := z / S 6) (b := P a (S 5) z k t) (by omega) (by omega)
  have ed : (z / S 6 * P a (S 5) z k t / 100).toInt = ((z / S 6).toInt * (P a (S 5) z k t).toInt).tdiv 100 := by
    rw [ti_div (b := 100) (by decide), em]; rfl
  have nn := td_nn (b := 100) lo (by decide)
  unfold plS
  split
  · rw [t0]; omega
  · split
    · exact m
    · rename_i q
      have := Int32.le_iff_toInt_le.mp (Int32.not_lt.mp q)
      rw [ed] at this ⊢
      omega
theorem dr_r {p : Nat} {a t : Int32} (hP : PB P) (h6 : oO (S 6) 1 9 = false) (hm : oO (S (208 + hl)) 0 999 = false) (hp : RGp S p) : -1008 ≤ (drS P S hl (S (130 + p)) (S (146 + p)) (S (154 + p)) a t).toInt ∧ (drS P S hl (S (130 + p)) (S (146 + p)) (S (154 + p)) a t).toInt ≤ 1008 := by
  have z := r_z hp
  have v := oO_ti hp.2.2.2.1
  rw [t0, t9] at v
  have pl : ∀ k a t, 0 ≤ (plS P S hl k (S (146 + p)) a t).toInt ∧ (plS P S hl k (S (146 + p)) a t).toInt ≤ 999 := fun k a t => pl_r hP h6 hm z.1 z.2
  have hz := hd_r h6 z.1 z.2
  unfold drS
  split
  · have := pl (S (130 + p)) (a - S (154 + p)) t; omega
  · split
    · have q := pl (S (130 + p)) a t
      have w : 0 ≤ (if 0 ≤ a then (if 0 < P a (S 5) (S (146 + p)) (S (130 + p)) t then S (154 + p) else 0) else 0 : Int32).toInt ∧ (if 0 ≤ a then (if 0 < P a (S 5) (S (146 + p)) (S (130 + p)) t then S (154 + p) else 0) else 0 : Int32).toInt ≤ 9 := by
        split
        · split
          · exact v
          · rw [t0]; omega
        · rw [t0]; omega
      rw [ti_add (by omega) (by omega)]
      omega
    · split
      · split
        · have := pl (S (130 + p)) (a - S (154 + p)) t; omega
        · split
          · rw [ti_neg (by omega)]; omega
          · omega
      · split
        · have q1 := pl (S (130 + p)) a t
          have q2 := pl (S (130 + p)) (a - S (154 + p)) (t - S (154 + p))
          have e1 : (plS P S hl (S (130 + p)) (S (146 + p)) a t / 2).toInt = _ := ti_div (b := 2) (by decide)
          have e2 : (plS P S hl (S (130 + p)) (S (146 + p)) (a - S (154 + p)) (t - S (154 + p)) / 2).toInt = _ := ti_div (b := 2) (by decide)
          have d2 : (2 : Int32).toInt = 2 := by decide
          rw [d2] at e1 e2
          have n1 := td_nn (b := 2) q1.1 (by decide)
          have n2 := td_nn (b := 2) q2.1 (by decide)
          have f1 : (plS P S hl (S (130 + p)) (S (146 + p)) a t).toInt.tdiv 2 ≤ 500 := by rw [Int.tdiv_eq_ediv_of_nonneg q1.1]; omega
          have f2 : (plS P S hl (S (130 + p)) (S (146 + p)) (a - S (154 + p)) (t - S (154 + p))).toInt.tdiv 2 ≤ 500 := by rw [Int.tdiv_eq_ediv_of_nonneg q2.1]; omega
          rw [ti_add (by omega) (by omega), e1, e2]
          omega
        · have := pl (S (130 + p)) a t; omega
theorem dm_r {dl : Nat → Int32} {t : Int32} (hP : PB P) (h6 : oO (S 6) 1 9 = false) (hm : oO (S (208 + hl)) 0 999 = false) : ∀ n, n ≤ 8 → (∀ p, p < n → RGp S p) → -(1008 * (n : Int)) ≤ (dmS P S dl hl t n).toInt ∧ (dmS P S dl hl t n).toInt ≤ 1008 * (n : Int)
  | 0, _, _ => by rw [dmS, t0]; omega
  | n + 1, hn, h => by
    have i := dm_r (dl := dl) (t := t) hP h6 hm n (by omega) (fun p q => h p (by omega))
    have d := dr_r (a := t - S (138 + n) - dl n) (t := t) hP h6 hm (h n (by omega))
    show _ ≤ (dmS P S dl hl t n + dwS P S dl hl t n).toInt ∧ (dmS P S dl hl t n + dwS P S dl hl t n).toInt ≤ _
    unfold dwS
    rw [ti_add (by omega) (by omega)]
    omega
theorem md_r {but t : Int32} : ∀ n, n ≤ 5 → (∀ w, w < n → RGw S w) → 0 ≤ (mdB S but t n).toInt ∧ (mdB S but t n).toInt ≤ 99 * (n : Int)
  | 0, _, _ => by rw [mdB, t0]; omega
  | n + 1, hn, h => by
    have i := md_r (but := but) (t := t) n (by omega) (fun w q => h w (by omega))
    have p := oO_ti (h n (by omega)).2.1
    rw [t1, t99] at p
    have d : 0 ≤ (mdW S but t n).toInt ∧ (mdW S but t n).toInt ≤ 99 := by
      unfold mdW
      split
      · rw [t0]; omega
      · split
        · rw [t0]; omega
        · omega
    show _ ≤ (mdB S but t n + mdW S but t n).toInt ∧ (mdB S but t n + mdW S but t n).toInt ≤ _
    rw [ti_add (by omega) (by omega)]
    omega
end BND
/-! the beat -/
def psh (mk dm : Nat → Int32) (ine : Int32) (t : Nat) : Int32 := (mk t - dm t) * 10 / ine
def biS (mk dm : Nat → Int32) (ine : Int32) : Nat → Int32
  | 0 => 0
  | t + 1 => biS mk dm ine t + psh mk dm ine t
def abS (b : Int32) : Int32 := if 0 ≤ b then b else 0 - b
def fiS (bi : Nat → Int32) (c : Int32) (i : Nat) : Nat → Int32
  | 0 => -5
  | k + 1 => if c < abS (bi i) then nI i else fiS bi c (i + 1) k
theorem biS_c {a a' b b' : Nat → Int32} {n : Int32} : ∀ k, (∀ t, t < k → a t = a' t) → (∀ t, t < k → b t = b' t) → biS a b n k = biS a' b' n k
  | 0, _, _ => rfl
  | k + 1, h1, h2 => by
    show biS a b n k + psh a b n k = biS a' b' n k + psh a' b' n k
    rw [biS_c k (fun t q => h1 t (by omega)) (fun t q => h2 t (by omega))]
    unfold psh
    rw [h1 k (by omega), h2 k (by omega)]
theorem fiS_c {f f' : Nat → Int32} {c : Int32} : ∀ k i, (∀ t, i ≤ t → t < i + k → f t = f' t) → fiS f c i k = fiS f' c i k
  | 0, _, _ => rfl
  | k + 1, i, h => by
    show (if c < abS (f i) then nI i else _) = if c < abS (f' i) then nI i else _
    rw [h i (by omega) (by omega), fiS_c k (i + 1) (fun t h1 h2 => h t (by omega) (by omega))]
theorem i64_ext {a b : Int64} (h : a.toInt = b.toInt) : a = b := Int64.toInt_inj.mp h
theorem i32_ext {a b : Int32} (h : a.toInt = b.toInt) : a = b := Int32.toInt_inj.mp h
theorem ti64 (a : Int32) : a.toInt64.toInt = a.toInt := Int32.toInt_toInt64 a
theorem ti64_mul {a b : Int64} (h1 : -9223372036854775808 ≤ a.toInt * b.toInt) (h2 : a.toInt * b.toInt ≤ 9223372036854775807) : (a * b).toInt = a.toInt * b.toInt := by
  rw [Int64.toInt_mul]; exact Int.bmod_eq_of_le (by omega) (by omega)
theorem ti64_add {a b : Int64} (h1 : -9223372036854775808 ≤ a.toInt + b.toInt) (h2 : a.toInt + b.toInt ≤ 9223372036854775807) : (a + b).toInt = a.toInt + b.toInt := by
  rw [Int64.toInt_add]; exact Int.bmod_eq_of_le (by omega) (by omega)
theorem ti64_sub {a b : Int64} (h1 : -9223372036854775808 ≤ a.toInt - b.toInt) (h2 : a.toInt - b.toInt ≤ 9223372036854775807) : (a - b).toInt = a.toInt - b.toInt := by
  rw [Int64.toInt_sub]; exact Int.bmod_eq_of_le (by omega) (by omega)
theorem ti64_div {a b : Int64} (hb : 1 ≤ b.toInt) : (a / b).toInt = a.toInt.tdiv b.toInt := by
  refine Int64.toInt_div_of_ne_right a b (fun e => ?_)
  rw [e, show (-1 : Int64).toInt = -1 from by decide] at hb
  omega
/-- rows small enough -/
def SM_ (mk dm : Nat → Int32) : Prop := ∀ t, -20000 ≤ (mk t).toInt ∧ (mk t).toInt ≤ 20000 ∧ -20000 ≤ (dm t).toInt ∧ (dm t).toInt ≤ 20000
theorem psh_j {mk dm : Nat → Int32} {ine : Int32} (h : SM_ mk dm) (hi : 1 ≤ ine.toInt) (t : Nat) : (psh mk dm ine t).toInt64 = (mk t - dm t).toInt64 * 10 / ine.toInt64 ∧ -400000 ≤ (psh mk dm ine t).toInt ∧ (psh mk dm ine t).toInt ≤ 400000 := by
  obtain ⟨h1, h2, h3, h4⟩ := h t
  have e1 := ti_sub (a := mk t) (b := dm t) (by omega) (by omega)
  have e2 := ti_mul (a := mk t - dm t) (b := 10) (by rw [t10]; omega) (by rw [t10]; omega)
  rw [t10] at e2
  have e3 : (psh mk dm ine t).toInt = ((mk t - dm t).toInt * 10).tdiv ine.toInt := by unfold psh; rw [ti_div hi, e2]
  have b := td_b (a := (mk t - dm t).toInt * 10) (b := ine.toInt) (m := 400000) (by omega) (by omega) hi
  refine ⟨i64_ext ?_, by omega, by omega⟩
  have tt : (10 : Int64).toInt = 10 := by decide
  have em := ti64_mul (a := (mk t - dm t).toInt64) (b := 10) (by rw [ti64, tt]; omega) (by rw [ti64, tt]; omega)
  rw [ti64, ti64_div (by rw [ti64]; exact hi), em, ti64, ti64, tt, e3]
theorem bi_j {mk dm : Nat → Int32} {ine : Int32} (h : SM_ mk dm) (hi : 1 ≤ ine.toInt) : ∀ k, k ≤ 40 → (biS mk dm ine k).toInt64 = btS mk dm ine k ∧ -(400000 * (k : Int)) ≤ (biS mk dm ine k).toInt ∧ (biS mk dm ine k).toInt ≤ 400000 * (k : Int)
  | 0, _ => ⟨rfl, by rw [biS, t0]; omega, by rw [biS, t0]; omega⟩
  | k + 1, hk => by
    obtain ⟨i1, i2, i3⟩ := bi_j h hi k (by omega)
    obtain ⟨p1, p2, p3⟩ := psh_j h hi k
    have e : (biS mk dm ine (k + 1)).toInt = (biS mk dm ine k).toInt + (psh mk dm ine k).toInt := ti_add (by omega) (by omega)
    refine ⟨?_, by omega, by omega⟩
    show _ = btS mk dm ine k + (mk k - dm k).toInt64 * 10 / ine.toInt64
    rw [← i1, ← p1]
    refine i64_ext ?_
    rw [ti64, e, ti64_add (by rw [ti64, ti64]; omega) (by rw [ti64, ti64]; omega), ti64, ti64]
theorem ab_j {b c : Int32} (h1 : -100000000 ≤ b.toInt) (h2 : b.toInt ≤ 100000000) : c < abS b ↔ c.toInt64 < szS b.toInt64 := by
  have z : (0 : Int64).toInt = 0 := by decide
  have en : (-b.toInt64).toInt = -b.toInt := by
    rw [Int64.toInt_neg, ti64]; exact Int.bmod_eq_of_le (by omega) (by omega)
  rw [Int32.lt_iff_toInt_lt, Int64.lt_iff_toInt_lt, ti64]
  unfold abS szS
  by_cases q : 0 ≤ b
  · have := Int32.le_iff_toInt_le.mp q
    rw [t0] at this
    rw [if_pos q, if_neg (fun x => by have := Int64.lt_iff_toInt_lt.mp x; rw [ti64, z] at this; omega), ti64]
  · have : ¬ 0 ≤ b.toInt := fun x => q (Int32.le_iff_toInt_le.mpr (by rw [t0]; exact x))
    rw [if_neg q, if_pos (Int64.lt_iff_toInt_lt.mpr (by rw [ti64, z]; omega)), en, ti_sub (by rw [t0]; omega) (by rw [t0]; omega), t0]
    omega
theorem fi_j {mk dm : Nat → Int32} {ine c : Int32} (h : SM_ mk dm) (hi : 1 ≤ ine.toInt) : ∀ k i, i + k ≤ 40 → fiS (fun t => biS mk dm ine (t + 1)) c i k = fbF (fun t => btS mk dm ine (t + 1)) c i k
  | 0, _, _ => rfl
  | k + 1, i, hk => by
    have b := bi_j h hi (i + 1) (by omega)
    show (if c < abS (biS mk dm ine (i + 1)) then nI i else _) = if c.toInt64 < szS (btS mk dm ine (i + 1)) then nI i else _
    rw [← b.1, fi_j h hi k (i + 1) (by omega)]
    by_cases q : c < abS (biS mk dm ine (i + 1))
    · rw [if_pos q, if_pos ((ab_j (by omega) (by omega)).mp q)]
    · rw [if_neg q, if_neg (fun x => q ((ab_j (by omega) (by omega)).mpr x))]
theorem in1 {n b : Int32} (h : oO n 1 b = false) : 1 ≤ n.toInt := by have := (oO_ti h).1; rw [t1] at this; exact this
section CXB
variable {g : GG} {h : AH} {B vq lq hl : Nat} {S : Nat → Int32} {N : NN} {P : PF}
theorem CX.dm (H : CX g h B vq lq hl S N P) (dl : Nat → Int32) (t : Int32) : -8064 ≤ (dmS P S dl hl t N.1).toInt ∧ (dmS P S dl hl t N.1).toInt ≤ 8064 := by
  have := dm_r (dl := dl) (t := t) H.2.2.2 H.1.r6 (H.1.rm (a := hl) (by have := H.2.1.1; omega)) N.1 H.1.np (fun p q => H.1.rp q)
  have := H.1.np
  omega
theorem CX.md (H : CX g h B vq lq hl S N P) (but t : Int32) : 0 ≤ (mdB S but t N.2.1).toInt ∧ (mdB S but t N.2.1).toInt ≤ 495 := by
  have := md_r (but := but) (t := t) N.2.1 H.1.nw (fun w q => H.1.rw_ q)
  have := H.1.nw
  omega
theorem CX.sm (H : CX g h B vq lq hl S N P) (but : Int32) (dl : Nat → Int32) : SM_ (fun t => mdB S but (nI t) N.2.1) (fun t => dmS P S dl hl (nI t) N.1) := fun t => by
  have := H.md but (nI t)
  have := H.dm dl (nI t)
  show -20000 ≤ (mdB S but (nI t) N.2.1).toInt ∧ (mdB S but (nI t) N.2.1).toInt ≤ 20000 ∧ -20000 ≤ (dmS P S dl hl (nI t) N.1).toInt ∧ (dmS P S dl hl (nI t) N.1).toInt ≤ 20000
  omega
end CXB
