/-! ===== the class reckons a law: truths as bits ===== -/
def vb : List Bool → Nat
  | [] => 0
  | b :: r => 2 * vb r + b.toNat
theorem vb_lt : ∀ st : List Bool, vb st < 2 ^ st.length
  | [] => by decide
  | b :: r => by
    have := vb_lt r
    have hb : b.toNat ≤ 1 := by cases b <;> decide
    show 2 * vb r + b.toNat < 2 ^ (r.length + 1)
    rw [Nat.pow_succ]; omega
theorem vb_b {st : List Bool} (h : st.length ≤ 15) : vb st < 32768 := by
  have := vb_lt st
  have : 2 ^ st.length ≤ 2 ^ 15 := Nat.pow_le_pow_right (by decide) h
  omega
theorem tb_n {n i : Nat} (hi : i < 32) : (nI n).toBitVec.getLsbD i = n.testBit i := by
  show (BitVec.ofNat 32 n).getLsbD i = _
  rw [BitVec.getLsbD_ofNat]; simp [hi]
theorem bt_ext {x y : Int32} (h : ∀ i, i < 32 → x.toBitVec.getLsbD i = y.toBitVec.getLsbD i) : x = y := by
  apply Int32.toBitVec_inj.mp
  exact BitVec.eq_of_getLsbD_eq h
theorem tb_0 {v : Nat} {b : Bool} : (2 * v + b.toNat).testBit 0 = b := by
  rw [Nat.testBit_zero]
  cases b <;> simp <;> omega
theorem tb_s {v i : Nat} {b : Bool} : (2 * v + b.toNat).testBit (i + 1) = v.testBit i := by
  rw [Nat.testBit_succ]
  congr 1
  cases b <;> simp <;> omega
theorem vb_top {b : Bool} {r : List Bool} : nI (vb (b :: r)) &&& 1 = b2i b := by
  apply bt_ext
  intro i hi
  rw [Int32.toBitVec_and, BitVec.getLsbD_and, tb_n hi]
  have e1 : (1 : Int32).toBitVec.getLsbD i = Nat.testBit 1 i := tb_n (n := 1) hi
  have e2 : (b2i b).toBitVec.getLsbD i = Nat.testBit b.toNat i := by cases b <;> exact tb_n hi
  rw [e1, e2]
  show ((2 * vb r + b.toNat).testBit i && _) = _
  match i with
  | 0 => rw [tb_0]; cases b <;> decide
  | i + 1 => rw [tb_s, Nat.testBit_succ (x := 1), Nat.testBit_succ (x := b.toNat)]; cases b <;> simp
theorem vb_bel {b : Bool} {r : List Bool} (h : (b :: r).length ≤ 15) : nI (vb (b :: r)) >>> ((1 : Int32) &&& 31) = nI (vb r) := by
  have := vb_b h
  rw [show ((1 : Int32) &&& 31) = 1 from by decide, pk_shrN (by omega) 1 1 (by decide)]
  congr 1
  show (2 * vb r + b.toNat) / 2 ^ 1 = vb r
  have hb : b.toNat ≤ 1 := by cases b <;> decide
  omega
theorem vb_not {b : Bool} {r : List Bool} : nI (vb (b :: r)) ^^^ 1 = nI (vb ((!b) :: r)) := by
  apply bt_ext
  intro i hi
  rw [Int32.toBitVec_xor, BitVec.getLsbD_xor, tb_n hi, tb_n hi]
  have e1 : (1 : Int32).toBitVec.getLsbD i = Nat.testBit 1 i := tb_n (n := 1) hi
  rw [e1]
  show ((2 * vb r + b.toNat).testBit i ^^ _) = (2 * vb r + (!b).toNat).testBit i
  match i with
  | 0 => rw [tb_0, tb_0]; cases b <;> decide
  | i + 1 => rw [tb_s, tb_s, Nat.testBit_succ]; simp
theorem vb_or {a b : Bool} {r : List Bool} : nI (vb (a :: r)) ||| b2i b = nI (vb ((a || b) :: r)) := by
  apply bt_ext
  intro i hi
  rw [Int32.toBitVec_or, BitVec.getLsbD_or, tb_n hi, tb_n hi]
  have e2 : (b2i b).toBitVec.getLsbD i = Nat.testBit b.toNat i := by cases b <;> exact tb_n hi
  rw [e2]
  show ((2 * vb r + a.toNat).testBit i || _) = (2 * vb r + (a || b).toNat).testBit i
  match i with
  | 0 => rw [tb_0, tb_0]; cases a <;> cases b <;> decide
  | i + 1 => rw [tb_s, tb_s, Nat.testBit_succ]; cases b <;> simp
theorem m2_bit : ∀ j : Fin 32, (-2 : Int32).toBitVec.getLsbD j.val = decide (j.val ≠ 0) := by decide
theorem vb_and {a : Bool} {r : List Bool} : nI (vb (a :: r)) &&& (-2) = nI (vb (false :: r)) := by
  apply bt_ext
  intro i hi
  rw [Int32.toBitVec_and, BitVec.getLsbD_and, tb_n hi, tb_n hi, m2_bit ⟨i, hi⟩]
  show ((2 * vb r + a.toNat).testBit i && _) = (2 * vb r + false.toNat).testBit i
  match i with
  | 0 => rw [tb_0, tb_0]; simp
  | i + 1 => rw [tb_s, tb_s]; simp
theorem vb_shl {r : List Bool} {b : Bool} (h : r.length ≤ 14) : (nI (vb r) <<< ((1 : Int32) &&& 31)) ||| b2i b = nI (vb (b :: r)) := by
  have := vb_b (st := r) (by omega)
  rw [show ((1 : Int32) &&& 31) = 1 from by decide, pk_shlN 1 1 (by decide) (by omega)]
  have e : vb r * 2 ^ 1 = vb (false :: r) := by show _ = 2 * vb r + 0; omega
  rw [e, vb_or, Bool.false_or]
def encX (s : St) : Int32 := if s.1 = 0 then nI ((s.2.1 * 3 + s.2.2.1) * 1000 + s.2.2.2) else if s.1 = 1 then -3 else if s.1 = 2 then -1 else -2
theorem tx_a {a b n : Nat} (ha : a < 5) (hb : b < 3) (hn : n ≤ 999) : nI ((a * 3 + b) * 1000 + n) / 3000 = nI a := by
  rw [show (3000 : Int32) = nI 3000 from rfl, pk_div (by omega) (by decide) (by decide), show ((a * 3 + b) * 1000 + n) / 3000 = a by omega]
theorem tx_n {a b n : Nat} (ha : a < 5) (hb : b < 3) (hn : n ≤ 999) : nI ((a * 3 + b) * 1000 + n) - nI ((a * 3 + b) * 1000 + n) / 1000 * 1000 = nI n := by
  rw [show (1000 : Int32) = nI 1000 from rfl, pk_rem (by omega) (by decide) (by decide), show ((a * 3 + b) * 1000 + n) % 1000 = n by omega]
theorem tx_b {a b n : Nat} (ha : a < 5) (hb : b < 3) (hn : n ≤ 999) : nI ((a * 3 + b) * 1000 + n) / 1000 - nI ((a * 3 + b) * 1000 + n) / 1000 / 3 * 3 = nI b := by
  rw [show (1000 : Int32) = nI 1000 from rfl, pk_div (by omega) (by decide) (by decide), show (3 : Int32) = nI 3 from rfl, pk_rem (by omega) (by decide) (by decide), show ((a * 3 + b) * 1000 + n) / 1000 % 3 = b by omega]
