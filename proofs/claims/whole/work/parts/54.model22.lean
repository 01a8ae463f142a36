/-! ===== the model reckons a law ===== -/
def At (B : Nat) (a : Nat) : Prop := a = B + 55
theorem encM_t {s : St} (e : s.1 = 0) : encM s = nI (s.2.1 + 8 * s.2.2.1 + 32 * s.2.2.2) := by
  obtain ⟨k, a, b, n⟩ := s
  change k = 0 at e
  subst e
  show nI a + 8 * nI b + 32 * nI n = nI (a + 8 * b + 32 * n)
  rw [show (8 : Int32) = nI 8 from rfl, show (32 : Int32) = nI 32 from rfl, pk_mul, pk_mul, nI_add, nI_add]
theorem encM_1 {s : St} (e : s.1 = 1) : encM s = -1 := by obtain ⟨k, a, b, n⟩ := s; change k = 1 at e; subst e; rfl
theorem encM_2 {s : St} (e : s.1 = 2) : encM s = -2 := by obtain ⟨k, a, b, n⟩ := s; change k = 2 at e; subst e; rfl
theorem encM_3 {s : St} (e : s.1 = 3) : encM s = -3 := by obtain ⟨k, a, b, n⟩ := s; change k = 3 at e; subst e; rfl
def RD (f : Nat → Int32) (k : Nat) (l : List Int32) : Prop := ∀ j, j < l.length → f (k + j) = l.getD j 0
theorem RD.hd {f : Nat → Int32} {k : Nat} {x : Int32} {l : List Int32} (h : RD f k (x :: l)) : f k = x := h 0 (by simp)
theorem RD.tl {f : Nat → Int32} {k : Nat} {x : Int32} {l : List Int32} (h : RD f k (x :: l)) : RD f (k + 1) l := fun j hj => by
  have := h (j + 1) (by simpa using hj)
  rw [show k + (j + 1) = k + 1 + j by omega] at this
  simpa using this
/-- truths as they lie, the stack's bottom first -/
def TR (f : Nat → Int32) (st : List Bool) : Prop := ∀ j, j < st.length → f j = b2i (st.getD (st.length - 1 - j) false)
theorem TR.tl {f : Nat → Int32} {b : Bool} {r : List Bool} (h : TR f (b :: r)) : TR f r := fun j hj => by
  have := h j (by simp; omega)
  rw [this, show (b :: r).length - 1 - j = (r.length - 1 - j) + 1 by simp; omega]
  simp
theorem TR.hd {f : Nat → Int32} {b : Bool} {r : List Bool} (h : TR f (b :: r)) : f r.length = b2i b := by
  have := h r.length (by simp)
  rw [this, show (b :: r).length - 1 - r.length = 0 by simp]
  simp
theorem TR.put {f : Nat → Int32} {b : Bool} {r : List Bool} {x : Int32} (h : TR f r) (e : x = b2i b) : TR (upd f r.length x) (b :: r) := fun j hj => by
  by_cases q : j = r.length
  · subst q; rw [upd_s, e, show (b :: r).length - 1 - r.length = 0 by simp]; simp
  · rw [upd_n q, h j (by simp at hj; omega), show (b :: r).length - 1 - j = (r.length - 1 - j) + 1 by simp at hj ⊢; omega]
    simp
theorem ev_c0 {vl : Nat → Int32} {s : St} {ss : List St} {st x : List Bool} (e : s.1 = 0) (h : Ev vl (s :: ss) st = some x) : st.length < 14 ∧ Ev vl ss (tsT vl s :: st) = some x := by
  change (ev1 vl s st).bind (Ev vl ss) = some x at h
  unfold ev1 at h; rw [if_pos e] at h
  by_cases q : st.length < 14
  · rw [if_pos q] at h; exact ⟨q, h⟩
  · rw [if_neg q] at h; exact absurd h (by simp)
theorem ev_c1 {vl : Nat → Int32} {s : St} {ss : List St} {st x : List Bool} (e : s.1 = 1) (h : Ev vl (s :: ss) st = some x) : ∃ b r, st = b :: r ∧ Ev vl ss ((!b) :: r) = some x := by
  change (ev1 vl s st).bind (Ev vl ss) = some x at h
  unfold ev1 at h; rw [if_neg (by omega), if_pos e] at h
  match st, h with
  | b :: r, h => exact ⟨b, r, rfl, h⟩
  | [], h => exact absurd h (by simp)
theorem ev_c2 {vl : Nat → Int32} {s : St} {ss : List St} {st x : List Bool} (e : s.1 = 2) (h : Ev vl (s :: ss) st = some x) : ∃ b a r, st = b :: a :: r ∧ Ev vl ss ((a && b) :: r) = some x := by
  change (ev1 vl s st).bind (Ev vl ss) = some x at h
  unfold ev1 at h; rw [if_neg (by omega), if_neg (by omega), if_pos e] at h
  match st, h with
  | b :: a :: r, h => exact ⟨b, a, r, rfl, h⟩
  | [b], h => exact absurd h (by simp)
  | [], h => exact absurd h (by simp)
theorem ev_c3 {vl : Nat → Int32} {s : St} {ss : List St} {st x : List Bool} (e : s.1 = 3) (h : Ev vl (s :: ss) st = some x) : ∃ b a r, st = b :: a :: r ∧ Ev vl ss ((a || b) :: r) = some x := by
  change (ev1 vl s st).bind (Ev vl ss) = some x at h
  unfold ev1 at h; rw [if_neg (by omega), if_neg (by omega), if_neg (by omega)] at h
  match st, h with
  | b :: a :: r, h => exact ⟨b, a, r, rfl, h⟩
  | [b], h => exact absurd h (by simp)
  | [], h => exact absurd h (by simp)
/-- no step or mark lies deeper than the stack may be -/
theorem ev_len {vl : Nat → Int32} {s : St} {ss : List St} {st x : List Bool} (h : Ev vl ss st = some x) : True := trivial
theorem tm_a {a b n : Nat} (ha : a < 5) (hb : b < 3) (hn : n ≤ 999) : nI (a + 8 * b + 32 * n) - nI (a + 8 * b + 32 * n) / 8 * 8 = nI a := by
  rw [show (8 : Int32) = nI 8 from rfl, pk_rem (by omega) (by decide) (by decide), show (a + 8 * b + 32 * n) % 8 = a by omega]
theorem tm_b {a b n : Nat} (ha : a < 5) (hb : b < 3) (hn : n ≤ 999) : nI (a + 8 * b + 32 * n) / 8 - nI (a + 8 * b + 32 * n) / 8 / 4 * 4 = nI b := by
  rw [show (8 : Int32) = nI 8 from rfl, pk_div (by omega) (by decide) (by decide), show (4 : Int32) = nI 4 from rfl, pk_rem (by omega) (by decide) (by decide), show (a + 8 * b + 32 * n) / 8 % 4 = b by omega]
theorem tm_n {a b n : Nat} (ha : a < 5) (hb : b < 3) (hn : n ≤ 999) : nI (a + 8 * b + 32 * n) / 32 = nI n := by
  rw [show (32 : Int32) = nI 32 from rfl, pk_div (by omega) (by decide) (by decide), show (a + 8 * b + 32 * n) / 32 = n by omega]
theorem vl_row {f : Nat → Int32} {j : Nat} (h : j < 5) : f j = vlF (f 0) (f 1) (f 2) (f 3) (f 4) j := by
  have : j = 0 ∨ j = 1 ∨ j = 2 ∨ j = 3 ∨ j = 4 := by omega
  rcases this with e | e | e | e | e <;> subst e <;> rfl
theorem mk_i {k : Int32} {c n : Nat} (hk : k.toInt = -(c : Int)) (hc : c ≤ 3000) (hn : n ≤ 999) : (k - nI n).toInt = -(c : Int) - n := by
  rw [Int32.toInt_sub, hk, nI_toInt (by omega)]
  exact Int.bmod_eq_of_le (by omega) (by omega)
theorem mk_d {n : Nat} (hn : n ≤ 999) : ¬ (0 : Int32) ≤ -10 - nI n ∧ ¬ -10 - nI n = -1 ∧ -10 - nI n ≤ -10 ∧ ¬ -10 - nI n ≤ -2000 := by
  have e := mk_i (k := -10) (c := 10) (by decide) (by decide) hn
  refine ⟨fun q => ?_, fun q => ?_, ?_, fun q => ?_⟩
  · have := Int32.le_iff_toInt_le.mp q; rw [e, show (0 : Int32).toInt = 0 from by decide] at this; omega
  · rw [q, show (-1 : Int32).toInt = -1 from by decide] at e; omega
  · rw [Int32.le_iff_toInt_le, e, show (-10 : Int32).toInt = -10 from by decide]; omega
  · have := Int32.le_iff_toInt_le.mp q; rw [e, show (-2000 : Int32).toInt = -2000 from by decide] at this; omega
theorem mk_e {n : Nat} (hn : n ≤ 999) : ¬ (0 : Int32) ≤ -2000 - nI n ∧ ¬ -2000 - nI n = -1 ∧ -2000 - nI n ≤ -10 ∧ -2000 - nI n ≤ -2000 := by
  have e := mk_i (k := -2000) (c := 2000) (by decide) (by decide) hn
  refine ⟨fun q => ?_, fun q => ?_, ?_, ?_⟩
  · have := Int32.le_iff_toInt_le.mp q; rw [e, show (0 : Int32).toInt = 0 from by decide] at this; omega
  · rw [q, show (-1 : Int32).toInt = -1 from by decide] at e; omega
  · rw [Int32.le_iff_toInt_le, e, show (-10 : Int32).toInt = -10 from by decide]; omega
  · rw [Int32.le_iff_toInt_le, e, show (-2000 : Int32).toInt = -2000 from by decide]; omega
theorem sub_x {k n : Int32} : k - (k - n) = n := by rw [Int32.sub_eq_add_neg, Int32.neg_sub, Int32.add_comm, Int32.sub_add_cancel]
theorem sub_y {k n : Int32} : k - n - k = -n := by rw [Int32.sub_eq_add_neg k n, Int32.add_comm k, Int32.add_sub_cancel]
set_option maxRecDepth 100000 in
theorem m_percent (g : GG) (h : AH) (B : Nat) (hL : LY h B) (a n : Nat) (ha : a < 5) (h8 : hI h (B + 52) 8 = nI a) (cs : List CLA) (hcs : ∀ c ∈ cs, okC c) (hn : n ≤ 140) (hsn : hI h (B + 52) (213 + a) = nI n) (hle : (encL cs).length = n) (hrd : RD (hI h (B + 52)) (218 + 140 * a) (encL cs)) : AM g 1 0 0 mX12_percent [.ref (B + 51)] h (fun rv h' => rv = some (.int (pcP cs (hI h (B + 54) 0) (hI h (B + 54) 1) (hI h (B + 54) 2) (hI h (B + 54) 3) (hI h (B + 54) 4))) ∧ FR (Am B) h h') := by
  refine AM.of [(0, .ref (B + 51))] (by decide) (Nat.le_of_ble_eq_true rfl) rfl ?_
  intro V hV
  have hb : V.2.1.2.1 = cX12_percent := by subst hV; rfl
  have ow : V.2.1.1.cls = RX12 := by subst hV; rfl
  have hr : V.2.2.1 = aw_rm 1 0 0 := by subst hV; rfl
  have hz : V.2.2.2 = aw_Z V.1 (fun rv h' => rv = some (.int (pcP cs (hI h (B + 54) 0) (hI h (B + 54) 1) (hI h (B + 54) 2) (hI h (B + 54) 3) (hI h (B + 54) 4))) ∧ FR (Am B) h h') V.2.2.1 := by subst hV; rfl
  have hg : V.1 = g := by subst hV; rfl
  have hret : V.2.1.2.2.2 = (some .int) := by subst hV; rfl
  have hml : V.2.1.2.2.1 = 9 := by subst hV; rfl
  clear hV
  generalize hvl : vlF (hI h (B + 54) 0) (hI h (B + 54) 1) (hI h (B + 54) 2) (hI h (B + 54) 3) (hI h (B + 54) 4) = vl
  generalize hR : smC vl cs 0 = R
  have outer : ∀ (cs2 : List CLA) (i : Nat) (sum : Int32) (h1 : AH), FR (At B) h h1 → RD (hI h (B + 52)) ((218 + 140 * a) + i) (encL cs2) → i + (encL cs2).length = n → (∀ c ∈ cs2, okC c) → smC vl cs2 sum = R → AW V 0 0 h1 23 [(0, .ref (B + 51)), (1, .int sum), (2, .int 0), (3, .int (nI (218 + 140 * a))), (4, .int (nI ((218 + 140 * a) + i)))] [] := by
    intro cs2
    induction cs2 with
    | nil =>
      intro i sum h1 hF1 hrd2 hlen hok hsm
      have hin : i = n := by have : i + 0 = n := hlen; omega
      have hsR : sum = R := hsm
      have hLz : LY h1 B := FR.ly hF1 hL
      have hSz_52 : hI h1 (B + 52) = hI h (B + 52) := hF1.2.2.2.2 _ (by unfold At; omega)
      have hSz_54 : hI h1 (B + 54) = hI h (B + 54) := hF1.2.2.2.2 _ (by unfold At; omega)
      show AW V 0 0 h1 23 [(0, .ref (B + 51)), (1, .int sum), (2, .int 0), (3, .int (nI (218 + 140 * a))), (4, .int (nI ((218 + 140 * a) + i)))] []
      refine a_iload hb dX12_percent_23 4 rfl ?_
      refine a_iload_n hb dX12_percent_25 rfl 3 rfl ?_
      refine a_aload_n hb dX12_percent_26 rfl 0 rfl ?_
      refine a_getQ (q := (B + 52)) hb dX12_percent_27 (by rw [ow]; exact fl_RX12_9_12) (hLz.1 51 (by decide)) (hLz.2.1 (51, 1, 52) (by decide)) ?_
      refine a_sipush (v := 213) hb dX12_percent_30 (by decide) ?_
      refine a_aload_n hb dX12_percent_33 rfl 0 rfl ?_
      refine a_getQ (q := (B + 52)) hb dX12_percent_34 (by rw [ow]; exact fl_RX12_9_12) (hLz.1 51 (by decide)) (hLz.2.1 (51, 1, 52) (by decide)) ?_
      refine a_bipush (v := 8) hb dX12_percent_37 (by decide) ?_
      refine b_iald (j := 8) hb dX12_percent_39 (hLz.1 52 (by decide)) ⟨by decide, by decide⟩ (by decide) ?_
      rw [hSz_52]
      rw [h8]
      show AW V 0 0 h1 40 [(0, .ref (B + 51)), (1, .int sum), (2, .int 0), (3, .int (nI (218 + 140 * a))), (4, .int (nI ((218 + 140 * a) + i)))] [.int (nI a), .int 213, .ref (B + 52), .int (nI (218 + 140 * a)), .int (nI ((218 + 140 * a) + i))]
      refine a_iadd hb dX12_percent_40 ?_
      refine b_iald (j := (213 + a)) hb dX12_percent_41 (hLz.1 52 (by decide)) (IX.add ⟨by decide, by decide⟩ (IX.n (by omega)) (by omega)) (by omega) ?_
      rw [hSz_52]
      rw [hsn]
      show AW V 0 0 h1 42 [(0, .ref (B + 51)), (1, .int sum), (2, .int 0), (3, .int (nI (218 + 140 * a))), (4, .int (nI ((218 + 140 * a) + i)))] [.int (nI n), .int (nI (218 + 140 * a)), .int (nI ((218 + 140 * a) + i))]
      refine a_iadd hb dX12_percent_42 ?_
      refine a_icmp_ge hb 313 dX12_percent_43 (by decide) (fun c43 => ?_) (fun c43 => absurd (by rw [nI_add]; exact nI_le (by omega) (by omega)) c43)
      refine a_iload_n hb dX12_percent_313 rfl 1 rfl ?_
      refine a_if_ge hb 321 dX12_percent_314 (by decide) (fun c314 => ?_) (fun c314 => ?_)
      · refine a_iload_n hb dX12_percent_321 rfl 1 rfl ?_
        exact a_ireturn (ty := .int) hb hz dX12_percent_322 hret rfl (by rw [hr]; exact Nat.le_of_ble_eq_true rfl) (by rw [hr]; exact Nat.le_of_ble_eq_true rfl) (⟨by rw [pcP, hvl, hR, ← hsR]; first | rw [if_pos (Int32.not_le.mp c314)] | rw [if_neg (fun q => Int32.not_le.mpr q c314)], FR.mo (A := At B) hF1 (by intro a; unfold At Am; omega)⟩)
      · refine a_iconst (v := 0) hb dX12_percent_317 (by decide) ?_
        refine a_goto hb 322 dX12_percent_318 (by decide) ?_
        exact a_ireturn (ty := .int) hb hz dX12_percent_322 hret rfl (by rw [hr]; exact Nat.le_of_ble_eq_true rfl) (by rw [hr]; exact Nat.le_of_ble_eq_true rfl) (⟨by rw [pcP, hvl, hR, ← hsR]; first | rw [if_pos (Int32.not_le.mp c314)] | rw [if_neg (fun q => Int32.not_le.mpr q c314)], FR.mo (A := At B) hF1 (by intro a; unfold At Am; omega)⟩)
    | cons c cs2 ih =>
      intro i sum h1 hF1 hrd2 hlen hok hsm
      have hcc := hok c List.mem_cons_self
      have inner : ∀ (ss : List St) (st : List Bool) (i2 : Nat) (h2 : AH), FR (At B) h h2 → RD (hI h (B + 52)) ((218 + 140 * a) + i2) (ss.map encM ++ mkM c :: encL cs2) → i2 + (ss.map encM ++ mkM c :: encL cs2).length = n → (∀ s ∈ ss, okS s) → Ev vl ss st = some [trC vl c] → TR (hI h2 (B + 55)) st → st.length ≤ 14 → AW V 0 0 h2 23 [(0, .ref (B + 51)), (1, .int sum), (2, .int (nI st.length)), (3, .int (nI (218 + 140 * a))), (4, .int (nI ((218 + 140 * a) + i2)))] [] := by
        intro ss
        induction ss with
        | nil =>
          intro st i2 h2 hF2 hrd3 hlen3 hok3 hev htr hsl
          obtain rfl : st = [trC vl c] := by simpa [Ev] using hev
          have hlt : i2 + (encL cs2).length + 1 = n := by have q : i2 + (mkM c :: encL cs2).length = n := hlen3; rw [List.length_cons] at q; omega
          have hc0 := RD.hd hrd3
          have hsm2 : smC vl cs2 (sum + wtC vl c) = R := hsm
          have ht0 : hI h2 (B + 55) 0 = b2i (trC vl c) := TR.hd htr
          by_cases hc1 : c.1 = true
          · have mkx : mkM c = (-2000 - nI c.2.1) := by unfold mkM; rw [if_pos hc1]
            have mkf := mk_e hcc.1
            rw [mkx] at hc0
            have hLy1 : LY h2 B := FR.ly hF2 hL
            have hSy1_52 : hI h2 (B + 52) = hI h (B + 52) := hF2.2.2.2.2 _ (by unfold At; omega)
            have hSy1_54 : hI h2 (B + 54) = hI h (B + 54) := hF2.2.2.2.2 _ (by unfold At; omega)
            show AW V 0 0 h2 23 [(0, .ref (B + 51)), (1, .int sum), (2, .int (nI [trC vl c].length)), (3, .int (nI (218 + 140 * a))), (4, .int (nI ((218 + 140 * a) + i2)))] []
            refine a_iload hb dX12_percent_23 4 rfl ?_
            refine a_iload_n hb dX12_percent_25 rfl 3 rfl ?_
            refine a_aload_n hb dX12_percent_26 rfl 0 rfl ?_
            refine a_getQ (q := (B + 52)) hb dX12_percent_27 (by rw [ow]; exact fl_RX12_9_12) (hLy1.1 51 (by decide)) (hLy1.2.1 (51, 1, 52) (by decide)) ?_
            refine a_sipush (v := 213) hb dX12_percent_30 (by decide) ?_
            refine a_aload_n hb dX12_percent_33 rfl 0 rfl ?_
            refine a_getQ (q := (B + 52)) hb dX12_percent_34 (by rw [ow]; exact fl_RX12_9_12) (hLy1.1 51 (by decide)) (hLy1.2.1 (51, 1, 52) (by decide)) ?_
            refine a_bipush (v := 8) hb dX12_percent_37 (by decide) ?_
            refine b_iald (j := 8) hb dX12_percent_39 (hLy1.1 52 (by decide)) ⟨by decide, by decide⟩ (by decide) ?_
            rw [hSy1_52]
            rw [h8]
            show AW V 0 0 h2 40 [(0, .ref (B + 51)), (1, .int sum), (2, .int (nI [trC vl c].length)), (3, .int (nI (218 + 140 * a))), (4, .int (nI ((218 + 140 * a) + i2)))] [.int (nI a), .int 213, .ref (B + 52), .int (nI (218 + 140 * a)), .int (nI ((218 + 140 * a) + i2))]
            refine a_iadd hb dX12_percent_40 ?_
            refine b_iald (j := (213 + a)) hb dX12_percent_41 (hLy1.1 52 (by decide)) (IX.add ⟨by decide, by decide⟩ (IX.n (by omega)) (by omega)) (by omega) ?_
            rw [hSy1_52]
            rw [hsn]
            show AW V 0 0 h2 42 [(0, .ref (B + 51)), (1, .int sum), (2, .int (nI [trC vl c].length)), (3, .int (nI (218 + 140 * a))), (4, .int (nI ((218 + 140 * a) + i2)))] [.int (nI n), .int (nI (218 + 140 * a)), .int (nI ((218 + 140 * a) + i2))]
            refine a_iadd hb dX12_percent_42 ?_
            refine a_icmp_ge hb 313 dX12_percent_43 (by decide) (fun c43_0 => absurd c43_0 (by rw [nI_add]; exact nI_ge (by omega) (by omega))) (fun c43_0 => ?_)
            refine a_aload_n hb dX12_percent_46 rfl 0 rfl ?_
            refine a_getQ (q := (B + 52)) hb dX12_percent_47 (by rw [ow]; exact fl_RX12_9_12) (hLy1.1 51 (by decide)) (hLy1.2.1 (51, 1, 52) (by decide)) ?_
            refine a_iload hb dX12_percent_50 4 rfl ?_
            refine b_iald (j := ((218 + 140 * a) + i2)) hb dX12_percent_52 (hLy1.1 52 (by decide)) (IX.n (by omega)) (by omega) ?_
            rw [hSy1_52]
            rw [hc0]
            show AW V 0 0 h2 53 [(0, .ref (B + 51)), (1, .int sum), (2, .int (nI [trC vl c].length)), (3, .int (nI (218 + 140 * a))), (4, .int (nI ((218 + 140 * a) + i2)))] [.int (-2000 - nI c.2.1)]
            refine a_istore (L' := [(5, .int (-2000 - nI c.2.1)), (0, .ref (B + 51)), (1, .int sum), (2, .int (nI [trC vl c].length)), (3, .int (nI (218 + 140 * a))), (4, .int (nI ((218 + 140 * a) + i2)))]) hb dX12_percent_53 (by rw [hml]; decide) rfl ?_
            refine a_iload hb dX12_percent_55 0 rfl ?_
            refine a_if_lt hb 153 dX12_percent_57 (by decide) (fun c57_0 => ?_) (fun c57_0 => absurd (Int32.not_le.mp mkf.1) c57_0)
            refine a_iload hb dX12_percent_153 0 rfl ?_
            refine a_iconst (v := (-1)) hb dX12_percent_155 (by decide) ?_
            refine a_icmp_ne hb 186 dX12_percent_156 (by decide) (fun c156_0 => ?_) (fun c156_0 => absurd c156_0 (mkf.2.1))
            refine a_iload hb dX12_percent_186 0 rfl ?_
            refine a_bipush (v := (-10)) hb dX12_percent_188 (by decide) ?_
            refine a_icmp_le hb 267 dX12_percent_190 (by decide) (fun c190_0 => ?_) (fun c190_0 => absurd (mkf.2.2.1) c190_0)
            refine a_iconst (v := 0) hb dX12_percent_267 (by decide) ?_
            refine a_istore_n (L' := [(2, .int 0), (5, .int (-2000 - nI c.2.1)), (0, .ref (B + 51)), (1, .int sum), (3, .int (nI (218 + 140 * a))), (4, .int (nI ((218 + 140 * a) + i2)))]) hb dX12_percent_268 rfl (by rw [hml]; decide) rfl ?_
            refine a_iload_n hb dX12_percent_269 rfl 3 rfl ?_
            refine a_aload_n hb dX12_percent_270 rfl 2 rfl ?_
            refine a_getQ (q := (B + 55)) hb dX12_percent_271 (by rw [ow]; exact fl_RX12_21_12) (hLy1.1 51 (by decide)) (hLy1.2.1 (51, 10, 55) (by decide)) ?_
            refine a_iconst (v := 0) hb dX12_percent_274 (by decide) ?_
            refine b_zald (j := 0) hb dX12_percent_275 (hLy1.1 55 (by decide)) ⟨by decide, by decide⟩ (by decide) ?_
            rw [ht0]
            show AW V 0 0 h2 276 [(2, .int 0), (5, .int (-2000 - nI c.2.1)), (0, .ref (B + 51)), (1, .int sum), (3, .int (nI (218 + 140 * a))), (4, .int (nI ((218 + 140 * a) + i2)))] [.int (b2i (trC vl c)), .int sum]
            refine a_if_ne hb 283 dX12_percent_276 (by decide) (fun c276_0 => ?_) (fun c276_0 => ?_)
            · simp [b2i_0] at c276_0
              refine a_iload hb dX12_percent_283 1 rfl ?_
              refine a_sipush (v := (-2000)) hb dX12_percent_285 (by decide) ?_
              refine a_icmp_le hb 299 dX12_percent_288 (by decide) (fun c288_1 => ?_) (fun c288_1 => absurd (mkf.2.2.2) c288_1)
              refine a_iload hb dX12_percent_299 1 rfl ?_
              refine a_sipush (v := (-2000)) hb dX12_percent_301 (by decide) ?_
              refine a_isub hb dX12_percent_304 ?_
              refine a_iadd hb dX12_percent_305 ?_
              refine a_istore_n (L' := [(1, .int (sum + ((-2000 - nI c.2.1) - (-2000)))), (2, .int 0), (5, .int (-2000 - nI c.2.1)), (0, .ref (B + 51)), (3, .int (nI (218 + 140 * a))), (4, .int (nI ((218 + 140 * a) + i2)))]) hb dX12_percent_306 rfl (by rw [hml]; decide) rfl ?_
              refine a_iinc (v := ((nI ((218 + 140 * a) + i2)) + 1)) (L' := [(4, .int ((nI ((218 + 140 * a) + i2)) + 1)), (1, .int (sum + ((-2000 - nI c.2.1) - (-2000)))), (2, .int 0), (5, .int (-2000 - nI c.2.1)), (0, .ref (B + 51)), (3, .int (nI (218 + 140 * a)))]) hb dX12_percent_307 5 rfl rfl (by rw [hml]; decide) rfl ?_
              refine a_goto hb 23 dX12_percent_310 (by decide) ?_
              have hw : sum + wtC vl c = (sum + ((-2000 - nI c.2.1) - (-2000))) := by unfold wtC; rw [c276_0, if_pos rfl, if_pos hc1]; rw [sub_y]
              refine AW.sub (L' := [(0, .ref (B + 51)), (1, .int (sum + ((-2000 - nI c.2.1) - (-2000)))), (2, .int 0), (3, .int (nI (218 + 140 * a))), (4, .int ((nI ((218 + 140 * a) + i2)) + 1))]) [4, 1, 2, 5, 0] rfl ?_
              exact AW.eq (ih (i2 + 1) (sum + wtC vl c) h2 hF2 (RD.tl hrd3) (by omega) (fun d hd => hok d (List.mem_cons_of_mem _ hd)) hsm2) rfl rfl (by rw [hw, nI_1]; rfl) rfl
            · simp [b2i_0] at c276_0
              refine a_iconst (v := 0) hb dX12_percent_279 (by decide) ?_
              refine a_goto hb 305 dX12_percent_280 (by decide) ?_
              refine a_iadd hb dX12_percent_305 ?_
              refine a_istore_n (L' := [(1, .int (sum + 0)), (2, .int 0), (5, .int (-2000 - nI c.2.1)), (0, .ref (B + 51)), (3, .int (nI (218 + 140 * a))), (4, .int (nI ((218 + 140 * a) + i2)))]) hb dX12_percent_306 rfl (by rw [hml]; decide) rfl ?_
              refine a_iinc (v := ((nI ((218 + 140 * a) + i2)) + 1)) (L' := [(4, .int ((nI ((218 + 140 * a) + i2)) + 1)), (1, .int (sum + 0)), (2, .int 0), (5, .int (-2000 - nI c.2.1)), (0, .ref (B + 51)), (3, .int (nI (218 + 140 * a)))]) hb dX12_percent_307 5 rfl rfl (by rw [hml]; decide) rfl ?_
              refine a_goto hb 23 dX12_percent_310 (by decide) ?_
              have hw : sum + wtC vl c = (sum + 0) := by unfold wtC; rw [c276_0]; rfl
              refine AW.sub (L' := [(0, .ref (B + 51)), (1, .int (sum + 0)), (2, .int 0), (3, .int (nI (218 + 140 * a))), (4, .int ((nI ((218 + 140 * a) + i2)) + 1))]) [4, 1, 2, 5, 0] rfl ?_
              exact AW.eq (ih (i2 + 1) (sum + wtC vl c) h2 hF2 (RD.tl hrd3) (by omega) (fun d hd => hok d (List.mem_cons_of_mem _ hd)) hsm2) rfl rfl (by rw [hw, nI_1]; rfl) rfl
          · have mkx : mkM c = (-10 - nI c.2.1) := by unfold mkM; rw [if_neg hc1]
            have mkf := mk_d hcc.1
            rw [mkx] at hc0
            have hLy0 : LY h2 B := FR.ly hF2 hL
            have hSy0_52 : hI h2 (B + 52) = hI h (B + 52) := hF2.2.2.2.2 _ (by unfold At; omega)
            have hSy0_54 : hI h2 (B + 54) = hI h (B + 54) := hF2.2.2.2.2 _ (by unfold At; omega)
            show AW V 0 0 h2 23 [(0, .ref (B + 51)), (1, .int sum), (2, .int (nI [trC vl c].length)), (3, .int (nI (218 + 140 * a))), (4, .int (nI ((218 + 140 * a) + i2)))] []
            refine a_iload hb dX12_percent_23 4 rfl ?_
            refine a_iload_n hb dX12_percent_25 rfl 3 rfl ?_
            refine a_aload_n hb dX12_percent_26 rfl 0 rfl ?_
            refine a_getQ (q := (B + 52)) hb dX12_percent_27 (by rw [ow]; exact fl_RX12_9_12) (hLy0.1 51 (by decide)) (hLy0.2.1 (51, 1, 52) (by decide)) ?_
            refine a_sipush (v := 213) hb dX12_percent_30 (by decide) ?_
            refine a_aload_n hb dX12_percent_33 rfl 0 rfl ?_
            refine a_getQ (q := (B + 52)) hb dX12_percent_34 (by rw [ow]; exact fl_RX12_9_12) (hLy0.1 51 (by decide)) (hLy0.2.1 (51, 1, 52) (by decide)) ?_
            refine a_bipush (v := 8) hb dX12_percent_37 (by decide) ?_
            refine b_iald (j := 8) hb dX12_percent_39 (hLy0.1 52 (by decide)) ⟨by decide, by decide⟩ (by decide) ?_
            rw [hSy0_52]
            rw [h8]
            show AW V 0 0 h2 40 [(0, .ref (B + 51)), (1, .int sum), (2, .int (nI [trC vl c].length)), (3, .int (nI (218 + 140 * a))), (4, .int (nI ((218 + 140 * a) + i2)))] [.int (nI a), .int 213, .ref (B + 52), .int (nI (218 + 140 * a)), .int (nI ((218 + 140 * a) + i2))]
            refine a_iadd hb dX12_percent_40 ?_
            refine b_iald (j := (213 + a)) hb dX12_percent_41 (hLy0.1 52 (by decide)) (IX.add ⟨by decide, by decide⟩ (IX.n (by omega)) (by omega)) (by omega) ?_
            rw [hSy0_52]
            rw [hsn]
            show AW V 0 0 h2 42 [(0, .ref (B + 51)), (1, .int sum), (2, .int (nI [trC vl c].length)), (3, .int (nI (218 + 140 * a))), (4, .int (nI ((218 + 140 * a) + i2)))] [.int (nI n), .int (nI (218 + 140 * a)), .int (nI ((218 + 140 * a) + i2))]
            refine a_iadd hb dX12_percent_42 ?_
            refine a_icmp_ge hb 313 dX12_percent_43 (by decide) (fun c43_0 => absurd c43_0 (by rw [nI_add]; exact nI_ge (by omega) (by omega))) (fun c43_0 => ?_)
            refine a_aload_n hb dX12_percent_46 rfl 0 rfl ?_
            refine a_getQ (q := (B + 52)) hb dX12_percent_47 (by rw [ow]; exact fl_RX12_9_12) (hLy0.1 51 (by decide)) (hLy0.2.1 (51, 1, 52) (by decide)) ?_
            refine a_iload hb dX12_percent_50 4 rfl ?_
            refine b_iald (j := ((218 + 140 * a) + i2)) hb dX12_percent_52 (hLy0.1 52 (by decide)) (IX.n (by omega)) (by omega) ?_
            rw [hSy0_52]
            rw [hc0]
            show AW V 0 0 h2 53 [(0, .ref (B + 51)), (1, .int sum), (2, .int (nI [trC vl c].length)), (3, .int (nI (218 + 140 * a))), (4, .int (nI ((218 + 140 * a) + i2)))] [.int (-10 - nI c.2.1)]
            refine a_istore (L' := [(5, .int (-10 - nI c.2.1)), (0, .ref (B + 51)), (1, .int sum), (2, .int (nI [trC vl c].length)), (3, .int (nI (218 + 140 * a))), (4, .int (nI ((218 + 140 * a) + i2)))]) hb dX12_percent_53 (by rw [hml]; decide) rfl ?_
            refine a_iload hb dX12_percent_55 0 rfl ?_
            refine a_if_lt hb 153 dX12_percent_57 (by decide) (fun c57_0 => ?_) (fun c57_0 => absurd (Int32.not_le.mp mkf.1) c57_0)
            refine a_iload hb dX12_percent_153 0 rfl ?_
            refine a_iconst (v := (-1)) hb dX12_percent_155 (by decide) ?_
            refine a_icmp_ne hb 186 dX12_percent_156 (by decide) (fun c156_0 => ?_) (fun c156_0 => absurd c156_0 (mkf.2.1))
            refine a_iload hb dX12_percent_186 0 rfl ?_
            refine a_bipush (v := (-10)) hb dX12_percent_188 (by decide) ?_
            refine a_icmp_le hb 267 dX12_percent_190 (by decide) (fun c190_0 => ?_) (fun c190_0 => absurd (mkf.2.2.1) c190_0)
            refine a_iconst (v := 0) hb dX12_percent_267 (by decide) ?_
            refine a_istore_n (L' := [(2, .int 0), (5, .int (-10 - nI c.2.1)), (0, .ref (B + 51)), (1, .int sum), (3, .int (nI (218 + 140 * a))), (4, .int (nI ((218 + 140 * a) + i2)))]) hb dX12_percent_268 rfl (by rw [hml]; decide) rfl ?_
            refine a_iload_n hb dX12_percent_269 rfl 3 rfl ?_
            refine a_aload_n hb dX12_percent_270 rfl 2 rfl ?_
            refine a_getQ (q := (B + 55)) hb dX12_percent_271 (by rw [ow]; exact fl_RX12_21_12) (hLy0.1 51 (by decide)) (hLy0.2.1 (51, 10, 55) (by decide)) ?_
            refine a_iconst (v := 0) hb dX12_percent_274 (by decide) ?_
            refine b_zald (j := 0) hb dX12_percent_275 (hLy0.1 55 (by decide)) ⟨by decide, by decide⟩ (by decide) ?_
            rw [ht0]
            show AW V 0 0 h2 276 [(2, .int 0), (5, .int (-10 - nI c.2.1)), (0, .ref (B + 51)), (1, .int sum), (3, .int (nI (218 + 140 * a))), (4, .int (nI ((218 + 140 * a) + i2)))] [.int (b2i (trC vl c)), .int sum]
            refine a_if_ne hb 283 dX12_percent_276 (by decide) (fun c276_0 => ?_) (fun c276_0 => ?_)
            · simp [b2i_0] at c276_0
              refine a_iload hb dX12_percent_283 1 rfl ?_
              refine a_sipush (v := (-2000)) hb dX12_percent_285 (by decide) ?_
              refine a_icmp_le hb 299 dX12_percent_288 (by decide) (fun c288_1 => absurd c288_1 (mkf.2.2.2)) (fun c288_1 => ?_)
              refine a_bipush (v := (-10)) hb dX12_percent_291 (by decide) ?_
              refine a_iload hb dX12_percent_293 1 rfl ?_
              refine a_isub hb dX12_percent_295 ?_
              refine a_goto hb 305 dX12_percent_296 (by decide) ?_
              refine a_iadd hb dX12_percent_305 ?_
              refine a_istore_n (L' := [(1, .int (sum + ((-10) - (-10 - nI c.2.1)))), (2, .int 0), (5, .int (-10 - nI c.2.1)), (0, .ref (B + 51)), (3, .int (nI (218 + 140 * a))), (4, .int (nI ((218 + 140 * a) + i2)))]) hb dX12_percent_306 rfl (by rw [hml]; decide) rfl ?_
              refine a_iinc (v := ((nI ((218 + 140 * a) + i2)) + 1)) (L' := [(4, .int ((nI ((218 + 140 * a) + i2)) + 1)), (1, .int (sum + ((-10) - (-10 - nI c.2.1)))), (2, .int 0), (5, .int (-10 - nI c.2.1)), (0, .ref (B + 51)), (3, .int (nI (218 + 140 * a)))]) hb dX12_percent_307 5 rfl rfl (by rw [hml]; decide) rfl ?_
              refine a_goto hb 23 dX12_percent_310 (by decide) ?_
              have hw : sum + wtC vl c = (sum + ((-10) - (-10 - nI c.2.1))) := by unfold wtC; rw [c276_0, if_pos rfl, if_neg hc1]; rw [sub_x]
              refine AW.sub (L' := [(0, .ref (B + 51)), (1, .int (sum + ((-10) - (-10 - nI c.2.1)))), (2, .int 0), (3, .int (nI (218 + 140 * a))), (4, .int ((nI ((218 + 140 * a) + i2)) + 1))]) [4, 1, 2, 5, 0] rfl ?_
              exact AW.eq (ih (i2 + 1) (sum + wtC vl c) h2 hF2 (RD.tl hrd3) (by omega) (fun d hd => hok d (List.mem_cons_of_mem _ hd)) hsm2) rfl rfl (by rw [hw, nI_1]; rfl) rfl
            · simp [b2i_0] at c276_0
              refine a_iconst (v := 0) hb dX12_percent_279 (by decide) ?_
              refine a_goto hb 305 dX12_percent_280 (by decide) ?_
              refine a_iadd hb dX12_percent_305 ?_
              refine a_istore_n (L' := [(1, .int (sum + 0)), (2, .int 0), (5, .int (-10 - nI c.2.1)), (0, .ref (B + 51)), (3, .int (nI (218 + 140 * a))), (4, .int (nI ((218 + 140 * a) + i2)))]) hb dX12_percent_306 rfl (by rw [hml]; decide) rfl ?_
              refine a_iinc (v := ((nI ((218 + 140 * a) + i2)) + 1)) (L' := [(4, .int ((nI ((218 + 140 * a) + i2)) + 1)), (1, .int (sum + 0)), (2, .int 0), (5, .int (-10 - nI c.2.1)), (0, .ref (B + 51)), (3, .int (nI (218 + 140 * a)))]) hb dX12_percent_307 5 rfl rfl (by rw [hml]; decide) rfl ?_
              refine a_goto hb 23 dX12_percent_310 (by decide) ?_
              have hw : sum + wtC vl c = (sum + 0) := by unfold wtC; rw [c276_0]; rfl
              refine AW.sub (L' := [(0, .ref (B + 51)), (1, .int (sum + 0)), (2, .int 0), (3, .int (nI (218 + 140 * a))), (4, .int ((nI ((218 + 140 * a) + i2)) + 1))]) [4, 1, 2, 5, 0] rfl ?_
              exact AW.eq (ih (i2 + 1) (sum + wtC vl c) h2 hF2 (RD.tl hrd3) (by omega) (fun d hd => hok d (List.mem_cons_of_mem _ hd)) hsm2) rfl rfl (by rw [hw, nI_1]; rfl) rfl
        | cons s ss ih2 =>
          intro st i2 h2 hF2 hrd3 hlen3 hok3 hev htr hsl
          have hlt : i2 + (ss.map encM ++ mkM c :: encL cs2).length + 1 = n := by have q : i2 + (encM s :: (ss.map encM ++ mkM c :: encL cs2)).length = n := hlen3; rw [List.length_cons] at q; omega
          have hc0 := RD.hd (x := encM s) (l := (ss.map encM ++ mkM c :: encL cs2)) hrd3
          have htl := RD.tl (x := encM s) (l := (ss.map encM ++ mkM c :: encL cs2)) hrd3
          have hok4 : ∀ s ∈ ss, okS s := fun q hq => hok3 q (List.mem_cons_of_mem _ hq)
          have hks := hok3 s List.mem_cons_self
          have hk4 : s.1 = 0 ∨ s.1 = 1 ∨ s.1 = 2 ∨ s.1 = 3 := by have := hks.1; omega
          rcases hk4 with e | e | e | e
          · rw [encM_t e] at hc0
            obtain ⟨l14, hev2⟩ := ev_c0 e hev
            obtain ⟨s1, s2, s3⟩ := hks.2 e
            have hLx0 : LY h2 B := FR.ly hF2 hL
            have hSx0_52 : hI h2 (B + 52) = hI h (B + 52) := hF2.2.2.2.2 _ (by unfold At; omega)
            have hSx0_54 : hI h2 (B + 54) = hI h (B + 54) := hF2.2.2.2.2 _ (by unfold At; omega)
            show AW V 0 0 h2 23 [(0, .ref (B + 51)), (1, .int sum), (2, .int (nI st.length)), (3, .int (nI (218 + 140 * a))), (4, .int (nI ((218 + 140 * a) + i2)))] []
            refine a_iload hb dX12_percent_23 4 rfl ?_
            refine a_iload_n hb dX12_percent_25 rfl 3 rfl ?_
            refine a_aload_n hb dX12_percent_26 rfl 0 rfl ?_
            refine a_getQ (q := (B + 52)) hb dX12_percent_27 (by rw [ow]; exact fl_RX12_9_12) (hLx0.1 51 (by decide)) (hLx0.2.1 (51, 1, 52) (by decide)) ?_
            refine a_sipush (v := 213) hb dX12_percent_30 (by decide) ?_
            refine a_aload_n hb dX12_percent_33 rfl 0 rfl ?_
            refine a_getQ (q := (B + 52)) hb dX12_percent_34 (by rw [ow]; exact fl_RX12_9_12) (hLx0.1 51 (by decide)) (hLx0.2.1 (51, 1, 52) (by decide)) ?_
            refine a_bipush (v := 8) hb dX12_percent_37 (by decide) ?_
            refine b_iald (j := 8) hb dX12_percent_39 (hLx0.1 52 (by decide)) ⟨by decide, by decide⟩ (by decide) ?_
            rw [hSx0_52]
            rw [h8]
            show AW V 0 0 h2 40 [(0, .ref (B + 51)), (1, .int sum), (2, .int (nI st.length)), (3, .int (nI (218 + 140 * a))), (4, .int (nI ((218 + 140 * a) + i2)))] [.int (nI a), .int 213, .ref (B + 52), .int (nI (218 + 140 * a)), .int (nI ((218 + 140 * a) + i2))]
            refine a_iadd hb dX12_percent_40 ?_
            refine b_iald (j := (213 + a)) hb dX12_percent_41 (hLx0.1 52 (by decide)) (IX.add ⟨by decide, by decide⟩ (IX.n (by omega)) (by omega)) (by omega) ?_
            rw [hSx0_52]
            rw [hsn]
            show AW V 0 0 h2 42 [(0, .ref (B + 51)), (1, .int sum), (2, .int (nI st.length)), (3, .int (nI (218 + 140 * a))), (4, .int (nI ((218 + 140 * a) + i2)))] [.int (nI n), .int (nI (218 + 140 * a)), .int (nI ((218 + 140 * a) + i2))]
            refine a_iadd hb dX12_percent_42 ?_
            refine a_icmp_ge hb 313 dX12_percent_43 (by decide) (fun c43_0 => absurd c43_0 (by rw [nI_add]; exact nI_ge (by omega) (by omega))) (fun c43_0 => ?_)
            refine a_aload_n hb dX12_percent_46 rfl 0 rfl ?_
            refine a_getQ (q := (B + 52)) hb dX12_percent_47 (by rw [ow]; exact fl_RX12_9_12) (hLx0.1 51 (by decide)) (hLx0.2.1 (51, 1, 52) (by decide)) ?_
            refine a_iload hb dX12_percent_50 4 rfl ?_
            refine b_iald (j := ((218 + 140 * a) + i2)) hb dX12_percent_52 (hLx0.1 52 (by decide)) (IX.n (by omega)) (by omega) ?_
            rw [hSx0_52]
            rw [hc0]
            show AW V 0 0 h2 53 [(0, .ref (B + 51)), (1, .int sum), (2, .int (nI st.length)), (3, .int (nI (218 + 140 * a))), (4, .int (nI ((218 + 140 * a) + i2)))] [.int (nI (s.2.1 + 8 * s.2.2.1 + 32 * s.2.2.2))]
            refine a_istore (L' := [(5, .int (nI (s.2.1 + 8 * s.2.2.1 + 32 * s.2.2.2))), (0, .ref (B + 51)), (1, .int sum), (2, .int (nI st.length)), (3, .int (nI (218 + 140 * a))), (4, .int (nI ((218 + 140 * a) + i2)))]) hb dX12_percent_53 (by rw [hml]; decide) rfl ?_
            refine a_iload hb dX12_percent_55 0 rfl ?_
            refine a_if_lt hb 153 dX12_percent_57 (by decide) (fun c57_0 => absurd c57_0 ((fun q => nI_pos (by omega) q))) (fun c57_0 => ?_)
            refine a_aload_n hb dX12_percent_60 rfl 1 rfl ?_
            refine a_getQ (q := (B + 54)) hb dX12_percent_61 (by rw [ow]; exact fl_RX12_18_12) (hLx0.1 51 (by decide)) (hLx0.2.1 (51, 9, 54) (by decide)) ?_
            refine a_iload hb dX12_percent_64 0 rfl ?_
            refine a_bipush (v := 8) hb dX12_percent_66 (by decide) ?_
            refine a_irem hb dX12_percent_68 (by decide) ?_
            rw [tm_a s1 s2 s3]
            show AW V 0 0 h2 69 [(5, .int (nI (s.2.1 + 8 * s.2.2.1 + 32 * s.2.2.2))), (0, .ref (B + 51)), (1, .int sum), (2, .int (nI st.length)), (3, .int (nI (218 + 140 * a))), (4, .int (nI ((218 + 140 * a) + i2)))] [.int (nI s.2.1), .ref (B + 54)]
            refine b_iald (j := s.2.1) hb dX12_percent_69 (hLx0.1 54 (by decide)) (IX.n (by omega)) (by omega) ?_
            rw [hSx0_54]
            rw [show hI h (B + 54) s.2.1 = vl s.2.1 from by rw [← hvl]; exact vl_row s1]
            show AW V 0 0 h2 70 [(5, .int (nI (s.2.1 + 8 * s.2.2.1 + 32 * s.2.2.2))), (0, .ref (B + 51)), (1, .int sum), (2, .int (nI st.length)), (3, .int (nI (218 + 140 * a))), (4, .int (nI ((218 + 140 * a) + i2)))] [.int (vl s.2.1)]
            refine a_istore (L' := [(6, .int (vl s.2.1)), (5, .int (nI (s.2.1 + 8 * s.2.2.1 + 32 * s.2.2.2))), (0, .ref (B + 51)), (1, .int sum), (2, .int (nI st.length)), (3, .int (nI (218 + 140 * a))), (4, .int (nI ((218 + 140 * a) + i2)))]) hb dX12_percent_70 (by rw [hml]; decide) rfl ?_
            refine a_iload hb dX12_percent_72 1 rfl ?_
            refine a_bipush (v := 8) hb dX12_percent_74 (by decide) ?_
            refine a_idiv hb dX12_percent_76 (by decide) ?_
            refine a_iconst (v := 4) hb dX12_percent_77 (by decide) ?_
            refine a_irem hb dX12_percent_78 (by decide) ?_
            rw [tm_b s1 s2 s3]
            show AW V 0 0 h2 79 [(6, .int (vl s.2.1)), (5, .int (nI (s.2.1 + 8 * s.2.2.1 + 32 * s.2.2.2))), (0, .ref (B + 51)), (1, .int sum), (2, .int (nI st.length)), (3, .int (nI (218 + 140 * a))), (4, .int (nI ((218 + 140 * a) + i2)))] [.int (nI s.2.2.1)]
            refine a_istore (L' := [(7, .int (nI s.2.2.1)), (6, .int (vl s.2.1)), (5, .int (nI (s.2.1 + 8 * s.2.2.1 + 32 * s.2.2.2))), (0, .ref (B + 51)), (1, .int sum), (2, .int (nI st.length)), (3, .int (nI (218 + 140 * a))), (4, .int (nI ((218 + 140 * a) + i2)))]) hb dX12_percent_79 (by rw [hml]; decide) rfl ?_
            refine a_iload hb dX12_percent_81 2 rfl ?_
            refine a_bipush (v := 32) hb dX12_percent_83 (by decide) ?_
            refine a_idiv hb dX12_percent_85 (by decide) ?_
            rw [tm_n s1 s2 s3]
            show AW V 0 0 h2 86 [(7, .int (nI s.2.2.1)), (6, .int (vl s.2.1)), (5, .int (nI (s.2.1 + 8 * s.2.2.1 + 32 * s.2.2.2))), (0, .ref (B + 51)), (1, .int sum), (2, .int (nI st.length)), (3, .int (nI (218 + 140 * a))), (4, .int (nI ((218 + 140 * a) + i2)))] [.int (nI s.2.2.2)]
            refine a_istore (L' := [(8, .int (nI s.2.2.2)), (7, .int (nI s.2.2.1)), (6, .int (vl s.2.1)), (5, .int (nI (s.2.1 + 8 * s.2.2.1 + 32 * s.2.2.2))), (0, .ref (B + 51)), (1, .int sum), (2, .int (nI st.length)), (3, .int (nI (218 + 140 * a))), (4, .int (nI ((218 + 140 * a) + i2)))]) hb dX12_percent_86 (by rw [hml]; decide) rfl ?_
            refine a_aload_n hb dX12_percent_88 rfl 4 rfl ?_
            refine a_getQ (q := (B + 55)) hb dX12_percent_89 (by rw [ow]; exact fl_RX12_21_12) (hLx0.1 51 (by decide)) (hLx0.2.1 (51, 10, 55) (by decide)) ?_
            refine a_iload_n hb dX12_percent_92 rfl 6 rfl ?_
            refine a_iload hb dX12_percent_93 1 rfl ?_
            refine a_if_ne hb 113 dX12_percent_95 (by decide) (fun c95_0 => ?_) (fun c95_0 => ?_)
            · refine a_iload hb dX12_percent_113 1 rfl ?_
              refine a_iconst (v := 1) hb dX12_percent_115 (by decide) ?_
              refine a_icmp_ne hb 134 dX12_percent_116 (by decide) (fun c116_1 => ?_) (fun c116_1 => ?_)
              · refine a_iload hb dX12_percent_134 2 rfl ?_
                refine a_iload hb dX12_percent_136 0 rfl ?_
                refine a_icmp_le hb 145 dX12_percent_138 (by decide) (fun c138_2 => ?_) (fun c138_2 => ?_)
                · refine a_iconst (v := 0) hb dX12_percent_145 (by decide) ?_
                  refine b_zast (j := st.length) hb dX12_percent_146 (hLx0.1 55 (by decide)) (IX.n (by omega)) (by omega) rfl ?_
                  refine a_iinc (v := ((nI st.length) + 1)) (L' := [(2, .int ((nI st.length) + 1)), (8, .int (nI s.2.2.2)), (7, .int (nI s.2.2.1)), (6, .int (vl s.2.1)), (5, .int (nI (s.2.1 + 8 * s.2.2.1 + 32 * s.2.2.2))), (0, .ref (B + 51)), (1, .int sum), (3, .int (nI (218 + 140 * a))), (4, .int (nI ((218 + 140 * a) + i2)))]) hb dX12_percent_147 6 rfl rfl (by rw [hml]; decide) rfl ?_
                  refine a_goto hb 307 dX12_percent_150 (by decide) ?_
                  refine a_iinc (v := ((nI ((218 + 140 * a) + i2)) + 1)) (L' := [(4, .int ((nI ((218 + 140 * a) + i2)) + 1)), (2, .int ((nI st.length) + 1)), (8, .int (nI s.2.2.2)), (7, .int (nI s.2.2.1)), (6, .int (vl s.2.1)), (5, .int (nI (s.2.1 + 8 * s.2.2.1 + 32 * s.2.2.2))), (0, .ref (B + 51)), (1, .int sum), (3, .int (nI (218 + 140 * a)))]) hb dX12_percent_307 8 rfl rfl (by rw [hml]; decide) rfl ?_
                  refine a_goto hb 23 dX12_percent_310 (by decide) ?_
                  refine AW.sub (L' := [(0, .ref (B + 51)), (1, .int sum), (2, .int ((nI st.length) + 1)), (3, .int (nI (218 + 140 * a))), (4, .int ((nI ((218 + 140 * a) + i2)) + 1))]) [6, 7, 1, 8, 0] rfl ?_
                  have hv1 : (0 : Int32) = b2i (tsT vl s) := by rw [show tsT vl s = false from by have g2 : ¬ s.2.2.1 = 0 ∧ ¬ s.2.2.1 = 1 := ⟨fun q => c95_0 (by rw [q]; rfl), fun q => c116_1 (by rw [q]; rfl)⟩; rw [tsT, if_neg g2.1, if_neg g2.2]; simp [Int32.not_lt.mpr c138_2]]; rfl
                  exact AW.eq (ih2 (tsT vl s :: st) (i2 + 1) (setI h2 (B + 55) st.length 0) (FR.I hF2 (by unfold At; omega)) htl (by omega) hok4 hev2 (by rw [hI_setI_s]; exact TR.put htr hv1) (by simp; omega)) rfl rfl (by rw [nI_1]; first | rfl | (rw [nI_1]; rfl)) rfl
                · refine a_iconst (v := 1) hb dX12_percent_141 (by decide) ?_
                  refine a_goto hb 146 dX12_percent_142 (by decide) ?_
                  refine b_zast (j := st.length) hb dX12_percent_146 (hLx0.1 55 (by decide)) (IX.n (by omega)) (by omega) rfl ?_
                  refine a_iinc (v := ((nI st.length) + 1)) (L' := [(2, .int ((nI st.length) + 1)), (8, .int (nI s.2.2.2)), (7, .int (nI s.2.2.1)), (6, .int (vl s.2.1)), (5, .int (nI (s.2.1 + 8 * s.2.2.1 + 32 * s.2.2.2))), (0, .ref (B + 51)), (1, .int sum), (3, .int (nI (218 + 140 * a))), (4, .int (nI ((218 + 140 * a) + i2)))]) hb dX12_percent_147 6 rfl rfl (by rw [hml]; decide) rfl ?_
                  refine a_goto hb 307 dX12_percent_150 (by decide) ?_
                  refine a_iinc (v := ((nI ((218 + 140 * a) + i2)) + 1)) (L' := [(4, .int ((nI ((218 + 140 * a) + i2)) + 1)), (2, .int ((nI st.length) + 1)), (8, .int (nI s.2.2.2)), (7, .int (nI s.2.2.1)), (6, .int (vl s.2.1)), (5, .int (nI (s.2.1 + 8 * s.2.2.1 + 32 * s.2.2.2))), (0, .ref (B + 51)), (1, .int sum), (3, .int (nI (218 + 140 * a)))]) hb dX12_percent_307 8 rfl rfl (by rw [hml]; decide) rfl ?_
                  refine a_goto hb 23 dX12_percent_310 (by decide) ?_
                  refine AW.sub (L' := [(0, .ref (B + 51)), (1, .int sum), (2, .int ((nI st.length) + 1)), (3, .int (nI (218 + 140 * a))), (4, .int ((nI ((218 + 140 * a) + i2)) + 1))]) [6, 7, 1, 8, 0] rfl ?_
                  have hv1 : (1 : Int32) = b2i (tsT vl s) := by rw [show tsT vl s = true from by have g2 : ¬ s.2.2.1 = 0 ∧ ¬ s.2.2.1 = 1 := ⟨fun q => c95_0 (by rw [q]; rfl), fun q => c116_1 (by rw [q]; rfl)⟩; rw [tsT, if_neg g2.1, if_neg g2.2]; simp [Int32.not_le.mp c138_2]]; rfl
                  exact AW.eq (ih2 (tsT vl s :: st) (i2 + 1) (setI h2 (B + 55) st.length 1) (FR.I hF2 (by unfold At; omega)) htl (by omega) hok4 hev2 (by rw [hI_setI_s]; exact TR.put htr hv1) (by simp; omega)) rfl rfl (by rw [nI_1]; first | rfl | (rw [nI_1]; rfl)) rfl
              · refine a_iload hb dX12_percent_119 2 rfl ?_
                refine a_iload hb dX12_percent_121 0 rfl ?_
                refine a_icmp_ne hb 130 dX12_percent_123 (by decide) (fun c123_2 => ?_) (fun c123_2 => ?_)
                · refine a_iconst (v := 0) hb dX12_percent_130 (by decide) ?_
                  refine a_goto hb 146 dX12_percent_131 (by decide) ?_
                  refine b_zast (j := st.length) hb dX12_percent_146 (hLx0.1 55 (by decide)) (IX.n (by omega)) (by omega) rfl ?_
                  refine a_iinc (v := ((nI st.length) + 1)) (L' := [(2, .int ((nI st.length) + 1)), (8, .int (nI s.2.2.2)), (7, .int (nI s.2.2.1)), (6, .int (vl s.2.1)), (5, .int (nI (s.2.1 + 8 * s.2.2.1 + 32 * s.2.2.2))), (0, .ref (B + 51)), (1, .int sum), (3, .int (nI (218 + 140 * a))), (4, .int (nI ((218 + 140 * a) + i2)))]) hb dX12_percent_147 6 rfl rfl (by rw [hml]; decide) rfl ?_
                  refine a_goto hb 307 dX12_percent_150 (by decide) ?_
                  refine a_iinc (v := ((nI ((218 + 140 * a) + i2)) + 1)) (L' := [(4, .int ((nI ((218 + 140 * a) + i2)) + 1)), (2, .int ((nI st.length) + 1)), (8, .int (nI s.2.2.2)), (7, .int (nI s.2.2.1)), (6, .int (vl s.2.1)), (5, .int (nI (s.2.1 + 8 * s.2.2.1 + 32 * s.2.2.2))), (0, .ref (B + 51)), (1, .int sum), (3, .int (nI (218 + 140 * a)))]) hb dX12_percent_307 8 rfl rfl (by rw [hml]; decide) rfl ?_
                  refine a_goto hb 23 dX12_percent_310 (by decide) ?_
                  refine AW.sub (L' := [(0, .ref (B + 51)), (1, .int sum), (2, .int ((nI st.length) + 1)), (3, .int (nI (218 + 140 * a))), (4, .int ((nI ((218 + 140 * a) + i2)) + 1))]) [6, 7, 1, 8, 0] rfl ?_
                  have hv1 : (0 : Int32) = b2i (tsT vl s) := by rw [show tsT vl s = false from by have g1 : s.2.2.1 = 1 := (nI_eq (a := s.2.2.1) (b := 1) (by omega) (by decide)).mp c116_1; rw [tsT, if_neg (by omega), if_pos g1]; simp [c123_2]]; rfl
                  exact AW.eq (ih2 (tsT vl s :: st) (i2 + 1) (setI h2 (B + 55) st.length 0) (FR.I hF2 (by unfold At; omega)) htl (by omega) hok4 hev2 (by rw [hI_setI_s]; exact TR.put htr hv1) (by simp; omega)) rfl rfl (by rw [nI_1]; first | rfl | (rw [nI_1]; rfl)) rfl
                · refine a_iconst (v := 1) hb dX12_percent_126 (by decide) ?_
                  refine a_goto hb 146 dX12_percent_127 (by decide) ?_
                  refine b_zast (j := st.length) hb dX12_percent_146 (hLx0.1 55 (by decide)) (IX.n (by omega)) (by omega) rfl ?_
                  refine a_iinc (v := ((nI st.length) + 1)) (L' := [(2, .int ((nI st.length) + 1)), (8, .int (nI s.2.2.2)), (7, .int (nI s.2.2.1)), (6, .int (vl s.2.1)), (5, .int (nI (s.2.1 + 8 * s.2.2.1 + 32 * s.2.2.2))), (0, .ref (B + 51)), (1, .int sum), (3, .int (nI (218 + 140 * a))), (4, .int (nI ((218 + 140 * a) + i2)))]) hb dX12_percent_147 6 rfl rfl (by rw [hml]; decide) rfl ?_
                  refine a_goto hb 307 dX12_percent_150 (by decide) ?_
                  refine a_iinc (v := ((nI ((218 + 140 * a) + i2)) + 1)) (L' := [(4, .int ((nI ((218 + 140 * a) + i2)) + 1)), (2, .int ((nI st.length) + 1)), (8, .int (nI s.2.2.2)), (7, .int (nI s.2.2.1)), (6, .int (vl s.2.1)), (5, .int (nI (s.2.1 + 8 * s.2.2.1 + 32 * s.2.2.2))), (0, .ref (B + 51)), (1, .int sum), (3, .int (nI (218 + 140 * a)))]) hb dX12_percent_307 8 rfl rfl (by rw [hml]; decide) rfl ?_
                  refine a_goto hb 23 dX12_percent_310 (by decide) ?_
                  refine AW.sub (L' := [(0, .ref (B + 51)), (1, .int sum), (2, .int ((nI st.length) + 1)), (3, .int (nI (218 + 140 * a))), (4, .int ((nI ((218 + 140 * a) + i2)) + 1))]) [6, 7, 1, 8, 0] rfl ?_
                  have hv1 : (1 : Int32) = b2i (tsT vl s) := by rw [show tsT vl s = true from by have g1 : s.2.2.1 = 1 := (nI_eq (a := s.2.2.1) (b := 1) (by omega) (by decide)).mp c116_1; rw [tsT, if_neg (by omega), if_pos g1]; simp [c123_2]]; rfl
                  exact AW.eq (ih2 (tsT vl s :: st) (i2 + 1) (setI h2 (B + 55) st.length 1) (FR.I hF2 (by unfold At; omega)) htl (by omega) hok4 hev2 (by rw [hI_setI_s]; exact TR.put htr hv1) (by simp; omega)) rfl rfl (by rw [nI_1]; first | rfl | (rw [nI_1]; rfl)) rfl
            · refine a_iload hb dX12_percent_98 2 rfl ?_
              refine a_iload hb dX12_percent_100 0 rfl ?_
              refine a_icmp_ge hb 109 dX12_percent_102 (by decide) (fun c102_1 => ?_) (fun c102_1 => ?_)
              · refine a_iconst (v := 0) hb dX12_percent_109 (by decide) ?_
                refine a_goto hb 146 dX12_percent_110 (by decide) ?_
                refine b_zast (j := st.length) hb dX12_percent_146 (hLx0.1 55 (by decide)) (IX.n (by omega)) (by omega) rfl ?_
                refine a_iinc (v := ((nI st.length) + 1)) (L' := [(2, .int ((nI st.length) + 1)), (8, .int (nI s.2.2.2)), (7, .int (nI s.2.2.1)), (6, .int (vl s.2.1)), (5, .int (nI (s.2.1 + 8 * s.2.2.1 + 32 * s.2.2.2))), (0, .ref (B + 51)), (1, .int sum), (3, .int (nI (218 + 140 * a))), (4, .int (nI ((218 + 140 * a) + i2)))]) hb dX12_percent_147 6 rfl rfl (by rw [hml]; decide) rfl ?_
                refine a_goto hb 307 dX12_percent_150 (by decide) ?_
                refine a_iinc (v := ((nI ((218 + 140 * a) + i2)) + 1)) (L' := [(4, .int ((nI ((218 + 140 * a) + i2)) + 1)), (2, .int ((nI st.length) + 1)), (8, .int (nI s.2.2.2)), (7, .int (nI s.2.2.1)), (6, .int (vl s.2.1)), (5, .int (nI (s.2.1 + 8 * s.2.2.1 + 32 * s.2.2.2))), (0, .ref (B + 51)), (1, .int sum), (3, .int (nI (218 + 140 * a)))]) hb dX12_percent_307 8 rfl rfl (by rw [hml]; decide) rfl ?_
                refine a_goto hb 23 dX12_percent_310 (by decide) ?_
                refine AW.sub (L' := [(0, .ref (B + 51)), (1, .int sum), (2, .int ((nI st.length) + 1)), (3, .int (nI (218 + 140 * a))), (4, .int ((nI ((218 + 140 * a) + i2)) + 1))]) [6, 7, 1, 8, 0] rfl ?_
                have hv1 : (0 : Int32) = b2i (tsT vl s) := by rw [show tsT vl s = false from by have g0 : s.2.2.1 = 0 := (nI_eq (a := s.2.2.1) (b := 0) (by omega) (by decide)).mp c95_0; rw [tsT, if_pos g0]; simp [Int32.not_lt.mpr c102_1]]; rfl
                exact AW.eq (ih2 (tsT vl s :: st) (i2 + 1) (setI h2 (B + 55) st.length 0) (FR.I hF2 (by unfold At; omega)) htl (by omega) hok4 hev2 (by rw [hI_setI_s]; exact TR.put htr hv1) (by simp; omega)) rfl rfl (by rw [nI_1]; first | rfl | (rw [nI_1]; rfl)) rfl
              · refine a_iconst (v := 1) hb dX12_percent_105 (by decide) ?_
                refine a_goto hb 146 dX12_percent_106 (by decide) ?_
                refine b_zast (j := st.length) hb dX12_percent_146 (hLx0.1 55 (by decide)) (IX.n (by omega)) (by omega) rfl ?_
                refine a_iinc (v := ((nI st.length) + 1)) (L' := [(2, .int ((nI st.length) + 1)), (8, .int (nI s.2.2.2)), (7, .int (nI s.2.2.1)), (6, .int (vl s.2.1)), (5, .int (nI (s.2.1 + 8 * s.2.2.1 + 32 * s.2.2.2))), (0, .ref (B + 51)), (1, .int sum), (3, .int (nI (218 + 140 * a))), (4, .int (nI ((218 + 140 * a) + i2)))]) hb dX12_percent_147 6 rfl rfl (by rw [hml]; decide) rfl ?_
                refine a_goto hb 307 dX12_percent_150 (by decide) ?_
                refine a_iinc (v := ((nI ((218 + 140 * a) + i2)) + 1)) (L' := [(4, .int ((nI ((218 + 140 * a) + i2)) + 1)), (2, .int ((nI st.length) + 1)), (8, .int (nI s.2.2.2)), (7, .int (nI s.2.2.1)), (6, .int (vl s.2.1)), (5, .int (nI (s.2.1 + 8 * s.2.2.1 + 32 * s.2.2.2))), (0, .ref (B + 51)), (1, .int sum), (3, .int (nI (218 + 140 * a)))]) hb dX12_percent_307 8 rfl rfl (by rw [hml]; decide) rfl ?_
                refine a_goto hb 23 dX12_percent_310 (by decide) ?_
                refine AW.sub (L' := [(0, .ref (B + 51)), (1, .int sum), (2, .int ((nI st.length) + 1)), (3, .int (nI (218 + 140 * a))), (4, .int ((nI ((218 + 140 * a) + i2)) + 1))]) [6, 7, 1, 8, 0] rfl ?_
                have hv1 : (1 : Int32) = b2i (tsT vl s) := by rw [show tsT vl s = true from by have g0 : s.2.2.1 = 0 := (nI_eq (a := s.2.2.1) (b := 0) (by omega) (by decide)).mp c95_0; rw [tsT, if_pos g0]; simp [Int32.not_le.mp c102_1]]; rfl
                exact AW.eq (ih2 (tsT vl s :: st) (i2 + 1) (setI h2 (B + 55) st.length 1) (FR.I hF2 (by unfold At; omega)) htl (by omega) hok4 hev2 (by rw [hI_setI_s]; exact TR.put htr hv1) (by simp; omega)) rfl rfl (by rw [nI_1]; first | rfl | (rw [nI_1]; rfl)) rfl
          · rw [encM_1 e] at hc0
            obtain ⟨b, r, rfl, hev2⟩ := ev_c1 e hev
            have hs1 : r.length + 1 ≤ 14 := by simpa using hsl
            have htb := htr.hd
            have htt := htr.tl
            have hLx1 : LY h2 B := FR.ly hF2 hL
            have hSx1_52 : hI h2 (B + 52) = hI h (B + 52) := hF2.2.2.2.2 _ (by unfold At; omega)
            have hSx1_54 : hI h2 (B + 54) = hI h (B + 54) := hF2.2.2.2.2 _ (by unfold At; omega)
            show AW V 0 0 h2 23 [(0, .ref (B + 51)), (1, .int sum), (2, .int (nI (r.length + 1))), (3, .int (nI (218 + 140 * a))), (4, .int (nI ((218 + 140 * a) + i2)))] []
            refine a_iload hb dX12_percent_23 4 rfl ?_
            refine a_iload_n hb dX12_percent_25 rfl 3 rfl ?_
            refine a_aload_n hb dX12_percent_26 rfl 0 rfl ?_
            refine a_getQ (q := (B + 52)) hb dX12_percent_27 (by rw [ow]; exact fl_RX12_9_12) (hLx1.1 51 (by decide)) (hLx1.2.1 (51, 1, 52) (by decide)) ?_
            refine a_sipush (v := 213) hb dX12_percent_30 (by decide) ?_
            refine a_aload_n hb dX12_percent_33 rfl 0 rfl ?_
            refine a_getQ (q := (B + 52)) hb dX12_percent_34 (by rw [ow]; exact fl_RX12_9_12) (hLx1.1 51 (by decide)) (hLx1.2.1 (51, 1, 52) (by decide)) ?_
            refine a_bipush (v := 8) hb dX12_percent_37 (by decide) ?_
            refine b_iald (j := 8) hb dX12_percent_39 (hLx1.1 52 (by decide)) ⟨by decide, by decide⟩ (by decide) ?_
            rw [hSx1_52]
            rw [h8]
            show AW V 0 0 h2 40 [(0, .ref (B + 51)), (1, .int sum), (2, .int (nI (r.length + 1))), (3, .int (nI (218 + 140 * a))), (4, .int (nI ((218 + 140 * a) + i2)))] [.int (nI a), .int 213, .ref (B + 52), .int (nI (218 + 140 * a)), .int (nI ((218 + 140 * a) + i2))]
            refine a_iadd hb dX12_percent_40 ?_
            refine b_iald (j := (213 + a)) hb dX12_percent_41 (hLx1.1 52 (by decide)) (IX.add ⟨by decide, by decide⟩ (IX.n (by omega)) (by omega)) (by omega) ?_
            rw [hSx1_52]
            rw [hsn]
            show AW V 0 0 h2 42 [(0, .ref (B + 51)), (1, .int sum), (2, .int (nI (r.length + 1))), (3, .int (nI (218 + 140 * a))), (4, .int (nI ((218 + 140 * a) + i2)))] [.int (nI n), .int (nI (218 + 140 * a)), .int (nI ((218 + 140 * a) + i2))]
            refine a_iadd hb dX12_percent_42 ?_
            refine a_icmp_ge hb 313 dX12_percent_43 (by decide) (fun c43_0 => absurd c43_0 (by rw [nI_add]; exact nI_ge (by omega) (by omega))) (fun c43_0 => ?_)
            refine a_aload_n hb dX12_percent_46 rfl 0 rfl ?_
            refine a_getQ (q := (B + 52)) hb dX12_percent_47 (by rw [ow]; exact fl_RX12_9_12) (hLx1.1 51 (by decide)) (hLx1.2.1 (51, 1, 52) (by decide)) ?_
            refine a_iload hb dX12_percent_50 4 rfl ?_
            refine b_iald (j := ((218 + 140 * a) + i2)) hb dX12_percent_52 (hLx1.1 52 (by decide)) (IX.n (by omega)) (by omega) ?_
            rw [hSx1_52]
            rw [hc0]
            show AW V 0 0 h2 53 [(0, .ref (B + 51)), (1, .int sum), (2, .int (nI (r.length + 1))), (3, .int (nI (218 + 140 * a))), (4, .int (nI ((218 + 140 * a) + i2)))] [.int (-1)]
            refine a_istore (L' := [(5, .int (-1)), (0, .ref (B + 51)), (1, .int sum), (2, .int (nI (r.length + 1))), (3, .int (nI (218 + 140 * a))), (4, .int (nI ((218 + 140 * a) + i2)))]) hb dX12_percent_53 (by rw [hml]; decide) rfl ?_
            refine a_iload hb dX12_percent_55 0 rfl ?_
            refine a_if_lt hb 153 dX12_percent_57 (by decide) (fun c57_0 => ?_) (fun c57_0 => absurd (by decide) c57_0)
            refine a_iload hb dX12_percent_153 0 rfl ?_
            refine a_iconst (v := (-1)) hb dX12_percent_155 (by decide) ?_
            refine a_icmp_ne hb 186 dX12_percent_156 (by decide) (fun c156_0 => absurd c156_0 (not_not_intro rfl)) (fun c156_0 => ?_)
            refine a_aload_n hb dX12_percent_159 rfl 1 rfl ?_
            refine a_getQ (q := (B + 55)) hb dX12_percent_160 (by rw [ow]; exact fl_RX12_21_12) (hLx1.1 51 (by decide)) (hLx1.2.1 (51, 10, 55) (by decide)) ?_
            refine a_iload_n hb dX12_percent_163 rfl 3 rfl ?_
            refine a_iconst (v := 1) hb dX12_percent_164 (by decide) ?_
            refine a_isub hb dX12_percent_165 ?_
            rw [show nI (r.length + 1) - 1 = nI r.length from by rw [← nI_1, Int32.add_sub_cancel]]
            show AW V 0 0 h2 166 [(5, .int (-1)), (0, .ref (B + 51)), (1, .int sum), (2, .int (nI (r.length + 1))), (3, .int (nI (218 + 140 * a))), (4, .int (nI ((218 + 140 * a) + i2)))] [.int (nI r.length), .ref (B + 55)]
            refine a_aload_n hb dX12_percent_166 rfl 1 rfl ?_
            refine a_getQ (q := (B + 55)) hb dX12_percent_167 (by rw [ow]; exact fl_RX12_21_12) (hLx1.1 51 (by decide)) (hLx1.2.1 (51, 10, 55) (by decide)) ?_
            refine a_iload_n hb dX12_percent_170 rfl 3 rfl ?_
            refine a_iconst (v := 1) hb dX12_percent_171 (by decide) ?_
            refine a_isub hb dX12_percent_172 ?_
            rw [show nI (r.length + 1) - 1 = nI r.length from by rw [← nI_1, Int32.add_sub_cancel]]
            show AW V 0 0 h2 173 [(5, .int (-1)), (0, .ref (B + 51)), (1, .int sum), (2, .int (nI (r.length + 1))), (3, .int (nI (218 + 140 * a))), (4, .int (nI ((218 + 140 * a) + i2)))] [.int (nI r.length), .ref (B + 55), .int (nI r.length), .ref (B + 55)]
            refine b_zald (j := r.length) hb dX12_percent_173 (hLx1.1 55 (by decide)) (IX.n (by omega)) (by omega) ?_
            rw [htb]
            show AW V 0 0 h2 174 [(5, .int (-1)), (0, .ref (B + 51)), (1, .int sum), (2, .int (nI (r.length + 1))), (3, .int (nI (218 + 140 * a))), (4, .int (nI ((218 + 140 * a) + i2)))] [.int (b2i b), .int (nI r.length), .ref (B + 55)]
            refine a_if_ne hb 181 dX12_percent_174 (by decide) (fun c174_0 => ?_) (fun c174_0 => ?_)
            · simp [b2i_0] at c174_0
              refine a_iconst (v := 0) hb dX12_percent_181 (by decide) ?_
              refine b_zast (j := r.length) hb dX12_percent_182 (hLx1.1 55 (by decide)) (IX.n (by omega)) (by omega) rfl ?_
              refine a_goto hb 307 dX12_percent_183 (by decide) ?_
              refine a_iinc (v := ((nI ((218 + 140 * a) + i2)) + 1)) (L' := [(4, .int ((nI ((218 + 140 * a) + i2)) + 1)), (5, .int (-1)), (0, .ref (B + 51)), (1, .int sum), (2, .int (nI (r.length + 1))), (3, .int (nI (218 + 140 * a)))]) hb dX12_percent_307 5 rfl rfl (by rw [hml]; decide) rfl ?_
              refine a_goto hb 23 dX12_percent_310 (by decide) ?_
              refine AW.sub (L' := [(0, .ref (B + 51)), (1, .int sum), (2, .int (nI (r.length + 1))), (3, .int (nI (218 + 140 * a))), (4, .int ((nI ((218 + 140 * a) + i2)) + 1))]) [2, 3, 4, 5, 0] rfl ?_
              have hv1 : (0 : Int32) = b2i ((!b)) := by rw [show (!b) = false from by simp [c174_0]]; rfl
              exact AW.eq (ih2 ((!b) :: r) (i2 + 1) (setI h2 (B + 55) r.length 0) (FR.I hF2 (by unfold At; omega)) htl (by omega) hok4 hev2 (by rw [hI_setI_s]; exact TR.put htt hv1) (by simp; omega)) rfl rfl (by rw [nI_1]; first | rfl | (rw [nI_1]; rfl)) rfl
            · simp [b2i_0] at c174_0
              refine a_iconst (v := 1) hb dX12_percent_177 (by decide) ?_
              refine a_goto hb 182 dX12_percent_178 (by decide) ?_
              refine b_zast (j := r.length) hb dX12_percent_182 (hLx1.1 55 (by decide)) (IX.n (by omega)) (by omega) rfl ?_
              refine a_goto hb 307 dX12_percent_183 (by decide) ?_
              refine a_iinc (v := ((nI ((218 + 140 * a) + i2)) + 1)) (L' := [(4, .int ((nI ((218 + 140 * a) + i2)) + 1)), (5, .int (-1)), (0, .ref (B + 51)), (1, .int sum), (2, .int (nI (r.length + 1))), (3, .int (nI (218 + 140 * a)))]) hb dX12_percent_307 5 rfl rfl (by rw [hml]; decide) rfl ?_
              refine a_goto hb 23 dX12_percent_310 (by decide) ?_
              refine AW.sub (L' := [(0, .ref (B + 51)), (1, .int sum), (2, .int (nI (r.length + 1))), (3, .int (nI (218 + 140 * a))), (4, .int ((nI ((218 + 140 * a) + i2)) + 1))]) [2, 3, 4, 5, 0] rfl ?_
              have hv1 : (1 : Int32) = b2i ((!b)) := by rw [show (!b) = true from by simp [c174_0]]; rfl
              exact AW.eq (ih2 ((!b) :: r) (i2 + 1) (setI h2 (B + 55) r.length 1) (FR.I hF2 (by unfold At; omega)) htl (by omega) hok4 hev2 (by rw [hI_setI_s]; exact TR.put htt hv1) (by simp; omega)) rfl rfl (by rw [nI_1]; first | rfl | (rw [nI_1]; rfl)) rfl
          · rw [encM_2 e] at hc0
            obtain ⟨b, b0, r, rfl, hev2⟩ := ev_c2 e hev
            have hs1 : r.length + 1 + 1 ≤ 14 := by simpa using hsl
            have htb : hI h2 (B + 55) (r.length + 1) = b2i b := htr.hd
            have hta := htr.tl.hd
            have htt := htr.tl.tl
            have hLx2 : LY h2 B := FR.ly hF2 hL
            have hSx2_52 : hI h2 (B + 52) = hI h (B + 52) := hF2.2.2.2.2 _ (by unfold At; omega)
            have hSx2_54 : hI h2 (B + 54) = hI h (B + 54) := hF2.2.2.2.2 _ (by unfold At; omega)
            show AW V 0 0 h2 23 [(0, .ref (B + 51)), (1, .int sum), (2, .int (nI (r.length + 1 + 1))), (3, .int (nI (218 + 140 * a))), (4, .int (nI ((218 + 140 * a) + i2)))] []
            refine a_iload hb dX12_percent_23 4 rfl ?_
            refine a_iload_n hb dX12_percent_25 rfl 3 rfl ?_
            refine a_aload_n hb dX12_percent_26 rfl 0 rfl ?_
            refine a_getQ (q := (B + 52)) hb dX12_percent_27 (by rw [ow]; exact fl_RX12_9_12) (hLx2.1 51 (by decide)) (hLx2.2.1 (51, 1, 52) (by decide)) ?_
            refine a_sipush (v := 213) hb dX12_percent_30 (by decide) ?_
            refine a_aload_n hb dX12_percent_33 rfl 0 rfl ?_
            refine a_getQ (q := (B + 52)) hb dX12_percent_34 (by rw [ow]; exact fl_RX12_9_12) (hLx2.1 51 (by decide)) (hLx2.2.1 (51, 1, 52) (by decide)) ?_
            refine a_bipush (v := 8) hb dX12_percent_37 (by decide) ?_
            refine b_iald (j := 8) hb dX12_percent_39 (hLx2.1 52 (by decide)) ⟨by decide, by decide⟩ (by decide) ?_
            rw [hSx2_52]
            rw [h8]
            show AW V 0 0 h2 40 [(0, .ref (B + 51)), (1, .int sum), (2, .int (nI (r.length + 1 + 1))), (3, .int (nI (218 + 140 * a))), (4, .int (nI ((218 + 140 * a) + i2)))] [.int (nI a), .int 213, .ref (B + 52), .int (nI (218 + 140 * a)), .int (nI ((218 + 140 * a) + i2))]
            refine a_iadd hb dX12_percent_40 ?_
            refine b_iald (j := (213 + a)) hb dX12_percent_41 (hLx2.1 52 (by decide)) (IX.add ⟨by decide, by decide⟩ (IX.n (by omega)) (by omega)) (by omega) ?_
            rw [hSx2_52]
            rw [hsn]
            show AW V 0 0 h2 42 [(0, .ref (B + 51)), (1, .int sum), (2, .int (nI (r.length + 1 + 1))), (3, .int (nI (218 + 140 * a))), (4, .int (nI ((218 + 140 * a) + i2)))] [.int (nI n), .int (nI (218 + 140 * a)), .int (nI ((218 + 140 * a) + i2))]
            refine a_iadd hb dX12_percent_42 ?_
            refine a_icmp_ge hb 313 dX12_percent_43 (by decide) (fun c43_0 => absurd c43_0 (by rw [nI_add]; exact nI_ge (by omega) (by omega))) (fun c43_0 => ?_)
            refine a_aload_n hb dX12_percent_46 rfl 0 rfl ?_
            refine a_getQ (q := (B + 52)) hb dX12_percent_47 (by rw [ow]; exact fl_RX12_9_12) (hLx2.1 51 (by decide)) (hLx2.2.1 (51, 1, 52) (by decide)) ?_
            refine a_iload hb dX12_percent_50 4 rfl ?_
            refine b_iald (j := ((218 + 140 * a) + i2)) hb dX12_percent_52 (hLx2.1 52 (by decide)) (IX.n (by omega)) (by omega) ?_
            rw [hSx2_52]
            rw [hc0]
            show AW V 0 0 h2 53 [(0, .ref (B + 51)), (1, .int sum), (2, .int (nI (r.length + 1 + 1))), (3, .int (nI (218 + 140 * a))), (4, .int (nI ((218 + 140 * a) + i2)))] [.int (-2)]
            refine a_istore (L' := [(5, .int (-2)), (0, .ref (B + 51)), (1, .int sum), (2, .int (nI (r.length + 1 + 1))), (3, .int (nI (218 + 140 * a))), (4, .int (nI ((218 + 140 * a) + i2)))]) hb dX12_percent_53 (by rw [hml]; decide) rfl ?_
            refine a_iload hb dX12_percent_55 0 rfl ?_
            refine a_if_lt hb 153 dX12_percent_57 (by decide) (fun c57_0 => ?_) (fun c57_0 => absurd (by decide) c57_0)
            refine a_iload hb dX12_percent_153 0 rfl ?_
            refine a_iconst (v := (-1)) hb dX12_percent_155 (by decide) ?_
            refine a_icmp_ne hb 186 dX12_percent_156 (by decide) (fun c156_0 => ?_) (fun c156_0 => absurd c156_0 (by decide))
            refine a_iload hb dX12_percent_186 0 rfl ?_
            refine a_bipush (v := (-10)) hb dX12_percent_188 (by decide) ?_
            refine a_icmp_le hb 267 dX12_percent_190 (by decide) (fun c190_0 => absurd c190_0 (by decide)) (fun c190_0 => ?_)
            refine a_iinc (v := ((nI (r.length + 1 + 1)) + (-1))) (L' := [(2, .int ((nI (r.length + 1 + 1)) + (-1))), (5, .int (-2)), (0, .ref (B + 51)), (1, .int sum), (3, .int (nI (218 + 140 * a))), (4, .int (nI ((218 + 140 * a) + i2)))]) hb dX12_percent_193 3 rfl rfl (by rw [hml]; decide) rfl ?_
            rw [pk_m1]
            show AW V 0 0 h2 196 [(2, .int (nI (r.length + 1))), (5, .int (-2)), (0, .ref (B + 51)), (1, .int sum), (3, .int (nI (218 + 140 * a))), (4, .int (nI ((218 + 140 * a) + i2)))] []
            refine a_aload_n hb dX12_percent_196 rfl 2 rfl ?_
            refine a_getQ (q := (B + 55)) hb dX12_percent_197 (by rw [ow]; exact fl_RX12_21_12) (hLx2.1 51 (by decide)) (hLx2.2.1 (51, 10, 55) (by decide)) ?_
            refine a_iload_n hb dX12_percent_200 rfl 0 rfl ?_
            refine a_iconst (v := 1) hb dX12_percent_201 (by decide) ?_
            refine a_isub hb dX12_percent_202 ?_
            rw [show nI (r.length + 1) - 1 = nI r.length from by rw [← nI_1, Int32.add_sub_cancel]]
            show AW V 0 0 h2 203 [(2, .int (nI (r.length + 1))), (5, .int (-2)), (0, .ref (B + 51)), (1, .int sum), (3, .int (nI (218 + 140 * a))), (4, .int (nI ((218 + 140 * a) + i2)))] [.int (nI r.length), .ref (B + 55)]
            refine a_iload hb dX12_percent_203 1 rfl ?_
            refine a_bipush (v := (-2)) hb dX12_percent_205 (by decide) ?_
            refine a_icmp_ne hb 238 dX12_percent_207 (by decide) (fun c207_0 => absurd c207_0 (not_not_intro rfl)) (fun c207_0 => ?_)
            refine a_aload_n hb dX12_percent_210 rfl 2 rfl ?_
            refine a_getQ (q := (B + 55)) hb dX12_percent_211 (by rw [ow]; exact fl_RX12_21_12) (hLx2.1 51 (by decide)) (hLx2.2.1 (51, 10, 55) (by decide)) ?_
            refine a_iload_n hb dX12_percent_214 rfl 0 rfl ?_
            refine a_iconst (v := 1) hb dX12_percent_215 (by decide) ?_
            refine a_isub hb dX12_percent_216 ?_
            rw [show nI (r.length + 1) - 1 = nI r.length from by rw [← nI_1, Int32.add_sub_cancel]]
            show AW V 0 0 h2 217 [(2, .int (nI (r.length + 1))), (5, .int (-2)), (0, .ref (B + 51)), (1, .int sum), (3, .int (nI (218 + 140 * a))), (4, .int (nI ((218 + 140 * a) + i2)))] [.int (nI r.length), .ref (B + 55), .int (nI r.length), .ref (B + 55)]
            refine b_zald (j := r.length) hb dX12_percent_217 (hLx2.1 55 (by decide)) (IX.n (by omega)) (by omega) ?_
            rw [hta]
            show AW V 0 0 h2 218 [(2, .int (nI (r.length + 1))), (5, .int (-2)), (0, .ref (B + 51)), (1, .int sum), (3, .int (nI (218 + 140 * a))), (4, .int (nI ((218 + 140 * a) + i2)))] [.int (b2i b0), .int (nI r.length), .ref (B + 55)]
            refine a_if_eq hb 234 dX12_percent_218 (by decide) (fun c218_0 => ?_) (fun c218_0 => ?_)
            · simp [b2i_0] at c218_0
              refine a_iconst (v := 0) hb dX12_percent_234 (by decide) ?_
              refine a_goto hb 263 dX12_percent_235 (by decide) ?_
              refine b_zast (j := r.length) hb dX12_percent_263 (hLx2.1 55 (by decide)) (IX.n (by omega)) (by omega) rfl ?_
              refine a_goto hb 307 dX12_percent_264 (by decide) ?_
              refine a_iinc (v := ((nI ((218 + 140 * a) + i2)) + 1)) (L' := [(4, .int ((nI ((218 + 140 * a) + i2)) + 1)), (2, .int (nI (r.length + 1))), (5, .int (-2)), (0, .ref (B + 51)), (1, .int sum), (3, .int (nI (218 + 140 * a)))]) hb dX12_percent_307 5 rfl rfl (by rw [hml]; decide) rfl ?_
              refine a_goto hb 23 dX12_percent_310 (by decide) ?_
              refine AW.sub (L' := [(0, .ref (B + 51)), (1, .int sum), (2, .int (nI (r.length + 1))), (3, .int (nI (218 + 140 * a))), (4, .int ((nI ((218 + 140 * a) + i2)) + 1))]) [3, 4, 1, 5, 0] rfl ?_
              have hv1 : (0 : Int32) = b2i ((b0 && b)) := by rw [show (b0 && b) = false from by simp [c218_0]]; rfl
              exact AW.eq (ih2 ((b0 && b) :: r) (i2 + 1) (setI h2 (B + 55) r.length 0) (FR.I hF2 (by unfold At; omega)) htl (by omega) hok4 hev2 (by rw [hI_setI_s]; exact TR.put htt hv1) (by simp; omega)) rfl rfl (by rw [nI_1]; first | rfl | (rw [nI_1]; rfl)) rfl
            · simp [b2i_0] at c218_0
              refine a_aload_n hb dX12_percent_221 rfl 2 rfl ?_
              refine a_getQ (q := (B + 55)) hb dX12_percent_222 (by rw [ow]; exact fl_RX12_21_12) (hLx2.1 51 (by decide)) (hLx2.2.1 (51, 10, 55) (by decide)) ?_
              refine a_iload_n hb dX12_percent_225 rfl 0 rfl ?_
              refine b_zald (j := (r.length + 1)) hb dX12_percent_226 (hLx2.1 55 (by decide)) (IX.n (by omega)) (by omega) ?_
              rw [htb]
              show AW V 0 0 h2 227 [(2, .int (nI (r.length + 1))), (5, .int (-2)), (0, .ref (B + 51)), (1, .int sum), (3, .int (nI (218 + 140 * a))), (4, .int (nI ((218 + 140 * a) + i2)))] [.int (b2i b), .int (nI r.length), .ref (B + 55)]
              refine a_if_eq hb 234 dX12_percent_227 (by decide) (fun c227_1 => ?_) (fun c227_1 => ?_)
              · simp [b2i_0] at c227_1
                refine a_iconst (v := 0) hb dX12_percent_234 (by decide) ?_
                refine a_goto hb 263 dX12_percent_235 (by decide) ?_
                refine b_zast (j := r.length) hb dX12_percent_263 (hLx2.1 55 (by decide)) (IX.n (by omega)) (by omega) rfl ?_
                refine a_goto hb 307 dX12_percent_264 (by decide) ?_
                refine a_iinc (v := ((nI ((218 + 140 * a) + i2)) + 1)) (L' := [(4, .int ((nI ((218 + 140 * a) + i2)) + 1)), (2, .int (nI (r.length + 1))), (5, .int (-2)), (0, .ref (B + 51)), (1, .int sum), (3, .int (nI (218 + 140 * a)))]) hb dX12_percent_307 5 rfl rfl (by rw [hml]; decide) rfl ?_
                refine a_goto hb 23 dX12_percent_310 (by decide) ?_
                refine AW.sub (L' := [(0, .ref (B + 51)), (1, .int sum), (2, .int (nI (r.length + 1))), (3, .int (nI (218 + 140 * a))), (4, .int ((nI ((218 + 140 * a) + i2)) + 1))]) [3, 4, 1, 5, 0] rfl ?_
                have hv1 : (0 : Int32) = b2i ((b0 && b)) := by rw [show (b0 && b) = false from by simp [c218_0, c227_1]]; rfl
                exact AW.eq (ih2 ((b0 && b) :: r) (i2 + 1) (setI h2 (B + 55) r.length 0) (FR.I hF2 (by unfold At; omega)) htl (by omega) hok4 hev2 (by rw [hI_setI_s]; exact TR.put htt hv1) (by simp; omega)) rfl rfl (by rw [nI_1]; first | rfl | (rw [nI_1]; rfl)) rfl
              · simp [b2i_0] at c227_1
                refine a_iconst (v := 1) hb dX12_percent_230 (by decide) ?_
                refine a_goto hb 263 dX12_percent_231 (by decide) ?_
                refine b_zast (j := r.length) hb dX12_percent_263 (hLx2.1 55 (by decide)) (IX.n (by omega)) (by omega) rfl ?_
                refine a_goto hb 307 dX12_percent_264 (by decide) ?_
                refine a_iinc (v := ((nI ((218 + 140 * a) + i2)) + 1)) (L' := [(4, .int ((nI ((218 + 140 * a) + i2)) + 1)), (2, .int (nI (r.length + 1))), (5, .int (-2)), (0, .ref (B + 51)), (1, .int sum), (3, .int (nI (218 + 140 * a)))]) hb dX12_percent_307 5 rfl rfl (by rw [hml]; decide) rfl ?_
                refine a_goto hb 23 dX12_percent_310 (by decide) ?_
                refine AW.sub (L' := [(0, .ref (B + 51)), (1, .int sum), (2, .int (nI (r.length + 1))), (3, .int (nI (218 + 140 * a))), (4, .int ((nI ((218 + 140 * a) + i2)) + 1))]) [3, 4, 1, 5, 0] rfl ?_
                have hv1 : (1 : Int32) = b2i ((b0 && b)) := by rw [show (b0 && b) = true from by simp [c218_0, c227_1]]; rfl
                exact AW.eq (ih2 ((b0 && b) :: r) (i2 + 1) (setI h2 (B + 55) r.length 1) (FR.I hF2 (by unfold At; omega)) htl (by omega) hok4 hev2 (by rw [hI_setI_s]; exact TR.put htt hv1) (by simp; omega)) rfl rfl (by rw [nI_1]; first | rfl | (rw [nI_1]; rfl)) rfl
          · rw [encM_3 e] at hc0
            obtain ⟨b, b0, r, rfl, hev2⟩ := ev_c3 e hev
            have hs1 : r.length + 1 + 1 ≤ 14 := by simpa using hsl
            have htb : hI h2 (B + 55) (r.length + 1) = b2i b := htr.hd
            have hta := htr.tl.hd
            have htt := htr.tl.tl
            have hLx3 : LY h2 B := FR.ly hF2 hL
            have hSx3_52 : hI h2 (B + 52) = hI h (B + 52) := hF2.2.2.2.2 _ (by unfold At; omega)
            have hSx3_54 : hI h2 (B + 54) = hI h (B + 54) := hF2.2.2.2.2 _ (by unfold At; omega)
            show AW V 0 0 h2 23 [(0, .ref (B + 51)), (1, .int sum), (2, .int (nI (r.length + 1 + 1))), (3, .int (nI (218 + 140 * a))), (4, .int (nI ((218 + 140 * a) + i2)))] []
            refine a_iload hb dX12_percent_23 4 rfl ?_
            refine a_iload_n hb dX12_percent_25 rfl 3 rfl ?_
            refine a_aload_n hb dX12_percent_26 rfl 0 rfl ?_
            refine a_getQ (q := (B + 52)) hb dX12_percent_27 (by rw [ow]; exact fl_RX12_9_12) (hLx3.1 51 (by decide)) (hLx3.2.1 (51, 1, 52) (by decide)) ?_
            refine a_sipush (v := 213) hb dX12_percent_30 (by decide) ?_
            refine a_aload_n hb dX12_percent_33 rfl 0 rfl ?_
            refine a_getQ (q := (B + 52)) hb dX12_percent_34 (by rw [ow]; exact fl_RX12_9_12) (hLx3.1 51 (by decide)) (hLx3.2.1 (51, 1, 52) (by decide)) ?_
            refine a_bipush (v := 8) hb dX12_percent_37 (by decide) ?_
            refine b_iald (j := 8) hb dX12_percent_39 (hLx3.1 52 (by decide)) ⟨by decide, by decide⟩ (by decide) ?_
            rw [hSx3_52]
            rw [h8]
            show AW V 0 0 h2 40 [(0, .ref (B + 51)), (1, .int sum), (2, .int (nI (r.length + 1 + 1))), (3, .int (nI (218 + 140 * a))), (4, .int (nI ((218 + 140 * a) + i2)))] [.int (nI a), .int 213, .ref (B + 52), .int (nI (218 + 140 * a)), .int (nI ((218 + 140 * a) + i2))]
            refine a_iadd hb dX12_percent_40 ?_
            refine b_iald (j := (213 + a)) hb dX12_percent_41 (hLx3.1 52 (by decide)) (IX.add ⟨by decide, by decide⟩ (IX.n (by omega)) (by omega)) (by omega) ?_
            rw [hSx3_52]
            rw [hsn]
            show AW V 0 0 h2 42 [(0, .ref (B + 51)), (1, .int sum), (2, .int (nI (r.length + 1 + 1))), (3, .int (nI (218 + 140 * a))), (4, .int (nI ((218 + 140 * a) + i2)))] [.int (nI n), .int (nI (218 + 140 * a)), .int (nI ((218 + 140 * a) + i2))]
            refine a_iadd hb dX12_percent_42 ?_
            refine a_icmp_ge hb 313 dX12_percent_43 (by decide) (fun c43_0 => absurd c43_0 (by rw [nI_add]; exact nI_ge (by omega) (by omega))) (fun c43_0 => ?_)
            refine a_aload_n hb dX12_percent_46 rfl 0 rfl ?_
            refine a_getQ (q := (B + 52)) hb dX12_percent_47 (by rw [ow]; exact fl_RX12_9_12) (hLx3.1 51 (by decide)) (hLx3.2.1 (51, 1, 52) (by decide)) ?_
            refine a_iload hb dX12_percent_50 4 rfl ?_
            refine b_iald (j := ((218 + 140 * a) + i2)) hb dX12_percent_52 (hLx3.1 52 (by decide)) (IX.n (by omega)) (by omega) ?_
            rw [hSx3_52]
            rw [hc0]
            show AW V 0 0 h2 53 [(0, .ref (B + 51)), (1, .int sum), (2, .int (nI (r.length + 1 + 1))), (3, .int (nI (218 + 140 * a))), (4, .int (nI ((218 + 140 * a) + i2)))] [.int (-3)]
            refine a_istore (L' := [(5, .int (-3)), (0, .ref (B + 51)), (1, .int sum), (2, .int (nI (r.length + 1 + 1))), (3, .int (nI (218 + 140 * a))), (4, .int (nI ((218 + 140 * a) + i2)))]) hb dX12_percent_53 (by rw [hml]; decide) rfl ?_
            refine a_iload hb dX12_percent_55 0 rfl ?_
            refine a_if_lt hb 153 dX12_percent_57 (by decide) (fun c57_0 => ?_) (fun c57_0 => absurd (by decide) c57_0)
            refine a_iload hb dX12_percent_153 0 rfl ?_
            refine a_iconst (v := (-1)) hb dX12_percent_155 (by decide) ?_
            refine a_icmp_ne hb 186 dX12_percent_156 (by decide) (fun c156_0 => ?_) (fun c156_0 => absurd c156_0 (by decide))
            refine a_iload hb dX12_percent_186 0 rfl ?_
            refine a_bipush (v := (-10)) hb dX12_percent_188 (by decide) ?_
            refine a_icmp_le hb 267 dX12_percent_190 (by decide) (fun c190_0 => absurd c190_0 (by decide)) (fun c190_0 => ?_)
            refine a_iinc (v := ((nI (r.length + 1 + 1)) + (-1))) (L' := [(2, .int ((nI (r.length + 1 + 1)) + (-1))), (5, .int (-3)), (0, .ref (B + 51)), (1, .int sum), (3, .int (nI (218 + 140 * a))), (4, .int (nI ((218 + 140 * a) + i2)))]) hb dX12_percent_193 3 rfl rfl (by rw [hml]; decide) rfl ?_
            rw [pk_m1]
            show AW V 0 0 h2 196 [(2, .int (nI (r.length + 1))), (5, .int (-3)), (0, .ref (B + 51)), (1, .int sum), (3, .int (nI (218 + 140 * a))), (4, .int (nI ((218 + 140 * a) + i2)))] []
            refine a_aload_n hb dX12_percent_196 rfl 2 rfl ?_
            refine a_getQ (q := (B + 55)) hb dX12_percent_197 (by rw [ow]; exact fl_RX12_21_12) (hLx3.1 51 (by decide)) (hLx3.2.1 (51, 10, 55) (by decide)) ?_
            refine a_iload_n hb dX12_percent_200 rfl 0 rfl ?_
            refine a_iconst (v := 1) hb dX12_percent_201 (by decide) ?_
            refine a_isub hb dX12_percent_202 ?_
            rw [show nI (r.length + 1) - 1 = nI r.length from by rw [← nI_1, Int32.add_sub_cancel]]
            show AW V 0 0 h2 203 [(2, .int (nI (r.length + 1))), (5, .int (-3)), (0, .ref (B + 51)), (1, .int sum), (3, .int (nI (218 + 140 * a))), (4, .int (nI ((218 + 140 * a) + i2)))] [.int (nI r.length), .ref (B + 55)]
            refine a_iload hb dX12_percent_203 1 rfl ?_
            refine a_bipush (v := (-2)) hb dX12_percent_205 (by decide) ?_
            refine a_icmp_ne hb 238 dX12_percent_207 (by decide) (fun c207_0 => ?_) (fun c207_0 => absurd c207_0 (by decide))
            refine a_aload_n hb dX12_percent_238 rfl 2 rfl ?_
            refine a_getQ (q := (B + 55)) hb dX12_percent_239 (by rw [ow]; exact fl_RX12_21_12) (hLx3.1 51 (by decide)) (hLx3.2.1 (51, 10, 55) (by decide)) ?_
            refine a_iload_n hb dX12_percent_242 rfl 0 rfl ?_
            refine a_iconst (v := 1) hb dX12_percent_243 (by decide) ?_
            refine a_isub hb dX12_percent_244 ?_
            rw [show nI (r.length + 1) - 1 = nI r.length from by rw [← nI_1, Int32.add_sub_cancel]]
            show AW V 0 0 h2 245 [(2, .int (nI (r.length + 1))), (5, .int (-3)), (0, .ref (B + 51)), (1, .int sum), (3, .int (nI (218 + 140 * a))), (4, .int (nI ((218 + 140 * a) + i2)))] [.int (nI r.length), .ref (B + 55), .int (nI r.length), .ref (B + 55)]
            refine b_zald (j := r.length) hb dX12_percent_245 (hLx3.1 55 (by decide)) (IX.n (by omega)) (by omega) ?_
            rw [hta]
            show AW V 0 0 h2 246 [(2, .int (nI (r.length + 1))), (5, .int (-3)), (0, .ref (B + 51)), (1, .int sum), (3, .int (nI (218 + 140 * a))), (4, .int (nI ((218 + 140 * a) + i2)))] [.int (b2i b0), .int (nI r.length), .ref (B + 55)]
            refine a_if_ne hb 258 dX12_percent_246 (by decide) (fun c246_0 => ?_) (fun c246_0 => ?_)
            · simp [b2i_0] at c246_0
              refine a_iconst (v := 1) hb dX12_percent_258 (by decide) ?_
              refine a_goto hb 263 dX12_percent_259 (by decide) ?_
              refine b_zast (j := r.length) hb dX12_percent_263 (hLx3.1 55 (by decide)) (IX.n (by omega)) (by omega) rfl ?_
              refine a_goto hb 307 dX12_percent_264 (by decide) ?_
              refine a_iinc (v := ((nI ((218 + 140 * a) + i2)) + 1)) (L' := [(4, .int ((nI ((218 + 140 * a) + i2)) + 1)), (2, .int (nI (r.length + 1))), (5, .int (-3)), (0, .ref (B + 51)), (1, .int sum), (3, .int (nI (218 + 140 * a)))]) hb dX12_percent_307 5 rfl rfl (by rw [hml]; decide) rfl ?_
              refine a_goto hb 23 dX12_percent_310 (by decide) ?_
              refine AW.sub (L' := [(0, .ref (B + 51)), (1, .int sum), (2, .int (nI (r.length + 1))), (3, .int (nI (218 + 140 * a))), (4, .int ((nI ((218 + 140 * a) + i2)) + 1))]) [3, 4, 1, 5, 0] rfl ?_
              have hv1 : (1 : Int32) = b2i ((b0 || b)) := by rw [show (b0 || b) = true from by simp [c246_0]]; rfl
              exact AW.eq (ih2 ((b0 || b) :: r) (i2 + 1) (setI h2 (B + 55) r.length 1) (FR.I hF2 (by unfold At; omega)) htl (by omega) hok4 hev2 (by rw [hI_setI_s]; exact TR.put htt hv1) (by simp; omega)) rfl rfl (by rw [nI_1]; first | rfl | (rw [nI_1]; rfl)) rfl
            · simp [b2i_0] at c246_0
              refine a_aload_n hb dX12_percent_249 rfl 2 rfl ?_
              refine a_getQ (q := (B + 55)) hb dX12_percent_250 (by rw [ow]; exact fl_RX12_21_12) (hLx3.1 51 (by decide)) (hLx3.2.1 (51, 10, 55) (by decide)) ?_
              refine a_iload_n hb dX12_percent_253 rfl 0 rfl ?_
              refine b_zald (j := (r.length + 1)) hb dX12_percent_254 (hLx3.1 55 (by decide)) (IX.n (by omega)) (by omega) ?_
              rw [htb]
              show AW V 0 0 h2 255 [(2, .int (nI (r.length + 1))), (5, .int (-3)), (0, .ref (B + 51)), (1, .int sum), (3, .int (nI (218 + 140 * a))), (4, .int (nI ((218 + 140 * a) + i2)))] [.int (b2i b), .int (nI r.length), .ref (B + 55)]
              refine a_if_eq hb 262 dX12_percent_255 (by decide) (fun c255_1 => ?_) (fun c255_1 => ?_)
              · simp [b2i_0] at c255_1
                refine a_iconst (v := 0) hb dX12_percent_262 (by decide) ?_
                refine b_zast (j := r.length) hb dX12_percent_263 (hLx3.1 55 (by decide)) (IX.n (by omega)) (by omega) rfl ?_
                refine a_goto hb 307 dX12_percent_264 (by decide) ?_
                refine a_iinc (v := ((nI ((218 + 140 * a) + i2)) + 1)) (L' := [(4, .int ((nI ((218 + 140 * a) + i2)) + 1)), (2, .int (nI (r.length + 1))), (5, .int (-3)), (0, .ref (B + 51)), (1, .int sum), (3, .int (nI (218 + 140 * a)))]) hb dX12_percent_307 5 rfl rfl (by rw [hml]; decide) rfl ?_
                refine a_goto hb 23 dX12_percent_310 (by decide) ?_
                refine AW.sub (L' := [(0, .ref (B + 51)), (1, .int sum), (2, .int (nI (r.length + 1))), (3, .int (nI (218 + 140 * a))), (4, .int ((nI ((218 + 140 * a) + i2)) + 1))]) [3, 4, 1, 5, 0] rfl ?_
                have hv1 : (0 : Int32) = b2i ((b0 || b)) := by rw [show (b0 || b) = false from by simp [c246_0, c255_1]]; rfl
                exact AW.eq (ih2 ((b0 || b) :: r) (i2 + 1) (setI h2 (B + 55) r.length 0) (FR.I hF2 (by unfold At; omega)) htl (by omega) hok4 hev2 (by rw [hI_setI_s]; exact TR.put htt hv1) (by simp; omega)) rfl rfl (by rw [nI_1]; first | rfl | (rw [nI_1]; rfl)) rfl
              · simp [b2i_0] at c255_1
                refine a_iconst (v := 1) hb dX12_percent_258 (by decide) ?_
                refine a_goto hb 263 dX12_percent_259 (by decide) ?_
                refine b_zast (j := r.length) hb dX12_percent_263 (hLx3.1 55 (by decide)) (IX.n (by omega)) (by omega) rfl ?_
                refine a_goto hb 307 dX12_percent_264 (by decide) ?_
                refine a_iinc (v := ((nI ((218 + 140 * a) + i2)) + 1)) (L' := [(4, .int ((nI ((218 + 140 * a) + i2)) + 1)), (2, .int (nI (r.length + 1))), (5, .int (-3)), (0, .ref (B + 51)), (1, .int sum), (3, .int (nI (218 + 140 * a)))]) hb dX12_percent_307 5 rfl rfl (by rw [hml]; decide) rfl ?_
                refine a_goto hb 23 dX12_percent_310 (by decide) ?_
                refine AW.sub (L' := [(0, .ref (B + 51)), (1, .int sum), (2, .int (nI (r.length + 1))), (3, .int (nI (218 + 140 * a))), (4, .int ((nI ((218 + 140 * a) + i2)) + 1))]) [3, 4, 1, 5, 0] rfl ?_
                have hv1 : (1 : Int32) = b2i ((b0 || b)) := by rw [show (b0 || b) = true from by simp [c246_0, c255_1]]; rfl
                exact AW.eq (ih2 ((b0 || b) :: r) (i2 + 1) (setI h2 (B + 55) r.length 1) (FR.I hF2 (by unfold At; omega)) htl (by omega) hok4 hev2 (by rw [hI_setI_s]; exact TR.put htt hv1) (by simp; omega)) rfl rfl (by rw [nI_1]; first | rfl | (rw [nI_1]; rfl)) rfl
      exact inner c.2.2 [] i h1 hF1 hrd2 hlen hcc.2.1 (trC_e hcc) (fun j hj => absurd hj (by simp)) (by simp)
  refine a_iconst (v := 0) hb dX12_percent_0 (by decide) ?_
  refine a_istore_n (L' := [(1, .int 0), (0, .ref (B + 51))]) hb dX12_percent_1 rfl (by rw [hml]; decide) rfl ?_
  refine a_iconst (v := 0) hb dX12_percent_2 (by decide) ?_
  refine a_istore_n (L' := [(2, .int 0), (1, .int 0), (0, .ref (B + 51))]) hb dX12_percent_3 rfl (by rw [hml]; decide) rfl ?_
  refine a_sipush (v := 218) hb dX12_percent_4 (by decide) ?_
  refine a_sipush (v := 140) hb dX12_percent_7 (by decide) ?_
  refine a_aload_n hb dX12_percent_10 rfl 2 rfl ?_
  refine a_getQ (q := (B + 52)) hb dX12_percent_11 (by rw [ow]; exact fl_RX12_9_12) (hL.1 51 (by decide)) (hL.2.1 (51, 1, 52) (by decide)) ?_
  refine a_bipush (v := 8) hb dX12_percent_14 (by decide) ?_
  refine b_iald (j := 8) hb dX12_percent_16 (hL.1 52 (by decide)) ⟨by decide, by decide⟩ (by decide) ?_
  rw [h8]
  show AW V 0 0 h 17 [(2, .int 0), (1, .int 0), (0, .ref (B + 51))] [.int (nI a), .int 140, .int 218]
  refine a_imul hb dX12_percent_17 ?_
  refine a_iadd hb dX12_percent_18 ?_
  rw [show (218 : Int32) + 140 * nI a = nI (218 + 140 * a) from by rw [show (140 : Int32) = nI 140 from rfl, pk_mul, show (218 : Int32) = nI 218 from rfl, nI_add]]
  show AW V 0 0 h 19 [(2, .int 0), (1, .int 0), (0, .ref (B + 51))] [.int (nI (218 + 140 * a))]
  refine a_istore_n (L' := [(3, .int (nI (218 + 140 * a))), (2, .int 0), (1, .int 0), (0, .ref (B + 51))]) hb dX12_percent_19 rfl (by rw [hml]; decide) rfl ?_
  refine a_iload_n hb dX12_percent_20 rfl 0 rfl ?_
  refine a_istore (L' := [(4, .int (nI (218 + 140 * a))), (3, .int (nI (218 + 140 * a))), (2, .int 0), (1, .int 0), (0, .ref (B + 51))]) hb dX12_percent_21 (by rw [hml]; decide) rfl ?_
  refine AW.sub (L' := [(0, .ref (B + 51)), (1, .int 0), (2, .int 0), (3, .int (nI (218 + 140 * a))), (4, .int (nI (218 + 140 * a)))]) [4, 3, 2, 1, 0] rfl ?_
  exact AW.eq (outer cs 0 0 h FR.rf hrd (by omega) hcs hR) rfl rfl rfl rfl
