/-! ===== the class: watched, waits ===== -/
theorem ly_row {h : AH} {B r : Nat} (hL : LY h B) (h1 : 26 ≤ r) (h2 : r < 50) : hT h (B + r) = (14, 40) := by
  rw [hL.1 r (by omega)]
  have : r = 26 ∨ r = 27 ∨ r = 28 ∨ r = 29 ∨ r = 30 ∨ r = 31 ∨ r = 32 ∨ r = 33 ∨ r = 34 ∨ r = 35 ∨ r = 36 ∨ r = 37 ∨ r = 38 ∨ r = 39 ∨ r = 40 ∨ r = 41 ∨ r = 42 ∨ r = 43 ∨ r = 44 ∨ r = 45 ∨ r = 46 ∨ r = 47 ∨ r = 48 ∨ r = 49 := by omega
  rcases this with e | e | e | e | e | e | e | e | e | e | e | e | e | e | e | e | e | e | e | e | e | e | e | e <;> subst e <;> rfl
theorem ly_el {h : AH} {B i : Nat} (hL : LY h B) (h2 : i < 24) : hQ h (B + 25) i = some (B + (26 + i)) := by
  have : i = 0 ∨ i = 1 ∨ i = 2 ∨ i = 3 ∨ i = 4 ∨ i = 5 ∨ i = 6 ∨ i = 7 ∨ i = 8 ∨ i = 9 ∨ i = 10 ∨ i = 11 ∨ i = 12 ∨ i = 13 ∨ i = 14 ∨ i = 15 ∨ i = 16 ∨ i = 17 ∨ i = 18 ∨ i = 19 ∨ i = 20 ∨ i = 21 ∨ i = 22 ∨ i = 23 := by omega
  rcases this with e | e | e | e | e | e | e | e | e | e | e | e | e | e | e | e | e | e | e | e | e | e | e | e <;> subst e <;> exact hL.2.1 (25, _, _) (by decide)
def orS (P : PF) (S : Nat → Int32) (hl : Nat) (tick : Int32) (z : Nat) : Nat → Int32
  | 0 => 0
  | t + 1 => orS P S hl tick z t + abS (S (918 + t) - plS P S hl 0 (nI z) (nI t - tick) (nI t))
theorem or_1 {x y : Int32} (hx : -99 ≤ x.toInt ∧ x.toInt ≤ 999) (hy : 0 ≤ y.toInt ∧ y.toInt ≤ 999) : abS (x - y) = (szS (y - x).toInt64).toInt32 := by
  have e1 := ti_sub (a := x) (b := y) (by omega) (by omega)
  have e2 := ti_sub (a := y) (b := x) (by omega) (by omega)
  have z : (0 : Int64).toInt = 0 := by decide
  have tb : ∀ v : Int64, -5000 ≤ v.toInt → v.toInt ≤ 5000 → v.toInt32.toInt = v.toInt := fun v h1 h2 => by
    rw [Int64.toInt_toInt32]; exact Int.bmod_eq_of_le (by omega) (by omega)
  apply i32_ext
  have en : (-(y - x).toInt64).toInt = -(y - x).toInt := by
    rw [Int64.toInt_neg, ti64]; exact Int.bmod_eq_of_le (by omega) (by omega)
  unfold abS szS
  by_cases q : 0 ≤ x - y
  · have q' := Int32.le_iff_toInt_le.mp q
    rw [t0, e1] at q'
    rw [if_pos q]
    by_cases r : (y - x).toInt64 < 0
    · rw [if_pos r, tb _ (by rw [en]; omega) (by rw [en]; omega), en]; omega
    · have r' : ¬ (y - x).toInt < 0 := fun k => r (Int64.lt_iff_toInt_lt.mpr (by rw [ti64, z]; exact k))
      rw [if_neg r, tb _ (by rw [ti64]; omega) (by rw [ti64]; omega), ti64]; omega
  · have q' : ¬ 0 ≤ (x - y).toInt := fun k => q (Int32.le_iff_toInt_le.mpr (by rw [t0]; exact k))
    rw [if_neg q, ti_sub (by rw [t0]; omega) (by rw [t0]; omega), t0]
    have r : ¬ (y - x).toInt64 < 0 := fun k => by have := Int64.lt_iff_toInt_lt.mp k; rw [ti64, z] at this; omega
    rw [if_neg r, tb _ (by rw [ti64]; omega) (by rw [ti64]; omega), ti64]; omega
theorem XN.rr {h : AH} {B : Nat} {S : Nat → Int32} {N : NN} (H : XN h B S N) {i : Nat} (hi : i < N.2.2.2.1) : oO (S (918 + i)) (-99) 999 = false := H.2.2.2.2.2.2.2.2.2.2.2.1 i hi
theorem or_of {g : GG} {h : AH} {B vq lq hl : Nat} {S : Nat → Int32} {N : NN} {P : PF} (H : CX g h B vq lq hl S N P) {tick : Int32} {z : Nat} (hz : z ≤ 99) : ∀ n, n ≤ N.2.2.2.1 → orS P S hl tick z n = ofS P S hl tick z n
  | 0, _ => rfl
  | n + 1, hn => by
    show orS P S hl tick z n + _ = ofS P S hl tick z n + _
    rw [or_of H hz n (by omega)]
    have a := oO_ti (H.1.rr (i := n) (by omega))
    rw [show (-99 : Int32).toInt = -99 from by decide, t999] at a
    have b := pl_r (P := P) (S := S) (hl := hl) (k := 0) (z := nI z) (a := nI n - tick) (t := nI n) H.2.2.2 H.1.r6 (H.1.rm (a := hl) (by have := H.2.1.1; omega)) (by rw [nI_toInt (by omega)]; omega) (by rw [nI_toInt (by omega)]; omega)
    rw [or_1 a b]
    simp [drS]
theorem wa_1 {F : Nat → Int32} : waS F 1 = (nI 0, F 0) := by
  show (if (-1 : Int32) = -1 ∨ F 0 < (waS F 0).2 then (nI 0, F 0) else waS F 0) = (nI 0, F 0)
  exact if_pos (Or.inl rfl)
theorem wa_p {F : Nat → Int32} : ∀ i, i ≤ 100 → ∃ k : Nat, k ≤ i ∧ (waS F (i + 1)).1 = nI k
  | 0, _ => ⟨0, by omega, by rw [wa_1]⟩
  | i + 1, h => by
    obtain ⟨k, hk, e⟩ := wa_p (F := F) i (by omega)
    show ∃ k, _ ∧ (if (waS F (i + 1)).1 = -1 ∨ F (i + 1) < (waS F (i + 1)).2 then (nI (i + 1), F (i + 1)) else waS F (i + 1)).1 = nI k
    split
    · exact ⟨i + 1, by omega, rfl⟩
    · exact ⟨k, by omega, e⟩
theorem wa_n {F : Nat → Int32} {i : Nat} (c : ¬ (waS F (i + 1)).2 ≤ F (i + 1)) : waS F (i + 1 + 1) = (nI (i + 1), F (i + 1)) := by
  show (if (waS F (i + 1)).1 = -1 ∨ F (i + 1) < (waS F (i + 1)).2 then _ else _) = _
  rw [if_pos (Or.inr (Int32.not_le.mp c))]
theorem wa_s {F : Nat → Int32} {i : Nat} (hi : i ≤ 100) (c : (waS F (i + 1)).2 ≤ F (i + 1)) : waS F (i + 1 + 1) = waS F (i + 1) := by
  obtain ⟨k, hk, e⟩ := wa_p (F := F) i hi
  show (if (waS F (i + 1)).1 = -1 ∨ F (i + 1) < (waS F (i + 1)).2 then _ else _) = _
  rw [if_neg (fun q => q.elim (fun z => nI_pos (n := k) (by omega) (by rw [← e, z]; decide)) (fun z => Int32.not_lt.mpr c z))]
theorem waS_c {F F' : Nat → Int32} : ∀ k, (∀ t, t < k → F t = F' t) → waS F k = waS F' k
  | 0, _ => rfl
  | k + 1, h => by unfold waS; rw [waS_c k (fun t q => h t (by omega)), h k (by omega)]
theorem wtS_c {F F' : Nat → Int32} : ∀ k, (∀ t, t ≤ k → F t = F' t) → wtS F k = wtS F' k
  | 0, h => by unfold wtS; rw [h 0 (by omega)]
  | k + 1, h => by unfold wtS; rw [wtS_c k (fun t q => h t (by omega)), h (k + 1) (by omega)]
theorem wt_n {F : Nat → Int32} {i : Nat} (c : ¬ (wtS F i).2 ≤ F (i + 1)) : wtS F (i + 1) = (nI (i + 1), F (i + 1)) := by
  show (if F (i + 1) < (wtS F i).2 then _ else _) = _
  rw [if_pos (Int32.not_le.mp c)]
theorem wt_s {F : Nat → Int32} {i : Nat} (c : (wtS F i).2 ≤ F (i + 1)) : wtS F (i + 1) = wtS F i := by
  show (if F (i + 1) < (wtS F i).2 then _ else _) = _
  rw [if_neg (Int32.not_lt.mpr c)]
theorem dw_up {P : PF} {S dl : Nat → Int32} {hl p b : Nat} {t x : Int32} (h : b ≠ p) : dwS P S (upd dl p x) hl t b = dwS P S dl hl t b := by unfold dwS; rw [upd_n h]
theorem dm_up0 {P : PF} {S dl : Nat → Int32} {hl p : Nat} {t x : Int32} : ∀ n, n ≤ p → dmS P S (upd dl p x) hl t n = dmS P S dl hl t n
  | 0, _ => rfl
  | n + 1, h => by
    show dmS P S (upd dl p x) hl t n + dwS P S (upd dl p x) hl t n = dmS P S dl hl t n + dwS P S dl hl t n
    rw [dm_up0 n (by omega), dw_up (by omega)]
theorem dm_up {P : PF} {S dl : Nat → Int32} {hl p : Nat} {t x : Int32} : ∀ n, p < n → dmS P S (upd dl p x) hl t n = dmS P S dl hl t n - dwS P S dl hl t p + dwS P S (upd dl p x) hl t p
  | 0, h => absurd h (Nat.not_lt_zero _)
  | n + 1, h => by
    show dmS P S (upd dl p x) hl t n + dwS P S (upd dl p x) hl t n = dmS P S dl hl t n + dwS P S dl hl t n - dwS P S dl hl t p + dwS P S (upd dl p x) hl t p
    by_cases e : p = n
    · subst e
      rw [dm_up0 p (Nat.le_refl _), Int32.add_sub_cancel]
    · rw [dm_up n (by omega), dw_up (b := n) (by omega)]
      simp only [Int32.sub_eq_add_neg]
      ac_rfl
set_option maxRecDepth 100000 in
theorem x_offRow (g : GG) (h : AH) (B vq lq hl : Nat) (S : Nat → Int32) (N : NN) (P : PF) (hC : CX g h B vq lq hl S N P) (z : Nat) (tick : Int32) : AM g 5 0 0 mX11_offRow [.ref B, .int (nI z), .int tick] h (fun rv h' => rv = some (.int (orS P S hl tick z N.2.2.2.1)) ∧ FR (Xv B vq) h h') := by
  refine AM.of [(0, .ref B), (1, .int (nI z)), (2, .int tick)] (by decide) (Nat.le_of_ble_eq_true rfl) rfl ?_
  intro V hV
  have hb : V.2.1.2.1 = cX11_offRow := by subst hV; rfl
  have ow : V.2.1.1.cls = RX11 := by subst hV; rfl
  have hr : V.2.2.1 = aw_rm 5 0 0 := by subst hV; rfl
  have hz : V.2.2.2 = aw_Z V.1 (fun rv h' => rv = some (.int (orS P S hl tick z N.2.2.2.1)) ∧ FR (Xv B vq) h h') V.2.2.1 := by subst hV; rfl
  have hg : V.1 = g := by subst hV; rfl
  have hret : V.2.1.2.2.2 = (some .int) := by subst hV; rfl
  have hml : V.2.1.2.2.1 = 5 := by subst hV; rfl
  clear hV
  have hvq : B + 62 ≤ vq := hC.2.1.2.2.2.2.2.1
  have hnp := hC.1.np
  have hnw := hC.1.nw
  have hrn := hC.1.rn
  have loop : ∀ (k i : Nat) (h1 : AH) (hFh1 : FR (Xv B vq) h h1), i + k = N.2.2.2.1 → AW V 0 0 h1 5 [(0, .ref B), (1, .int (nI z)), (2, .int tick), (3, .int (orS P S hl tick z i)), (4, .int (nI i))] [] := by
    intro k
    induction k with
    | zero =>
      intro i h1 hFh1 hi
      have hClh1 : CX g h1 B vq lq hl S N P := hC.fr (FR.mo (A := Xv B vq) (A' := Ay B vq) hFh1 (by intro a; unfold Xv Ay; omega))
      refine a_iload hb dX11_offRow_5 4 rfl ?_
      refine a_aload_n hb dX11_offRow_7 rfl 0 rfl ?_
      refine a_getQ (q := (B + 1)) hb dX11_offRow_8 (by rw [ow]; exact fl_RX11_12_11) (hClh1.1.1.1 0 (by decide)) (hClh1.1.1.2.1 (0, 0, 1) (by decide)) ?_
      refine a_getI hb dX11_offRow_11 (by rw [ow]; exact fl_RX11_250_7) (hClh1.1.1.1 1 (by decide)) ?_
      rw [hClh1.1.f11]
      show AW V 0 0 h1 14 [(0, .ref B), (1, .int (nI z)), (2, .int tick), (3, .int (orS P S hl tick z i)), (4, .int (nI i))] [.int (nI N.2.2.2.1), .int (nI i)]
      refine a_icmp_ge hb 55 dX11_offRow_14 (by decide) (fun c14 => ?_) (fun c14 => absurd (nI_le (by omega) (by omega)) c14)
      refine a_iload_n hb dX11_offRow_55 rfl 3 rfl ?_
      exact a_ireturn (ty := .int) hb hz dX11_offRow_56 hret rfl (by rw [hr]; exact Nat.le_of_ble_eq_true rfl) (by rw [hr]; exact Nat.le_of_ble_eq_true rfl) (⟨by rw [show N.2.2.2.1 = i by omega], hFh1⟩)
    | succ k ih =>
      intro i h1 hFh1 hi
      have hClh1 : CX g h1 B vq lq hl S N P := hC.fr (FR.mo (A := Xv B vq) (A' := Ay B vq) hFh1 (by intro a; unfold Xv Ay; omega))
      refine a_iload hb dX11_offRow_5 4 rfl ?_
      refine a_aload_n hb dX11_offRow_7 rfl 0 rfl ?_
      refine a_getQ (q := (B + 1)) hb dX11_offRow_8 (by rw [ow]; exact fl_RX11_12_11) (hClh1.1.1.1 0 (by decide)) (hClh1.1.1.2.1 (0, 0, 1) (by decide)) ?_
      refine a_getI hb dX11_offRow_11 (by rw [ow]; exact fl_RX11_250_7) (hClh1.1.1.1 1 (by decide)) ?_
      rw [hClh1.1.f11]
      show AW V 0 0 h1 14 [(0, .ref B), (1, .int (nI z)), (2, .int tick), (3, .int (orS P S hl tick z i)), (4, .int (nI i))] [.int (nI N.2.2.2.1), .int (nI i)]
      refine a_icmp_ge hb 55 dX11_offRow_14 (by decide) (fun c14 => absurd c14 (nI_ge (by omega) (by omega))) (fun c14 => ?_)
      refine a_iload_n hb dX11_offRow_17 rfl 3 rfl ?_
      refine a_aload_n hb dX11_offRow_18 rfl 0 rfl ?_
      refine a_getQ (q := (B + 1)) hb dX11_offRow_19 (by rw [ow]; exact fl_RX11_12_11) (hClh1.1.1.1 0 (by decide)) (hClh1.1.1.2.1 (0, 0, 1) (by decide)) ?_
      refine a_getQ (q := (B + 8)) hb dX11_offRow_22 (by rw [ow]; exact fl_RX11_253_7) (hClh1.1.1.1 1 (by decide)) (hClh1.1.1.2.1 (1, 10, 8) (by decide)) ?_
      refine a_iload hb dX11_offRow_25 4 rfl ?_
      refine b_iald (j := i) hb dX11_offRow_27 (hClh1.1.1.1 8 (by decide)) (IX.n (by omega)) (by omega) ?_
      rw [hClh1.1.ro (i := i) (by omega)]
      show AW V 0 0 h1 28 [(0, .ref B), (1, .int (nI z)), (2, .int tick), (3, .int (orS P S hl tick z i)), (4, .int (nI i))] [.int (S (918 + i)), .int (orS P S hl tick z i)]
      refine a_aload_n hb dX11_offRow_28 rfl 0 rfl ?_
      refine a_getQ (q := (B + 1)) hb dX11_offRow_29 (by rw [ow]; exact fl_RX11_12_11) (hClh1.1.1.1 0 (by decide)) (hClh1.1.1.2.1 (0, 0, 1) (by decide)) ?_
      refine a_iload_n hb dX11_offRow_32 rfl 1 rfl ?_
      refine a_iconst (v := 0) hb dX11_offRow_33 (by decide) ?_
      refine a_iload hb dX11_offRow_34 4 rfl ?_
      refine a_iload_n hb dX11_offRow_36 rfl 2 rfl ?_
      refine a_isub hb dX11_offRow_37 ?_
      refine a_iload hb dX11_offRow_38 4 rfl ?_
      refine a_callV hb dX11_offRow_40 (by rw [hg]; exact x_plain g h1 B vq lq hl S N P hClh1 (nI z) 0 ((nI i) - tick) (nI i)) (by rw [ow]; exact clv_RX11_342) (hClh1.1.1.1 1 (by decide)) (by decide) rfl rfl rfl (Nat.le_of_ble_eq_true rfl) (by rw [hr]; exact ⟨by decide, by decide⟩) (by rw [hr]; exact ⟨Nat.le_of_ble_eq_true rfl, Nat.le_of_ble_eq_true rfl⟩) ?_
      intro rv h1_ hp
      obtain ⟨hv, hf1⟩ := hp
      rw [hv]
      have hF1 := FR.tr hFh1 hf1
      have hC1 := hC.fr (FR.mo (A := Xv B vq) (A' := Ay B vq) hF1 (by intro a; unfold Xv Ay; omega))
      clear hv
      show AW V 0 0 h1_ 43 [(0, .ref B), (1, .int (nI z)), (2, .int tick), (3, .int (orS P S hl tick z i)), (4, .int (nI i))] [.int (plS P S hl 0 (nI z) ((nI i) - tick) (nI i)), .int (S (918 + i)), .int (orS P S hl tick z i)]
      refine a_isub hb dX11_offRow_43 ?_
      refine a_mabs hb dX11_offRow_44 (by rw [ow]; exact kw_799) kw_800 kw_94 kw_801 (by rw [hr]; exact ⟨by decide, Nat.le_of_ble_eq_true rfl⟩) (by rw [hr]; exact ⟨Nat.le_of_ble_eq_true rfl, Nat.le_of_ble_eq_true rfl⟩) ?_
      refine a_iadd hb dX11_offRow_47 ?_
      refine a_istore_n (L' := [(3, .int ((orS P S hl tick z i) + (if 0 ≤ ((S (918 + i)) - (plS P S hl 0 (nI z) ((nI i) - tick) (nI i))) then ((S (918 + i)) - (plS P S hl 0 (nI z) ((nI i) - tick) (nI i))) else 0 - ((S (918 + i)) - (plS P S hl 0 (nI z) ((nI i) - tick) (nI i)))))), (0, .ref B), (1, .int (nI z)), (2, .int tick), (4, .int (nI i))]) hb dX11_offRow_48 rfl (by rw [hml]; decide) rfl ?_
      refine a_iinc (v := ((nI i) + 1)) (L' := [(4, .int ((nI i) + 1)), (3, .int ((orS P S hl tick z i) + (if 0 ≤ ((S (918 + i)) - (plS P S hl 0 (nI z) ((nI i) - tick) (nI i))) then ((S (918 + i)) - (plS P S hl 0 (nI z) ((nI i) - tick) (nI i))) else 0 - ((S (918 + i)) - (plS P S hl 0 (nI z) ((nI i) - tick) (nI i)))))), (0, .ref B), (1, .int (nI z)), (2, .int tick)]) hb dX11_offRow_49 4 rfl rfl (by rw [hml]; decide) rfl ?_
      refine a_goto hb 5 dX11_offRow_52 (by decide) ?_
      refine AW.sub (L' := [(0, .ref B), (1, .int (nI z)), (2, .int tick), (3, .int ((orS P S hl tick z i) + (if 0 ≤ ((S (918 + i)) - (plS P S hl 0 (nI z) ((nI i) - tick) (nI i))) then ((S (918 + i)) - (plS P S hl 0 (nI z) ((nI i) - tick) (nI i))) else 0 - ((S (918 + i)) - (plS P S hl 0 (nI z) ((nI i) - tick) (nI i)))))), (4, .int ((nI i) + 1))]) [2, 3, 4, 1, 0] rfl ?_
      exact AW.eq (ih (i + 1) h1_ hF1 (by omega)) rfl rfl (by first | (simp only [nI_1]; done) | (simp only [nI_1]; rfl)) rfl
  refine a_iconst (v := 0) hb dX11_offRow_0 (by decide) ?_
  refine a_istore_n (L' := [(3, .int 0), (0, .ref B), (1, .int (nI z)), (2, .int tick)]) hb dX11_offRow_1 rfl (by rw [hml]; decide) rfl ?_
  refine a_iconst (v := 0) hb dX11_offRow_2 (by decide) ?_
  refine a_istore (L' := [(4, .int 0), (3, .int 0), (0, .ref B), (1, .int (nI z)), (2, .int tick)]) hb dX11_offRow_3 (by rw [hml]; decide) rfl ?_
  refine AW.sub (L' := [(0, .ref B), (1, .int (nI z)), (2, .int tick), (3, .int 0), (4, .int 0)]) [2, 3, 4, 1, 0] rfl ?_
  exact AW.eq (loop N.2.2.2.1 0 h FR.rf (by omega)) rfl rfl (rfl) rfl
set_option maxRecDepth 100000 in
theorem x_watched (g : GG) (h : AH) (B vq lq hl : Nat) (S : Nat → Int32) (N : NN) (P : PF) (hC : CX g h B vq lq hl S N P) (t x : Int32) : AM g 6 0 0 mX11_watched [.ref B, .int t, .int x] h (fun rv h' => rv = some (.int (if oO x 0 1 then -1 else if oO t 0 39 then -2 else if x = 0 then (waS (ofF P S hl t N.2.2.2.1) 100).1 else (waS (ofF P S hl t N.2.2.2.1) 100).2)) ∧ FR (Xv B vq) h h') := by
  refine AM.of [(0, .ref B), (1, .int t), (2, .int x)] (by decide) (Nat.le_of_ble_eq_true rfl) rfl ?_
  intro V hV
  have hb : V.2.1.2.1 = cX11_watched := by subst hV; rfl
  have ow : V.2.1.1.cls = RX11 := by subst hV; rfl
  have hr : V.2.2.1 = aw_rm 6 0 0 := by subst hV; rfl
  have hz : V.2.2.2 = aw_Z V.1 (fun rv h' => rv = some (.int (if oO x 0 1 then -1 else if oO t 0 39 then -2 else if x = 0 then (waS (ofF P S hl t N.2.2.2.1) 100).1 else (waS (ofF P S hl t N.2.2.2.1) 100).2)) ∧ FR (Xv B vq) h h') V.2.2.1 := by subst hV; rfl
  have hg : V.1 = g := by subst hV; rfl
  have hret : V.2.1.2.2.2 = (some .int) := by subst hV; rfl
  have hml : V.2.1.2.2.1 = 7 := by subst hV; rfl
  clear hV
  have hvq : B + 62 ≤ vq := hC.2.1.2.2.2.2.2.1
  have hnp := hC.1.np
  have hnw := hC.1.nw
  have hof : waS (fun z => orS P S hl t z N.2.2.2.1) 100 = waS (ofF P S hl t N.2.2.2.1) 100 := waS_c 100 (fun z hz => or_of hC (by omega) _ (Nat.le_refl _))
  refine a_iload_n hb dX11_watched_0 rfl 2 rfl ?_
  refine a_iconst (v := 0) hb dX11_watched_1 (by decide) ?_
  refine a_iconst (v := 1) hb dX11_watched_2 (by decide) ?_
  refine a_callS hb dX11_watched_3 (by rw [hg]; exact w_outside g h x 0 1) (by rw [ow]; exact cls_RX11_53) rfl rfl (Nat.le_of_ble_eq_true rfl) (by rw [hr]; exact ⟨by decide, by decide⟩) (by rw [hr]; exact ⟨Nat.le_of_ble_eq_true rfl, Nat.le_of_ble_eq_true rfl⟩) ?_
  intro rv h' hq_
  rw [hq_.1, hq_.2]
  show AW V 0 0 h 6 [(0, .ref B), (1, .int t), (2, .int x)] [.int (b2i (oO x 0 1))]
  refine a_if_ne hb 16 dX11_watched_6 (by decide) (fun c6 => ?_) (fun c6 => ?_)
  · simp [b2i_0] at c6
    refine a_iconst (v := (-1)) hb dX11_watched_16 (by decide) ?_
    exact a_ireturn (ty := .int) hb hz dX11_watched_17 hret rfl (by rw [hr]; exact Nat.le_of_ble_eq_true rfl) (by rw [hr]; exact Nat.le_of_ble_eq_true rfl) (⟨(by rw [if_pos (by simp [c6])]), FR.rf⟩)
  · simp [b2i_0] at c6
    refine a_aload_n hb dX11_watched_9 rfl 0 rfl ?_
    refine a_callV hb dX11_watched_10 (by rw [hg]; exact x_noLaw g h B S N hC.1) (by rw [ow]; exact clv_RX11_136) (hC.1.1.1 0 (by decide)) (by decide) rfl rfl rfl (Nat.le_of_ble_eq_true rfl) (by rw [hr]; exact ⟨by decide, by decide⟩) (by rw [hr]; exact ⟨Nat.le_of_ble_eq_true rfl, Nat.le_of_ble_eq_true rfl⟩) ?_
    intro rv h' hq_
    rw [hq_.1, hq_.2, if_neg (by have := hC.2.1.1; omega)]
    show AW V 0 0 h 13 [(0, .ref B), (1, .int t), (2, .int x)] [.int 0]
    refine a_if_eq hb 18 dX11_watched_13 (by decide) (fun c13 => ?_) (fun c13 => absurd (by decide) c13)
    refine a_iload_n hb dX11_watched_18 rfl 1 rfl ?_
    refine a_callS hb dX11_watched_19 (by rw [hg]; exact w_noTick g h t) (by rw [ow]; exact cls_RX11_57) rfl rfl (Nat.le_of_ble_eq_true rfl) (by rw [hr]; exact ⟨by decide, by decide⟩) (by rw [hr]; exact ⟨Nat.le_of_ble_eq_true rfl, Nat.le_of_ble_eq_true rfl⟩) ?_
    intro rv h' hq_
    rw [hq_.1, hq_.2]
    show AW V 0 0 h 22 [(0, .ref B), (1, .int t), (2, .int x)] [.int (b2i (oO t 0 39))]
    refine a_if_eq hb 28 dX11_watched_22 (by decide) (fun c22 => ?_) (fun c22 => ?_)
    · simp [b2i_0] at c22
      refine a_iconst (v := 0) hb dX11_watched_28 (by decide) ?_
      refine a_istore_n (L' := [(3, .int 0), (0, .ref B), (1, .int t), (2, .int x)]) hb dX11_watched_29 rfl (by rw [hml]; decide) rfl ?_
      refine a_aload_n hb dX11_watched_30 rfl 1 rfl ?_
      refine a_iconst (v := 0) hb dX11_watched_31 (by decide) ?_
      refine a_iload_n hb dX11_watched_32 rfl 2 rfl ?_
      refine a_callV hb dX11_watched_33 (by rw [hg]; exact x_offRow g h B vq lq hl S N P hC 0 t) (by rw [ow]; exact clv_RX11_256) (hC.1.1.1 0 (by decide)) (by decide) rfl rfl rfl (Nat.le_of_ble_eq_true rfl) (by rw [hr]; exact ⟨by decide, by decide⟩) (by rw [hr]; exact ⟨Nat.le_of_ble_eq_true rfl, Nat.le_of_ble_eq_true rfl⟩) ?_
      intro rv h1_ hp
      obtain ⟨hv, hf1⟩ := hp
      rw [hv]
      have hF1 := FR.tr FR.rf hf1
      have hC1 := hC.fr (FR.mo (A := Xv B vq) (A' := Ay B vq) hF1 (by intro a; unfold Xv Ay; omega))
      clear hv
      show AW V 0 0 h1_ 36 [(3, .int 0), (0, .ref B), (1, .int t), (2, .int x)] [.int (orS P S hl t 0 N.2.2.2.1)]
      refine a_istore (L' := [(4, .int (orS P S hl t 0 N.2.2.2.1)), (3, .int 0), (0, .ref B), (1, .int t), (2, .int x)]) hb dX11_watched_36 (by rw [hml]; decide) rfl ?_
      refine a_iconst (v := 1) hb dX11_watched_38 (by decide) ?_
      refine a_istore (L' := [(5, .int 1), (4, .int (orS P S hl t 0 N.2.2.2.1)), (3, .int 0), (0, .ref B), (1, .int t), (2, .int x)]) hb dX11_watched_39 (by rw [hml]; decide) rfl ?_
      have loop : ∀ (k i : Nat) (h1 : AH) (hFh1 : FR (Xv B vq) h h1), i + k = 99 → AW V 0 0 h1 41 [(0, .ref B), (1, .int t), (2, .int x), (3, .int ((waS (fun z => orS P S hl t z N.2.2.2.1) (i + 1)).1)), (4, .int ((waS (fun z => orS P S hl t z N.2.2.2.1) (i + 1)).2)), (5, .int (nI (i + 1)))] [] := by
        intro k
        induction k with
        | zero =>
          intro i h1 hFh1 hi
          have hClh1 : CX g h1 B vq lq hl S N P := hC.fr (FR.mo (A := Xv B vq) (A' := Ay B vq) hFh1 (by intro a; unfold Xv Ay; omega))
          refine a_iload hb dX11_watched_41 5 rfl ?_
          refine a_bipush (v := 99) hb dX11_watched_43 (by decide) ?_
          refine a_icmp_gt hb 77 dX11_watched_45 (by decide) (fun c45 => ?_) (fun c45 => absurd ((nI_ltI (a := 99) (b := i + 1) (by omega) (by omega)).mpr (by omega)) c45)
          refine a_iload_n hb dX11_watched_77 rfl 2 rfl ?_
          refine a_if_ne hb 85 dX11_watched_78 (by decide) (fun c78 => ?_) (fun c78 => ?_)
          · refine a_iload hb dX11_watched_85 4 rfl ?_
            exact a_ireturn (ty := .int) hb hz dX11_watched_87 hret rfl (by rw [hr]; exact Nat.le_of_ble_eq_true rfl) (by rw [hr]; exact Nat.le_of_ble_eq_true rfl) (⟨by rw [if_neg (by simpa using c6), if_neg (by simp [c22]), if_neg c78, ← hof, show i + 1 = 100 by omega], hFh1⟩)
          · refine a_iload_n hb dX11_watched_81 rfl 3 rfl ?_
            refine a_goto hb 87 dX11_watched_82 (by decide) ?_
            exact a_ireturn (ty := .int) hb hz dX11_watched_87 hret rfl (by rw [hr]; exact Nat.le_of_ble_eq_true rfl) (by rw [hr]; exact Nat.le_of_ble_eq_true rfl) (⟨by rw [if_neg (by simpa using c6), if_neg (by simp [c22]), if_pos (by simpa using c78), ← hof, show i + 1 = 100 by omega], hFh1⟩)
        | succ k ih =>
          intro i h1 hFh1 hi
          have hClh1 : CX g h1 B vq lq hl S N P := hC.fr (FR.mo (A := Xv B vq) (A' := Ay B vq) hFh1 (by intro a; unfold Xv Ay; omega))
          refine a_iload hb dX11_watched_41 5 rfl ?_
          refine a_bipush (v := 99) hb dX11_watched_43 (by decide) ?_
          refine a_icmp_gt hb 77 dX11_watched_45 (by decide) (fun c45 => absurd c45 (fun q => absurd ((nI_ltI (a := 99) (b := i + 1) (by omega) (by omega)).mp q) (by omega))) (fun c45 => ?_)
          refine a_aload_n hb dX11_watched_48 rfl 0 rfl ?_
          refine a_iload hb dX11_watched_49 5 rfl ?_
          refine a_iload_n hb dX11_watched_51 rfl 1 rfl ?_
          refine a_callV hb dX11_watched_52 (by rw [hg]; exact x_offRow g h1 B vq lq hl S N P hClh1 (i + 1) t) (by rw [ow]; exact clv_RX11_256) (hClh1.1.1.1 0 (by decide)) (by decide) rfl rfl rfl (Nat.le_of_ble_eq_true rfl) (by rw [hr]; exact ⟨by decide, by decide⟩) (by rw [hr]; exact ⟨Nat.le_of_ble_eq_true rfl, Nat.le_of_ble_eq_true rfl⟩) ?_
          intro rv h2_ hp
          obtain ⟨hv, hf2⟩ := hp
          rw [hv]
          have hF2 := FR.tr hFh1 hf2
          have hC2 := hC.fr (FR.mo (A := Xv B vq) (A' := Ay B vq) hF2 (by intro a; unfold Xv Ay; omega))
          clear hv
          show AW V 0 0 h2_ 55 [(0, .ref B), (1, .int t), (2, .int x), (3, .int ((waS (fun z => orS P S hl t z N.2.2.2.1) (i + 1)).1)), (4, .int ((waS (fun z => orS P S hl t z N.2.2.2.1) (i + 1)).2)), (5, .int (nI (i + 1)))] [.int (orS P S hl t (i + 1) N.2.2.2.1)]
          refine a_istore (L' := [(6, .int (orS P S hl t (i + 1) N.2.2.2.1)), (0, .ref B), (1, .int t), (2, .int x), (3, .int ((waS (fun z => orS P S hl t z N.2.2.2.1) (i + 1)).1)), (4, .int ((waS (fun z => orS P S hl t z N.2.2.2.1) (i + 1)).2)), (5, .int (nI (i + 1)))]) hb dX11_watched_55 (by rw [hml]; decide) rfl ?_
          refine a_iload hb dX11_watched_57 0 rfl ?_
          refine a_iload hb dX11_watched_59 5 rfl ?_
          refine a_icmp_ge hb 71 dX11_watched_61 (by decide) (fun c61 => ?_) (fun c61 => ?_)
          · refine a_iinc (v := ((nI (i + 1)) + 1)) (L' := [(5, .int ((nI (i + 1)) + 1)), (6, .int (orS P S hl t (i + 1) N.2.2.2.1)), (0, .ref B), (1, .int t), (2, .int x), (3, .int ((waS (fun z => orS P S hl t z N.2.2.2.1) (i + 1)).1)), (4, .int ((waS (fun z => orS P S hl t z N.2.2.2.1) (i + 1)).2))]) hb dX11_watched_71 6 rfl rfl (by rw [hml]; decide) rfl ?_
            refine a_goto hb 41 dX11_watched_74 (by decide) ?_
            refine AW.sub (L' := [(0, .ref B), (1, .int t), (2, .int x), (3, .int ((waS (fun z => orS P S hl t z N.2.2.2.1) (i + 1)).1)), (4, .int ((waS (fun z => orS P S hl t z N.2.2.2.1) (i + 1)).2)), (5, .int ((nI (i + 1)) + 1))]) [2, 3, 4, 5, 6, 0] rfl ?_
            exact AW.eq (ih (i + 1) h2_ hF2 (by omega)) rfl rfl (by first | (rw [wa_n c61, nI_1]; done) | (rw [wa_s (by omega) c61, nI_1]; done)) rfl
          · refine a_iload hb dX11_watched_64 0 rfl ?_
            refine a_istore (L' := [(4, .int (orS P S hl t (i + 1) N.2.2.2.1)), (6, .int (orS P S hl t (i + 1) N.2.2.2.1)), (0, .ref B), (1, .int t), (2, .int x), (3, .int ((waS (fun z => orS P S hl t z N.2.2.2.1) (i + 1)).1)), (5, .int (nI (i + 1)))]) hb dX11_watched_66 (by rw [hml]; decide) rfl ?_
            refine a_iload hb dX11_watched_68 6 rfl ?_
            refine a_istore_n (L' := [(3, .int (nI (i + 1))), (4, .int (orS P S hl t (i + 1) N.2.2.2.1)), (6, .int (orS P S hl t (i + 1) N.2.2.2.1)), (0, .ref B), (1, .int t), (2, .int x), (5, .int (nI (i + 1)))]) hb dX11_watched_70 rfl (by rw [hml]; decide) rfl ?_
            refine a_iinc (v := ((nI (i + 1)) + 1)) (L' := [(5, .int ((nI (i + 1)) + 1)), (3, .int (nI (i + 1))), (4, .int (orS P S hl t (i + 1) N.2.2.2.1)), (6, .int (orS P S hl t (i + 1) N.2.2.2.1)), (0, .ref B), (1, .int t), (2, .int x)]) hb dX11_watched_71 6 rfl rfl (by rw [hml]; decide) rfl ?_
            refine a_goto hb 41 dX11_watched_74 (by decide) ?_
            refine AW.sub (L' := [(0, .ref B), (1, .int t), (2, .int x), (3, .int (nI (i + 1))), (4, .int (orS P S hl t (i + 1) N.2.2.2.1)), (5, .int ((nI (i + 1)) + 1))]) [4, 5, 6, 1, 2, 0] rfl ?_
            exact AW.eq (ih (i + 1) h2_ hF2 (by omega)) rfl rfl (by first | (rw [wa_n c61, nI_1]; done) | (rw [wa_s (by omega) c61, nI_1]; done)) rfl
      refine AW.sub (L' := [(0, .ref B), (1, .int t), (2, .int x), (3, .int 0), (4, .int (orS P S hl t 0 N.2.2.2.1)), (5, .int 1)]) [3, 4, 5, 2, 1, 0] rfl ?_
      exact AW.eq (loop 99 0 h1_ hF1 (by omega)) rfl rfl (by rw [wa_1]; rfl) rfl
    · simp [b2i_0] at c22
      refine a_bipush (v := (-2)) hb dX11_watched_25 (by decide) ?_
      exact a_ireturn (ty := .int) hb hz dX11_watched_27 hret rfl (by rw [hr]; exact Nat.le_of_ble_eq_true rfl) (by rw [hr]; exact Nat.le_of_ble_eq_true rfl) (⟨(by rw [if_neg (by simp [c6]), if_pos (by simp [c22])]), FR.rf⟩)
set_option maxRecDepth 100000 in
theorem x_layDrawnBy (g : GG) (h : AH) (B vq lq hl : Nat) (S : Nat → Int32) (N : NN) (P : PF) (hC : CX g h B vq lq hl S N P) (p q : Nat) (hp : p < N.1) (po : PO h B S p q) (r : Nat) (hr1 : 26 ≤ r) (hr2 : r < 50) (dl : Int32) : AM g 7 0 0 mX11_layDrawnBy [.ref B, .ref q, .int dl, .ref (B + r)] h (fun rv h' => rv = none ∧ FR (Xr B vq) h h' ∧ (∀ b, b ≠ vq → b ≠ B + r → hI h' b = hI h b) ∧ ∀ t, t < 40 → hI h' (B + r) t = drS P S hl (S (130 + p)) (S (146 + p)) (S (154 + p)) (nI t - S (138 + p) - dl) (nI t)) := by
  refine AM.of [(0, .ref B), (1, .ref q), (2, .int dl), (3, .ref (B + r))] (by decide) (Nat.le_of_ble_eq_true rfl) rfl ?_
  intro V hV
  have hb : V.2.1.2.1 = cX11_layDrawnBy := by subst hV; rfl
  have ow : V.2.1.1.cls = RX11 := by subst hV; rfl
  have hr : V.2.2.1 = aw_rm 7 0 0 := by subst hV; rfl
  have hz : V.2.2.2 = aw_Z V.1 (fun rv h' => rv = none ∧ FR (Xr B vq) h h' ∧ (∀ b, b ≠ vq → b ≠ B + r → hI h' b = hI h b) ∧ ∀ t, t < 40 → hI h' (B + r) t = drS P S hl (S (130 + p)) (S (146 + p)) (S (154 + p)) (nI t - S (138 + p) - dl) (nI t)) V.2.2.1 := by subst hV; rfl
  have hg : V.1 = g := by subst hV; rfl
  have hret : V.2.1.2.2.2 = none := by subst hV; rfl
  have hml : V.2.1.2.2.1 = 5 := by subst hV; rfl
  clear hV
  have hvq : B + 62 ≤ vq := hC.2.1.2.2.2.2.2.1
  have hnp := hC.1.np
  have hnw := hC.1.nw
  have loop : ∀ (k i : Nat) (h1 : AH) (hFh1 : FR (Xr B vq) h h1) (ivh1 : (∀ b, b ≠ vq → b ≠ B + r → hI h1 b = hI h b) ∧ ∀ t, t < i → hI h1 (B + r) t = drS P S hl (S (130 + p)) (S (146 + p)) (S (154 + p)) (nI t - S (138 + p) - dl) (nI t)), i + k = 40 → AW V 0 0 h1 3 [(0, .ref B), (1, .ref q), (2, .int dl), (3, .ref (B + r)), (4, .int (nI i))] [] := by
    intro k
    induction k with
    | zero =>
      intro i h1 hFh1 ivh1 hi
      have hClh1 : CX g h1 B vq lq hl S N P := hC.fr (FR.mo (A := Xr B vq) (A' := Ay B vq) hFh1 (by intro a; unfold Xr Ay; omega))
      have polh1_0 : PO h1 B S p q := po.fr (FR.mo (A := Xr B vq) (A' := Ay B vq) hFh1 (by intro a; unfold Xr Ay; omega)) hC.2.1.2.2.2.2.2.2
      refine a_iload hb dX11_layDrawnBy_3 4 rfl ?_
      refine a_bipush (v := 40) hb dX11_layDrawnBy_5 (by decide) ?_
      refine a_icmp_ge hb 37 dX11_layDrawnBy_7 (by decide) (fun c7 => ?_) (fun c7 => absurd (nI_le (b := i) (a := 40) (by omega) (by omega)) c7)
      exact a_return hb hz dX11_layDrawnBy_37 hret (by rw [hr]; exact Nat.le_of_ble_eq_true rfl) (by rw [hr]; exact Nat.le_of_ble_eq_true rfl) (⟨rfl, hFh1, ivh1.1, by rw [show i = 40 by omega] at ivh1; exact ivh1.2⟩)
    | succ k ih =>
      intro i h1 hFh1 ivh1 hi
      have hClh1 : CX g h1 B vq lq hl S N P := hC.fr (FR.mo (A := Xr B vq) (A' := Ay B vq) hFh1 (by intro a; unfold Xr Ay; omega))
      have polh1_0 : PO h1 B S p q := po.fr (FR.mo (A := Xr B vq) (A' := Ay B vq) hFh1 (by intro a; unfold Xr Ay; omega)) hC.2.1.2.2.2.2.2.2
      refine a_iload hb dX11_layDrawnBy_3 4 rfl ?_
      refine a_bipush (v := 40) hb dX11_layDrawnBy_5 (by decide) ?_
      refine a_icmp_ge hb 37 dX11_layDrawnBy_7 (by decide) (fun c7 => absurd c7 (nI_ge (b := 40) (a := i) (by omega) (by omega))) (fun c7 => ?_)
      refine a_aload_n hb dX11_layDrawnBy_10 rfl 3 rfl ?_
      refine a_iload hb dX11_layDrawnBy_11 4 rfl ?_
      refine a_aload_n hb dX11_layDrawnBy_13 rfl 1 rfl ?_
      refine a_aload_n hb dX11_layDrawnBy_14 rfl 0 rfl ?_
      refine a_getQ (q := (B + 1)) hb dX11_layDrawnBy_15 (by rw [ow]; exact fl_RX11_12_11) (hClh1.1.1.1 0 (by decide)) (hClh1.1.1.2.1 (0, 0, 1) (by decide)) ?_
      refine a_aload_n hb dX11_layDrawnBy_18 rfl 1 rfl ?_
      refine a_iload hb dX11_layDrawnBy_19 4 rfl ?_
      refine a_iload_n hb dX11_layDrawnBy_21 rfl 2 rfl ?_
      have kont1 : ∀ rv h', (fun rv h' => rv = some (.int ((nI i) - S (138 + p) - dl)) ∧ h' = h1) rv h' → AW V 0 0 h' 25 [(0, .ref B), (1, .ref q), (2, .int dl), (3, .ref (B + r)), (4, .int (nI i))] (rv.toList ++ [.ref (B + 1), .ref q, .int (nI i), .ref (B + r)]) := by
        intro rv h' hq_
        rw [hq_.1, hq_.2]
        show AW V 0 0 h1 25 [(0, .ref B), (1, .ref q), (2, .int dl), (3, .ref (B + r)), (4, .int (nI i))] [.int ((nI i) - S (138 + p) - dl), .ref (B + 1), .ref q, .int (nI i), .ref (B + r)]
        refine a_iload hb dX11_layDrawnBy_25 4 rfl ?_
        have kont2 : ∀ rv h', (fun rv h' => rv = some (.int (drS P S hl (S (130 + p)) (S (146 + p)) (S (154 + p)) ((nI i) - S (138 + p) - dl) (nI i))) ∧ FR (Xv B vq) h1 h') rv h' → AW V 0 0 h' 30 [(0, .ref B), (1, .ref q), (2, .int dl), (3, .ref (B + r)), (4, .int (nI i))] (rv.toList ++ [.int (nI i), .ref (B + r)]) := by
          intro rv h3_ hp
          obtain ⟨hv, hf3⟩ := hp
          rw [hv]
          have hF3 := FR.tr hFh1 (FR.mo (A := Xv B vq) (A' := Xr B vq) hf3 (by intro a; unfold Xv Xr; omega))
          have hC3 := hC.fr (FR.mo (A := Xr B vq) (A' := Ay B vq) hF3 (by intro a; unfold Xr Ay; omega))
          clear hv
          have po3_0 : PO h3_ B S p q := po.fr (FR.mo (A := Xr B vq) (A' := Ay B vq) hF3 (by intro a; unfold Xr Ay; omega)) hC.2.1.2.2.2.2.2.2
          show AW V 0 0 h3_ 30 [(0, .ref B), (1, .ref q), (2, .int dl), (3, .ref (B + r)), (4, .int (nI i))] [.int (drS P S hl (S (130 + p)) (S (146 + p)) (S (154 + p)) ((nI i) - S (138 + p) - dl) (nI i)), .int (nI i), .ref (B + r)]
          refine b_iast (j := i) hb dX11_layDrawnBy_30 (ly_row hC3.1.1 hr1 hr2) (IX.n (by omega)) (by omega) ?_
          refine a_iinc (v := ((nI i) + 1)) (L' := [(4, .int ((nI i) + 1)), (0, .ref B), (1, .ref q), (2, .int dl), (3, .ref (B + r))]) hb dX11_layDrawnBy_31 4 rfl rfl (by rw [hml]; decide) rfl ?_
          refine a_goto hb 3 dX11_layDrawnBy_34 (by decide) ?_
          refine AW.sub (L' := [(0, .ref B), (1, .ref q), (2, .int dl), (3, .ref (B + r)), (4, .int ((nI i) + 1))]) [1, 2, 3, 4, 0] rfl ?_
          exact AW.eq (ih (i + 1) (setI h3_ (B + r) i (drS P S hl (S (130 + p)) (S (146 + p)) (S (154 + p)) ((nI i) - S (138 + p) - dl) (nI i))) (FR.I hF3 (by unfold Xr; omega)) (⟨fun b h1_ h2_ => by rw [hI_setI_n h2_, hf3.2.2.2.2 b (by unfold Xv; omega)]; exact ivh1.1 b h1_ h2_, rowI (fun t q => by rw [hf3.2.2.2.2 (B + r) (by unfold Xv; omega)]; exact ivh1.2 t q) rfl⟩) (by omega)) rfl rfl (by first | (simp only [nI_1]; done) | (simp only [nI_1]; rfl)) rfl
        rcases kd_c (hClh1.1.rp (p := p) (by omega)).1 with ek0 | ek1 | ek2 | ek3 | ek4 | ek5 | ek6
        · exact a_callU (len := 0) (kd := 2) hb dX11_layDrawnBy_27 (by rw [hg]; exact x_dr0 g h1 B vq lq hl S N P hClh1 p q (by omega) polh1_0 ek0 ((nI i) - S (138 + p) - dl) (nI i)) (by rw [ow]; exact clu_RX11_144_2) (by have z := polh1_0.2.1; rw [ek0] at z; exact z) (by decide) rfl rfl rfl (Nat.le_of_ble_eq_true rfl) (by rw [hr]; exact ⟨by decide, by decide⟩) (by rw [hr]; exact ⟨Nat.le_of_ble_eq_true rfl, Nat.le_of_ble_eq_true rfl⟩) kont2
        · exact a_callU (len := 0) (kd := 9) hb dX11_layDrawnBy_27 (by rw [hg]; exact x_dr1 g h1 B vq lq hl S N P hClh1 p q (by omega) polh1_0 ek1 ((nI i) - S (138 + p) - dl) (nI i)) (by rw [ow]; exact clu_RX11_144_9) (by have z := polh1_0.2.1; rw [ek1] at z; exact z) (by decide) rfl rfl rfl (Nat.le_of_ble_eq_true rfl) (by rw [hr]; exact ⟨by decide, by decide⟩) (by rw [hr]; exact ⟨Nat.le_of_ble_eq_true rfl, Nat.le_of_ble_eq_true rfl⟩) kont2
        · exact a_callU (len := 0) (kd := 0) hb dX11_layDrawnBy_27 (by rw [hg]; exact x_dr2 g h1 B vq lq hl S N P hClh1 p q (by omega) polh1_0 ek2 ((nI i) - S (138 + p) - dl) (nI i)) (by rw [ow]; exact clu_RX11_144_0) (by have z := polh1_0.2.1; rw [ek2] at z; exact z) (by decide) rfl rfl rfl (Nat.le_of_ble_eq_true rfl) (by rw [hr]; exact ⟨by decide, by decide⟩) (by rw [hr]; exact ⟨Nat.le_of_ble_eq_true rfl, Nat.le_of_ble_eq_true rfl⟩) kont2
        · exact a_callU (len := 0) (kd := 3) hb dX11_layDrawnBy_27 (by rw [hg]; exact x_dr3 g h1 B vq lq hl S N P hClh1 p q (by omega) polh1_0 ek3 ((nI i) - S (138 + p) - dl) (nI i)) (by rw [ow]; exact clu_RX11_144_3) (by have z := polh1_0.2.1; rw [ek3] at z; exact z) (by decide) rfl rfl rfl (Nat.le_of_ble_eq_true rfl) (by rw [hr]; exact ⟨by decide, by decide⟩) (by rw [hr]; exact ⟨Nat.le_of_ble_eq_true rfl, Nat.le_of_ble_eq_true rfl⟩) kont2
        · exact a_callU (len := 0) (kd := 4) hb dX11_layDrawnBy_27 (by rw [hg]; exact x_dr4 g h1 B vq lq hl S N P hClh1 p q (by omega) polh1_0 ek4 ((nI i) - S (138 + p) - dl) (nI i)) (by rw [ow]; exact clu_RX11_144_4) (by have z := polh1_0.2.1; rw [ek4] at z; exact z) (by decide) rfl rfl rfl (Nat.le_of_ble_eq_true rfl) (by rw [hr]; exact ⟨by decide, by decide⟩) (by rw [hr]; exact ⟨Nat.le_of_ble_eq_true rfl, Nat.le_of_ble_eq_true rfl⟩) kont2
        · exact a_callU (len := 0) (kd := 5) hb dX11_layDrawnBy_27 (by rw [hg]; exact x_dr5 g h1 B vq lq hl S N P hClh1 p q (by omega) polh1_0 ek5 ((nI i) - S (138 + p) - dl) (nI i)) (by rw [ow]; exact clu_RX11_144_5) (by have z := polh1_0.2.1; rw [ek5] at z; exact z) (by decide) rfl rfl rfl (Nat.le_of_ble_eq_true rfl) (by rw [hr]; exact ⟨by decide, by decide⟩) (by rw [hr]; exact ⟨Nat.le_of_ble_eq_true rfl, Nat.le_of_ble_eq_true rfl⟩) kont2
        · exact a_callU (len := 0) (kd := 6) hb dX11_layDrawnBy_27 (by rw [hg]; exact x_dr6 g h1 B vq lq hl S N P hClh1 p q (by omega) polh1_0 ek6 ((nI i) - S (138 + p) - dl) (nI i)) (by rw [ow]; exact clu_RX11_144_6) (by have z := polh1_0.2.1; rw [ek6] at z; exact z) (by decide) rfl rfl rfl (Nat.le_of_ble_eq_true rfl) (by rw [hr]; exact ⟨by decide, by decide⟩) (by rw [hr]; exact ⟨Nat.le_of_ble_eq_true rfl, Nat.le_of_ble_eq_true rfl⟩) kont2
      rcases kd_c (hClh1.1.rp (p := p) (by omega)).1 with ek0 | ek1 | ek2 | ek3 | ek4 | ek5 | ek6
      · exact a_callU (len := 0) (kd := 2) hb dX11_layDrawnBy_22 (by rw [hg]; exact x_age0 g h1 B vq lq hl S N P hClh1 p q (by omega) polh1_0 ek0 (nI i) dl) (by rw [ow]; exact clu_RX11_140_2) (by have z := polh1_0.2.1; rw [ek0] at z; exact z) (by decide) rfl rfl rfl (Nat.le_of_ble_eq_true rfl) (by rw [hr]; exact ⟨by decide, by decide⟩) (by rw [hr]; exact ⟨Nat.le_of_ble_eq_true rfl, Nat.le_of_ble_eq_true rfl⟩) kont1
      · exact a_callU (len := 0) (kd := 9) hb dX11_layDrawnBy_22 (by rw [hg]; exact x_age1 g h1 B vq lq hl S N P hClh1 p q (by omega) polh1_0 ek1 (nI i) dl) (by rw [ow]; exact clu_RX11_140_9) (by have z := polh1_0.2.1; rw [ek1] at z; exact z) (by decide) rfl rfl rfl (Nat.le_of_ble_eq_true rfl) (by rw [hr]; exact ⟨by decide, by decide⟩) (by rw [hr]; exact ⟨Nat.le_of_ble_eq_true rfl, Nat.le_of_ble_eq_true rfl⟩) kont1
      · exact a_callU (len := 0) (kd := 0) hb dX11_layDrawnBy_22 (by rw [hg]; exact x_age2 g h1 B vq lq hl S N P hClh1 p q (by omega) polh1_0 ek2 (nI i) dl) (by rw [ow]; exact clu_RX11_140_0) (by have z := polh1_0.2.1; rw [ek2] at z; exact z) (by decide) rfl rfl rfl (Nat.le_of_ble_eq_true rfl) (by rw [hr]; exact ⟨by decide, by decide⟩) (by rw [hr]; exact ⟨Nat.le_of_ble_eq_true rfl, Nat.le_of_ble_eq_true rfl⟩) kont1
      · exact a_callU (len := 0) (kd := 3) hb dX11_layDrawnBy_22 (by rw [hg]; exact x_age3 g h1 B vq lq hl S N P hClh1 p q (by omega) polh1_0 ek3 (nI i) dl) (by rw [ow]; exact clu_RX11_140_3) (by have z := polh1_0.2.1; rw [ek3] at z; exact z) (by decide) rfl rfl rfl (Nat.le_of_ble_eq_true rfl) (by rw [hr]; exact ⟨by decide, by decide⟩) (by rw [hr]; exact ⟨Nat.le_of_ble_eq_true rfl, Nat.le_of_ble_eq_true rfl⟩) kont1
      · exact a_callU (len := 0) (kd := 4) hb dX11_layDrawnBy_22 (by rw [hg]; exact x_age4 g h1 B vq lq hl S N P hClh1 p q (by omega) polh1_0 ek4 (nI i) dl) (by rw [ow]; exact clu_RX11_140_4) (by have z := polh1_0.2.1; rw [ek4] at z; exact z) (by decide) rfl rfl rfl (Nat.le_of_ble_eq_true rfl) (by rw [hr]; exact ⟨by decide, by decide⟩) (by rw [hr]; exact ⟨Nat.le_of_ble_eq_true rfl, Nat.le_of_ble_eq_true rfl⟩) kont1
      · exact a_callU (len := 0) (kd := 5) hb dX11_layDrawnBy_22 (by rw [hg]; exact x_age5 g h1 B vq lq hl S N P hClh1 p q (by omega) polh1_0 ek5 (nI i) dl) (by rw [ow]; exact clu_RX11_140_5) (by have z := polh1_0.2.1; rw [ek5] at z; exact z) (by decide) rfl rfl rfl (Nat.le_of_ble_eq_true rfl) (by rw [hr]; exact ⟨by decide, by decide⟩) (by rw [hr]; exact ⟨Nat.le_of_ble_eq_true rfl, Nat.le_of_ble_eq_true rfl⟩) kont1
      · exact a_callU (len := 0) (kd := 6) hb dX11_layDrawnBy_22 (by rw [hg]; exact x_age6 g h1 B vq lq hl S N P hClh1 p q (by omega) polh1_0 ek6 (nI i) dl) (by rw [ow]; exact clu_RX11_140_6) (by have z := polh1_0.2.1; rw [ek6] at z; exact z) (by decide) rfl rfl rfl (Nat.le_of_ble_eq_true rfl) (by rw [hr]; exact ⟨by decide, by decide⟩) (by rw [hr]; exact ⟨Nat.le_of_ble_eq_true rfl, Nat.le_of_ble_eq_true rfl⟩) kont1
  refine a_iconst (v := 0) hb dX11_layDrawnBy_0 (by decide) ?_
  refine a_istore (L' := [(4, .int 0), (0, .ref B), (1, .ref q), (2, .int dl), (3, .ref (B + r))]) hb dX11_layDrawnBy_1 (by rw [hml]; decide) rfl ?_
  refine AW.sub (L' := [(0, .ref B), (1, .ref q), (2, .int dl), (3, .ref (B + r)), (4, .int 0)]) [1, 2, 3, 4, 0] rfl ?_
  exact AW.eq (loop 40 0 h FR.rf ⟨fun _ _ _ => rfl, row0⟩ (by omega)) rfl rfl (rfl) rfl
set_option maxRecDepth 100000 in
theorem x_peakWith (g : GG) (h : AH) (B vq lq hl : Nat) (S : Nat → Int32) (N : NN) (P : PF) (hC : CX g h B vq lq hl S N P) (p q : Nat) (hp : p < N.1) (po : PO h B S p q) (d : Nat) (hD : ∀ t, t < 40 → hI h (B + 21) t = dmS P S (fun _ => 0) hl (nI t) N.1) (h0_ : ∀ t, t < 40 → hI h (B + 26) t = dwS P S (fun _ => 0) hl (nI t) p) : AM g 8 0 0 mX11_peakWith [.ref B, .ref q, .int (nI d)] h (fun rv h' => rv = some (.int (wtF P S (fun _ => 0) hl N.1 p d)) ∧ FR (Xr B vq) h h' ∧ (∀ b, b ≠ vq → b ≠ B + 27 → hI h' b = hI h b)) := by
  refine AM.of [(0, .ref B), (1, .ref q), (2, .int (nI d))] (by decide) (Nat.le_of_ble_eq_true rfl) rfl ?_
  intro V hV
  have hb : V.2.1.2.1 = cX11_peakWith := by subst hV; rfl
  have ow : V.2.1.1.cls = RX11 := by subst hV; rfl
  have hr : V.2.2.1 = aw_rm 8 0 0 := by subst hV; rfl
  have hz : V.2.2.2 = aw_Z V.1 (fun rv h' => rv = some (.int (wtF P S (fun _ => 0) hl N.1 p d)) ∧ FR (Xr B vq) h h' ∧ (∀ b, b ≠ vq → b ≠ B + 27 → hI h' b = hI h b)) V.2.2.1 := by subst hV; rfl
  have hg : V.1 = g := by subst hV; rfl
  have hret : V.2.1.2.2.2 = (some .int) := by subst hV; rfl
  have hml : V.2.1.2.2.1 = 5 := by subst hV; rfl
  clear hV
  have hvq : B + 62 ≤ vq := hC.2.1.2.2.2.2.2.1
  have hnp := hC.1.np
  have hnw := hC.1.nw
  refine a_aload_n hb dX11_peakWith_0 rfl 0 rfl ?_
  refine a_aload_n hb dX11_peakWith_1 rfl 1 rfl ?_
  refine a_iload_n hb dX11_peakWith_2 rfl 2 rfl ?_
  refine a_aload_n hb dX11_peakWith_3 rfl 0 rfl ?_
  refine a_getQ (q := (B + 25)) hb dX11_peakWith_4 (by rw [ow]; exact fl_RX11_47_11) (hC.1.1.1 0 (by decide)) (hC.1.1.2.1 (0, 8, 25) (by decide)) ?_
  refine a_iconst (v := 1) hb dX11_peakWith_7 (by decide) ?_
  refine b_aaldS (j := 1) (q := (B + 27)) hb dX11_peakWith_8 (hC.1.1.1 25 (by decide)) (by decide) (by decide) ⟨by decide, by decide⟩ (by decide) (hC.1.1.2.1 (25, 1, 27) (by decide)) ?_
  refine a_callV hb dX11_peakWith_9 (by rw [hg]; exact x_layDrawnBy g h B vq lq hl S N P hC p q (by omega) po 27 (by omega) (by omega) (nI d)) (by rw [ow]; exact clv_RX11_259) (hC.1.1.1 0 (by decide)) (by decide) rfl rfl rfl (Nat.le_of_ble_eq_true rfl) (by rw [hr]; exact ⟨by decide, by decide⟩) (by rw [hr]; exact ⟨Nat.le_of_ble_eq_true rfl, Nat.le_of_ble_eq_true rfl⟩) ?_
  intro rv h1_ hp
  obtain ⟨hv, hf1, hx1_0, hx1_1⟩ := hp
  rw [hv]
  have hF1 := FR.tr FR.rf hf1
  have hC1 := hC.fr (FR.mo (A := Xr B vq) (A' := Ay B vq) hF1 (by intro a; unfold Xr Ay; omega))
  clear hv
  have po1_0 : PO h1_ B S p q := po.fr (FR.mo (A := Xr B vq) (A' := Ay B vq) hF1 (by intro a; unfold Xr Ay; omega)) hC.2.1.2.2.2.2.2.2
  show AW V 0 0 h1_ 12 [(0, .ref B), (1, .ref q), (2, .int (nI d))] []
  have f21 : hI h1_ (B + 21) = hI h (B + 21) := hx1_0 _ (by omega) (by omega)
  have f26 : hI h1_ (B + 26) = hI h (B + 26) := hx1_0 _ (by omega) (by omega)
  have hpk : gtS (fun t => hI h1_ (B + 21) t - hI h1_ (B + 26) t + hI h1_ (B + 27) t) 39 = wtF P S (fun _ => 0) hl N.1 p d := gtS_c 39 (fun t ht => by rw [f21, f26, hD t (by omega), h0_ t (by omega), hx1_1 t (by omega), dm_up N.1 hp]; unfold dwS; rw [upd_s])
  refine a_aload_n hb dX11_peakWith_12 rfl 0 rfl ?_
  refine a_getQ (q := (B + 21)) hb dX11_peakWith_13 (by rw [ow]; exact fl_RX11_32_11) (hC1.1.1.1 0 (by decide)) (hC1.1.1.2.1 (0, 4, 21) (by decide)) ?_
  refine a_iconst (v := 0) hb dX11_peakWith_16 (by decide) ?_
  refine b_iald (j := 0) hb dX11_peakWith_17 (hC1.1.1.1 21 (by decide)) ⟨by decide, by decide⟩ (by decide) ?_
  refine a_aload_n hb dX11_peakWith_18 rfl 0 rfl ?_
  refine a_getQ (q := (B + 25)) hb dX11_peakWith_19 (by rw [ow]; exact fl_RX11_47_11) (hC1.1.1.1 0 (by decide)) (hC1.1.1.2.1 (0, 8, 25) (by decide)) ?_
  refine a_iconst (v := 0) hb dX11_peakWith_22 (by decide) ?_
  refine b_aaldS (j := 0) (q := (B + 26)) hb dX11_peakWith_23 (hC1.1.1.1 25 (by decide)) (by decide) (by decide) ⟨by decide, by decide⟩ (by decide) (hC1.1.1.2.1 (25, 0, 26) (by decide)) ?_
  refine a_iconst (v := 0) hb dX11_peakWith_24 (by decide) ?_
  refine b_iald (j := 0) hb dX11_peakWith_25 (hC1.1.1.1 26 (by decide)) ⟨by decide, by decide⟩ (by decide) ?_
  refine a_isub hb dX11_peakWith_26 ?_
  refine a_aload_n hb dX11_peakWith_27 rfl 0 rfl ?_
  refine a_getQ (q := (B + 25)) hb dX11_peakWith_28 (by rw [ow]; exact fl_RX11_47_11) (hC1.1.1.1 0 (by decide)) (hC1.1.1.2.1 (0, 8, 25) (by decide)) ?_
  refine a_iconst (v := 1) hb dX11_peakWith_31 (by decide) ?_
  refine b_aaldS (j := 1) (q := (B + 27)) hb dX11_peakWith_32 (hC1.1.1.1 25 (by decide)) (by decide) (by decide) ⟨by decide, by decide⟩ (by decide) (hC1.1.1.2.1 (25, 1, 27) (by decide)) ?_
  refine a_iconst (v := 0) hb dX11_peakWith_33 (by decide) ?_
  refine b_iald (j := 0) hb dX11_peakWith_34 (hC1.1.1.1 27 (by decide)) ⟨by decide, by decide⟩ (by decide) ?_
  refine a_iadd hb dX11_peakWith_35 ?_
  refine a_istore_n (L' := [(3, .int (((hI h1_ (B + 21) 0) - (hI h1_ (B + 26) 0)) + (hI h1_ (B + 27) 0))), (0, .ref B), (1, .ref q), (2, .int (nI d))]) hb dX11_peakWith_36 rfl (by rw [hml]; decide) rfl ?_
  refine a_iconst (v := 1) hb dX11_peakWith_37 (by decide) ?_
  refine a_istore (L' := [(4, .int 1), (3, .int (((hI h1_ (B + 21) 0) - (hI h1_ (B + 26) 0)) + (hI h1_ (B + 27) 0))), (0, .ref B), (1, .ref q), (2, .int (nI d))]) hb dX11_peakWith_38 (by rw [hml]; decide) rfl ?_
  have loop : ∀ (k i : Nat), i + k = 39 → AW V 0 0 h1_ 40 [(0, .ref B), (1, .ref q), (2, .int (nI d)), (3, .int (gtS (fun t => hI h1_ (B + 21) t - hI h1_ (B + 26) t + hI h1_ (B + 27) t) i)), (4, .int (nI (i + 1)))] [] := by
    intro k
    induction k with
    | zero =>
      intro i hi
      refine a_iload hb dX11_peakWith_40 4 rfl ?_
      refine a_bipush (v := 40) hb dX11_peakWith_42 (by decide) ?_
      refine a_icmp_ge hb 85 dX11_peakWith_44 (by decide) (fun c44 => ?_) (fun c44 => absurd (nI_le (a := 40) (b := i + 1) (by omega) (by omega)) c44)
      refine a_iload_n hb dX11_peakWith_85 rfl 3 rfl ?_
      exact a_ireturn (ty := .int) hb hz dX11_peakWith_86 hret rfl (by rw [hr]; exact Nat.le_of_ble_eq_true rfl) (by rw [hr]; exact Nat.le_of_ble_eq_true rfl) (⟨by rw [← hpk, show i = 39 by omega], hF1, hx1_0⟩)
    | succ k ih =>
      intro i hi
      refine a_iload hb dX11_peakWith_40 4 rfl ?_
      refine a_bipush (v := 40) hb dX11_peakWith_42 (by decide) ?_
      refine a_icmp_ge hb 85 dX11_peakWith_44 (by decide) (fun c44 => absurd c44 (nI_ge (b := 40) (a := i + 1) (by omega) (by omega))) (fun c44 => ?_)
      refine a_iload_n hb dX11_peakWith_47 rfl 3 rfl ?_
      refine a_aload_n hb dX11_peakWith_48 rfl 0 rfl ?_
      refine a_getQ (q := (B + 21)) hb dX11_peakWith_49 (by rw [ow]; exact fl_RX11_32_11) (hC1.1.1.1 0 (by decide)) (hC1.1.1.2.1 (0, 4, 21) (by decide)) ?_
      refine a_iload hb dX11_peakWith_52 4 rfl ?_
      refine b_iald (j := (i + 1)) hb dX11_peakWith_54 (hC1.1.1.1 21 (by decide)) (IX.n (by omega)) (by omega) ?_
      refine a_aload_n hb dX11_peakWith_55 rfl 0 rfl ?_
      refine a_getQ (q := (B + 25)) hb dX11_peakWith_56 (by rw [ow]; exact fl_RX11_47_11) (hC1.1.1.1 0 (by decide)) (hC1.1.1.2.1 (0, 8, 25) (by decide)) ?_
      refine a_iconst (v := 0) hb dX11_peakWith_59 (by decide) ?_
      refine b_aaldS (j := 0) (q := (B + 26)) hb dX11_peakWith_60 (hC1.1.1.1 25 (by decide)) (by decide) (by decide) ⟨by decide, by decide⟩ (by decide) (hC1.1.1.2.1 (25, 0, 26) (by decide)) ?_
      refine a_iload hb dX11_peakWith_61 4 rfl ?_
      refine b_iald (j := (i + 1)) hb dX11_peakWith_63 (hC1.1.1.1 26 (by decide)) (IX.n (by omega)) (by omega) ?_
      refine a_isub hb dX11_peakWith_64 ?_
      refine a_aload_n hb dX11_peakWith_65 rfl 0 rfl ?_
      refine a_getQ (q := (B + 25)) hb dX11_peakWith_66 (by rw [ow]; exact fl_RX11_47_11) (hC1.1.1.1 0 (by decide)) (hC1.1.1.2.1 (0, 8, 25) (by decide)) ?_
      refine a_iconst (v := 1) hb dX11_peakWith_69 (by decide) ?_
      refine b_aaldS (j := 1) (q := (B + 27)) hb dX11_peakWith_70 (hC1.1.1.1 25 (by decide)) (by decide) (by decide) ⟨by decide, by decide⟩ (by decide) (hC1.1.1.2.1 (25, 1, 27) (by decide)) ?_
      refine a_iload hb dX11_peakWith_71 4 rfl ?_
      refine b_iald (j := (i + 1)) hb dX11_peakWith_73 (hC1.1.1.1 27 (by decide)) (IX.n (by omega)) (by omega) ?_
      refine a_iadd hb dX11_peakWith_74 ?_
      refine a_mmax hb dX11_peakWith_75 (by rw [ow]; exact kw_787) kw_490 kw_94 kw_491 (by rw [hr]; exact ⟨by decide, Nat.le_of_ble_eq_true rfl⟩) (by rw [hr]; exact ⟨Nat.le_of_ble_eq_true rfl, Nat.le_of_ble_eq_true rfl⟩) ?_
      refine a_istore_n (L' := [(3, .int (if (gtS (fun t => hI h1_ (B + 21) t - hI h1_ (B + 26) t + hI h1_ (B + 27) t) i) < (((hI h1_ (B + 21) (i + 1)) - (hI h1_ (B + 26) (i + 1))) + (hI h1_ (B + 27) (i + 1))) then (((hI h1_ (B + 21) (i + 1)) - (hI h1_ (B + 26) (i + 1))) + (hI h1_ (B + 27) (i + 1))) else (gtS (fun t => hI h1_ (B + 21) t - hI h1_ (B + 26) t + hI h1_ (B + 27) t) i))), (0, .ref B), (1, .ref q), (2, .int (nI d)), (4, .int (nI (i + 1)))]) hb dX11_peakWith_78 rfl (by rw [hml]; decide) rfl ?_
      refine a_iinc (v := ((nI (i + 1)) + 1)) (L' := [(4, .int ((nI (i + 1)) + 1)), (3, .int (if (gtS (fun t => hI h1_ (B + 21) t - hI h1_ (B + 26) t + hI h1_ (B + 27) t) i) < (((hI h1_ (B + 21) (i + 1)) - (hI h1_ (B + 26) (i + 1))) + (hI h1_ (B + 27) (i + 1))) then (((hI h1_ (B + 21) (i + 1)) - (hI h1_ (B + 26) (i + 1))) + (hI h1_ (B + 27) (i + 1))) else (gtS (fun t => hI h1_ (B + 21) t - hI h1_ (B + 26) t + hI h1_ (B + 27) t) i))), (0, .ref B), (1, .ref q), (2, .int (nI d))]) hb dX11_peakWith_79 4 rfl rfl (by rw [hml]; decide) rfl ?_
      refine a_goto hb 40 dX11_peakWith_82 (by decide) ?_
      refine AW.sub (L' := [(0, .ref B), (1, .ref q), (2, .int (nI d)), (3, .int (if (gtS (fun t => hI h1_ (B + 21) t - hI h1_ (B + 26) t + hI h1_ (B + 27) t) i) < (((hI h1_ (B + 21) (i + 1)) - (hI h1_ (B + 26) (i + 1))) + (hI h1_ (B + 27) (i + 1))) then (((hI h1_ (B + 21) (i + 1)) - (hI h1_ (B + 26) (i + 1))) + (hI h1_ (B + 27) (i + 1))) else (gtS (fun t => hI h1_ (B + 21) t - hI h1_ (B + 26) t + hI h1_ (B + 27) t) i))), (4, .int ((nI (i + 1)) + 1))]) [2, 3, 4, 1, 0] rfl ?_
      exact AW.eq (ih (i + 1) (by omega)) rfl rfl (by rw [nI_1]; rfl) rfl
  refine AW.sub (L' := [(0, .ref B), (1, .ref q), (2, .int (nI d)), (3, .int (((hI h1_ (B + 21) 0) - (hI h1_ (B + 26) 0)) + (hI h1_ (B + 27) 0))), (4, .int 1)]) [2, 3, 4, 1, 0] rfl ?_
  exact AW.eq (loop 39 0 (by omega)) rfl rfl (rfl) rfl
set_option maxRecDepth 100000 in
theorem x_waits (g : GG) (h : AH) (B vq lq hl : Nat) (S : Nat → Int32) (N : NN) (P : PF) (hC : CX g h B vq lq hl S N P) (a b x : Int32) : AM g 9 0 0 mX11_waits [.ref B, .int a, .int b, .int x] h (fun rv h' => rv = some (.int (if oO a 0 (nI N.1 - 1) then -1 else if oO b 0 (nI N.1 - 1) then -1 else if oO x 0 1 then -1 else if a = b then -2 else if x = 0 then (wtS (wtF P S (fun _ => 0) hl N.1 b.toNatClampNeg) 9).1 else (wtF P S (fun _ => 0) hl N.1 b.toNatClampNeg) 0 - (wtS (wtF P S (fun _ => 0) hl N.1 b.toNatClampNeg) 9).2)) ∧ FR (Xw B vq) h h') := by
  refine AM.of [(0, .ref B), (1, .int a), (2, .int b), (3, .int x)] (by decide) (Nat.le_of_ble_eq_true rfl) rfl ?_
  intro V hV
  have hb : V.2.1.2.1 = cX11_waits := by subst hV; rfl
  have ow : V.2.1.1.cls = RX11 := by subst hV; rfl
  have hr : V.2.2.1 = aw_rm 9 0 0 := by subst hV; rfl
  have hz : V.2.2.2 = aw_Z V.1 (fun rv h' => rv = some (.int (if oO a 0 (nI N.1 - 1) then -1 else if oO b 0 (nI N.1 - 1) then -1 else if oO x 0 1 then -1 else if a = b then -2 else if x = 0 then (wtS (wtF P S (fun _ => 0) hl N.1 b.toNatClampNeg) 9).1 else (wtF P S (fun _ => 0) hl N.1 b.toNatClampNeg) 0 - (wtS (wtF P S (fun _ => 0) hl N.1 b.toNatClampNeg) 9).2)) ∧ FR (Xw B vq) h h') V.2.2.1 := by subst hV; rfl
  have hg : V.1 = g := by subst hV; rfl
  have hret : V.2.1.2.2.2 = (some .int) := by subst hV; rfl
  have hml : V.2.1.2.2.1 = 9 := by subst hV; rfl
  clear hV
  have hvq : B + 62 ≤ vq := hC.2.1.2.2.2.2.2.1
  have hnp := hC.1.np
  have hnw := hC.1.nw
  refine a_aload_n hb dX11_waits_0 rfl 0 rfl ?_
  refine a_iload_n hb dX11_waits_1 rfl 1 rfl ?_
  refine a_callV hb dX11_waits_2 (by rw [hg]; exact x_noPause g h B S N hC.1 a) (by rw [ow]; exact clv_RX11_79) (hC.1.1.1 0 (by decide)) (by decide) rfl rfl rfl (Nat.le_of_ble_eq_true rfl) (by rw [hr]; exact ⟨by decide, by decide⟩) (by rw [hr]; exact ⟨Nat.le_of_ble_eq_true rfl, Nat.le_of_ble_eq_true rfl⟩) ?_
  intro rv h' hq_
  rw [hq_.1, hq_.2]
  show AW V 0 0 h 5 [(0, .ref B), (1, .int a), (2, .int b), (3, .int x)] [.int (b2i (oO a 0 (nI N.1 - 1)))]
  refine a_if_ne hb 32 dX11_waits_5 (by decide) (fun c5 => ?_) (fun c5 => ?_)
  · simp [b2i_0] at c5
    refine a_iconst (v := (-1)) hb dX11_waits_32 (by decide) ?_
    exact a_ireturn (ty := .int) hb hz dX11_waits_33 hret rfl (by rw [hr]; exact Nat.le_of_ble_eq_true rfl) (by rw [hr]; exact Nat.le_of_ble_eq_true rfl) (⟨(by rw [if_pos (by simp [c5])]), FR.rf⟩)
  · simp [b2i_0] at c5
    refine a_aload_n hb dX11_waits_8 rfl 0 rfl ?_
    refine a_iload_n hb dX11_waits_9 rfl 2 rfl ?_
    refine a_callV hb dX11_waits_10 (by rw [hg]; exact x_noPause g h B S N hC.1 b) (by rw [ow]; exact clv_RX11_79) (hC.1.1.1 0 (by decide)) (by decide) rfl rfl rfl (Nat.le_of_ble_eq_true rfl) (by rw [hr]; exact ⟨by decide, by decide⟩) (by rw [hr]; exact ⟨Nat.le_of_ble_eq_true rfl, Nat.le_of_ble_eq_true rfl⟩) ?_
    intro rv h' hq_
    rw [hq_.1, hq_.2]
    show AW V 0 0 h 13 [(0, .ref B), (1, .int a), (2, .int b), (3, .int x)] [.int (b2i (oO b 0 (nI N.1 - 1)))]
    refine a_if_ne hb 32 dX11_waits_13 (by decide) (fun c13 => ?_) (fun c13 => ?_)
    · simp [b2i_0] at c13
      refine a_iconst (v := (-1)) hb dX11_waits_32 (by decide) ?_
      exact a_ireturn (ty := .int) hb hz dX11_waits_33 hret rfl (by rw [hr]; exact Nat.le_of_ble_eq_true rfl) (by rw [hr]; exact Nat.le_of_ble_eq_true rfl) (⟨(by rw [if_neg (by simp [c5]), if_pos (by simp [c13])]), FR.rf⟩)
    · simp [b2i_0] at c13
      obtain ⟨b_, rfl, lb⟩ := c_lt (n := N.1) (by omega) (by simpa using c13)
      refine a_iload_n hb dX11_waits_16 rfl 3 rfl ?_
      refine a_iconst (v := 0) hb dX11_waits_17 (by decide) ?_
      refine a_iconst (v := 1) hb dX11_waits_18 (by decide) ?_
      refine a_callS hb dX11_waits_19 (by rw [hg]; exact w_outside g h x 0 1) (by rw [ow]; exact cls_RX11_53) rfl rfl (Nat.le_of_ble_eq_true rfl) (by rw [hr]; exact ⟨by decide, by decide⟩) (by rw [hr]; exact ⟨Nat.le_of_ble_eq_true rfl, Nat.le_of_ble_eq_true rfl⟩) ?_
      intro rv h' hq_
      rw [hq_.1, hq_.2]
      show AW V 0 0 h 22 [(0, .ref B), (1, .int a), (2, .int (nI b_)), (3, .int x)] [.int (b2i (oO x 0 1))]
      refine a_if_ne hb 32 dX11_waits_22 (by decide) (fun c22 => ?_) (fun c22 => ?_)
      · simp [b2i_0] at c22
        refine a_iconst (v := (-1)) hb dX11_waits_32 (by decide) ?_
        exact a_ireturn (ty := .int) hb hz dX11_waits_33 hret rfl (by rw [hr]; exact Nat.le_of_ble_eq_true rfl) (by rw [hr]; exact Nat.le_of_ble_eq_true rfl) (⟨(by rw [if_neg (by simp [c5]), if_neg (by simp [c13]), if_pos (by simp [c22])]), FR.rf⟩)
      · simp [b2i_0] at c22
        refine a_aload_n hb dX11_waits_25 rfl 0 rfl ?_
        refine a_callV hb dX11_waits_26 (by rw [hg]; exact x_noLaw g h B S N hC.1) (by rw [ow]; exact clv_RX11_136) (hC.1.1.1 0 (by decide)) (by decide) rfl rfl rfl (Nat.le_of_ble_eq_true rfl) (by rw [hr]; exact ⟨by decide, by decide⟩) (by rw [hr]; exact ⟨Nat.le_of_ble_eq_true rfl, Nat.le_of_ble_eq_true rfl⟩) ?_
        intro rv h' hq_
        rw [hq_.1, hq_.2, if_neg (by have := hC.2.1.1; omega)]
        show AW V 0 0 h 29 [(0, .ref B), (1, .int a), (2, .int (nI b_)), (3, .int x)] [.int 0]
        refine a_if_eq hb 34 dX11_waits_29 (by decide) (fun c29 => ?_) (fun c29 => absurd (by decide) c29)
        refine a_iload_n hb dX11_waits_34 rfl 1 rfl ?_
        refine a_iload_n hb dX11_waits_35 rfl 2 rfl ?_
        refine a_icmp_ne hb 42 dX11_waits_36 (by decide) (fun c36 => ?_) (fun c36 => ?_)
        · refine a_aload_n hb dX11_waits_42 rfl 0 rfl ?_
          refine a_callV hb dX11_waits_43 (by rw [hg]; exact x_layDemand g h B vq lq hl S N P hC) (by rw [ow]; exact clv_RX11_190) (hC.1.1.1 0 (by decide)) (by decide) rfl rfl rfl (Nat.le_of_ble_eq_true rfl) (by rw [hr]; exact ⟨by decide, by decide⟩) (by rw [hr]; exact ⟨Nat.le_of_ble_eq_true rfl, Nat.le_of_ble_eq_true rfl⟩) ?_
          intro rv h1_ hp
          obtain ⟨hv, hf1, hx1_0⟩ := hp
          rw [hv]
          have hF1 := FR.tr FR.rf (FR.mo (A := Xd B vq) (A' := Xw B vq) hf1 (by intro a; unfold Xd Xw; omega))
          have hC1 := hC.fr (FR.mo (A := Xw B vq) (A' := Ay B vq) hF1 (by intro a; unfold Xw Ay; omega))
          clear hv
          show AW V 0 0 h1_ 46 [(0, .ref B), (1, .int a), (2, .int (nI b_)), (3, .int x)] []
          refine a_aload_n hb dX11_waits_46 rfl 0 rfl ?_
          refine a_aload_n hb dX11_waits_47 rfl 0 rfl ?_
          refine a_getQ (q := (B + 1)) hb dX11_waits_48 (by rw [ow]; exact fl_RX11_12_11) (hC1.1.1.1 0 (by decide)) (hC1.1.1.2.1 (0, 0, 1) (by decide)) ?_
          refine a_getQ (q := (B + 2)) hb dX11_waits_51 (by rw [ow]; exact fl_RX11_65_7) (hC1.1.1.1 1 (by decide)) (hC1.1.1.2.1 (1, 0, 2) (by decide)) ?_
          refine a_iload_n hb dX11_waits_54 rfl 2 rfl ?_
          obtain ⟨q2, hq2, po2⟩ := hC.1.ps (p := b_) (by omega)
          have hr2 : hQ h1_ (B + 2) b_ = some q2 := by rw [(hF1).2.2.1]; exact hq2
          have pr2 : PO h1_ B S b_ q2 := po2.fr (FR.mo (A := Xw B vq) (A' := Ay B vq) hF1 (by intro a; unfold Xw Ay; omega)) hC.2.1.2.2.2.2.2.2
          refine b_aaldS (j := b_) (q := q2) hb dX11_waits_55 (hC1.1.1.1 2 (by decide)) (by decide) (by decide) (IX.n (by omega)) (by omega) hr2 ?_
          refine a_iconst (v := 0) hb dX11_waits_56 (by decide) ?_
          refine a_aload_n hb dX11_waits_57 rfl 0 rfl ?_
          refine a_getQ (q := (B + 25)) hb dX11_waits_58 (by rw [ow]; exact fl_RX11_47_11) (hC1.1.1.1 0 (by decide)) (hC1.1.1.2.1 (0, 8, 25) (by decide)) ?_
          refine a_iconst (v := 0) hb dX11_waits_61 (by decide) ?_
          refine b_aaldS (j := 0) (q := (B + 26)) hb dX11_waits_62 (hC1.1.1.1 25 (by decide)) (by decide) (by decide) ⟨by decide, by decide⟩ (by decide) (hC1.1.1.2.1 (25, 0, 26) (by decide)) ?_
          refine a_callV hb dX11_waits_63 (by rw [hg]; exact x_layDrawnBy g h1_ B vq lq hl S N P hC1 b_ q2 (by omega) pr2 26 (by omega) (by omega) 0) (by rw [ow]; exact clv_RX11_259) (hC1.1.1.1 0 (by decide)) (by decide) rfl rfl rfl (Nat.le_of_ble_eq_true rfl) (by rw [hr]; exact ⟨by decide, by decide⟩) (by rw [hr]; exact ⟨Nat.le_of_ble_eq_true rfl, Nat.le_of_ble_eq_true rfl⟩) ?_
          intro rv h3_ hp
          obtain ⟨hv, hf3, hx3_0, hx3_1⟩ := hp
          rw [hv]
          have hF3 := FR.tr hF1 (FR.mo (A := Xr B vq) (A' := Xw B vq) hf3 (by intro a; unfold Xr Xw; omega))
          have hC3 := hC.fr (FR.mo (A := Xw B vq) (A' := Ay B vq) hF3 (by intro a; unfold Xw Ay; omega))
          clear hv
          have po3_0 : PO h3_ B S b_ q2 := po2.fr (FR.mo (A := Xw B vq) (A' := Ay B vq) hF3 (by intro a; unfold Xw Ay; omega)) hC.2.1.2.2.2.2.2.2
          show AW V 0 0 h3_ 66 [(0, .ref B), (1, .int a), (2, .int (nI b_)), (3, .int x)] []
          have hD3 : ∀ t, t < 40 → hI h3_ (B + 21) t = dmS P S (fun _ => 0) hl (nI t) N.1 := fun t q => by rw [hx3_0 (B + 21) (by omega) (by omega)]; exact hx1_0 t q
          have hE3 : ∀ t, t < 40 → hI h3_ (B + 26) t = dwS P S (fun _ => 0) hl (nI t) b_ := fun t q => hx3_1 t q
          refine a_aload_n hb dX11_waits_66 rfl 0 rfl ?_
          refine a_aload_n hb dX11_waits_67 rfl 0 rfl ?_
          refine a_getQ (q := (B + 1)) hb dX11_waits_68 (by rw [ow]; exact fl_RX11_12_11) (hC3.1.1.1 0 (by decide)) (hC3.1.1.2.1 (0, 0, 1) (by decide)) ?_
          refine a_getQ (q := (B + 2)) hb dX11_waits_71 (by rw [ow]; exact fl_RX11_65_7) (hC3.1.1.1 1 (by decide)) (hC3.1.1.2.1 (1, 0, 2) (by decide)) ?_
          refine a_iload_n hb dX11_waits_74 rfl 2 rfl ?_
          obtain ⟨q4, hq4, po4⟩ := hC.1.ps (p := b_) (by omega)
          have hr4 : hQ h3_ (B + 2) b_ = some q4 := by rw [(hF3).2.2.1]; exact hq4
          have pr4 : PO h3_ B S b_ q4 := po4.fr (FR.mo (A := Xw B vq) (A' := Ay B vq) hF3 (by intro a; unfold Xw Ay; omega)) hC.2.1.2.2.2.2.2.2
          refine b_aaldS (j := b_) (q := q4) hb dX11_waits_75 (hC3.1.1.1 2 (by decide)) (by decide) (by decide) (IX.n (by omega)) (by omega) hr4 ?_
          refine a_iconst (v := 0) hb dX11_waits_76 (by decide) ?_
          refine a_callV hb dX11_waits_77 (by rw [hg]; exact x_peakWith g h3_ B vq lq hl S N P hC3 b_ q4 (by omega) pr4 0 hD3 hE3) (by rw [ow]; exact clv_RX11_263) (hC3.1.1.1 0 (by decide)) (by decide) rfl rfl rfl (Nat.le_of_ble_eq_true rfl) (by rw [hr]; exact ⟨by decide, by decide⟩) (by rw [hr]; exact ⟨Nat.le_of_ble_eq_true rfl, Nat.le_of_ble_eq_true rfl⟩) ?_
          intro rv h5_ hp
          obtain ⟨hv, hf5, hx5_0⟩ := hp
          rw [hv]
          have hF5 := FR.tr hF3 (FR.mo (A := Xr B vq) (A' := Xw B vq) hf5 (by intro a; unfold Xr Xw; omega))
          have hC5 := hC.fr (FR.mo (A := Xw B vq) (A' := Ay B vq) hF5 (by intro a; unfold Xw Ay; omega))
          clear hv
          have po5_0 : PO h5_ B S b_ q2 := po2.fr (FR.mo (A := Xw B vq) (A' := Ay B vq) hF5 (by intro a; unfold Xw Ay; omega)) hC.2.1.2.2.2.2.2.2
          have po5_1 : PO h5_ B S b_ q4 := po4.fr (FR.mo (A := Xw B vq) (A' := Ay B vq) hF5 (by intro a; unfold Xw Ay; omega)) hC.2.1.2.2.2.2.2.2
          show AW V 0 0 h5_ 80 [(0, .ref B), (1, .int a), (2, .int (nI b_)), (3, .int x)] [.int (wtF P S (fun _ => 0) hl N.1 b_ 0)]
          have hD5 : ∀ t, t < 40 → hI h5_ (B + 21) t = dmS P S (fun _ => 0) hl (nI t) N.1 := fun t q => by rw [hx5_0 (B + 21) (by omega) (by omega)]; exact hD3 t q
          have hE5 : ∀ t, t < 40 → hI h5_ (B + 26) t = dwS P S (fun _ => 0) hl (nI t) b_ := fun t q => by rw [hx5_0 (B + 26) (by omega) (by omega)]; exact hE3 t q
          refine a_istore (L' := [(4, .int (wtF P S (fun _ => 0) hl N.1 b_ 0)), (0, .ref B), (1, .int a), (2, .int (nI b_)), (3, .int x)]) hb dX11_waits_80 (by rw [hml]; decide) rfl ?_
          refine a_iconst (v := 0) hb dX11_waits_82 (by decide) ?_
          refine a_istore (L' := [(5, .int 0), (4, .int (wtF P S (fun _ => 0) hl N.1 b_ 0)), (0, .ref B), (1, .int a), (2, .int (nI b_)), (3, .int x)]) hb dX11_waits_83 (by rw [hml]; decide) rfl ?_
          refine a_iload hb dX11_waits_85 1 rfl ?_
          refine a_istore (L' := [(6, .int (wtF P S (fun _ => 0) hl N.1 b_ 0)), (5, .int 0), (4, .int (wtF P S (fun _ => 0) hl N.1 b_ 0)), (0, .ref B), (1, .int a), (2, .int (nI b_)), (3, .int x)]) hb dX11_waits_87 (by rw [hml]; decide) rfl ?_
          refine a_iconst (v := 1) hb dX11_waits_89 (by decide) ?_
          refine a_istore (L' := [(7, .int 1), (6, .int (wtF P S (fun _ => 0) hl N.1 b_ 0)), (5, .int 0), (4, .int (wtF P S (fun _ => 0) hl N.1 b_ 0)), (0, .ref B), (1, .int a), (2, .int (nI b_)), (3, .int x)]) hb dX11_waits_90 (by rw [hml]; decide) rfl ?_
          have loop : ∀ (k i : Nat) (h1 : AH) (hFh1 : FR (Xw B vq) h h1) (ivh1 : (∀ t, t < 40 → hI h1 (B + 21) t = dmS P S (fun _ => 0) hl (nI t) N.1) ∧ ∀ t, t < 40 → hI h1 (B + 26) t = dwS P S (fun _ => 0) hl (nI t) b_), i + k = 9 → AW V 0 0 h1 92 [(0, .ref B), (1, .int a), (2, .int (nI b_)), (3, .int x), (4, .int ((wtF P S (fun _ => 0) hl N.1 b_) 0)), (5, .int ((wtS (wtF P S (fun _ => 0) hl N.1 b_) i).1)), (6, .int ((wtS (wtF P S (fun _ => 0) hl N.1 b_) i).2)), (7, .int (nI (i + 1)))] [] := by
            intro k
            induction k with
            | zero =>
              intro i h1 hFh1 ivh1 hi
              have hClh1 : CX g h1 B vq lq hl S N P := hC.fr (FR.mo (A := Xw B vq) (A' := Ay B vq) hFh1 (by intro a; unfold Xw Ay; omega))
              have polh1_0 : PO h1 B S b_ q2 := po2.fr (FR.mo (A := Xw B vq) (A' := Ay B vq) hFh1 (by intro a; unfold Xw Ay; omega)) hC.2.1.2.2.2.2.2.2
              have polh1_1 : PO h1 B S b_ q4 := po4.fr (FR.mo (A := Xw B vq) (A' := Ay B vq) hFh1 (by intro a; unfold Xw Ay; omega)) hC.2.1.2.2.2.2.2.2
              refine a_iload hb dX11_waits_92 7 rfl ?_
              refine a_bipush (v := 9) hb dX11_waits_94 (by decide) ?_
              refine a_icmp_gt hb 137 dX11_waits_96 (by decide) (fun c96 => ?_) (fun c96 => absurd ((nI_ltI (a := 9) (b := i + 1) (by omega) (by omega)).mpr (by omega)) c96)
              refine a_iload_n hb dX11_waits_137 rfl 3 rfl ?_
              refine a_if_ne hb 146 dX11_waits_138 (by decide) (fun c138 => ?_) (fun c138 => ?_)
              · refine a_iload hb dX11_waits_146 4 rfl ?_
                refine a_iload hb dX11_waits_148 6 rfl ?_
                refine a_isub hb dX11_waits_150 ?_
                exact a_ireturn (ty := .int) hb hz dX11_waits_151 hret rfl (by rw [hr]; exact Nat.le_of_ble_eq_true rfl) (by rw [hr]; exact Nat.le_of_ble_eq_true rfl) (⟨by rw [if_neg (by simpa using c5), if_neg (by simpa using c13), if_neg (by simpa using c22), if_neg c36, if_neg c138, nI_clamp (by omega), show i = 9 by omega], hFh1⟩)
              · refine a_iload hb dX11_waits_141 5 rfl ?_
                refine a_goto hb 151 dX11_waits_143 (by decide) ?_
                exact a_ireturn (ty := .int) hb hz dX11_waits_151 hret rfl (by rw [hr]; exact Nat.le_of_ble_eq_true rfl) (by rw [hr]; exact Nat.le_of_ble_eq_true rfl) (⟨by rw [if_neg (by simpa using c5), if_neg (by simpa using c13), if_neg (by simpa using c22), if_neg c36, if_pos (by simpa using c138), nI_clamp (by omega), show i = 9 by omega], hFh1⟩)
            | succ k ih =>
              intro i h1 hFh1 ivh1 hi
              have hClh1 : CX g h1 B vq lq hl S N P := hC.fr (FR.mo (A := Xw B vq) (A' := Ay B vq) hFh1 (by intro a; unfold Xw Ay; omega))
              have polh1_0 : PO h1 B S b_ q2 := po2.fr (FR.mo (A := Xw B vq) (A' := Ay B vq) hFh1 (by intro a; unfold Xw Ay; omega)) hC.2.1.2.2.2.2.2.2
              have polh1_1 : PO h1 B S b_ q4 := po4.fr (FR.mo (A := Xw B vq) (A' := Ay B vq) hFh1 (by intro a; unfold Xw Ay; omega)) hC.2.1.2.2.2.2.2.2
              refine a_iload hb dX11_waits_92 7 rfl ?_
              refine a_bipush (v := 9) hb dX11_waits_94 (by decide) ?_
              refine a_icmp_gt hb 137 dX11_waits_96 (by decide) (fun c96 => absurd c96 (fun q => absurd ((nI_ltI (a := 9) (b := i + 1) (by omega) (by omega)).mp q) (by omega))) (fun c96 => ?_)
              refine a_aload_n hb dX11_waits_99 rfl 0 rfl ?_
              refine a_aload_n hb dX11_waits_100 rfl 0 rfl ?_
              refine a_getQ (q := (B + 1)) hb dX11_waits_101 (by rw [ow]; exact fl_RX11_12_11) (hClh1.1.1.1 0 (by decide)) (hClh1.1.1.2.1 (0, 0, 1) (by decide)) ?_
              refine a_getQ (q := (B + 2)) hb dX11_waits_104 (by rw [ow]; exact fl_RX11_65_7) (hClh1.1.1.1 1 (by decide)) (hClh1.1.1.2.1 (1, 0, 2) (by decide)) ?_
              refine a_iload_n hb dX11_waits_107 rfl 2 rfl ?_
              obtain ⟨q6, hq6, po6⟩ := hC.1.ps (p := b_) (by omega)
              have hr6 : hQ h1 (B + 2) b_ = some q6 := by rw [(hFh1).2.2.1]; exact hq6
              have pr6 : PO h1 B S b_ q6 := po6.fr (FR.mo (A := Xw B vq) (A' := Ay B vq) hFh1 (by intro a; unfold Xw Ay; omega)) hC.2.1.2.2.2.2.2.2
              refine b_aaldS (j := b_) (q := q6) hb dX11_waits_108 (hClh1.1.1.1 2 (by decide)) (by decide) (by decide) (IX.n (by omega)) (by omega) hr6 ?_
              refine a_iload hb dX11_waits_109 7 rfl ?_
              refine a_callV hb dX11_waits_111 (by rw [hg]; exact x_peakWith g h1 B vq lq hl S N P hClh1 b_ q6 (by omega) pr6 (i + 1) ivh1.1 ivh1.2) (by rw [ow]; exact clv_RX11_263) (hClh1.1.1.1 0 (by decide)) (by decide) rfl rfl rfl (Nat.le_of_ble_eq_true rfl) (by rw [hr]; exact ⟨by decide, by decide⟩) (by rw [hr]; exact ⟨Nat.le_of_ble_eq_true rfl, Nat.le_of_ble_eq_true rfl⟩) ?_
              intro rv h7_ hp
              obtain ⟨hv, hf7, hx7_0⟩ := hp
              rw [hv]
              have hF7 := FR.tr hFh1 (FR.mo (A := Xr B vq) (A' := Xw B vq) hf7 (by intro a; unfold Xr Xw; omega))
              have hC7 := hC.fr (FR.mo (A := Xw B vq) (A' := Ay B vq) hF7 (by intro a; unfold Xw Ay; omega))
              clear hv
              have po7_0 : PO h7_ B S b_ q2 := po2.fr (FR.mo (A := Xw B vq) (A' := Ay B vq) hF7 (by intro a; unfold Xw Ay; omega)) hC.2.1.2.2.2.2.2.2
              have po7_1 : PO h7_ B S b_ q4 := po4.fr (FR.mo (A := Xw B vq) (A' := Ay B vq) hF7 (by intro a; unfold Xw Ay; omega)) hC.2.1.2.2.2.2.2.2
              have po7_2 : PO h7_ B S b_ q6 := po6.fr (FR.mo (A := Xw B vq) (A' := Ay B vq) hF7 (by intro a; unfold Xw Ay; omega)) hC.2.1.2.2.2.2.2.2
              show AW V 0 0 h7_ 114 [(0, .ref B), (1, .int a), (2, .int (nI b_)), (3, .int x), (4, .int ((wtF P S (fun _ => 0) hl N.1 b_) 0)), (5, .int ((wtS (wtF P S (fun _ => 0) hl N.1 b_) i).1)), (6, .int ((wtS (wtF P S (fun _ => 0) hl N.1 b_) i).2)), (7, .int (nI (i + 1)))] [.int (wtF P S (fun _ => 0) hl N.1 b_ (i + 1))]
              have hD7 : ∀ t, t < 40 → hI h7_ (B + 21) t = dmS P S (fun _ => 0) hl (nI t) N.1 := fun t q => by rw [hx7_0 (B + 21) (by omega) (by omega)]; exact ivh1.1 t q
              have hE7 : ∀ t, t < 40 → hI h7_ (B + 26) t = dwS P S (fun _ => 0) hl (nI t) b_ := fun t q => by rw [hx7_0 (B + 26) (by omega) (by omega)]; exact ivh1.2 t q
              refine a_istore (L' := [(8, .int (wtF P S (fun _ => 0) hl N.1 b_ (i + 1))), (0, .ref B), (1, .int a), (2, .int (nI b_)), (3, .int x), (4, .int ((wtF P S (fun _ => 0) hl N.1 b_) 0)), (5, .int ((wtS (wtF P S (fun _ => 0) hl N.1 b_) i).1)), (6, .int ((wtS (wtF P S (fun _ => 0) hl N.1 b_) i).2)), (7, .int (nI (i + 1)))]) hb dX11_waits_114 (by rw [hml]; decide) rfl ?_
              refine a_iload hb dX11_waits_116 0 rfl ?_
              refine a_iload hb dX11_waits_118 7 rfl ?_
              refine a_icmp_ge hb 131 dX11_waits_120 (by decide) (fun c120 => ?_) (fun c120 => ?_)
              · refine a_iinc (v := ((nI (i + 1)) + 1)) (L' := [(7, .int ((nI (i + 1)) + 1)), (8, .int (wtF P S (fun _ => 0) hl N.1 b_ (i + 1))), (0, .ref B), (1, .int a), (2, .int (nI b_)), (3, .int x), (4, .int ((wtF P S (fun _ => 0) hl N.1 b_) 0)), (5, .int ((wtS (wtF P S (fun _ => 0) hl N.1 b_) i).1)), (6, .int ((wtS (wtF P S (fun _ => 0) hl N.1 b_) i).2))]) hb dX11_waits_131 8 rfl rfl (by rw [hml]; decide) rfl ?_
                refine a_goto hb 92 dX11_waits_134 (by decide) ?_
                refine AW.sub (L' := [(0, .ref B), (1, .int a), (2, .int (nI b_)), (3, .int x), (4, .int ((wtF P S (fun _ => 0) hl N.1 b_) 0)), (5, .int ((wtS (wtF P S (fun _ => 0) hl N.1 b_) i).1)), (6, .int ((wtS (wtF P S (fun _ => 0) hl N.1 b_) i).2)), (7, .int ((nI (i + 1)) + 1))]) [2, 3, 4, 5, 6, 7, 8, 0] rfl ?_
                exact AW.eq (ih (i + 1) h7_ hF7 (⟨hD7, hE7⟩) (by omega)) rfl rfl (by first | (rw [wt_n c120, nI_1]; done) | (rw [wt_s c120, nI_1]; done)) rfl
              · refine a_iload hb dX11_waits_123 0 rfl ?_
                refine a_istore (L' := [(6, .int (wtF P S (fun _ => 0) hl N.1 b_ (i + 1))), (8, .int (wtF P S (fun _ => 0) hl N.1 b_ (i + 1))), (0, .ref B), (1, .int a), (2, .int (nI b_)), (3, .int x), (4, .int ((wtF P S (fun _ => 0) hl N.1 b_) 0)), (5, .int ((wtS (wtF P S (fun _ => 0) hl N.1 b_) i).1)), (7, .int (nI (i + 1)))]) hb dX11_waits_125 (by rw [hml]; decide) rfl ?_
                refine a_iload hb dX11_waits_127 8 rfl ?_
                refine a_istore (L' := [(5, .int (nI (i + 1))), (6, .int (wtF P S (fun _ => 0) hl N.1 b_ (i + 1))), (8, .int (wtF P S (fun _ => 0) hl N.1 b_ (i + 1))), (0, .ref B), (1, .int a), (2, .int (nI b_)), (3, .int x), (4, .int ((wtF P S (fun _ => 0) hl N.1 b_) 0)), (7, .int (nI (i + 1)))]) hb dX11_waits_129 (by rw [hml]; decide) rfl ?_
                refine a_iinc (v := ((nI (i + 1)) + 1)) (L' := [(7, .int ((nI (i + 1)) + 1)), (5, .int (nI (i + 1))), (6, .int (wtF P S (fun _ => 0) hl N.1 b_ (i + 1))), (8, .int (wtF P S (fun _ => 0) hl N.1 b_ (i + 1))), (0, .ref B), (1, .int a), (2, .int (nI b_)), (3, .int x), (4, .int ((wtF P S (fun _ => 0) hl N.1 b_) 0))]) hb dX11_waits_131 8 rfl rfl (by rw [hml]; decide) rfl ?_
                refine a_goto hb 92 dX11_waits_134 (by decide) ?_
                refine AW.sub (L' := [(0, .ref B), (1, .int a), (2, .int (nI b_)), (3, .int x), (4, .int ((wtF P S (fun _ => 0) hl N.1 b_) 0)), (5, .int (nI (i + 1))), (6, .int (wtF P S (fun _ => 0) hl N.1 b_ (i + 1))), (7, .int ((nI (i + 1)) + 1))]) [4, 5, 6, 7, 8, 1, 2, 0] rfl ?_
                exact AW.eq (ih (i + 1) h7_ hF7 (⟨hD7, hE7⟩) (by omega)) rfl rfl (by first | (rw [wt_n c120, nI_1]; done) | (rw [wt_s c120, nI_1]; done)) rfl
          refine AW.sub (L' := [(0, .ref B), (1, .int a), (2, .int (nI b_)), (3, .int x), (4, .int (wtF P S (fun _ => 0) hl N.1 b_ 0)), (5, .int 0), (6, .int (wtF P S (fun _ => 0) hl N.1 b_ 0)), (7, .int 1)]) [4, 5, 6, 7, 3, 2, 1, 0] rfl ?_
          exact AW.eq (loop 9 0 h5_ hF5 ⟨hD5, hE5⟩ (by omega)) rfl rfl (rfl) rfl
        · refine a_bipush (v := (-2)) hb dX11_waits_39 (by decide) ?_
          exact a_ireturn (ty := .int) hb hz dX11_waits_41 hret rfl (by rw [hr]; exact Nat.le_of_ble_eq_true rfl) (by rw [hr]; exact Nat.le_of_ble_eq_true rfl) (⟨(by rw [if_neg (by simp [c5]), if_neg (by simp [c13]), if_neg (by simp [c22])]; rw [if_pos (by simpa using c36)]), FR.rf⟩)
