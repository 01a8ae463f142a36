/-! ===== the model: the beat ===== -/
def Ad (B : Nat) (a : Nat) : Prop := a = B + 54 ∨ a = B + 55 ∨ a = B + 58
def Ag (B : Nat) (a : Nat) : Prop := a = B + 57
def Ab (B : Nat) (a : Nat) : Prop := a = B + 59
def Al (B : Nat) (a : Nat) : Prop := a = B + 54 ∨ a = B + 55 ∨ a = B + 57 ∨ a = B + 58 ∨ a = B + 59
theorem lc_gt {x y : Int64} : 0 < lg_cmp x y ↔ y < x := by
  unfold lg_cmp
  split
  · rename_i q; exact ⟨fun _ => q, fun _ => by decide⟩
  · rename_i q
    split
    · exact ⟨fun w => absurd w (by decide), fun w => absurd w q⟩
    · exact ⟨fun w => absurd w (by decide), fun w => absurd w q⟩
theorem lc_le {x y : Int64} : lg_cmp x y ≤ 0 ↔ ¬ y < x := by rw [← Int32.not_lt, lc_gt]
theorem lc_tri {x y : Int64} (h1 : ¬ y < x) (h2 : ¬ x = y) : x < y := by
  rw [Int64.lt_iff_toInt_lt] at *
  have : x.toInt ≠ y.toInt := fun e => h2 (Int64.toInt_inj.mp e)
  omega
theorem lc_ge {x y : Int64} : 0 ≤ lg_cmp x y ↔ ¬ x < y := by
  unfold lg_cmp
  split
  · rename_i q
    refine ⟨fun _ w => ?_, fun _ => by decide⟩
    have q' : y < x := q
    rw [Int64.lt_iff_toInt_lt] at q' w
    omega
  · rename_i q
    split
    · rename_i e; subst e; exact ⟨fun _ => q, fun _ => by decide⟩
    · rename_i e; exact ⟨fun w => absurd w (by decide), fun w => absurd (lc_tri q e) w⟩
theorem lc_lt {x y : Int64} : lg_cmp x y < 0 ↔ x < y := by rw [← Int32.not_le, lc_ge, Decidable.not_not]
theorem lc_eq {x y : Int64} : lg_cmp x y = 0 ↔ x = y := by
  unfold lg_cmp
  split
  · rename_i q
    refine ⟨fun w => absurd w (by decide), fun w => ?_⟩
    subst w; exact absurd q Int64.lt_irrefl
  · split
    · rename_i e; exact ⟨fun _ => e, fun _ => rfl⟩
    · rename_i e; exact ⟨fun w => absurd w (by decide), fun w => absurd w e⟩
def szS (v : Int64) : Int64 := if v < 0 then -v else v
def btS (mk dm : Nat → Int32) (ine : Int32) : Nat → Int64
  | 0 => 0
  | t + 1 => btS mk dm ine t + (mk t - dm t).toInt64 * 10 / ine.toInt64
def fbF (bt : Nat → Int64) (c : Int32) (i : Nat) : Nat → Int32
  | 0 => -5
  | k + 1 => if c.toInt64 < szS (bt i) then nI i else fbF bt c (i + 1) k
theorem btS_c {a a' b b' : Nat → Int32} {n : Int32} : ∀ k, (∀ t, t < k → a t = a' t) → (∀ t, t < k → b t = b' t) → btS a b n k = btS a' b' n k
  | 0, _, _ => rfl
  | k + 1, h1, h2 => by
    show btS a b n k + _ = btS a' b' n k + _
    rw [btS_c k (fun t q => h1 t (by omega)) (fun t q => h2 t (by omega)), h1 k (by omega), h2 k (by omega)]
theorem fbF_c {a a' : Nat → Int64} {c : Int32} : ∀ k i, (∀ t, t < i + k → a t = a' t) → fbF a c i k = fbF a' c i k
  | 0, _, _ => rfl
  | k + 1, i, h1 => by
    show (if _ then _ else fbF a c (i + 1) k) = (if _ then _ else fbF a' c (i + 1) k)
    rw [fbF_c k (i + 1) (fun t q => h1 t (by omega)), h1 i (by omega)]
theorem rowI {h : AH} {a i : Nat} {v : Int32} {F : Nat → Int32} (h1 : ∀ t, t < i → hI h a t = F t) (h2 : v = F i) : ∀ t, t < i + 1 → hI (setI h a i v) a t = F t := by
  intro t ht
  show u2 _ _ _ _ _ _ = _
  by_cases e : t = i
  · subst e; rw [u2_s]; exact h2
  · rw [u2_k e]; exact h1 t (by omega)
theorem rowJ {h : AH} {a i : Nat} {v : Int64} {F : Nat → Int64} (h1 : ∀ t, t < i → hJ h a t = F t) (h2 : v = F i) : ∀ t, t < i + 1 → hJ (setJ h a i v) a t = F t := by
  intro t ht
  show u2 _ _ _ _ _ _ = _
  by_cases e : t = i
  · subst e; rw [u2_s]; exact h2
  · rw [u2_k e]; exact h1 t (by omega)
theorem row0 {P : Nat → Prop} : ∀ t, t < 0 → P t := fun t q => absurd q (Nat.not_lt_zero t)
set_option maxRecDepth 100000 in
theorem m_sizeOf (g : GG) (h : AH) (v : Int64) : AM g 1 0 0 mX12_sizeOf [.long v] h (fun rv h' => rv = some (.long (szS v)) ∧ h' = h) := by
  refine AM.of [(0, .long v)] (by decide) (Nat.le_of_ble_eq_true rfl) rfl ?_
  intro V hV
  have hb : V.2.1.2.1 = cX12_sizeOf := by subst hV; rfl
  have ow : V.2.1.1.cls = RX12 := by subst hV; rfl
  have hr : V.2.2.1 = aw_rm 1 0 0 := by subst hV; rfl
  have hz : V.2.2.2 = aw_Z V.1 (fun rv h' => rv = some (.long (szS v)) ∧ h' = h) V.2.2.1 := by subst hV; rfl
  have hg : V.1 = g := by subst hV; rfl
  have hret : V.2.1.2.2.2 = (some .long) := by subst hV; rfl
  have hml : V.2.1.2.2.1 = 2 := by subst hV; rfl
  clear hV
  refine a_lload_n hb dX12_sizeOf_0 rfl 0 rfl ?_
  refine a_lconst (v := 0) hb dX12_sizeOf_1 (by decide) ?_
  refine a_lcmp hb dX12_sizeOf_2 ?_
  refine a_if_ge hb 11 dX12_sizeOf_3 (by decide) (fun c3 => ?_) (fun c3 => ?_)
  · rw [lc_ge] at c3
    refine a_lload_n hb dX12_sizeOf_11 rfl 0 rfl ?_
    exact a_lreturn hb hz dX12_sizeOf_12 hret (by rw [hr]; exact Nat.le_of_ble_eq_true rfl) (by rw [hr]; exact Nat.le_of_ble_eq_true rfl) (⟨by rw [szS]; first | rw [if_pos c3] | rw [if_neg c3], rfl⟩)
  · rw [lc_ge, Decidable.not_not] at c3
    refine a_lload_n hb dX12_sizeOf_6 rfl 0 rfl ?_
    refine a_lneg hb dX12_sizeOf_7 ?_
    refine a_goto hb 12 dX12_sizeOf_8 (by decide) ?_
    exact a_lreturn hb hz dX12_sizeOf_12 hret (by rw [hr]; exact Nat.le_of_ble_eq_true rfl) (by rw [hr]; exact Nat.le_of_ble_eq_true rfl) (⟨by rw [szS]; first | rw [if_pos c3] | rw [if_neg c3], rfl⟩)
set_option maxRecDepth 100000 in
theorem m_looksAtDemand (g : GG) (h : AH) (B : Nat) (hL : LY h B) (P : PF) (hP : PcM g B h P) (h6 : ¬ hI h (B + 52) 6 = 0) (hl : Nat) (hhl : IX (hI h (B + 52) 8) hl) (lhl : hl < 5) (np : Nat) (hnp : IX (hI h (B + 52) 0) np) (lnp : np ≤ 8) : AM g 7 0 0 mX12_looksAtDemand [.ref (B + 51)] h (fun rv h' => rv = none ∧ FR (Ad B) h h' ∧ (∀ t, t < 40 → hI h' (B + 58) t = dmS P (hI h (B + 52)) (hI h (B + 56)) hl (nI t) np)) := by
  refine AM.of [(0, .ref (B + 51))] (by decide) (Nat.le_of_ble_eq_true rfl) rfl ?_
  intro V hV
  have hb : V.2.1.2.1 = cX12_looksAtDemand := by subst hV; rfl
  have ow : V.2.1.1.cls = RX12 := by subst hV; rfl
  have hr : V.2.2.1 = aw_rm 7 0 0 := by subst hV; rfl
  have hz : V.2.2.2 = aw_Z V.1 (fun rv h' => rv = none ∧ FR (Ad B) h h' ∧ (∀ t, t < 40 → hI h' (B + 58) t = dmS P (hI h (B + 52)) (hI h (B + 56)) hl (nI t) np)) V.2.2.1 := by subst hV; rfl
  have hg : V.1 = g := by subst hV; rfl
  have hret : V.2.1.2.2.2 = none := by subst hV; rfl
  have hml : V.2.1.2.2.1 = 2 := by subst hV; rfl
  clear hV
  have loop : ∀ (k i : Nat) (h1 : AH) (hF1 : FR (Ad B) h h1) (iv : ∀ t, t < i → hI h1 (B + 58) t = dmS P (hI h (B + 52)) (hI h (B + 56)) hl (nI t) np), i + k = 40 → AW V 0 0 h1 2 [(0, .ref (B + 51)), (1, .int (nI i))] [] := by
    intro k
    induction k with
    | zero =>
      intro i h1 hF1 iv hi
      have hL0_ : LY h1 B := FR.ly hF1 hL
      have hS0_52 : hI h1 (B + 52) = hI h (B + 52) := hF1.2.2.2.2 _ (by unfold Ad; omega)
      have hS0_56 : hI h1 (B + 56) = hI h (B + 56) := hF1.2.2.2.2 _ (by unfold Ad; omega)
      refine a_iload_n hb dX12_looksAtDemand_2 rfl 1 rfl ?_
      refine a_bipush (v := 40) hb dX12_looksAtDemand_3 (by decide) ?_
      refine a_icmp_ge hb 25 dX12_looksAtDemand_5 (by decide) (fun c5 => ?_) (fun c5 => absurd (by exact nI_le (b := i) (a := 40) (by omega) (by omega)) c5)
      exact a_return hb hz dX12_looksAtDemand_25 hret (by rw [hr]; exact Nat.le_of_ble_eq_true rfl) (by rw [hr]; exact Nat.le_of_ble_eq_true rfl) (⟨rfl, hF1, by rw [show i = 40 by omega] at iv; exact iv⟩)
    | succ k ih =>
      intro i h1 hF1 iv hi
      have hL0_ : LY h1 B := FR.ly hF1 hL
      have hS0_52 : hI h1 (B + 52) = hI h (B + 52) := hF1.2.2.2.2 _ (by unfold Ad; omega)
      have hS0_56 : hI h1 (B + 56) = hI h (B + 56) := hF1.2.2.2.2 _ (by unfold Ad; omega)
      refine a_iload_n hb dX12_looksAtDemand_2 rfl 1 rfl ?_
      refine a_bipush (v := 40) hb dX12_looksAtDemand_3 (by decide) ?_
      refine a_icmp_ge hb 25 dX12_looksAtDemand_5 (by decide) (fun c5 => absurd c5 (by exact nI_ge (b := 40) (a := i) (by omega) (by omega))) (fun c5 => ?_)
      refine a_aload_n hb dX12_looksAtDemand_8 rfl 0 rfl ?_
      refine a_getQ (q := (B + 58)) hb dX12_looksAtDemand_9 (by rw [ow]; exact fl_RX12_31_12) (hL0_.1 51 (by decide)) (hL0_.2.1 (51, 13, 58) (by decide)) ?_
      refine a_iload_n hb dX12_looksAtDemand_12 rfl 1 rfl ?_
      refine a_aload_n hb dX12_looksAtDemand_13 rfl 0 rfl ?_
      refine a_iload_n hb dX12_looksAtDemand_14 rfl 1 rfl ?_
      refine a_callV hb dX12_looksAtDemand_15 (by rw [hg]; have h0 := m_demandAt g h1 B hL0_ P (hP.mv (FR.mo (A := Ad B) (A' := Ax B) hF1 (by intro a; unfold Ad Ax; omega))) (by rw [hS0_52]; exact h6) hl (by rw [hS0_52]; exact hhl) lhl np (by rw [hS0_52]; exact hnp) lnp (nI i); (try rw [hS0_52] at h0); (try rw [hS0_56] at h0); exact h0) (by rw [ow]; exact clv_RX12_156) (hL0_.1 51 (by decide)) (by decide) rfl rfl rfl (Nat.le_of_ble_eq_true rfl) (by rw [hr]; exact ⟨by decide, by decide⟩) (by rw [hr]; exact ⟨Nat.le_of_ble_eq_true rfl, Nat.le_of_ble_eq_true rfl⟩) ?_
      intro rv h1_ hp
      obtain ⟨hv, hf1⟩ := hp
      rw [hv]
      have hF1 := FR.tr hF1 (FR.mo (A := Am B) (A' := Ad B) hf1 (by intro a; unfold Am Ad; omega))
      have hL1 : LY h1_ B := FR.ly hF1 hL
      have hS1_52 : hI h1_ (B + 52) = hI h (B + 52) := hF1.2.2.2.2 _ (by unfold Ad; omega)
      have hS1_56 : hI h1_ (B + 56) = hI h (B + 56) := hF1.2.2.2.2 _ (by unfold Ad; omega)
      have hT1_58 : hI h1_ (B + 58) = hI h1 (B + 58) := hf1.2.2.2.2 _ (by unfold Am; omega)
      clear hv
      show AW V 0 0 h1_ 18 [(0, .ref (B + 51)), (1, .int (nI i))] [.int (dmS P (hI h (B + 52)) (hI h (B + 56)) hl (nI i) np), .int (nI i), .ref (B + 58)]
      refine b_iast (j := i) hb dX12_looksAtDemand_18 (hL1.1 58 (by decide)) (IX.n (by omega)) (by omega) ?_
      refine a_iinc (v := ((nI i) + 1)) (L' := [(1, .int ((nI i) + 1)), (0, .ref (B + 51))]) hb dX12_looksAtDemand_19 1 rfl rfl (by rw [hml]; decide) rfl ?_
      refine a_goto hb 2 dX12_looksAtDemand_22 (by decide) ?_
      refine AW.sub (L' := [(0, .ref (B + 51)), (1, .int ((nI i) + 1))]) [1, 0] rfl ?_
      exact AW.eq (ih (i + 1) (setI h1_ (B + 58) i (dmS P (hI h (B + 52)) (hI h (B + 56)) hl (nI i) np)) (FR.I hF1 (by unfold Ad; omega)) (rowI (by rw [hT1_58]; exact iv) rfl) (by omega)) rfl rfl (by first | (simp only [nI_1]; done) | (simp only [nI_1]; rfl)) rfl
  refine a_iconst (v := 0) hb dX12_looksAtDemand_0 (by decide) ?_
  refine a_istore_n (L' := [(1, .int 0), (0, .ref (B + 51))]) hb dX12_looksAtDemand_1 rfl (by rw [hml]; decide) rfl ?_
  refine AW.sub (L' := [(0, .ref (B + 51)), (1, .int 0)]) [1, 0] rfl ?_
  exact AW.eq (loop 40 0 h FR.rf row0 (by omega)) rfl rfl (rfl) rfl
set_option maxRecDepth 100000 in
theorem m_looksAtMade (g : GG) (h : AH) (B : Nat) (hL : LY h B) (n : Nat) (hn : IX (hI h (B + 52) 1) n) (ln : n ≤ 5) : AM g 3 0 0 mX12_looksAtMade [.ref (B + 51)] h (fun rv h' => rv = none ∧ FR (Ag B) h h' ∧ (∀ t, t < 40 → hI h' (B + 57) t = mdB (hI h (B + 52)) (-1) (nI t) n)) := by
  refine AM.of [(0, .ref (B + 51))] (by decide) (Nat.le_of_ble_eq_true rfl) rfl ?_
  intro V hV
  have hb : V.2.1.2.1 = cX12_looksAtMade := by subst hV; rfl
  have ow : V.2.1.1.cls = RX12 := by subst hV; rfl
  have hr : V.2.2.1 = aw_rm 3 0 0 := by subst hV; rfl
  have hz : V.2.2.2 = aw_Z V.1 (fun rv h' => rv = none ∧ FR (Ag B) h h' ∧ (∀ t, t < 40 → hI h' (B + 57) t = mdB (hI h (B + 52)) (-1) (nI t) n)) V.2.2.1 := by subst hV; rfl
  have hg : V.1 = g := by subst hV; rfl
  have hret : V.2.1.2.2.2 = none := by subst hV; rfl
  have hml : V.2.1.2.2.1 = 2 := by subst hV; rfl
  clear hV
  have loop : ∀ (k i : Nat) (h1 : AH) (hF1 : FR (Ag B) h h1) (iv : ∀ t, t < i → hI h1 (B + 57) t = mdB (hI h (B + 52)) (-1) (nI t) n), i + k = 40 → AW V 0 0 h1 2 [(0, .ref (B + 51)), (1, .int (nI i))] [] := by
    intro k
    induction k with
    | zero =>
      intro i h1 hF1 iv hi
      have hL0_ : LY h1 B := FR.ly hF1 hL
      have hS0_52 : hI h1 (B + 52) = hI h (B + 52) := hF1.2.2.2.2 _ (by unfold Ag; omega)
      refine a_iload_n hb dX12_looksAtMade_2 rfl 1 rfl ?_
      refine a_bipush (v := 40) hb dX12_looksAtMade_3 (by decide) ?_
      refine a_icmp_ge hb 26 dX12_looksAtMade_5 (by decide) (fun c5 => ?_) (fun c5 => absurd (by exact nI_le (b := i) (a := 40) (by omega) (by omega)) c5)
      exact a_return hb hz dX12_looksAtMade_26 hret (by rw [hr]; exact Nat.le_of_ble_eq_true rfl) (by rw [hr]; exact Nat.le_of_ble_eq_true rfl) (⟨rfl, hF1, by rw [show i = 40 by omega] at iv; exact iv⟩)
    | succ k ih =>
      intro i h1 hF1 iv hi
      have hL0_ : LY h1 B := FR.ly hF1 hL
      have hS0_52 : hI h1 (B + 52) = hI h (B + 52) := hF1.2.2.2.2 _ (by unfold Ag; omega)
      refine a_iload_n hb dX12_looksAtMade_2 rfl 1 rfl ?_
      refine a_bipush (v := 40) hb dX12_looksAtMade_3 (by decide) ?_
      refine a_icmp_ge hb 26 dX12_looksAtMade_5 (by decide) (fun c5 => absurd c5 (by exact nI_ge (b := 40) (a := i) (by omega) (by omega))) (fun c5 => ?_)
      refine a_aload_n hb dX12_looksAtMade_8 rfl 0 rfl ?_
      refine a_getQ (q := (B + 57)) hb dX12_looksAtMade_9 (by rw [ow]; exact fl_RX12_28_12) (hL0_.1 51 (by decide)) (hL0_.2.1 (51, 12, 57) (by decide)) ?_
      refine a_iload_n hb dX12_looksAtMade_12 rfl 1 rfl ?_
      refine a_aload_n hb dX12_looksAtMade_13 rfl 0 rfl ?_
      refine a_iconst (v := (-1)) hb dX12_looksAtMade_14 (by decide) ?_
      refine a_iload_n hb dX12_looksAtMade_15 rfl 1 rfl ?_
      refine a_callV hb dX12_looksAtMade_16 (by rw [hg]; have h0 := m_madeBut g h1 B hL0_ n (by rw [hS0_52]; exact hn) ln (-1) (nI i); rw [hS0_52] at h0; exact h0) (by rw [ow]; exact clv_RX12_166) (hL0_.1 51 (by decide)) (by decide) rfl rfl rfl (Nat.le_of_ble_eq_true rfl) (by rw [hr]; exact ⟨by decide, by decide⟩) (by rw [hr]; exact ⟨Nat.le_of_ble_eq_true rfl, Nat.le_of_ble_eq_true rfl⟩) ?_
      intro rv h' hp
      rw [hp.1, hp.2]
      show AW V 0 0 h1 19 [(0, .ref (B + 51)), (1, .int (nI i))] [.int (mdB (hI h (B + 52)) (-1) (nI i) n), .int (nI i), .ref (B + 57)]
      refine b_iast (j := i) hb dX12_looksAtMade_19 (hL0_.1 57 (by decide)) (IX.n (by omega)) (by omega) ?_
      refine a_iinc (v := ((nI i) + 1)) (L' := [(1, .int ((nI i) + 1)), (0, .ref (B + 51))]) hb dX12_looksAtMade_20 1 rfl rfl (by rw [hml]; decide) rfl ?_
      refine a_goto hb 2 dX12_looksAtMade_23 (by decide) ?_
      refine AW.sub (L' := [(0, .ref (B + 51)), (1, .int ((nI i) + 1))]) [1, 0] rfl ?_
      exact AW.eq (ih (i + 1) (setI h1 (B + 57) i (mdB (hI h (B + 52)) (-1) (nI i) n)) (FR.I hF1 (by unfold Ag; omega)) (rowI iv rfl) (by omega)) rfl rfl (by first | (simp only [nI_1]; done) | (simp only [nI_1]; rfl)) rfl
  refine a_iconst (v := 0) hb dX12_looksAtMade_0 (by decide) ?_
  refine a_istore_n (L' := [(1, .int 0), (0, .ref (B + 51))]) hb dX12_looksAtMade_1 rfl (by rw [hml]; decide) rfl ?_
  refine AW.sub (L' := [(0, .ref (B + 51)), (1, .int 0)]) [1, 0] rfl ?_
  exact AW.eq (loop 40 0 h FR.rf row0 (by omega)) rfl rfl (rfl) rfl
set_option maxRecDepth 100000 in
theorem m_goes (g : GG) (h : AH) (B : Nat) (hL : LY h B) (ine : Int32) (hne : ¬ ine.toInt64 = 0) : AM g 1 0 0 mX12_goes [.ref (B + 51), .int ine] h (fun rv h' => rv = none ∧ FR (Ab B) h h' ∧ (∀ t, t < 40 → hJ h' (B + 59) t = btS (hI h (B + 57)) (hI h (B + 58)) ine (t + 1))) := by
  refine AM.of [(0, .ref (B + 51)), (1, .int ine)] (by decide) (Nat.le_of_ble_eq_true rfl) rfl ?_
  intro V hV
  have hb : V.2.1.2.1 = cX12_goes := by subst hV; rfl
  have ow : V.2.1.1.cls = RX12 := by subst hV; rfl
  have hr : V.2.2.1 = aw_rm 1 0 0 := by subst hV; rfl
  have hz : V.2.2.2 = aw_Z V.1 (fun rv h' => rv = none ∧ FR (Ab B) h h' ∧ (∀ t, t < 40 → hJ h' (B + 59) t = btS (hI h (B + 57)) (hI h (B + 58)) ine (t + 1))) V.2.2.1 := by subst hV; rfl
  have hg : V.1 = g := by subst hV; rfl
  have hret : V.2.1.2.2.2 = none := by subst hV; rfl
  have hml : V.2.1.2.2.1 = 5 := by subst hV; rfl
  clear hV
  have loop : ∀ (k i : Nat) (h1 : AH) (hF1 : FR (Ab B) h h1) (iv : ∀ t, t < i → hJ h1 (B + 59) t = btS (hI h (B + 57)) (hI h (B + 58)) ine (t + 1)), i + k = 40 → AW V 0 0 h1 5 [(0, .ref (B + 51)), (1, .int ine), (2, .long (btS (hI h (B + 57)) (hI h (B + 58)) ine i)), (4, .int (nI i))] [] := by
    intro k
    induction k with
    | zero =>
      intro i h1 hF1 iv hi
      have hL0_ : LY h1 B := FR.ly hF1 hL
      have hS0_57 : hI h1 (B + 57) = hI h (B + 57) := hF1.2.2.2.2 _ (by unfold Ab; omega)
      have hS0_58 : hI h1 (B + 58) = hI h (B + 58) := hF1.2.2.2.2 _ (by unfold Ab; omega)
      refine a_iload hb dX12_goes_5 3 rfl ?_
      refine a_bipush (v := 40) hb dX12_goes_7 (by decide) ?_
      refine a_icmp_ge hb 52 dX12_goes_9 (by decide) (fun c9 => ?_) (fun c9 => absurd (by exact nI_le (b := i) (a := 40) (by omega) (by omega)) c9)
      exact a_return hb hz dX12_goes_52 hret (by rw [hr]; exact Nat.le_of_ble_eq_true rfl) (by rw [hr]; exact Nat.le_of_ble_eq_true rfl) (⟨rfl, hF1, by rw [show i = 40 by omega] at iv; exact iv⟩)
    | succ k ih =>
      intro i h1 hF1 iv hi
      have hL0_ : LY h1 B := FR.ly hF1 hL
      have hS0_57 : hI h1 (B + 57) = hI h (B + 57) := hF1.2.2.2.2 _ (by unfold Ab; omega)
      have hS0_58 : hI h1 (B + 58) = hI h (B + 58) := hF1.2.2.2.2 _ (by unfold Ab; omega)
      refine a_iload hb dX12_goes_5 3 rfl ?_
      refine a_bipush (v := 40) hb dX12_goes_7 (by decide) ?_
      refine a_icmp_ge hb 52 dX12_goes_9 (by decide) (fun c9 => absurd c9 (by exact nI_ge (b := 40) (a := i) (by omega) (by omega))) (fun c9 => ?_)
      refine a_lload_n hb dX12_goes_12 rfl 2 rfl ?_
      refine a_aload_n hb dX12_goes_13 rfl 0 rfl ?_
      refine a_getQ (q := (B + 57)) hb dX12_goes_14 (by rw [ow]; exact fl_RX12_28_12) (hL0_.1 51 (by decide)) (hL0_.2.1 (51, 12, 57) (by decide)) ?_
      refine a_iload hb dX12_goes_17 3 rfl ?_
      refine b_iald (j := i) hb dX12_goes_19 (hL0_.1 57 (by decide)) (IX.n (by omega)) (by omega) ?_
      rw [hS0_57]
      refine a_aload_n hb dX12_goes_20 rfl 0 rfl ?_
      refine a_getQ (q := (B + 58)) hb dX12_goes_21 (by rw [ow]; exact fl_RX12_31_12) (hL0_.1 51 (by decide)) (hL0_.2.1 (51, 13, 58) (by decide)) ?_
      refine a_iload hb dX12_goes_24 3 rfl ?_
      refine b_iald (j := i) hb dX12_goes_26 (hL0_.1 58 (by decide)) (IX.n (by omega)) (by omega) ?_
      rw [hS0_58]
      refine a_isub hb dX12_goes_27 ?_
      refine a_i2l hb dX12_goes_28 rfl ?_
      refine a_ldc2 (v := 10) hb dX12_goes_29 (by rw [ow]; exact kw_1275) ?_
      refine a_lmul hb dX12_goes_32 ?_
      refine a_iload_n hb dX12_goes_33 rfl 1 rfl ?_
      refine a_i2l hb dX12_goes_34 rfl ?_
      refine a_ldiv hb dX12_goes_35 hne ?_
      refine a_ladd hb dX12_goes_36 ?_
      refine a_lstore_n (L' := [(2, .long ((btS (hI h (B + 57)) (hI h (B + 58)) ine i) + (((((hI h (B + 57) i) - (hI h (B + 58) i)).toInt64) * 10) / ine.toInt64))), (0, .ref (B + 51)), (1, .int ine), (4, .int (nI i))]) hb dX12_goes_37 rfl (by rw [hml]; decide) rfl ?_
      refine a_aload_n hb dX12_goes_38 rfl 1 rfl ?_
      refine a_getQ (q := (B + 59)) hb dX12_goes_39 (by rw [ow]; exact fl_RX12_34_12) (hL0_.1 51 (by decide)) (hL0_.2.1 (51, 14, 59) (by decide)) ?_
      refine a_iload hb dX12_goes_42 3 rfl ?_
      refine a_lload_n hb dX12_goes_44 rfl 0 rfl ?_
      refine b_last (j := i) hb dX12_goes_45 (hL0_.1 59 (by decide)) (IX.n (by omega)) (by omega) ?_
      refine a_iinc (v := ((nI i) + 1)) (L' := [(4, .int ((nI i) + 1)), (2, .long ((btS (hI h (B + 57)) (hI h (B + 58)) ine i) + (((((hI h (B + 57) i) - (hI h (B + 58) i)).toInt64) * 10) / ine.toInt64))), (0, .ref (B + 51)), (1, .int ine)]) hb dX12_goes_46 3 rfl rfl (by rw [hml]; decide) rfl ?_
      refine a_goto hb 5 dX12_goes_49 (by decide) ?_
      refine AW.sub (L' := [(0, .ref (B + 51)), (1, .int ine), (2, .long ((btS (hI h (B + 57)) (hI h (B + 58)) ine i) + (((((hI h (B + 57) i) - (hI h (B + 58) i)).toInt64) * 10) / ine.toInt64))), (4, .int ((nI i) + 1))]) [2, 3, 1, 0] rfl ?_
      exact AW.eq (ih (i + 1) (setJ h1 (B + 59) i ((btS (hI h (B + 57)) (hI h (B + 58)) ine i) + (((((hI h (B + 57) i) - (hI h (B + 58) i)).toInt64) * 10) / ine.toInt64))) (FR.J hF1 (by unfold Ab; omega)) (rowJ (F := fun t => btS (hI h (B + 57)) (hI h (B + 58)) ine (t + 1)) iv rfl) (by omega)) rfl rfl (by first | (simp only [nI_1]; done) | (simp only [nI_1]; rfl)) rfl
  refine a_lconst (v := 0) hb dX12_goes_0 (by decide) ?_
  refine a_lstore_n (L' := [(2, .long 0), (0, .ref (B + 51)), (1, .int ine)]) hb dX12_goes_1 rfl (by rw [hml]; decide) rfl ?_
  refine a_iconst (v := 0) hb dX12_goes_2 (by decide) ?_
  refine a_istore (L' := [(4, .int 0), (2, .long 0), (0, .ref (B + 51)), (1, .int ine)]) hb dX12_goes_3 (by rw [hml]; decide) rfl ?_
  refine AW.sub (L' := [(0, .ref (B + 51)), (1, .int ine), (2, .long 0), (4, .int 0)]) [2, 3, 1, 0] rfl ?_
  exact AW.eq (loop 40 0 h FR.rf row0 (by omega)) rfl rfl (rfl) rfl
set_option maxRecDepth 100000 in
theorem m_firstBeyond (g : GG) (h : AH) (B : Nat) (hL : LY h B) (c : Int32) : AM g 2 0 0 mX12_firstBeyond [.ref (B + 51), .int c] h (fun rv h' => rv = some (.int (fbF (hJ h (B + 59)) c 0 40)) ∧ h' = h) := by
  refine AM.of [(0, .ref (B + 51)), (1, .int c)] (by decide) (Nat.le_of_ble_eq_true rfl) rfl ?_
  intro V hV
  have hb : V.2.1.2.1 = cX12_firstBeyond := by subst hV; rfl
  have ow : V.2.1.1.cls = RX12 := by subst hV; rfl
  have hr : V.2.2.1 = aw_rm 2 0 0 := by subst hV; rfl
  have hz : V.2.2.2 = aw_Z V.1 (fun rv h' => rv = some (.int (fbF (hJ h (B + 59)) c 0 40)) ∧ h' = h) V.2.2.1 := by subst hV; rfl
  have hg : V.1 = g := by subst hV; rfl
  have hret : V.2.1.2.2.2 = (some .int) := by subst hV; rfl
  have hml : V.2.1.2.2.1 = 3 := by subst hV; rfl
  clear hV
  have loop : ∀ (k i : Nat) (hq : fbF (hJ h (B + 59)) c i k = fbF (hJ h (B + 59)) c 0 40), i + k = 40 → AW V 0 0 h 2 [(0, .ref (B + 51)), (1, .int c), (2, .int (nI i))] [] := by
    intro k
    induction k with
    | zero =>
      intro i hq hi
      refine a_iload_n hb dX12_firstBeyond_2 rfl 2 rfl ?_
      refine a_bipush (v := 40) hb dX12_firstBeyond_3 (by decide) ?_
      refine a_icmp_ge hb 31 dX12_firstBeyond_5 (by decide) (fun c5 => ?_) (fun c5 => absurd (by exact nI_le (b := i) (a := 40) (by omega) (by omega)) c5)
      refine a_bipush (v := (-5)) hb dX12_firstBeyond_31 (by decide) ?_
      exact a_ireturn (ty := .int) hb hz dX12_firstBeyond_33 hret rfl (by rw [hr]; exact Nat.le_of_ble_eq_true rfl) (by rw [hr]; exact Nat.le_of_ble_eq_true rfl) (⟨by rw [← hq]; rfl, rfl⟩)
    | succ k ih =>
      intro i hq hi
      refine a_iload_n hb dX12_firstBeyond_2 rfl 2 rfl ?_
      refine a_bipush (v := 40) hb dX12_firstBeyond_3 (by decide) ?_
      refine a_icmp_ge hb 31 dX12_firstBeyond_5 (by decide) (fun c5 => absurd c5 (by exact nI_ge (b := 40) (a := i) (by omega) (by omega))) (fun c5 => ?_)
      refine a_aload_n hb dX12_firstBeyond_8 rfl 0 rfl ?_
      refine a_getQ (q := (B + 59)) hb dX12_firstBeyond_9 (by rw [ow]; exact fl_RX12_34_12) (hL.1 51 (by decide)) (hL.2.1 (51, 14, 59) (by decide)) ?_
      refine a_iload_n hb dX12_firstBeyond_12 rfl 2 rfl ?_
      refine b_lald (j := i) hb dX12_firstBeyond_13 (hL.1 59 (by decide)) (IX.n (by omega)) (by omega) ?_
      refine a_callS hb dX12_firstBeyond_14 (by rw [hg]; exact m_sizeOf g h (hJ h (B + 59) i)) (by rw [ow]; exact cls_RX12_171) rfl rfl (Nat.le_of_ble_eq_true rfl) (by rw [hr]; exact ⟨by decide, by decide⟩) (by rw [hr]; exact ⟨Nat.le_of_ble_eq_true rfl, Nat.le_of_ble_eq_true rfl⟩) ?_
      intro rv h' hp
      rw [hp.1, hp.2]
      show AW V 0 0 h 17 [(0, .ref (B + 51)), (1, .int c), (2, .int (nI i))] [.long (szS (hJ h (B + 59) i))]
      refine a_iload_n hb dX12_firstBeyond_17 rfl 1 rfl ?_
      refine a_i2l hb dX12_firstBeyond_18 rfl ?_
      refine a_lcmp hb dX12_firstBeyond_19 ?_
      refine a_if_le hb 25 dX12_firstBeyond_20 (by decide) (fun c20 => ?_) (fun c20 => ?_)
      · rw [lc_le] at c20
        refine a_iinc (v := ((nI i) + 1)) (L' := [(2, .int ((nI i) + 1)), (0, .ref (B + 51)), (1, .int c)]) hb dX12_firstBeyond_25 2 rfl rfl (by rw [hml]; decide) rfl ?_
        refine a_goto hb 2 dX12_firstBeyond_28 (by decide) ?_
        refine AW.sub (L' := [(0, .ref (B + 51)), (1, .int c), (2, .int ((nI i) + 1))]) [1, 2, 0] rfl ?_
        exact AW.eq (ih (i + 1) (by rw [← hq, fbF, if_neg c20]) (by omega)) rfl rfl (by first | (simp only [nI_1]; done) | (simp only [nI_1]; rfl)) rfl
      · rw [lc_le, Decidable.not_not] at c20
        refine a_iload_n hb dX12_firstBeyond_23 rfl 2 rfl ?_
        exact a_ireturn (ty := .int) hb hz dX12_firstBeyond_24 hret rfl (by rw [hr]; exact Nat.le_of_ble_eq_true rfl) (by rw [hr]; exact Nat.le_of_ble_eq_true rfl) (⟨by rw [← hq, fbF, if_pos c20], rfl⟩)
  refine a_iconst (v := 0) hb dX12_firstBeyond_0 (by decide) ?_
  refine a_istore_n (L' := [(2, .int 0), (0, .ref (B + 51)), (1, .int c)]) hb dX12_firstBeyond_1 rfl (by rw [hml]; decide) rfl ?_
  refine AW.sub (L' := [(0, .ref (B + 51)), (1, .int c), (2, .int 0)]) [1, 2, 0] rfl ?_
  exact AW.eq (loop 40 0 rfl (by omega)) rfl rfl (rfl) rfl
set_option maxRecDepth 100000 in
theorem m_looks (g : GG) (h : AH) (B : Nat) (hL : LY h B) (P : PF) (hP : PcM g B h P) (h6 : ¬ hI h (B + 52) 6 = 0) (hl : Nat) (hhl : IX (hI h (B + 52) 8) hl) (lhl : hl < 5) (np : Nat) (hnp : IX (hI h (B + 52) 0) np) (lnp : np ≤ 8) (n : Nat) (hn : IX (hI h (B + 52) 1) n) (ln : n ≤ 5) (h7 : ¬ (hI h (B + 52) 7).toInt64 = 0) : AM g 8 0 0 mX12_looks [.ref (B + 51)] h (fun rv h' => rv = none ∧ FR (Al B) h h' ∧ (∀ t, t < 40 → hI h' (B + 58) t = dmS P (hI h (B + 52)) (hI h (B + 56)) hl (nI t) np) ∧ (∀ t, t < 40 → hI h' (B + 57) t = mdB (hI h (B + 52)) (-1) (nI t) n) ∧ (∀ t, t < 40 → hJ h' (B + 59) t = btS (fun t => mdB (hI h (B + 52)) (-1) (nI t) n) (fun t => dmS P (hI h (B + 52)) (hI h (B + 56)) hl (nI t) np) (hI h (B + 52) 7) (t + 1))) := by
  refine AM.of [(0, .ref (B + 51))] (by decide) (Nat.le_of_ble_eq_true rfl) rfl ?_
  intro V hV
  have hb : V.2.1.2.1 = cX12_looks := by subst hV; rfl
  have ow : V.2.1.1.cls = RX12 := by subst hV; rfl
  have hr : V.2.2.1 = aw_rm 8 0 0 := by subst hV; rfl
  have hz : V.2.2.2 = aw_Z V.1 (fun rv h' => rv = none ∧ FR (Al B) h h' ∧ (∀ t, t < 40 → hI h' (B + 58) t = dmS P (hI h (B + 52)) (hI h (B + 56)) hl (nI t) np) ∧ (∀ t, t < 40 → hI h' (B + 57) t = mdB (hI h (B + 52)) (-1) (nI t) n) ∧ (∀ t, t < 40 → hJ h' (B + 59) t = btS (fun t => mdB (hI h (B + 52)) (-1) (nI t) n) (fun t => dmS P (hI h (B + 52)) (hI h (B + 56)) hl (nI t) np) (hI h (B + 52) 7) (t + 1))) V.2.2.1 := by subst hV; rfl
  have hg : V.1 = g := by subst hV; rfl
  have hret : V.2.1.2.2.2 = none := by subst hV; rfl
  have hml : V.2.1.2.2.1 = 1 := by subst hV; rfl
  clear hV
  refine a_aload_n hb dX12_looks_0 rfl 0 rfl ?_
  refine a_callV hb dX12_looks_1 (by rw [hg]; exact m_looksAtDemand g h B hL P (hP.mv (FR.mo (A := Al B) (A' := Ax B) FR.rf (by intro a; unfold Al Ax; omega))) h6 hl hhl lhl np hnp lnp) (by rw [ow]; exact clv_RX12_175) (hL.1 51 (by decide)) (by decide) rfl rfl rfl (Nat.le_of_ble_eq_true rfl) (by rw [hr]; exact ⟨by decide, by decide⟩) (by rw [hr]; exact ⟨Nat.le_of_ble_eq_true rfl, Nat.le_of_ble_eq_true rfl⟩) ?_
  intro rv h1_ hp
  obtain ⟨hv, hf1, hx1_0⟩ := hp
  rw [hv]
  have hF1 := FR.tr FR.rf (FR.mo (A := Ad B) (A' := Al B) hf1 (by intro a; unfold Ad Al; omega))
  have hL1 : LY h1_ B := FR.ly hF1 hL
  have hS1_52 : hI h1_ (B + 52) = hI h (B + 52) := hF1.2.2.2.2 _ (by unfold Al; omega)
  have hS1_56 : hI h1_ (B + 56) = hI h (B + 56) := hF1.2.2.2.2 _ (by unfold Al; omega)
  have hT1_57 : hI h1_ (B + 57) = hI h (B + 57) := hf1.2.2.2.2 _ (by unfold Ad; omega)
  have hT1_59 : hJ h1_ (B + 59) = hJ h (B + 59) := hf1.2.2.2.1 _ (by unfold Ad; omega)
  clear hv
  show AW V 0 0 h1_ 4 [(0, .ref (B + 51))] []
  refine a_aload_n hb dX12_looks_4 rfl 0 rfl ?_
  refine a_callV hb dX12_looks_5 (by rw [hg]; have h0 := m_looksAtMade g h1_ B hL1 n (by rw [hS1_52]; exact hn) ln; (try rw [hS1_52] at h0); (try rw [hS1_56] at h0); exact h0) (by rw [ow]; exact clv_RX12_178) (hL1.1 51 (by decide)) (by decide) rfl rfl rfl (Nat.le_of_ble_eq_true rfl) (by rw [hr]; exact ⟨by decide, by decide⟩) (by rw [hr]; exact ⟨Nat.le_of_ble_eq_true rfl, Nat.le_of_ble_eq_true rfl⟩) ?_
  intro rv h2_ hp
  obtain ⟨hv, hf2, hx2_0⟩ := hp
  rw [hv]
  have hF2 := FR.tr hF1 (FR.mo (A := Ag B) (A' := Al B) hf2 (by intro a; unfold Ag Al; omega))
  have hL2 : LY h2_ B := FR.ly hF2 hL
  have hS2_52 : hI h2_ (B + 52) = hI h (B + 52) := hF2.2.2.2.2 _ (by unfold Al; omega)
  have hS2_56 : hI h2_ (B + 56) = hI h (B + 56) := hF2.2.2.2.2 _ (by unfold Al; omega)
  have hT2_58 : hI h2_ (B + 58) = hI h1_ (B + 58) := hf2.2.2.2.2 _ (by unfold Ag; omega)
  have hT2_59 : hJ h2_ (B + 59) = hJ h1_ (B + 59) := hf2.2.2.2.1 _ (by unfold Ag; omega)
  clear hv
  show AW V 0 0 h2_ 8 [(0, .ref (B + 51))] []
  refine a_aload_n hb dX12_looks_8 rfl 0 rfl ?_
  refine a_aload_n hb dX12_looks_9 rfl 0 rfl ?_
  refine a_getQ (q := (B + 52)) hb dX12_looks_10 (by rw [ow]; exact fl_RX12_9_12) (hL2.1 51 (by decide)) (hL2.2.1 (51, 1, 52) (by decide)) ?_
  refine a_bipush (v := 7) hb dX12_looks_13 (by decide) ?_
  refine b_iald (j := 7) hb dX12_looks_15 (hL2.1 52 (by decide)) ⟨by decide, by decide⟩ (by decide) ?_
  rw [hS2_52]
  refine a_callV hb dX12_looks_16 (by rw [hg]; have h0 := m_goes g h2_ B hL2 (hI h (B + 52) 7) (by first | exact h7 | (rw [hS2_52]; exact h7)); (try rw [hS2_52] at h0); (try rw [hS2_56] at h0); exact h0) (by rw [ow]; exact clv_RX12_181) (hL2.1 51 (by decide)) (by decide) rfl rfl rfl (Nat.le_of_ble_eq_true rfl) (by rw [hr]; exact ⟨by decide, by decide⟩) (by rw [hr]; exact ⟨Nat.le_of_ble_eq_true rfl, Nat.le_of_ble_eq_true rfl⟩) ?_
  intro rv h3_ hp
  obtain ⟨hv, hf3, hx3_0⟩ := hp
  rw [hv]
  have hF3 := FR.tr hF2 (FR.mo (A := Ab B) (A' := Al B) hf3 (by intro a; unfold Ab Al; omega))
  have hL3 : LY h3_ B := FR.ly hF3 hL
  have hS3_52 : hI h3_ (B + 52) = hI h (B + 52) := hF3.2.2.2.2 _ (by unfold Al; omega)
  have hS3_56 : hI h3_ (B + 56) = hI h (B + 56) := hF3.2.2.2.2 _ (by unfold Al; omega)
  have hT3_57 : hI h3_ (B + 57) = hI h2_ (B + 57) := hf3.2.2.2.2 _ (by unfold Ab; omega)
  have hT3_58 : hI h3_ (B + 58) = hI h2_ (B + 58) := hf3.2.2.2.2 _ (by unfold Ab; omega)
  clear hv
  show AW V 0 0 h3_ 19 [(0, .ref (B + 51))] []
  exact a_return hb hz dX12_looks_19 hret (by rw [hr]; exact Nat.le_of_ble_eq_true rfl) (by rw [hr]; exact Nat.le_of_ble_eq_true rfl) (⟨rfl, hF3, fun t q => by rw [hT3_58, hT2_58]; exact hx1_0 t q, fun t q => by rw [hT3_57]; exact hx2_0 t q, fun t q => (hx3_0 t q).trans (btS_c _ (fun u r => hx2_0 u (by omega)) (fun u r => by rw [hT2_58]; exact hx1_0 u (by omega)))⟩)
