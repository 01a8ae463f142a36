/-! ===== the model: wave, inertia, pump, odds ===== -/
theorem nI_l0 {i : Nat} (h1 : 0 < i) (h2 : i < 2 ^ 31) : ¬ (nI i).toInt64 = 0 := by
  intro e
  have := congrArg Int64.toInt e
  rw [Int32.toInt_toInt64, nI_toInt h2] at this
  have e0 : (0 : Int64).toInt = 0 := by decide
  omega
def insS (mk dm : Nat → Int32) (c : Int32) (i : Nat) : Nat → Int32
  | 0 => -5
  | k + 1 => if fbF (fun t => btS mk dm (nI (i + 1)) (t + 1)) c 0 40 = -5 then nI (i + 1) else insS mk dm c (i + 1) k
theorem insS_c {mk mk' dm dm' : Nat → Int32} {c : Int32} (h1 : ∀ t, t < 40 → mk t = mk' t) (h2 : ∀ t, t < 40 → dm t = dm' t) : ∀ k i, insS mk dm c i k = insS mk' dm' c i k
  | 0, _ => rfl
  | k + 1, i => by
    show (if _ then _ else insS mk dm c (i + 1) k) = (if _ then _ else insS mk' dm' c (i + 1) k)
    rw [insS_c h1 h2 k (i + 1), fbF_c 40 0 (fun t q => btS_c (t + 1) (fun u r => h1 u (by omega)) (fun u r => h2 u (by omega)))]
/-- the demand felt m ticks later -/
def pfS (dm : Nat → Int32) (m : Nat) (t : Nat) : Int32 := if t < m then 0 else dm (t - m)
def pmS (f : Nat → Int32) : Nat → Int32 × Int32
  | 0 => (0, 0)
  | t + 1 => if t = 0 ∨ (pmS f t).2 < f t then (nI t, f t) else pmS f t
theorem pmS_c {f f' : Nat → Int32} : ∀ k, (∀ t, t < k → f t = f' t) → pmS f k = pmS f' k
  | 0, _ => rfl
  | k + 1, h => by
    show (if _ ∨ (pmS f k).2 < _ then _ else pmS f k) = (if _ ∨ (pmS f' k).2 < _ then _ else pmS f' k)
    rw [pmS_c k (fun t q => h t (by omega)), h k (by omega)]
theorem sub_ge {i p' k' : Nat} {p k : Int32} (h1 : IX p p') (h2 : IX k k') (hi : i < 2 ^ 31) (hm : p' * k' < 2 ^ 31) : 0 ≤ nI i - p * k ↔ p' * k' ≤ i := by
  have e : p * k = nI (p' * k') := by rw [h1.eq.1, h2.eq.1, pk_mul]
  rw [e, Int32.le_iff_toInt_le, Int32.toInt_sub, nI_toInt hi, nI_toInt hm]
  have e0 : (0 : Int32).toInt = 0 := by decide
  rw [e0, Int.bmod_eq_of_le (by omega) (by omega)]
  omega
def odS (S : Nat → Int32) (b : Nat) (d : Int32) : Int32 := if d = 0 then S (162 + b) else if d = 1 then S (170 + b) else 10 - S (162 + b) - S (170 + b)
def ltM (S : Nat → Int32) : Nat → Int32
  | 0 => 0
  | b + 1 => ltM S b + (if S (162 + b) < 10 then 1 else 0)
set_option maxRecDepth 100000 in
theorem m_wave (g : GG) (h : AH) (B : Nat) (hL : LY h B) (P : PF) (hP : PcM g B h P) (h6 : ¬ hI h (B + 52) 6 = 0) (hl : Nat) (hhl : IX (hI h (B + 52) 8) hl) (lhl : hl < 5) (np : Nat) (hnp : IX (hI h (B + 52) 0) np) (lnp : np ≤ 8) (n : Nat) (hn : IX (hI h (B + 52) 1) n) (ln : n ≤ 5) (h7 : ¬ (hI h (B + 52) 7).toInt64 = 0) (hla : ¬ hI h (B + 52) 8 = -1) (x : Int32) : AM g 9 0 0 mX12_wave [.ref (B + 51), .int x] h (fun rv h' => rv = some (.long (if oO x 0 2 then (-9223372036854775808) else if x = 0 then lwJ (fun t => btS (fun t => mdB (hI h (B + 52)) (-1) (nI t) n) (fun t => dmS P (hI h (B + 52)) (hI h (B + 56)) hl (nI t) np) (hI h (B + 52) 7) (t + 1)) 39 else if x = 1 then hgJ (fun t => btS (fun t => mdB (hI h (B + 52)) (-1) (nI t) n) (fun t => dmS P (hI h (B + 52)) (hI h (B + 56)) hl (nI t) np) (hI h (B + 52) 7) (t + 1)) 39 else hgJ (fun t => btS (fun t => mdB (hI h (B + 52)) (-1) (nI t) n) (fun t => dmS P (hI h (B + 52)) (hI h (B + 56)) hl (nI t) np) (hI h (B + 52) 7) (t + 1)) 39 - lwJ (fun t => btS (fun t => mdB (hI h (B + 52)) (-1) (nI t) n) (fun t => dmS P (hI h (B + 52)) (hI h (B + 56)) hl (nI t) np) (hI h (B + 52) 7) (t + 1)) 39)) ∧ FR (Al B) h h') := by
  refine AM.of [(0, .ref (B + 51)), (1, .int x)] (by decide) (Nat.le_of_ble_eq_true rfl) rfl ?_
  intro V hV
  have hb : V.2.1.2.1 = cX12_wave := by subst hV; rfl
  have ow : V.2.1.1.cls = RX12 := by subst hV; rfl
  have hr : V.2.2.1 = aw_rm 9 0 0 := by subst hV; rfl
  have hz : V.2.2.2 = aw_Z V.1 (fun rv h' => rv = some (.long (if oO x 0 2 then (-9223372036854775808) else if x = 0 then lwJ (fun t => btS (fun t => mdB (hI h (B + 52)) (-1) (nI t) n) (fun t => dmS P (hI h (B + 52)) (hI h (B + 56)) hl (nI t) np) (hI h (B + 52) 7) (t + 1)) 39 else if x = 1 then hgJ (fun t => btS (fun t => mdB (hI h (B + 52)) (-1) (nI t) n) (fun t => dmS P (hI h (B + 52)) (hI h (B + 56)) hl (nI t) np) (hI h (B + 52) 7) (t + 1)) 39 else hgJ (fun t => btS (fun t => mdB (hI h (B + 52)) (-1) (nI t) n) (fun t => dmS P (hI h (B + 52)) (hI h (B + 56)) hl (nI t) np) (hI h (B + 52) 7) (t + 1)) 39 - lwJ (fun t => btS (fun t => mdB (hI h (B + 52)) (-1) (nI t) n) (fun t => dmS P (hI h (B + 52)) (hI h (B + 56)) hl (nI t) np) (hI h (B + 52) 7) (t + 1)) 39)) ∧ FR (Al B) h h') V.2.2.1 := by subst hV; rfl
  have hg : V.1 = g := by subst hV; rfl
  have hret : V.2.1.2.2.2 = (some .long) := by subst hV; rfl
  have hml : V.2.1.2.2.1 = 7 := by subst hV; rfl
  clear hV
  refine a_aload_n hb dX12_wave_0 rfl 0 rfl ?_
  refine a_callV hb dX12_wave_1 (by rw [hg]; exact w_isLaw g h B hL) (by rw [ow]; exact clv_RX12_152) (hL.1 51 (by decide)) (by decide) rfl rfl rfl (Nat.le_of_ble_eq_true rfl) (by rw [hr]; exact ⟨by decide, by decide⟩) (by rw [hr]; exact ⟨Nat.le_of_ble_eq_true rfl, Nat.le_of_ble_eq_true rfl⟩) ?_
  intro rv h' hp
  rw [hp.1, hp.2]
  show AW V 0 0 h 4 [(0, .ref (B + 51)), (1, .int x)] [.int (b2i (!decide (hI h (B + 52) 8 = -1)))]
  refine a_if_eq hb 16 dX12_wave_4 (by decide) (fun c4 => absurd c4 (by simp [b2i, hla])) (fun c4 => ?_)
  refine a_iload_n hb dX12_wave_7 rfl 1 rfl ?_
  refine a_iconst (v := 0) hb dX12_wave_8 (by decide) ?_
  refine a_iconst (v := 2) hb dX12_wave_9 (by decide) ?_
  refine a_callS hb dX12_wave_10 (by rw [hg]; exact w_in g h x 0 2) (by rw [ow]; exact cls_RX12_48) rfl rfl (Nat.le_of_ble_eq_true rfl) (by rw [hr]; exact ⟨by decide, by decide⟩) (by rw [hr]; exact ⟨Nat.le_of_ble_eq_true rfl, Nat.le_of_ble_eq_true rfl⟩) ?_
  intro rv h' hp
  rw [hp.1, hp.2]
  show AW V 0 0 h 13 [(0, .ref (B + 51)), (1, .int x)] [.int (b2i (!oO x 0 2))]
  refine a_if_ne hb 20 dX12_wave_13 (by decide) (fun c13 => ?_) (fun c13 => ?_)
  · simp [b2i_0] at c13
    refine a_aload_n hb dX12_wave_20 rfl 0 rfl ?_
    refine a_callV hb dX12_wave_21 (by rw [hg]; exact m_looks g h B hL P (hP.mv (FR.mo (A := Al B) (A' := Ax B) FR.rf (by intro a; unfold Al Ax; omega))) h6 hl hhl lhl np hnp lnp n hn ln h7) (by rw [ow]; exact clv_RX12_186) (hL.1 51 (by decide)) (by decide) rfl rfl rfl (Nat.le_of_ble_eq_true rfl) (by rw [hr]; exact ⟨by decide, by decide⟩) (by rw [hr]; exact ⟨Nat.le_of_ble_eq_true rfl, Nat.le_of_ble_eq_true rfl⟩) ?_
    intro rv h1_ hp
    obtain ⟨hv, hf1, hx1_0, hx1_1, hx1_2⟩ := hp
    rw [hv]
    have hF1 := FR.tr FR.rf hf1
    have hL1 : LY h1_ B := FR.ly hF1 hL
    have hS1_52 : hI h1_ (B + 52) = hI h (B + 52) := hF1.2.2.2.2 _ (by unfold Al; omega)
    have hS1_56 : hI h1_ (B + 56) = hI h (B + 56) := hF1.2.2.2.2 _ (by unfold Al; omega)
    clear hv
    show AW V 0 0 h1_ 24 [(0, .ref (B + 51)), (1, .int x)] []
    refine a_aload_n hb dX12_wave_24 rfl 0 rfl ?_
    refine a_getQ (q := (B + 59)) hb dX12_wave_25 (by rw [ow]; exact fl_RX12_34_12) (hL1.1 51 (by decide)) (hL1.2.1 (51, 14, 59) (by decide)) ?_
    refine a_iconst (v := 0) hb dX12_wave_28 (by decide) ?_
    refine b_lald (j := 0) hb dX12_wave_29 (hL1.1 59 (by decide)) ⟨by decide, by decide⟩ (by decide) ?_
    refine a_lstore_n (L' := [(2, .long (hJ h1_ (B + 59) 0)), (0, .ref (B + 51)), (1, .int x)]) hb dX12_wave_30 rfl (by rw [hml]; decide) rfl ?_
    refine a_aload_n hb dX12_wave_31 rfl 1 rfl ?_
    refine a_getQ (q := (B + 59)) hb dX12_wave_32 (by rw [ow]; exact fl_RX12_34_12) (hL1.1 51 (by decide)) (hL1.2.1 (51, 14, 59) (by decide)) ?_
    refine a_iconst (v := 0) hb dX12_wave_35 (by decide) ?_
    refine b_lald (j := 0) hb dX12_wave_36 (hL1.1 59 (by decide)) ⟨by decide, by decide⟩ (by decide) ?_
    refine a_lstore (L' := [(4, .long (hJ h1_ (B + 59) 0)), (2, .long (hJ h1_ (B + 59) 0)), (0, .ref (B + 51)), (1, .int x)]) hb dX12_wave_37 (by rw [hml]; decide) rfl ?_
    refine a_iconst (v := 1) hb dX12_wave_39 (by decide) ?_
    refine a_istore (L' := [(6, .int 1), (4, .long (hJ h1_ (B + 59) 0)), (2, .long (hJ h1_ (B + 59) 0)), (0, .ref (B + 51)), (1, .int x)]) hb dX12_wave_40 (by rw [hml]; decide) rfl ?_
    have loop : ∀ (k i : Nat), i + k = 39 → AW V 0 0 h1_ 42 [(0, .ref (B + 51)), (1, .int x), (2, .long (lwJ (hJ h1_ (B + 59)) i)), (4, .long (hgJ (hJ h1_ (B + 59)) i)), (6, .int (nI (i + 1)))] [] := by
      intro k
      induction k with
      | zero =>
        intro i hi
        refine a_iload hb dX12_wave_42 4 rfl ?_
        refine a_bipush (v := 40) hb dX12_wave_44 (by decide) ?_
        refine a_icmp_ge hb 106 dX12_wave_46 (by decide) (fun c46 => ?_) (fun c46 => absurd (by exact nI_le (b := i + 1) (a := 40) (by omega) (by omega)) c46)
        refine a_iload_n hb dX12_wave_106 rfl 1 rfl ?_
        refine a_if_ne hb 114 dX12_wave_107 (by decide) (fun c107 => ?_) (fun c107 => ?_)
        · refine a_iload_n hb dX12_wave_114 rfl 1 rfl ?_
          refine a_iconst (v := 1) hb dX12_wave_115 (by decide) ?_
          refine a_icmp_ne hb 124 dX12_wave_116 (by decide) (fun c116 => ?_) (fun c116 => ?_)
          · refine a_lload hb dX12_wave_124 3 rfl ?_
            refine a_lload_n hb dX12_wave_126 rfl 2 rfl ?_
            refine a_lsub hb dX12_wave_127 ?_
            exact a_lreturn hb hz dX12_wave_128 hret (by rw [hr]; exact Nat.le_of_ble_eq_true rfl) (by rw [hr]; exact Nat.le_of_ble_eq_true rfl) (⟨by rw [if_neg (by simp [c13]), ← lwJ_c 39 (fun t q => hx1_2 t (by omega)), ← hgJ_c 39 (fun t q => hx1_2 t (by omega))]; rw [show (39 : Nat) = i by omega]; simp [*], hF1⟩)
          · refine a_lload hb dX12_wave_119 3 rfl ?_
            refine a_goto hb 128 dX12_wave_121 (by decide) ?_
            exact a_lreturn hb hz dX12_wave_128 hret (by rw [hr]; exact Nat.le_of_ble_eq_true rfl) (by rw [hr]; exact Nat.le_of_ble_eq_true rfl) (⟨by rw [if_neg (by simp [c13]), ← lwJ_c 39 (fun t q => hx1_2 t (by omega)), ← hgJ_c 39 (fun t q => hx1_2 t (by omega))]; rw [show (39 : Nat) = i by omega]; simp [*], hF1⟩)
        · refine a_lload_n hb dX12_wave_110 rfl 2 rfl ?_
          refine a_goto hb 128 dX12_wave_111 (by decide) ?_
          exact a_lreturn hb hz dX12_wave_128 hret (by rw [hr]; exact Nat.le_of_ble_eq_true rfl) (by rw [hr]; exact Nat.le_of_ble_eq_true rfl) (⟨by rw [if_neg (by simp [c13]), ← lwJ_c 39 (fun t q => hx1_2 t (by omega)), ← hgJ_c 39 (fun t q => hx1_2 t (by omega))]; rw [show (39 : Nat) = i by omega]; simp [*], hF1⟩)
      | succ k ih =>
        intro i hi
        refine a_iload hb dX12_wave_42 4 rfl ?_
        refine a_bipush (v := 40) hb dX12_wave_44 (by decide) ?_
        refine a_icmp_ge hb 106 dX12_wave_46 (by decide) (fun c46 => absurd c46 (by exact nI_ge (b := 40) (a := i + 1) (by omega) (by omega))) (fun c46 => ?_)
        refine a_aload_n hb dX12_wave_49 rfl 0 rfl ?_
        refine a_getQ (q := (B + 59)) hb dX12_wave_50 (by rw [ow]; exact fl_RX12_34_12) (hL1.1 51 (by decide)) (hL1.2.1 (51, 14, 59) (by decide)) ?_
        refine a_iload hb dX12_wave_53 4 rfl ?_
        refine b_lald (j := (i + 1)) hb dX12_wave_55 (hL1.1 59 (by decide)) (IX.n (by omega)) (by omega) ?_
        refine a_lload_n hb dX12_wave_56 rfl 2 rfl ?_
        refine a_lcmp hb dX12_wave_57 ?_
        refine a_if_ge hb 71 dX12_wave_58 (by decide) (fun c58 => ?_) (fun c58 => ?_)
        · rw [lc_ge] at c58
          refine a_lload_n hb dX12_wave_71 rfl 2 rfl ?_
          refine a_lstore_n (L' := [(2, .long (lwJ (hJ h1_ (B + 59)) i)), (0, .ref (B + 51)), (1, .int x), (4, .long (hgJ (hJ h1_ (B + 59)) i)), (6, .int (nI (i + 1)))]) hb dX12_wave_72 rfl (by rw [hml]; decide) rfl ?_
          refine a_aload_n hb dX12_wave_73 rfl 1 rfl ?_
          refine a_getQ (q := (B + 59)) hb dX12_wave_74 (by rw [ow]; exact fl_RX12_34_12) (hL1.1 51 (by decide)) (hL1.2.1 (51, 14, 59) (by decide)) ?_
          refine a_iload hb dX12_wave_77 4 rfl ?_
          refine b_lald (j := (i + 1)) hb dX12_wave_79 (hL1.1 59 (by decide)) (IX.n (by omega)) (by omega) ?_
          refine a_lload hb dX12_wave_80 3 rfl ?_
          refine a_lcmp hb dX12_wave_82 ?_
          refine a_if_le hb 96 dX12_wave_83 (by decide) (fun c83 => ?_) (fun c83 => ?_)
          · rw [lc_le] at c83
            refine a_lload hb dX12_wave_96 3 rfl ?_
            refine a_lstore (L' := [(4, .long (hgJ (hJ h1_ (B + 59)) i)), (2, .long (lwJ (hJ h1_ (B + 59)) i)), (0, .ref (B + 51)), (1, .int x), (6, .int (nI (i + 1)))]) hb dX12_wave_98 (by rw [hml]; decide) rfl ?_
            refine a_iinc (v := ((nI (i + 1)) + 1)) (L' := [(6, .int ((nI (i + 1)) + 1)), (4, .long (hgJ (hJ h1_ (B + 59)) i)), (2, .long (lwJ (hJ h1_ (B + 59)) i)), (0, .ref (B + 51)), (1, .int x)]) hb dX12_wave_100 4 rfl rfl (by rw [hml]; decide) rfl ?_
            refine a_goto hb 42 dX12_wave_103 (by decide) ?_
            refine AW.sub (L' := [(0, .ref (B + 51)), (1, .int x), (2, .long (lwJ (hJ h1_ (B + 59)) i)), (4, .long (hgJ (hJ h1_ (B + 59)) i)), (6, .int ((nI (i + 1)) + 1))]) [3, 4, 2, 1, 0] rfl ?_
            exact AW.eq (ih (i + 1) (by omega)) rfl rfl (by first | (simp only [nI_1, lwJ, hgJ, if_pos c58, if_pos c83]; done) | (simp only [nI_1, lwJ, hgJ, if_pos c58, if_neg c83]; done) | (simp only [nI_1, lwJ, hgJ, if_neg c58, if_pos c83]; done) | (simp only [nI_1, lwJ, hgJ, if_neg c58, if_neg c83]; done)) rfl
          · rw [lc_le, Decidable.not_not] at c83
            refine a_aload_n hb dX12_wave_86 rfl 1 rfl ?_
            refine a_getQ (q := (B + 59)) hb dX12_wave_87 (by rw [ow]; exact fl_RX12_34_12) (hL1.1 51 (by decide)) (hL1.2.1 (51, 14, 59) (by decide)) ?_
            refine a_iload hb dX12_wave_90 4 rfl ?_
            refine b_lald (j := (i + 1)) hb dX12_wave_92 (hL1.1 59 (by decide)) (IX.n (by omega)) (by omega) ?_
            refine a_goto hb 98 dX12_wave_93 (by decide) ?_
            refine a_lstore (L' := [(4, .long (hJ h1_ (B + 59) (i + 1))), (2, .long (lwJ (hJ h1_ (B + 59)) i)), (0, .ref (B + 51)), (1, .int x), (6, .int (nI (i + 1)))]) hb dX12_wave_98 (by rw [hml]; decide) rfl ?_
            refine a_iinc (v := ((nI (i + 1)) + 1)) (L' := [(6, .int ((nI (i + 1)) + 1)), (4, .long (hJ h1_ (B + 59) (i + 1))), (2, .long (lwJ (hJ h1_ (B + 59)) i)), (0, .ref (B + 51)), (1, .int x)]) hb dX12_wave_100 4 rfl rfl (by rw [hml]; decide) rfl ?_
            refine a_goto hb 42 dX12_wave_103 (by decide) ?_
            refine AW.sub (L' := [(0, .ref (B + 51)), (1, .int x), (2, .long (lwJ (hJ h1_ (B + 59)) i)), (4, .long (hJ h1_ (B + 59) (i + 1))), (6, .int ((nI (i + 1)) + 1))]) [3, 4, 2, 1, 0] rfl ?_
            exact AW.eq (ih (i + 1) (by omega)) rfl rfl (by first | (simp only [nI_1, lwJ, hgJ, if_pos c58, if_pos c83]; done) | (simp only [nI_1, lwJ, hgJ, if_pos c58, if_neg c83]; done) | (simp only [nI_1, lwJ, hgJ, if_neg c58, if_pos c83]; done) | (simp only [nI_1, lwJ, hgJ, if_neg c58, if_neg c83]; done)) rfl
        · rw [lc_ge, Decidable.not_not] at c58
          refine a_aload_n hb dX12_wave_61 rfl 0 rfl ?_
          refine a_getQ (q := (B + 59)) hb dX12_wave_62 (by rw [ow]; exact fl_RX12_34_12) (hL1.1 51 (by decide)) (hL1.2.1 (51, 14, 59) (by decide)) ?_
          refine a_iload hb dX12_wave_65 4 rfl ?_
          refine b_lald (j := (i + 1)) hb dX12_wave_67 (hL1.1 59 (by decide)) (IX.n (by omega)) (by omega) ?_
          refine a_goto hb 72 dX12_wave_68 (by decide) ?_
          refine a_lstore_n (L' := [(2, .long (hJ h1_ (B + 59) (i + 1))), (0, .ref (B + 51)), (1, .int x), (4, .long (hgJ (hJ h1_ (B + 59)) i)), (6, .int (nI (i + 1)))]) hb dX12_wave_72 rfl (by rw [hml]; decide) rfl ?_
          refine a_aload_n hb dX12_wave_73 rfl 1 rfl ?_
          refine a_getQ (q := (B + 59)) hb dX12_wave_74 (by rw [ow]; exact fl_RX12_34_12) (hL1.1 51 (by decide)) (hL1.2.1 (51, 14, 59) (by decide)) ?_
          refine a_iload hb dX12_wave_77 4 rfl ?_
          refine b_lald (j := (i + 1)) hb dX12_wave_79 (hL1.1 59 (by decide)) (IX.n (by omega)) (by omega) ?_
          refine a_lload hb dX12_wave_80 3 rfl ?_
          refine a_lcmp hb dX12_wave_82 ?_
          refine a_if_le hb 96 dX12_wave_83 (by decide) (fun c83 => ?_) (fun c83 => ?_)
          · rw [lc_le] at c83
            refine a_lload hb dX12_wave_96 3 rfl ?_
            refine a_lstore (L' := [(4, .long (hgJ (hJ h1_ (B + 59)) i)), (2, .long (hJ h1_ (B + 59) (i + 1))), (0, .ref (B + 51)), (1, .int x), (6, .int (nI (i + 1)))]) hb dX12_wave_98 (by rw [hml]; decide) rfl ?_
            refine a_iinc (v := ((nI (i + 1)) + 1)) (L' := [(6, .int ((nI (i + 1)) + 1)), (4, .long (hgJ (hJ h1_ (B + 59)) i)), (2, .long (hJ h1_ (B + 59) (i + 1))), (0, .ref (B + 51)), (1, .int x)]) hb dX12_wave_100 4 rfl rfl (by rw [hml]; decide) rfl ?_
            refine a_goto hb 42 dX12_wave_103 (by decide) ?_
            refine AW.sub (L' := [(0, .ref (B + 51)), (1, .int x), (2, .long (hJ h1_ (B + 59) (i + 1))), (4, .long (hgJ (hJ h1_ (B + 59)) i)), (6, .int ((nI (i + 1)) + 1))]) [3, 4, 2, 1, 0] rfl ?_
            exact AW.eq (ih (i + 1) (by omega)) rfl rfl (by first | (simp only [nI_1, lwJ, hgJ, if_pos c58, if_pos c83]; done) | (simp only [nI_1, lwJ, hgJ, if_pos c58, if_neg c83]; done) | (simp only [nI_1, lwJ, hgJ, if_neg c58, if_pos c83]; done) | (simp only [nI_1, lwJ, hgJ, if_neg c58, if_neg c83]; done)) rfl
          · rw [lc_le, Decidable.not_not] at c83
            refine a_aload_n hb dX12_wave_86 rfl 1 rfl ?_
            refine a_getQ (q := (B + 59)) hb dX12_wave_87 (by rw [ow]; exact fl_RX12_34_12) (hL1.1 51 (by decide)) (hL1.2.1 (51, 14, 59) (by decide)) ?_
            refine a_iload hb dX12_wave_90 4 rfl ?_
            refine b_lald (j := (i + 1)) hb dX12_wave_92 (hL1.1 59 (by decide)) (IX.n (by omega)) (by omega) ?_
            refine a_goto hb 98 dX12_wave_93 (by decide) ?_
            refine a_lstore (L' := [(4, .long (hJ h1_ (B + 59) (i + 1))), (2, .long (hJ h1_ (B + 59) (i + 1))), (0, .ref (B + 51)), (1, .int x), (6, .int (nI (i + 1)))]) hb dX12_wave_98 (by rw [hml]; decide) rfl ?_
            refine a_iinc (v := ((nI (i + 1)) + 1)) (L' := [(6, .int ((nI (i + 1)) + 1)), (4, .long (hJ h1_ (B + 59) (i + 1))), (2, .long (hJ h1_ (B + 59) (i + 1))), (0, .ref (B + 51)), (1, .int x)]) hb dX12_wave_100 4 rfl rfl (by rw [hml]; decide) rfl ?_
            refine a_goto hb 42 dX12_wave_103 (by decide) ?_
            refine AW.sub (L' := [(0, .ref (B + 51)), (1, .int x), (2, .long (hJ h1_ (B + 59) (i + 1))), (4, .long (hJ h1_ (B + 59) (i + 1))), (6, .int ((nI (i + 1)) + 1))]) [3, 4, 2, 1, 0] rfl ?_
            exact AW.eq (ih (i + 1) (by omega)) rfl rfl (by first | (simp only [nI_1, lwJ, hgJ, if_pos c58, if_pos c83]; done) | (simp only [nI_1, lwJ, hgJ, if_pos c58, if_neg c83]; done) | (simp only [nI_1, lwJ, hgJ, if_neg c58, if_pos c83]; done) | (simp only [nI_1, lwJ, hgJ, if_neg c58, if_neg c83]; done)) rfl
    refine AW.sub (L' := [(0, .ref (B + 51)), (1, .int x), (2, .long (hJ h1_ (B + 59) 0)), (4, .long (hJ h1_ (B + 59) 0)), (6, .int 1)]) [3, 4, 2, 1, 0] rfl ?_
    exact AW.eq (loop 39 0 (by omega)) rfl rfl (rfl) rfl
  · simp [b2i_0] at c13
    refine a_ldc2 (v := (-9223372036854775808)) hb dX12_wave_16 (by rw [ow]; exact kw_1258) ?_
    exact a_lreturn hb hz dX12_wave_19 hret (by rw [hr]; exact Nat.le_of_ble_eq_true rfl) (by rw [hr]; exact Nat.le_of_ble_eq_true rfl) (⟨by rw [if_pos (by assumption)], FR.rf⟩)
set_option maxRecDepth 100000 in
theorem m_inertia (g : GG) (h : AH) (B : Nat) (hL : LY h B) (P : PF) (hP : PcM g B h P) (h6 : ¬ hI h (B + 52) 6 = 0) (hl : Nat) (hhl : IX (hI h (B + 52) 8) hl) (lhl : hl < 5) (np : Nat) (hnp : IX (hI h (B + 52) 0) np) (lnp : np ≤ 8) (n : Nat) (hn : IX (hI h (B + 52) 1) n) (ln : n ≤ 5) (h7 : ¬ (hI h (B + 52) 7).toInt64 = 0) (hla : ¬ hI h (B + 52) 8 = -1) (c : Int32) : AM g 9 0 0 mX12_inertia [.ref (B + 51), .int c] h (fun rv h' => rv = some (.int (if oO c 0 999 then -2 else insS (fun t => mdB (hI h (B + 52)) (-1) (nI t) n) (fun t => dmS P (hI h (B + 52)) (hI h (B + 56)) hl (nI t) np) c 0 999)) ∧ FR (Al B) h h') := by
  refine AM.of [(0, .ref (B + 51)), (1, .int c)] (by decide) (Nat.le_of_ble_eq_true rfl) rfl ?_
  intro V hV
  have hb : V.2.1.2.1 = cX12_inertia := by subst hV; rfl
  have ow : V.2.1.1.cls = RX12 := by subst hV; rfl
  have hr : V.2.2.1 = aw_rm 9 0 0 := by subst hV; rfl
  have hz : V.2.2.2 = aw_Z V.1 (fun rv h' => rv = some (.int (if oO c 0 999 then -2 else insS (fun t => mdB (hI h (B + 52)) (-1) (nI t) n) (fun t => dmS P (hI h (B + 52)) (hI h (B + 56)) hl (nI t) np) c 0 999)) ∧ FR (Al B) h h') V.2.2.1 := by subst hV; rfl
  have hg : V.1 = g := by subst hV; rfl
  have hret : V.2.1.2.2.2 = (some .int) := by subst hV; rfl
  have hml : V.2.1.2.2.1 = 3 := by subst hV; rfl
  clear hV
  refine a_aload_n hb dX12_inertia_0 rfl 0 rfl ?_
  refine a_callV hb dX12_inertia_1 (by rw [hg]; exact w_isLaw g h B hL) (by rw [ow]; exact clv_RX12_152) (hL.1 51 (by decide)) (by decide) rfl rfl rfl (Nat.le_of_ble_eq_true rfl) (by rw [hr]; exact ⟨by decide, by decide⟩) (by rw [hr]; exact ⟨Nat.le_of_ble_eq_true rfl, Nat.le_of_ble_eq_true rfl⟩) ?_
  intro rv h' hp
  rw [hp.1, hp.2]
  show AW V 0 0 h 4 [(0, .ref (B + 51)), (1, .int c)] [.int (b2i (!decide (hI h (B + 52) 8 = -1)))]
  refine a_if_ne hb 9 dX12_inertia_4 (by decide) (fun c4 => ?_) (fun c4 => absurd c4 (by simp [b2i, hla]))
  refine a_iload_n hb dX12_inertia_9 rfl 1 rfl ?_
  refine a_callS hb dX12_inertia_10 (by rw [hg]; exact w_isBound g h c) (by rw [ow]; exact cls_RX12_189) rfl rfl (Nat.le_of_ble_eq_true rfl) (by rw [hr]; exact ⟨by decide, by decide⟩) (by rw [hr]; exact ⟨Nat.le_of_ble_eq_true rfl, Nat.le_of_ble_eq_true rfl⟩) ?_
  intro rv h' hp
  rw [hp.1, hp.2]
  show AW V 0 0 h 13 [(0, .ref (B + 51)), (1, .int c)] [.int (b2i (!oO c 0 999))]
  refine a_if_ne hb 19 dX12_inertia_13 (by decide) (fun c13 => ?_) (fun c13 => ?_)
  · simp [b2i_0] at c13
    refine a_aload_n hb dX12_inertia_19 rfl 0 rfl ?_
    refine a_callV hb dX12_inertia_20 (by rw [hg]; exact m_looks g h B hL P (hP.mv (FR.mo (A := Al B) (A' := Ax B) FR.rf (by intro a; unfold Al Ax; omega))) h6 hl hhl lhl np hnp lnp n hn ln h7) (by rw [ow]; exact clv_RX12_186) (hL.1 51 (by decide)) (by decide) rfl rfl rfl (Nat.le_of_ble_eq_true rfl) (by rw [hr]; exact ⟨by decide, by decide⟩) (by rw [hr]; exact ⟨Nat.le_of_ble_eq_true rfl, Nat.le_of_ble_eq_true rfl⟩) ?_
    intro rv h1_ hp
    obtain ⟨hv, hf1, hx1_0, hx1_1, hx1_2⟩ := hp
    rw [hv]
    have hF1 := FR.tr FR.rf hf1
    have hL1 : LY h1_ B := FR.ly hF1 hL
    have hS1_52 : hI h1_ (B + 52) = hI h (B + 52) := hF1.2.2.2.2 _ (by unfold Al; omega)
    have hS1_56 : hI h1_ (B + 56) = hI h (B + 56) := hF1.2.2.2.2 _ (by unfold Al; omega)
    clear hv
    show AW V 0 0 h1_ 23 [(0, .ref (B + 51)), (1, .int c)] []
    refine a_iconst (v := 1) hb dX12_inertia_23 (by decide) ?_
    refine a_istore_n (L' := [(2, .int 1), (0, .ref (B + 51)), (1, .int c)]) hb dX12_inertia_24 rfl (by rw [hml]; decide) rfl ?_
    have hFL := hF1
    have eI : insS (hI h1_ (B + 57)) (hI h1_ (B + 58)) c 0 999 = insS (fun t => mdB (hI h (B + 52)) (-1) (nI t) n) (fun t => dmS P (hI h (B + 52)) (hI h (B + 56)) hl (nI t) np) c 0 999 := insS_c hx1_1 hx1_0 999 0
    have loop : ∀ (k i : Nat) (h1 : AH) (hF1 : FR (Ab B) h1_ h1) (iv : insS (hI h1_ (B + 57)) (hI h1_ (B + 58)) c i k = insS (hI h1_ (B + 57)) (hI h1_ (B + 58)) c 0 999), i + k = 999 → AW V 0 0 h1 25 [(0, .ref (B + 51)), (1, .int c), (2, .int (nI (i + 1)))] [] := by
      intro k
      induction k with
      | zero =>
        intro i h1 hF1 iv hi
        have hL0_ : LY h1 B := FR.ly hF1 hL1
        have hS0_52 : hI h1 (B + 52) = hI h1_ (B + 52) := hF1.2.2.2.2 _ (by unfold Ab; omega)
        have hS0_57 : hI h1 (B + 57) = hI h1_ (B + 57) := hF1.2.2.2.2 _ (by unfold Ab; omega)
        have hS0_58 : hI h1 (B + 58) = hI h1_ (B + 58) := hF1.2.2.2.2 _ (by unfold Ab; omega)
        have hq := iv
        refine a_iload_n hb dX12_inertia_25 rfl 2 rfl ?_
        refine a_sipush (v := 1000) hb dX12_inertia_26 (by decide) ?_
        refine a_icmp_ge hb 55 dX12_inertia_29 (by decide) (fun c29 => ?_) (fun c29 => absurd (by exact nI_le (b := i + 1) (a := 1000) (by omega) (by omega)) c29)
        refine a_bipush (v := (-5)) hb dX12_inertia_55 (by decide) ?_
        exact a_ireturn (ty := .int) hb hz dX12_inertia_57 hret rfl (by rw [hr]; exact Nat.le_of_ble_eq_true rfl) (by rw [hr]; exact Nat.le_of_ble_eq_true rfl) (⟨by rw [if_neg (by simp [c13]), ← eI, ← hq]; rfl, (FR.tr hFL (FR.mo (A := Ab B) (A' := Al B) hF1 (by intro a; unfold Ab Al; omega)))⟩)
      | succ k ih =>
        intro i h1 hF1 iv hi
        have hL0_ : LY h1 B := FR.ly hF1 hL1
        have hS0_52 : hI h1 (B + 52) = hI h1_ (B + 52) := hF1.2.2.2.2 _ (by unfold Ab; omega)
        have hS0_57 : hI h1 (B + 57) = hI h1_ (B + 57) := hF1.2.2.2.2 _ (by unfold Ab; omega)
        have hS0_58 : hI h1 (B + 58) = hI h1_ (B + 58) := hF1.2.2.2.2 _ (by unfold Ab; omega)
        have hq := iv
        refine a_iload_n hb dX12_inertia_25 rfl 2 rfl ?_
        refine a_sipush (v := 1000) hb dX12_inertia_26 (by decide) ?_
        refine a_icmp_ge hb 55 dX12_inertia_29 (by decide) (fun c29 => absurd c29 (by exact nI_ge (b := 1000) (a := i + 1) (by omega) (by omega))) (fun c29 => ?_)
        refine a_aload_n hb dX12_inertia_32 rfl 0 rfl ?_
        refine a_iload_n hb dX12_inertia_33 rfl 2 rfl ?_
        refine a_callV hb dX12_inertia_34 (by rw [hg]; have h0 := m_goes g h1 B hL0_ (nI (i + 1)) (nI_l0 (by omega) (by omega)); (try rw [hS0_52] at h0); (try rw [hS0_57] at h0); (try rw [hS0_58] at h0); exact h0) (by rw [ow]; exact clv_RX12_181) (hL0_.1 51 (by decide)) (by decide) rfl rfl rfl (Nat.le_of_ble_eq_true rfl) (by rw [hr]; exact ⟨by decide, by decide⟩) (by rw [hr]; exact ⟨Nat.le_of_ble_eq_true rfl, Nat.le_of_ble_eq_true rfl⟩) ?_
        intro rv h2_ hp
        obtain ⟨hv, hf2, hx2_0⟩ := hp
        rw [hv]
        have hF2 := FR.tr hF1 hf2
        have hL2 : LY h2_ B := FR.ly hF2 hL1
        have hS2_52 : hI h2_ (B + 52) = hI h1_ (B + 52) := hF2.2.2.2.2 _ (by unfold Ab; omega)
        have hS2_57 : hI h2_ (B + 57) = hI h1_ (B + 57) := hF2.2.2.2.2 _ (by unfold Ab; omega)
        have hS2_58 : hI h2_ (B + 58) = hI h1_ (B + 58) := hF2.2.2.2.2 _ (by unfold Ab; omega)
        clear hv
        show AW V 0 0 h2_ 37 [(0, .ref (B + 51)), (1, .int c), (2, .int (nI (i + 1)))] []
        refine a_aload_n hb dX12_inertia_37 rfl 0 rfl ?_
        refine a_iload_n hb dX12_inertia_38 rfl 1 rfl ?_
        refine a_callV hb dX12_inertia_39 (by rw [hg]; exact m_firstBeyond g h2_ B hL2 c) (by rw [ow]; exact clv_RX12_192) (hL2.1 51 (by decide)) (by decide) rfl rfl rfl (Nat.le_of_ble_eq_true rfl) (by rw [hr]; exact ⟨by decide, by decide⟩) (by rw [hr]; exact ⟨Nat.le_of_ble_eq_true rfl, Nat.le_of_ble_eq_true rfl⟩) ?_
        intro rv h' hp
        rw [hp.1, hp.2]
        show AW V 0 0 h2_ 42 [(0, .ref (B + 51)), (1, .int c), (2, .int (nI (i + 1)))] [.int (fbF (hJ h2_ (B + 59)) c 0 40)]
        refine a_bipush (v := (-5)) hb dX12_inertia_42 (by decide) ?_
        refine a_icmp_ne hb 49 dX12_inertia_44 (by decide) (fun c44 => ?_) (fun c44 => ?_)
        · refine a_iinc (v := ((nI (i + 1)) + 1)) (L' := [(2, .int ((nI (i + 1)) + 1)), (0, .ref (B + 51)), (1, .int c)]) hb dX12_inertia_49 2 rfl rfl (by rw [hml]; decide) rfl ?_
          refine a_goto hb 25 dX12_inertia_52 (by decide) ?_
          refine AW.sub (L' := [(0, .ref (B + 51)), (1, .int c), (2, .int ((nI (i + 1)) + 1))]) [1, 2, 0] rfl ?_
          exact AW.eq (ih (i + 1) h2_ hF2 (by rw [← iv, insS, if_neg (by rw [← fbF_c 40 0 (fun t q => hx2_0 t (by omega))]; exact c44)]) (by omega)) rfl rfl (by first | (simp only [nI_1]; done) | (simp only [nI_1]; rfl)) rfl
        · refine a_iload_n hb dX12_inertia_47 rfl 2 rfl ?_
          exact a_ireturn (ty := .int) hb hz dX12_inertia_48 hret rfl (by rw [hr]; exact Nat.le_of_ble_eq_true rfl) (by rw [hr]; exact Nat.le_of_ble_eq_true rfl) (⟨by rw [if_neg (by simp [c13]), ← eI, ← hq, insS, if_pos (by rw [← fbF_c 40 0 (fun t q => hx2_0 t (by omega))]; exact c44)], (FR.tr hFL (FR.mo (A := Ab B) (A' := Al B) hF2 (by intro a; unfold Ab Al; omega)))⟩)
    refine AW.sub (L' := [(0, .ref (B + 51)), (1, .int c), (2, .int 1)]) [1, 2, 0] rfl ?_
    exact AW.eq (loop 999 0 h1_ FR.rf rfl (by omega)) rfl rfl (rfl) rfl
  · simp [b2i_0] at c13
    refine a_bipush (v := (-2)) hb dX12_inertia_16 (by decide) ?_
    exact a_ireturn (ty := .int) hb hz dX12_inertia_18 hret rfl (by rw [hr]; exact Nat.le_of_ble_eq_true rfl) (by rw [hr]; exact Nat.le_of_ble_eq_true rfl) (⟨by rw [if_pos (by assumption)], FR.rf⟩)
set_option maxRecDepth 100000 in
theorem m_pump (g : GG) (h : AH) (B : Nat) (hL : LY h B) (P : PF) (hP : PcM g B h P) (h6 : ¬ hI h (B + 52) 6 = 0) (hl : Nat) (hhl : IX (hI h (B + 52) 8) hl) (lhl : hl < 5) (np : Nat) (hnp : IX (hI h (B + 52) 0) np) (lnp : np ≤ 8) (hla : ¬ hI h (B + 52) 8 = -1) (p k0 : Int32) : AM g 8 0 0 mX12_pump [.ref (B + 51), .int p, .int k0] h (fun rv h' => rv = some (.int (if oO p 0 9 then -1 else if oO k0 0 4 then -2 else (pmS (pfS (fun t => dmS P (hI h (B + 52)) (hI h (B + 56)) hl (nI t) np) (p.toNatClampNeg * k0.toNatClampNeg)) 40).1)) ∧ FR (Ad B) h h') := by
  refine AM.of [(0, .ref (B + 51)), (1, .int p), (2, .int k0)] (by decide) (Nat.le_of_ble_eq_true rfl) rfl ?_
  intro V hV
  have hb : V.2.1.2.1 = cX12_pump := by subst hV; rfl
  have ow : V.2.1.1.cls = RX12 := by subst hV; rfl
  have hr : V.2.2.1 = aw_rm 8 0 0 := by subst hV; rfl
  have hz : V.2.2.2 = aw_Z V.1 (fun rv h' => rv = some (.int (if oO p 0 9 then -1 else if oO k0 0 4 then -2 else (pmS (pfS (fun t => dmS P (hI h (B + 52)) (hI h (B + 56)) hl (nI t) np) (p.toNatClampNeg * k0.toNatClampNeg)) 40).1)) ∧ FR (Ad B) h h') V.2.2.1 := by subst hV; rfl
  have hg : V.1 = g := by subst hV; rfl
  have hret : V.2.1.2.2.2 = (some .int) := by subst hV; rfl
  have hml : V.2.1.2.2.1 = 8 := by subst hV; rfl
  clear hV
  refine a_iload_n hb dX12_pump_0 rfl 1 rfl ?_
  refine a_iconst (v := 0) hb dX12_pump_1 (by decide) ?_
  refine a_bipush (v := 9) hb dX12_pump_2 (by decide) ?_
  refine a_callS hb dX12_pump_4 (by rw [hg]; exact w_in g h p 0 9) (by rw [ow]; exact cls_RX12_48) rfl rfl (Nat.le_of_ble_eq_true rfl) (by rw [hr]; exact ⟨by decide, by decide⟩) (by rw [hr]; exact ⟨Nat.le_of_ble_eq_true rfl, Nat.le_of_ble_eq_true rfl⟩) ?_
  intro rv h' hp
  rw [hp.1, hp.2]
  show AW V 0 0 h 7 [(0, .ref (B + 51)), (1, .int p), (2, .int k0)] [.int (b2i (!oO p 0 9))]
  refine a_if_eq hb 17 dX12_pump_7 (by decide) (fun c7 => ?_) (fun c7 => ?_)
  · simp [b2i_0] at c7
    refine a_iconst (v := (-1)) hb dX12_pump_17 (by decide) ?_
    exact a_ireturn (ty := .int) hb hz dX12_pump_18 hret rfl (by rw [hr]; exact Nat.le_of_ble_eq_true rfl) (by rw [hr]; exact Nat.le_of_ble_eq_true rfl) (⟨by first | (rw [if_pos (by assumption)]; done) | (rw [if_neg (by simp [c7]), if_pos (by assumption)]; done), FR.rf⟩)
  · simp [b2i_0] at c7
    obtain ⟨ix_p, le_p⟩ : IX p p.toNatClampNeg ∧ p.toNatClampNeg ≤ 9 := oO_le (by decide) c7
    refine a_aload_n hb dX12_pump_10 rfl 0 rfl ?_
    refine a_callV hb dX12_pump_11 (by rw [hg]; exact w_isLaw g h B hL) (by rw [ow]; exact clv_RX12_152) (hL.1 51 (by decide)) (by decide) rfl rfl rfl (Nat.le_of_ble_eq_true rfl) (by rw [hr]; exact ⟨by decide, by decide⟩) (by rw [hr]; exact ⟨Nat.le_of_ble_eq_true rfl, Nat.le_of_ble_eq_true rfl⟩) ?_
    intro rv h' hp
    rw [hp.1, hp.2]
    show AW V 0 0 h 14 [(0, .ref (B + 51)), (1, .int p), (2, .int k0)] [.int (b2i (!decide (hI h (B + 52) 8 = -1)))]
    refine a_if_ne hb 19 dX12_pump_14 (by decide) (fun c14 => ?_) (fun c14 => absurd c14 (by simp [b2i, hla]))
    refine a_iload_n hb dX12_pump_19 rfl 2 rfl ?_
    refine a_iconst (v := 0) hb dX12_pump_20 (by decide) ?_
    refine a_iconst (v := 4) hb dX12_pump_21 (by decide) ?_
    refine a_callS hb dX12_pump_22 (by rw [hg]; exact w_in g h k0 0 4) (by rw [ow]; exact cls_RX12_48) rfl rfl (Nat.le_of_ble_eq_true rfl) (by rw [hr]; exact ⟨by decide, by decide⟩) (by rw [hr]; exact ⟨Nat.le_of_ble_eq_true rfl, Nat.le_of_ble_eq_true rfl⟩) ?_
    intro rv h' hp
    rw [hp.1, hp.2]
    show AW V 0 0 h 25 [(0, .ref (B + 51)), (1, .int p), (2, .int k0)] [.int (b2i (!oO k0 0 4))]
    refine a_if_ne hb 31 dX12_pump_25 (by decide) (fun c25 => ?_) (fun c25 => ?_)
    · simp [b2i_0] at c25
      obtain ⟨ix_k0, le_k0⟩ : IX k0 k0.toNatClampNeg ∧ k0.toNatClampNeg ≤ 4 := oO_le (by decide) c25
      have hm : p.toNatClampNeg * k0.toNatClampNeg < 2 ^ 31 := Nat.lt_of_le_of_lt (Nat.mul_le_mul le_p le_k0) (by decide)
      refine a_aload_n hb dX12_pump_31 rfl 0 rfl ?_
      refine a_callV hb dX12_pump_32 (by rw [hg]; exact m_looksAtDemand g h B hL P (hP.mv (FR.mo (A := Ad B) (A' := Ax B) FR.rf (by intro a; unfold Ad Ax; omega))) h6 hl hhl lhl np hnp lnp) (by rw [ow]; exact clv_RX12_175) (hL.1 51 (by decide)) (by decide) rfl rfl rfl (Nat.le_of_ble_eq_true rfl) (by rw [hr]; exact ⟨by decide, by decide⟩) (by rw [hr]; exact ⟨Nat.le_of_ble_eq_true rfl, Nat.le_of_ble_eq_true rfl⟩) ?_
      intro rv h1_ hp
      obtain ⟨hv, hf1, hx1_0⟩ := hp
      rw [hv]
      have hF1 := FR.tr FR.rf hf1
      have hL1 : LY h1_ B := FR.ly hF1 hL
      have hS1_52 : hI h1_ (B + 52) = hI h (B + 52) := hF1.2.2.2.2 _ (by unfold Ad; omega)
      have hS1_56 : hI h1_ (B + 56) = hI h (B + 56) := hF1.2.2.2.2 _ (by unfold Ad; omega)
      clear hv
      show AW V 0 0 h1_ 35 [(0, .ref (B + 51)), (1, .int p), (2, .int k0)] []
      refine a_iconst (v := 0) hb dX12_pump_35 (by decide) ?_
      refine a_istore_n (L' := [(3, .int 0), (0, .ref (B + 51)), (1, .int p), (2, .int k0)]) hb dX12_pump_36 rfl (by rw [hml]; decide) rfl ?_
      refine a_iconst (v := 0) hb dX12_pump_37 (by decide) ?_
      refine a_istore (L' := [(4, .int 0), (3, .int 0), (0, .ref (B + 51)), (1, .int p), (2, .int k0)]) hb dX12_pump_38 (by rw [hml]; decide) rfl ?_
      refine a_iconst (v := 0) hb dX12_pump_40 (by decide) ?_
      refine a_istore (L' := [(5, .int 0), (4, .int 0), (3, .int 0), (0, .ref (B + 51)), (1, .int p), (2, .int k0)]) hb dX12_pump_41 (by rw [hml]; decide) rfl ?_
      have loop : ∀ (k i : Nat), i + k = 40 → AW V 0 0 h1_ 43 [(0, .ref (B + 51)), (1, .int p), (2, .int k0), (3, .int ((pmS (pfS (hI h1_ (B + 58)) (p.toNatClampNeg * k0.toNatClampNeg)) i).1)), (4, .int ((pmS (pfS (hI h1_ (B + 58)) (p.toNatClampNeg * k0.toNatClampNeg)) i).2)), (5, .int (nI i))] [] := by
        intro k
        induction k with
        | zero =>
          intro i hi
          refine a_iload hb dX12_pump_43 5 rfl ?_
          refine a_bipush (v := 40) hb dX12_pump_45 (by decide) ?_
          refine a_icmp_ge hb 122 dX12_pump_47 (by decide) (fun c47 => ?_) (fun c47 => absurd (by exact nI_le (b := i) (a := 40) (by omega) (by omega)) c47)
          refine a_iload_n hb dX12_pump_122 rfl 3 rfl ?_
          exact a_ireturn (ty := .int) hb hz dX12_pump_123 hret rfl (by rw [hr]; exact Nat.le_of_ble_eq_true rfl) (by rw [hr]; exact Nat.le_of_ble_eq_true rfl) (⟨by rw [if_neg (by simp [c7]), if_neg (by simp [c25]), ← pmS_c 40 (f := (pfS (hI h1_ (B + 58)) (p.toNatClampNeg * k0.toNatClampNeg))) (fun t q => by unfold pfS; split; rfl; exact hx1_0 _ (by omega)), show i = 40 by omega], hF1⟩)
        | succ k ih =>
          intro i hi
          refine a_iload hb dX12_pump_43 5 rfl ?_
          refine a_bipush (v := 40) hb dX12_pump_45 (by decide) ?_
          refine a_icmp_ge hb 122 dX12_pump_47 (by decide) (fun c47 => absurd c47 (by exact nI_ge (b := 40) (a := i) (by omega) (by omega))) (fun c47 => ?_)
          refine a_iload hb dX12_pump_50 5 rfl ?_
          refine a_iload_n hb dX12_pump_52 rfl 1 rfl ?_
          refine a_iload_n hb dX12_pump_53 rfl 2 rfl ?_
          refine a_imul hb dX12_pump_54 ?_
          refine a_isub hb dX12_pump_55 ?_
          refine a_istore (L' := [(6, .int ((nI i) - (p * k0))), (0, .ref (B + 51)), (1, .int p), (2, .int k0), (3, .int ((pmS (pfS (hI h1_ (B + 58)) (p.toNatClampNeg * k0.toNatClampNeg)) i).1)), (4, .int ((pmS (pfS (hI h1_ (B + 58)) (p.toNatClampNeg * k0.toNatClampNeg)) i).2)), (5, .int (nI i))]) hb dX12_pump_56 (by rw [hml]; decide) rfl ?_
          refine a_iload hb dX12_pump_58 0 rfl ?_
          refine a_if_ge hb 67 dX12_pump_60 (by decide) (fun c60 => ?_) (fun c60 => ?_)
          · have c60' := Int32.not_lt.mpr c60
            have hge : p.toNatClampNeg * k0.toNatClampNeg ≤ i := (sub_ge ix_p ix_k0 (by omega) hm).mp c60
            have fv : (pfS (hI h1_ (B + 58)) (p.toNatClampNeg * k0.toNatClampNeg)) i = hI h1_ (B + 58) (i - p.toNatClampNeg * k0.toNatClampNeg) := if_neg (by omega)
            refine a_aload_n hb dX12_pump_67 rfl 1 rfl ?_
            refine a_getQ (q := (B + 58)) hb dX12_pump_68 (by rw [ow]; exact fl_RX12_31_12) (hL1.1 51 (by decide)) (hL1.2.1 (51, 13, 58) (by decide)) ?_
            refine a_iload hb dX12_pump_71 0 rfl ?_
            refine b_iald (j := (i - p.toNatClampNeg * k0.toNatClampNeg)) hb dX12_pump_73 (hL1.1 58 (by decide)) (IX.sub (IX.n (by omega)) (IX.mul ix_p ix_k0 hm) hge) (by omega) ?_
            refine a_istore (L' := [(7, .int (hI h1_ (B + 58) (i - p.toNatClampNeg * k0.toNatClampNeg))), (6, .int ((nI i) - (p * k0))), (0, .ref (B + 51)), (1, .int p), (2, .int k0), (3, .int ((pmS (pfS (hI h1_ (B + 58)) (p.toNatClampNeg * k0.toNatClampNeg)) i).1)), (4, .int ((pmS (pfS (hI h1_ (B + 58)) (p.toNatClampNeg * k0.toNatClampNeg)) i).2)), (5, .int (nI i))]) hb dX12_pump_74 (by rw [hml]; decide) rfl ?_
            refine a_iload hb dX12_pump_76 7 rfl ?_
            refine a_if_eq hb 88 dX12_pump_78 (by decide) (fun c78 => ?_) (fun c78 => ?_)
            · have e0 : i = 0 := by have := congrArg Int32.toInt c78; rw [nI_toInt (by omega)] at this; have z0 : (0 : Int32).toInt = 0 := (by decide); omega
              have yy : i = 0 ∨ (pmS (pfS (hI h1_ (B + 58)) (p.toNatClampNeg * k0.toNatClampNeg)) i).2 < (pfS (hI h1_ (B + 58)) (p.toNatClampNeg * k0.toNatClampNeg)) i := Or.inl e0
              refine a_iload hb dX12_pump_88 7 rfl ?_
              refine a_goto hb 94 dX12_pump_90 (by decide) ?_
              refine a_istore_n (L' := [(3, .int (nI i)), (7, .int (hI h1_ (B + 58) (i - p.toNatClampNeg * k0.toNatClampNeg))), (6, .int ((nI i) - (p * k0))), (0, .ref (B + 51)), (1, .int p), (2, .int k0), (4, .int ((pmS (pfS (hI h1_ (B + 58)) (p.toNatClampNeg * k0.toNatClampNeg)) i).2)), (5, .int (nI i))]) hb dX12_pump_94 rfl (by rw [hml]; decide) rfl ?_
              refine a_iload hb dX12_pump_95 7 rfl ?_
              refine a_if_eq hb 107 dX12_pump_97 (by decide) (fun c97 => ?_) (fun c97 => absurd (c78) c97)
              refine a_iload hb dX12_pump_107 1 rfl ?_
              refine a_goto hb 114 dX12_pump_109 (by decide) ?_
              refine a_istore (L' := [(4, .int (hI h1_ (B + 58) (i - p.toNatClampNeg * k0.toNatClampNeg))), (3, .int (nI i)), (7, .int (hI h1_ (B + 58) (i - p.toNatClampNeg * k0.toNatClampNeg))), (6, .int ((nI i) - (p * k0))), (0, .ref (B + 51)), (1, .int p), (2, .int k0), (5, .int (nI i))]) hb dX12_pump_114 (by rw [hml]; decide) rfl ?_
              refine a_iinc (v := ((nI i) + 1)) (L' := [(5, .int ((nI i) + 1)), (4, .int (hI h1_ (B + 58) (i - p.toNatClampNeg * k0.toNatClampNeg))), (3, .int (nI i)), (7, .int (hI h1_ (B + 58) (i - p.toNatClampNeg * k0.toNatClampNeg))), (6, .int ((nI i) - (p * k0))), (0, .ref (B + 51)), (1, .int p), (2, .int k0)]) hb dX12_pump_116 7 rfl rfl (by rw [hml]; decide) rfl ?_
              refine a_goto hb 43 dX12_pump_119 (by decide) ?_
              refine AW.sub (L' := [(0, .ref (B + 51)), (1, .int p), (2, .int k0), (3, .int (nI i)), (4, .int (hI h1_ (B + 58) (i - p.toNatClampNeg * k0.toNatClampNeg))), (5, .int ((nI i) + 1))]) [5, 6, 7, 2, 1, 0] rfl ?_
              exact AW.eq (ih (i + 1) (by omega)) rfl rfl (by first | (simp only [nI_1, pmS, if_pos yy]; simp only [fv]; done) | (simp only [nI_1, pmS, if_neg nn]; done)) rfl
            · have n0 : ¬ i = 0 := fun q => c78 (by subst q; rfl)
              refine a_iload hb dX12_pump_81 0 rfl ?_
              refine a_iload hb dX12_pump_83 6 rfl ?_
              refine a_icmp_le hb 93 dX12_pump_85 (by decide) (fun c85 => ?_) (fun c85 => ?_)
              · have c85' := Int32.not_lt.mpr c85
                have nn : ¬ (i = 0 ∨ (pmS (pfS (hI h1_ (B + 58)) (p.toNatClampNeg * k0.toNatClampNeg)) i).2 < (pfS (hI h1_ (B + 58)) (p.toNatClampNeg * k0.toNatClampNeg)) i) := by rw [fv]; rintro (e | e); exact n0 e; exact c85' e
                refine a_iload_n hb dX12_pump_93 rfl 5 rfl ?_
                refine a_istore_n (L' := [(3, .int ((pmS (pfS (hI h1_ (B + 58)) (p.toNatClampNeg * k0.toNatClampNeg)) i).1)), (7, .int (hI h1_ (B + 58) (i - p.toNatClampNeg * k0.toNatClampNeg))), (6, .int ((nI i) - (p * k0))), (0, .ref (B + 51)), (1, .int p), (2, .int k0), (4, .int ((pmS (pfS (hI h1_ (B + 58)) (p.toNatClampNeg * k0.toNatClampNeg)) i).2)), (5, .int (nI i))]) hb dX12_pump_94 rfl (by rw [hml]; decide) rfl ?_
                refine a_iload hb dX12_pump_95 7 rfl ?_
                refine a_if_eq hb 107 dX12_pump_97 (by decide) (fun c97 => absurd c97 (c78)) (fun c97 => ?_)
                refine a_iload hb dX12_pump_100 1 rfl ?_
                refine a_iload hb dX12_pump_102 6 rfl ?_
                refine a_icmp_le hb 112 dX12_pump_104 (by decide) (fun c104 => ?_) (fun c104 => absurd (c85) c104)
                refine a_iload hb dX12_pump_112 6 rfl ?_
                refine a_istore (L' := [(4, .int ((pmS (pfS (hI h1_ (B + 58)) (p.toNatClampNeg * k0.toNatClampNeg)) i).2)), (3, .int ((pmS (pfS (hI h1_ (B + 58)) (p.toNatClampNeg * k0.toNatClampNeg)) i).1)), (7, .int (hI h1_ (B + 58) (i - p.toNatClampNeg * k0.toNatClampNeg))), (6, .int ((nI i) - (p * k0))), (0, .ref (B + 51)), (1, .int p), (2, .int k0), (5, .int (nI i))]) hb dX12_pump_114 (by rw [hml]; decide) rfl ?_
                refine a_iinc (v := ((nI i) + 1)) (L' := [(5, .int ((nI i) + 1)), (4, .int ((pmS (pfS (hI h1_ (B + 58)) (p.toNatClampNeg * k0.toNatClampNeg)) i).2)), (3, .int ((pmS (pfS (hI h1_ (B + 58)) (p.toNatClampNeg * k0.toNatClampNeg)) i).1)), (7, .int (hI h1_ (B + 58) (i - p.toNatClampNeg * k0.toNatClampNeg))), (6, .int ((nI i) - (p * k0))), (0, .ref (B + 51)), (1, .int p), (2, .int k0)]) hb dX12_pump_116 7 rfl rfl (by rw [hml]; decide) rfl ?_
                refine a_goto hb 43 dX12_pump_119 (by decide) ?_
                refine AW.sub (L' := [(0, .ref (B + 51)), (1, .int p), (2, .int k0), (3, .int ((pmS (pfS (hI h1_ (B + 58)) (p.toNatClampNeg * k0.toNatClampNeg)) i).1)), (4, .int ((pmS (pfS (hI h1_ (B + 58)) (p.toNatClampNeg * k0.toNatClampNeg)) i).2)), (5, .int ((nI i) + 1))]) [5, 6, 7, 2, 1, 0] rfl ?_
                exact AW.eq (ih (i + 1) (by omega)) rfl rfl (by first | (simp only [nI_1, pmS, if_pos yy]; simp only [fv]; done) | (simp only [nI_1, pmS, if_neg nn]; done)) rfl
              · have c85' := Int32.not_le.mp c85
                have yy : i = 0 ∨ (pmS (pfS (hI h1_ (B + 58)) (p.toNatClampNeg * k0.toNatClampNeg)) i).2 < (pfS (hI h1_ (B + 58)) (p.toNatClampNeg * k0.toNatClampNeg)) i := Or.inr (by rw [fv]; exact c85')
                refine a_iload hb dX12_pump_88 7 rfl ?_
                refine a_goto hb 94 dX12_pump_90 (by decide) ?_
                refine a_istore_n (L' := [(3, .int (nI i)), (7, .int (hI h1_ (B + 58) (i - p.toNatClampNeg * k0.toNatClampNeg))), (6, .int ((nI i) - (p * k0))), (0, .ref (B + 51)), (1, .int p), (2, .int k0), (4, .int ((pmS (pfS (hI h1_ (B + 58)) (p.toNatClampNeg * k0.toNatClampNeg)) i).2)), (5, .int (nI i))]) hb dX12_pump_94 rfl (by rw [hml]; decide) rfl ?_
                refine a_iload hb dX12_pump_95 7 rfl ?_
                refine a_if_eq hb 107 dX12_pump_97 (by decide) (fun c97 => absurd c97 (c78)) (fun c97 => ?_)
                refine a_iload hb dX12_pump_100 1 rfl ?_
                refine a_iload hb dX12_pump_102 6 rfl ?_
                refine a_icmp_le hb 112 dX12_pump_104 (by decide) (fun c104 => absurd c104 (c85)) (fun c104 => ?_)
                refine a_iload hb dX12_pump_107 1 rfl ?_
                refine a_goto hb 114 dX12_pump_109 (by decide) ?_
                refine a_istore (L' := [(4, .int (hI h1_ (B + 58) (i - p.toNatClampNeg * k0.toNatClampNeg))), (3, .int (nI i)), (7, .int (hI h1_ (B + 58) (i - p.toNatClampNeg * k0.toNatClampNeg))), (6, .int ((nI i) - (p * k0))), (0, .ref (B + 51)), (1, .int p), (2, .int k0), (5, .int (nI i))]) hb dX12_pump_114 (by rw [hml]; decide) rfl ?_
                refine a_iinc (v := ((nI i) + 1)) (L' := [(5, .int ((nI i) + 1)), (4, .int (hI h1_ (B + 58) (i - p.toNatClampNeg * k0.toNatClampNeg))), (3, .int (nI i)), (7, .int (hI h1_ (B + 58) (i - p.toNatClampNeg * k0.toNatClampNeg))), (6, .int ((nI i) - (p * k0))), (0, .ref (B + 51)), (1, .int p), (2, .int k0)]) hb dX12_pump_116 7 rfl rfl (by rw [hml]; decide) rfl ?_
                refine a_goto hb 43 dX12_pump_119 (by decide) ?_
                refine AW.sub (L' := [(0, .ref (B + 51)), (1, .int p), (2, .int k0), (3, .int (nI i)), (4, .int (hI h1_ (B + 58) (i - p.toNatClampNeg * k0.toNatClampNeg))), (5, .int ((nI i) + 1))]) [5, 6, 7, 2, 1, 0] rfl ?_
                exact AW.eq (ih (i + 1) (by omega)) rfl rfl (by first | (simp only [nI_1, pmS, if_pos yy]; simp only [fv]; done) | (simp only [nI_1, pmS, if_neg nn]; done)) rfl
          · have c60' := Int32.not_le.mp c60
            have hlt : i < p.toNatClampNeg * k0.toNatClampNeg := Nat.not_le.mp (fun q => c60 ((sub_ge ix_p ix_k0 (by omega) hm).mpr q))
            have fv : (pfS (hI h1_ (B + 58)) (p.toNatClampNeg * k0.toNatClampNeg)) i = 0 := if_pos hlt
            refine a_iconst (v := 0) hb dX12_pump_63 (by decide) ?_
            refine a_goto hb 74 dX12_pump_64 (by decide) ?_
            refine a_istore (L' := [(7, .int 0), (6, .int ((nI i) - (p * k0))), (0, .ref (B + 51)), (1, .int p), (2, .int k0), (3, .int ((pmS (pfS (hI h1_ (B + 58)) (p.toNatClampNeg * k0.toNatClampNeg)) i).1)), (4, .int ((pmS (pfS (hI h1_ (B + 58)) (p.toNatClampNeg * k0.toNatClampNeg)) i).2)), (5, .int (nI i))]) hb dX12_pump_74 (by rw [hml]; decide) rfl ?_
            refine a_iload hb dX12_pump_76 7 rfl ?_
            refine a_if_eq hb 88 dX12_pump_78 (by decide) (fun c78 => ?_) (fun c78 => ?_)
            · have e0 : i = 0 := by have := congrArg Int32.toInt c78; rw [nI_toInt (by omega)] at this; have z0 : (0 : Int32).toInt = 0 := (by decide); omega
              have yy : i = 0 ∨ (pmS (pfS (hI h1_ (B + 58)) (p.toNatClampNeg * k0.toNatClampNeg)) i).2 < (pfS (hI h1_ (B + 58)) (p.toNatClampNeg * k0.toNatClampNeg)) i := Or.inl e0
              refine a_iload hb dX12_pump_88 7 rfl ?_
              refine a_goto hb 94 dX12_pump_90 (by decide) ?_
              refine a_istore_n (L' := [(3, .int (nI i)), (7, .int 0), (6, .int ((nI i) - (p * k0))), (0, .ref (B + 51)), (1, .int p), (2, .int k0), (4, .int ((pmS (pfS (hI h1_ (B + 58)) (p.toNatClampNeg * k0.toNatClampNeg)) i).2)), (5, .int (nI i))]) hb dX12_pump_94 rfl (by rw [hml]; decide) rfl ?_
              refine a_iload hb dX12_pump_95 7 rfl ?_
              refine a_if_eq hb 107 dX12_pump_97 (by decide) (fun c97 => ?_) (fun c97 => absurd (c78) c97)
              refine a_iload hb dX12_pump_107 1 rfl ?_
              refine a_goto hb 114 dX12_pump_109 (by decide) ?_
              refine a_istore (L' := [(4, .int 0), (3, .int (nI i)), (7, .int 0), (6, .int ((nI i) - (p * k0))), (0, .ref (B + 51)), (1, .int p), (2, .int k0), (5, .int (nI i))]) hb dX12_pump_114 (by rw [hml]; decide) rfl ?_
              refine a_iinc (v := ((nI i) + 1)) (L' := [(5, .int ((nI i) + 1)), (4, .int 0), (3, .int (nI i)), (7, .int 0), (6, .int ((nI i) - (p * k0))), (0, .ref (B + 51)), (1, .int p), (2, .int k0)]) hb dX12_pump_116 7 rfl rfl (by rw [hml]; decide) rfl ?_
              refine a_goto hb 43 dX12_pump_119 (by decide) ?_
              refine AW.sub (L' := [(0, .ref (B + 51)), (1, .int p), (2, .int k0), (3, .int (nI i)), (4, .int 0), (5, .int ((nI i) + 1))]) [5, 6, 7, 2, 1, 0] rfl ?_
              exact AW.eq (ih (i + 1) (by omega)) rfl rfl (by first | (simp only [nI_1, pmS, if_pos yy]; simp only [fv]; done) | (simp only [nI_1, pmS, if_neg nn]; done)) rfl
            · have n0 : ¬ i = 0 := fun q => c78 (by subst q; rfl)
              refine a_iload hb dX12_pump_81 0 rfl ?_
              refine a_iload hb dX12_pump_83 6 rfl ?_
              refine a_icmp_le hb 93 dX12_pump_85 (by decide) (fun c85 => ?_) (fun c85 => ?_)
              · have c85' := Int32.not_lt.mpr c85
                have nn : ¬ (i = 0 ∨ (pmS (pfS (hI h1_ (B + 58)) (p.toNatClampNeg * k0.toNatClampNeg)) i).2 < (pfS (hI h1_ (B + 58)) (p.toNatClampNeg * k0.toNatClampNeg)) i) := by rw [fv]; rintro (e | e); exact n0 e; exact c85' e
                refine a_iload_n hb dX12_pump_93 rfl 5 rfl ?_
                refine a_istore_n (L' := [(3, .int ((pmS (pfS (hI h1_ (B + 58)) (p.toNatClampNeg * k0.toNatClampNeg)) i).1)), (7, .int 0), (6, .int ((nI i) - (p * k0))), (0, .ref (B + 51)), (1, .int p), (2, .int k0), (4, .int ((pmS (pfS (hI h1_ (B + 58)) (p.toNatClampNeg * k0.toNatClampNeg)) i).2)), (5, .int (nI i))]) hb dX12_pump_94 rfl (by rw [hml]; decide) rfl ?_
                refine a_iload hb dX12_pump_95 7 rfl ?_
                refine a_if_eq hb 107 dX12_pump_97 (by decide) (fun c97 => absurd c97 (c78)) (fun c97 => ?_)
                refine a_iload hb dX12_pump_100 1 rfl ?_
                refine a_iload hb dX12_pump_102 6 rfl ?_
                refine a_icmp_le hb 112 dX12_pump_104 (by decide) (fun c104 => ?_) (fun c104 => absurd (c85) c104)
                refine a_iload hb dX12_pump_112 6 rfl ?_
                refine a_istore (L' := [(4, .int ((pmS (pfS (hI h1_ (B + 58)) (p.toNatClampNeg * k0.toNatClampNeg)) i).2)), (3, .int ((pmS (pfS (hI h1_ (B + 58)) (p.toNatClampNeg * k0.toNatClampNeg)) i).1)), (7, .int 0), (6, .int ((nI i) - (p * k0))), (0, .ref (B + 51)), (1, .int p), (2, .int k0), (5, .int (nI i))]) hb dX12_pump_114 (by rw [hml]; decide) rfl ?_
                refine a_iinc (v := ((nI i) + 1)) (L' := [(5, .int ((nI i) + 1)), (4, .int ((pmS (pfS (hI h1_ (B + 58)) (p.toNatClampNeg * k0.toNatClampNeg)) i).2)), (3, .int ((pmS (pfS (hI h1_ (B + 58)) (p.toNatClampNeg * k0.toNatClampNeg)) i).1)), (7, .int 0), (6, .int ((nI i) - (p * k0))), (0, .ref (B + 51)), (1, .int p), (2, .int k0)]) hb dX12_pump_116 7 rfl rfl (by rw [hml]; decide) rfl ?_
                refine a_goto hb 43 dX12_pump_119 (by decide) ?_
                refine AW.sub (L' := [(0, .ref (B + 51)), (1, .int p), (2, .int k0), (3, .int ((pmS (pfS (hI h1_ (B + 58)) (p.toNatClampNeg * k0.toNatClampNeg)) i).1)), (4, .int ((pmS (pfS (hI h1_ (B + 58)) (p.toNatClampNeg * k0.toNatClampNeg)) i).2)), (5, .int ((nI i) + 1))]) [5, 6, 7, 2, 1, 0] rfl ?_
                exact AW.eq (ih (i + 1) (by omega)) rfl rfl (by first | (simp only [nI_1, pmS, if_pos yy]; simp only [fv]; done) | (simp only [nI_1, pmS, if_neg nn]; done)) rfl
              · have c85' := Int32.not_le.mp c85
                have yy : i = 0 ∨ (pmS (pfS (hI h1_ (B + 58)) (p.toNatClampNeg * k0.toNatClampNeg)) i).2 < (pfS (hI h1_ (B + 58)) (p.toNatClampNeg * k0.toNatClampNeg)) i := Or.inr (by rw [fv]; exact c85')
                refine a_iload hb dX12_pump_88 7 rfl ?_
                refine a_goto hb 94 dX12_pump_90 (by decide) ?_
                refine a_istore_n (L' := [(3, .int (nI i)), (7, .int 0), (6, .int ((nI i) - (p * k0))), (0, .ref (B + 51)), (1, .int p), (2, .int k0), (4, .int ((pmS (pfS (hI h1_ (B + 58)) (p.toNatClampNeg * k0.toNatClampNeg)) i).2)), (5, .int (nI i))]) hb dX12_pump_94 rfl (by rw [hml]; decide) rfl ?_
                refine a_iload hb dX12_pump_95 7 rfl ?_
                refine a_if_eq hb 107 dX12_pump_97 (by decide) (fun c97 => absurd c97 (c78)) (fun c97 => ?_)
                refine a_iload hb dX12_pump_100 1 rfl ?_
                refine a_iload hb dX12_pump_102 6 rfl ?_
                refine a_icmp_le hb 112 dX12_pump_104 (by decide) (fun c104 => absurd c104 (c85)) (fun c104 => ?_)
                refine a_iload hb dX12_pump_107 1 rfl ?_
                refine a_goto hb 114 dX12_pump_109 (by decide) ?_
                refine a_istore (L' := [(4, .int 0), (3, .int (nI i)), (7, .int 0), (6, .int ((nI i) - (p * k0))), (0, .ref (B + 51)), (1, .int p), (2, .int k0), (5, .int (nI i))]) hb dX12_pump_114 (by rw [hml]; decide) rfl ?_
                refine a_iinc (v := ((nI i) + 1)) (L' := [(5, .int ((nI i) + 1)), (4, .int 0), (3, .int (nI i)), (7, .int 0), (6, .int ((nI i) - (p * k0))), (0, .ref (B + 51)), (1, .int p), (2, .int k0)]) hb dX12_pump_116 7 rfl rfl (by rw [hml]; decide) rfl ?_
                refine a_goto hb 43 dX12_pump_119 (by decide) ?_
                refine AW.sub (L' := [(0, .ref (B + 51)), (1, .int p), (2, .int k0), (3, .int (nI i)), (4, .int 0), (5, .int ((nI i) + 1))]) [5, 6, 7, 2, 1, 0] rfl ?_
                exact AW.eq (ih (i + 1) (by omega)) rfl rfl (by first | (simp only [nI_1, pmS, if_pos yy]; simp only [fv]; done) | (simp only [nI_1, pmS, if_neg nn]; done)) rfl
      refine AW.sub (L' := [(0, .ref (B + 51)), (1, .int p), (2, .int k0), (3, .int 0), (4, .int 0), (5, .int 0)]) [3, 4, 5, 2, 1, 0] rfl ?_
      exact AW.eq (loop 40 0 (by omega)) rfl rfl (rfl) rfl
    · simp [b2i_0] at c25
      refine a_bipush (v := (-2)) hb dX12_pump_28 (by decide) ?_
      exact a_ireturn (ty := .int) hb hz dX12_pump_30 hret rfl (by rw [hr]; exact Nat.le_of_ble_eq_true rfl) (by rw [hr]; exact Nat.le_of_ble_eq_true rfl) (⟨by first | (rw [if_pos (by assumption)]; done) | (rw [if_neg (by simp [c7]), if_pos (by assumption)]; done), FR.rf⟩)
set_option maxRecDepth 100000 in
theorem m_oddsOf (g : GG) (h : AH) (B : Nat) (hL : LY h B) (b : Nat) (hb8 : b < 8) (d : Int32) : AM g 1 0 0 mX12_oddsOf [.ref (B + 51), .int (nI b), .int d] h (fun rv h' => rv = some (.int (odS (hI h (B + 52)) b d)) ∧ h' = h) := by
  refine AM.of [(0, .ref (B + 51)), (1, .int (nI b)), (2, .int d)] (by decide) (Nat.le_of_ble_eq_true rfl) rfl ?_
  intro V hV
  have hb : V.2.1.2.1 = cX12_oddsOf := by subst hV; rfl
  have ow : V.2.1.1.cls = RX12 := by subst hV; rfl
  have hr : V.2.2.1 = aw_rm 1 0 0 := by subst hV; rfl
  have hz : V.2.2.2 = aw_Z V.1 (fun rv h' => rv = some (.int (odS (hI h (B + 52)) b d)) ∧ h' = h) V.2.2.1 := by subst hV; rfl
  have hg : V.1 = g := by subst hV; rfl
  have hret : V.2.1.2.2.2 = (some .int) := by subst hV; rfl
  have hml : V.2.1.2.2.1 = 3 := by subst hV; rfl
  clear hV
  refine a_iload_n hb dX12_oddsOf_0 rfl 2 rfl ?_
  refine a_if_ne hb 17 dX12_oddsOf_1 (by decide) (fun c1 => ?_) (fun c1 => ?_)
  · refine a_iload_n hb dX12_oddsOf_17 rfl 2 rfl ?_
    refine a_iconst (v := 1) hb dX12_oddsOf_18 (by decide) ?_
    refine a_icmp_ne hb 35 dX12_oddsOf_19 (by decide) (fun c19 => ?_) (fun c19 => ?_)
    · refine a_bipush (v := 10) hb dX12_oddsOf_35 (by decide) ?_
      refine a_aload_n hb dX12_oddsOf_37 rfl 0 rfl ?_
      refine a_getQ (q := (B + 52)) hb dX12_oddsOf_38 (by rw [ow]; exact fl_RX12_9_12) (hL.1 51 (by decide)) (hL.2.1 (51, 1, 52) (by decide)) ?_
      refine a_sipush (v := 162) hb dX12_oddsOf_41 (by decide) ?_
      refine a_iload_n hb dX12_oddsOf_44 rfl 1 rfl ?_
      refine a_iadd hb dX12_oddsOf_45 ?_
      refine b_iald (j := (162 + b)) hb dX12_oddsOf_46 (hL.1 52 (by decide)) (IX.add ⟨by decide, by decide⟩ (IX.n (by omega)) (by omega)) (by omega) ?_
      refine a_isub hb dX12_oddsOf_47 ?_
      refine a_aload_n hb dX12_oddsOf_48 rfl 0 rfl ?_
      refine a_getQ (q := (B + 52)) hb dX12_oddsOf_49 (by rw [ow]; exact fl_RX12_9_12) (hL.1 51 (by decide)) (hL.2.1 (51, 1, 52) (by decide)) ?_
      refine a_sipush (v := 170) hb dX12_oddsOf_52 (by decide) ?_
      refine a_iload_n hb dX12_oddsOf_55 rfl 1 rfl ?_
      refine a_iadd hb dX12_oddsOf_56 ?_
      refine b_iald (j := (170 + b)) hb dX12_oddsOf_57 (hL.1 52 (by decide)) (IX.add ⟨by decide, by decide⟩ (IX.n (by omega)) (by omega)) (by omega) ?_
      refine a_isub hb dX12_oddsOf_58 ?_
      exact a_ireturn (ty := .int) hb hz dX12_oddsOf_59 hret rfl (by rw [hr]; exact Nat.le_of_ble_eq_true rfl) (by rw [hr]; exact Nat.le_of_ble_eq_true rfl) (⟨by simp [odS, *], rfl⟩)
    · refine a_aload_n hb dX12_oddsOf_22 rfl 0 rfl ?_
      refine a_getQ (q := (B + 52)) hb dX12_oddsOf_23 (by rw [ow]; exact fl_RX12_9_12) (hL.1 51 (by decide)) (hL.2.1 (51, 1, 52) (by decide)) ?_
      refine a_sipush (v := 170) hb dX12_oddsOf_26 (by decide) ?_
      refine a_iload_n hb dX12_oddsOf_29 rfl 1 rfl ?_
      refine a_iadd hb dX12_oddsOf_30 ?_
      refine b_iald (j := (170 + b)) hb dX12_oddsOf_31 (hL.1 52 (by decide)) (IX.add ⟨by decide, by decide⟩ (IX.n (by omega)) (by omega)) (by omega) ?_
      refine a_goto hb 59 dX12_oddsOf_32 (by decide) ?_
      exact a_ireturn (ty := .int) hb hz dX12_oddsOf_59 hret rfl (by rw [hr]; exact Nat.le_of_ble_eq_true rfl) (by rw [hr]; exact Nat.le_of_ble_eq_true rfl) (⟨by simp [odS, *], rfl⟩)
  · refine a_aload_n hb dX12_oddsOf_4 rfl 0 rfl ?_
    refine a_getQ (q := (B + 52)) hb dX12_oddsOf_5 (by rw [ow]; exact fl_RX12_9_12) (hL.1 51 (by decide)) (hL.2.1 (51, 1, 52) (by decide)) ?_
    refine a_sipush (v := 162) hb dX12_oddsOf_8 (by decide) ?_
    refine a_iload_n hb dX12_oddsOf_11 rfl 1 rfl ?_
    refine a_iadd hb dX12_oddsOf_12 ?_
    refine b_iald (j := (162 + b)) hb dX12_oddsOf_13 (hL.1 52 (by decide)) (IX.add ⟨by decide, by decide⟩ (IX.n (by omega)) (by omega)) (by omega) ?_
    refine a_goto hb 59 dX12_oddsOf_14 (by decide) ?_
    exact a_ireturn (ty := .int) hb hz dX12_oddsOf_59 hret rfl (by rw [hr]; exact Nat.le_of_ble_eq_true rfl) (by rw [hr]; exact Nat.le_of_ble_eq_true rfl) (⟨by simp [odS, *], rfl⟩)
set_option maxRecDepth 100000 in
theorem m_lateMany (g : GG) (h : AH) (B : Nat) (hL : LY h B) (np : Nat) (hnp : IX (hI h (B + 52) 0) np) (lnp : np ≤ 8) : AM g 1 0 0 mX12_lateMany [.ref (B + 51)] h (fun rv h' => rv = some (.int (ltM (hI h (B + 52)) np)) ∧ h' = h) := by
  refine AM.of [(0, .ref (B + 51))] (by decide) (Nat.le_of_ble_eq_true rfl) rfl ?_
  intro V hV
  have hb : V.2.1.2.1 = cX12_lateMany := by subst hV; rfl
  have ow : V.2.1.1.cls = RX12 := by subst hV; rfl
  have hr : V.2.2.1 = aw_rm 1 0 0 := by subst hV; rfl
  have hz : V.2.2.2 = aw_Z V.1 (fun rv h' => rv = some (.int (ltM (hI h (B + 52)) np)) ∧ h' = h) V.2.2.1 := by subst hV; rfl
  have hg : V.1 = g := by subst hV; rfl
  have hret : V.2.1.2.2.2 = (some .int) := by subst hV; rfl
  have hml : V.2.1.2.2.1 = 3 := by subst hV; rfl
  clear hV
  have loop : ∀ (k i : Nat), i + k = np → AW V 0 0 h 4 [(0, .ref (B + 51)), (1, .int (ltM (hI h (B + 52)) i)), (2, .int (nI i))] [] := by
    intro k
    induction k with
    | zero =>
      intro i hi
      refine a_iload_n hb dX12_lateMany_4 rfl 2 rfl ?_
      refine a_aload_n hb dX12_lateMany_5 rfl 0 rfl ?_
      refine a_getQ (q := (B + 52)) hb dX12_lateMany_6 (by rw [ow]; exact fl_RX12_9_12) (hL.1 51 (by decide)) (hL.2.1 (51, 1, 52) (by decide)) ?_
      refine a_iconst (v := 0) hb dX12_lateMany_9 (by decide) ?_
      refine b_iald (j := 0) hb dX12_lateMany_10 (hL.1 52 (by decide)) ⟨by decide, by decide⟩ (by decide) ?_
      refine a_icmp_ge hb 43 dX12_lateMany_11 (by decide) (fun c11 => ?_) (fun c11 => absurd (by rw [hnp.eq.1]; exact nI_le (by omega) (by omega)) c11)
      refine a_iload_n hb dX12_lateMany_43 rfl 1 rfl ?_
      exact a_ireturn (ty := .int) hb hz dX12_lateMany_44 hret rfl (by rw [hr]; exact Nat.le_of_ble_eq_true rfl) (by rw [hr]; exact Nat.le_of_ble_eq_true rfl) (⟨by rw [show np = i by omega], rfl⟩)
    | succ k ih =>
      intro i hi
      refine a_iload_n hb dX12_lateMany_4 rfl 2 rfl ?_
      refine a_aload_n hb dX12_lateMany_5 rfl 0 rfl ?_
      refine a_getQ (q := (B + 52)) hb dX12_lateMany_6 (by rw [ow]; exact fl_RX12_9_12) (hL.1 51 (by decide)) (hL.2.1 (51, 1, 52) (by decide)) ?_
      refine a_iconst (v := 0) hb dX12_lateMany_9 (by decide) ?_
      refine b_iald (j := 0) hb dX12_lateMany_10 (hL.1 52 (by decide)) ⟨by decide, by decide⟩ (by decide) ?_
      refine a_icmp_ge hb 43 dX12_lateMany_11 (by decide) (fun c11 => absurd c11 (by rw [hnp.eq.1]; exact nI_ge (by omega) (by omega))) (fun c11 => ?_)
      refine a_iload_n hb dX12_lateMany_14 rfl 1 rfl ?_
      refine a_aload_n hb dX12_lateMany_15 rfl 0 rfl ?_
      refine a_getQ (q := (B + 52)) hb dX12_lateMany_16 (by rw [ow]; exact fl_RX12_9_12) (hL.1 51 (by decide)) (hL.2.1 (51, 1, 52) (by decide)) ?_
      refine a_sipush (v := 162) hb dX12_lateMany_19 (by decide) ?_
      refine a_iload_n hb dX12_lateMany_22 rfl 2 rfl ?_
      refine a_iadd hb dX12_lateMany_23 ?_
      refine b_iald (j := (162 + i)) hb dX12_lateMany_24 (hL.1 52 (by decide)) (IX.add ⟨by decide, by decide⟩ (IX.n (by omega)) (by omega)) (by omega) ?_
      refine a_bipush (v := 10) hb dX12_lateMany_25 (by decide) ?_
      refine a_icmp_ge hb 34 dX12_lateMany_27 (by decide) (fun c27 => ?_) (fun c27 => ?_)
      · have c27' := Int32.not_lt.mpr c27
        refine a_iconst (v := 0) hb dX12_lateMany_34 (by decide) ?_
        refine a_iadd hb dX12_lateMany_35 ?_
        refine a_istore_n (L' := [(1, .int ((ltM (hI h (B + 52)) i) + 0)), (0, .ref (B + 51)), (2, .int (nI i))]) hb dX12_lateMany_36 rfl (by rw [hml]; decide) rfl ?_
        refine a_iinc (v := ((nI i) + 1)) (L' := [(2, .int ((nI i) + 1)), (1, .int ((ltM (hI h (B + 52)) i) + 0)), (0, .ref (B + 51))]) hb dX12_lateMany_37 2 rfl rfl (by rw [hml]; decide) rfl ?_
        refine a_goto hb 4 dX12_lateMany_40 (by decide) ?_
        refine AW.sub (L' := [(0, .ref (B + 51)), (1, .int ((ltM (hI h (B + 52)) i) + 0)), (2, .int ((nI i) + 1))]) [2, 1, 0] rfl ?_
        exact AW.eq (ih (i + 1) (by omega)) rfl rfl (by first | (simp only [nI_1, ltM, if_pos c27']; done) | (simp only [nI_1, ltM, if_neg c27']; done)) rfl
      · have c27' := Int32.not_le.mp c27
        refine a_iconst (v := 1) hb dX12_lateMany_30 (by decide) ?_
        refine a_goto hb 35 dX12_lateMany_31 (by decide) ?_
        refine a_iadd hb dX12_lateMany_35 ?_
        refine a_istore_n (L' := [(1, .int ((ltM (hI h (B + 52)) i) + 1)), (0, .ref (B + 51)), (2, .int (nI i))]) hb dX12_lateMany_36 rfl (by rw [hml]; decide) rfl ?_
        refine a_iinc (v := ((nI i) + 1)) (L' := [(2, .int ((nI i) + 1)), (1, .int ((ltM (hI h (B + 52)) i) + 1)), (0, .ref (B + 51))]) hb dX12_lateMany_37 2 rfl rfl (by rw [hml]; decide) rfl ?_
        refine a_goto hb 4 dX12_lateMany_40 (by decide) ?_
        refine AW.sub (L' := [(0, .ref (B + 51)), (1, .int ((ltM (hI h (B + 52)) i) + 1)), (2, .int ((nI i) + 1))]) [2, 1, 0] rfl ?_
        exact AW.eq (ih (i + 1) (by omega)) rfl rfl (by first | (simp only [nI_1, ltM, if_pos c27']; done) | (simp only [nI_1, ltM, if_neg c27']; done)) rfl
  refine a_iconst (v := 0) hb dX12_lateMany_0 (by decide) ?_
  refine a_istore_n (L' := [(1, .int 0), (0, .ref (B + 51))]) hb dX12_lateMany_1 rfl (by rw [hml]; decide) rfl ?_
  refine a_iconst (v := 0) hb dX12_lateMany_2 (by decide) ?_
  refine a_istore_n (L' := [(2, .int 0), (1, .int 0), (0, .ref (B + 51))]) hb dX12_lateMany_3 rfl (by rw [hml]; decide) rfl ?_
  refine AW.sub (L' := [(0, .ref (B + 51)), (1, .int 0), (2, .int 0)]) [2, 1, 0] rfl ?_
  exact AW.eq (loop np 0 (by omega)) rfl rfl (rfl) rfl
