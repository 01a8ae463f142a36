/-! ===== the class: wave, inertia, pump, watched, waits ===== -/
theorem oO_nI {n b : Nat} (h1 : 1 ≤ n) (h2 : n ≤ b) (hb : b < 2 ^ 31) : oO (nI n) 1 (nI b) = false := by
  have a : ¬ nI n < 1 := fun q => absurd ((nI_ltI (a := n) (b := 1) (by omega) (by decide)).mp q) (by omega)
  have c : ¬ nI b < nI n := fun q => absurd ((nI_ltI (a := b) (b := n) (by omega) (by omega)).mp q) (by omega)
  simp [oO, a, c]
def lwI (f : Nat → Int32) : Nat → Int32
  | 0 => f 0
  | t + 1 => if f (t + 1) < lwI f t then f (t + 1) else lwI f t
theorem gtS_c {f f' : Nat → Int32} : ∀ k, (∀ t, t ≤ k → f t = f' t) → gtS f k = gtS f' k
  | 0, h => h 0 (by omega)
  | k + 1, h => by unfold gtS; rw [gtS_c k (fun t q => h t (by omega)), h (k + 1) (by omega)]
theorem lwI_c {f f' : Nat → Int32} : ∀ k, (∀ t, t ≤ k → f t = f' t) → lwI f k = lwI f' k
  | 0, h => h 0 (by omega)
  | k + 1, h => by unfold lwI; rw [lwI_c k (fun t q => h t (by omega)), h (k + 1) (by omega)]
theorem lt64 {a b : Int32} : a < b ↔ a.toInt64 < b.toInt64 := by rw [Int32.lt_iff_toInt_lt, Int64.lt_iff_toInt_lt, ti64, ti64]
theorem lw_j {f : Nat → Int32} {F : Nat → Int64} : ∀ k, (∀ t, t ≤ k → (f t).toInt64 = F t) → (lwI f k).toInt64 = lwJ F k
  | 0, h => h 0 (by omega)
  | k + 1, h => by
    have i := lw_j k (fun t q => h t (by omega))
    unfold lwI lwJ
    rw [← i, ← h (k + 1) (by omega)]
    by_cases q : f (k + 1) < lwI f k
    · rw [if_pos q, if_pos (lt64.mp q)]
    · rw [if_neg q, if_neg (fun x => q (lt64.mpr x))]
theorem hg_j {f : Nat → Int32} {F : Nat → Int64} : ∀ k, (∀ t, t ≤ k → (f t).toInt64 = F t) → (gtS f k).toInt64 = hgJ F k
  | 0, h => h 0 (by omega)
  | k + 1, h => by
    have i := hg_j k (fun t q => h t (by omega))
    unfold gtS hgJ
    rw [← i, ← h (k + 1) (by omega)]
    by_cases q : gtS f k < f (k + 1)
    · rw [if_pos q, if_pos (lt64.mp q)]
    · rw [if_neg q, if_neg (fun x => q (lt64.mpr x))]
theorem lw_m {f : Nat → Int32} {M : Int} : ∀ k, (∀ t, t ≤ k → -M ≤ (f t).toInt ∧ (f t).toInt ≤ M) → -M ≤ (lwI f k).toInt ∧ (lwI f k).toInt ≤ M
  | 0, h => h 0 (by omega)
  | k + 1, h => by unfold lwI; split; exact h (k + 1) (by omega); exact lw_m k (fun t q => h t (by omega))
theorem hg_m {f : Nat → Int32} {M : Int} : ∀ k, (∀ t, t ≤ k → -M ≤ (f t).toInt ∧ (f t).toInt ≤ M) → -M ≤ (gtS f k).toInt ∧ (gtS f k).toInt ≤ M
  | 0, h => h 0 (by omega)
  | k + 1, h => by unfold gtS; split; exact h (k + 1) (by omega); exact hg_m k (fun t q => h t (by omega))
theorem sub64 {a b : Int32} {M : Int} (hM : M ≤ 1000000000) (ha : -M ≤ a.toInt ∧ a.toInt ≤ M) (hb : -M ≤ b.toInt ∧ b.toInt ≤ M) : (a - b).toInt64 = a.toInt64 - b.toInt64 := by
  refine i64_ext ?_
  rw [ti64, ti_sub (by omega) (by omega), ti64_sub (by rw [ti64, ti64]; omega) (by rw [ti64, ti64]; omega), ti64, ti64]
theorem wv_rows {g : GG} {h h2 : AH} {B vq lq hl : Nat} {S : Nat → Int32} {N : NN} {P : PF} (H : CX g h B vq lq hl S N P) {lo ine : Int32} (hi : oO ine 1 999 = false) (hD : ∀ t, t < 40 → hI h2 (B + 21) t = dmS P S (fun _ => 0) hl (nI t) N.1) (hM : ∀ t, t < 40 → hI h2 (B + 22) t = mdB S lo (nI t) N.2.1) : (∀ t, t ≤ 39 → (biS (hI h2 (B + 22)) (hI h2 (B + 21)) ine (t + 1)).toInt64 = btS (fun t => mdB S lo (nI t) N.2.1) (fun t => dmS P S (fun _ => 0) hl (nI t) N.1) ine (t + 1)) ∧ ∀ t, t ≤ 39 → -16000000 ≤ (biS (hI h2 (B + 22)) (hI h2 (B + 21)) ine (t + 1)).toInt ∧ (biS (hI h2 (B + 22)) (hI h2 (B + 21)) ine (t + 1)).toInt ≤ 16000000 := by
  refine ⟨fun t ht => bi_rows H hi hD hM (t + 1) (by omega), fun t ht => ?_⟩
  rw [biS_c (t + 1) (fun u hu => hM u (by omega)) (fun u hu => hD u (by omega))]
  have := (bi_j (H.sm lo (fun _ => 0)) (in1 hi) (t + 1) (by omega)).2
  omega
set_option maxRecDepth 100000 in
theorem x_wave (g : GG) (h : AH) (B vq lq hl : Nat) (S : Nat → Int32) (N : NN) (P : PF) (hC : CX g h B vq lq hl S N P) (x : Int32) : AM g 8 0 0 mX11_wave [.ref B, .int x] h (fun rv h' => rv = some (.long (if oO x 0 2 then (-9223372036854775808) else if x = 0 then lwJ (fun t => btS (fun t => mdB S (-1) (nI t) N.2.1) (fun t => dmS P S (fun _ => 0) hl (nI t) N.1) (S 7) (t + 1)) 39 else if x = 1 then hgJ (fun t => btS (fun t => mdB S (-1) (nI t) N.2.1) (fun t => dmS P S (fun _ => 0) hl (nI t) N.1) (S 7) (t + 1)) 39 else hgJ (fun t => btS (fun t => mdB S (-1) (nI t) N.2.1) (fun t => dmS P S (fun _ => 0) hl (nI t) N.1) (S 7) (t + 1)) 39 - lwJ (fun t => btS (fun t => mdB S (-1) (nI t) N.2.1) (fun t => dmS P S (fun _ => 0) hl (nI t) N.1) (S 7) (t + 1)) 39)) ∧ FR (Xb B vq) h h') := by
  refine AM.of [(0, .ref B), (1, .int x)] (by decide) (Nat.le_of_ble_eq_true rfl) rfl ?_
  intro V hV
  have hb : V.2.1.2.1 = cX11_wave := by subst hV; rfl
  have ow : V.2.1.1.cls = RX11 := by subst hV; rfl
  have hr : V.2.2.1 = aw_rm 8 0 0 := by subst hV; rfl
  have hz : V.2.2.2 = aw_Z V.1 (fun rv h' => rv = some (.long (if oO x 0 2 then (-9223372036854775808) else if x = 0 then lwJ (fun t => btS (fun t => mdB S (-1) (nI t) N.2.1) (fun t => dmS P S (fun _ => 0) hl (nI t) N.1) (S 7) (t + 1)) 39 else if x = 1 then hgJ (fun t => btS (fun t => mdB S (-1) (nI t) N.2.1) (fun t => dmS P S (fun _ => 0) hl (nI t) N.1) (S 7) (t + 1)) 39 else hgJ (fun t => btS (fun t => mdB S (-1) (nI t) N.2.1) (fun t => dmS P S (fun _ => 0) hl (nI t) N.1) (S 7) (t + 1)) 39 - lwJ (fun t => btS (fun t => mdB S (-1) (nI t) N.2.1) (fun t => dmS P S (fun _ => 0) hl (nI t) N.1) (S 7) (t + 1)) 39)) ∧ FR (Xb B vq) h h') V.2.2.1 := by subst hV; rfl
  have hg : V.1 = g := by subst hV; rfl
  have hret : V.2.1.2.2.2 = (some .long) := by subst hV; rfl
  have hml : V.2.1.2.2.1 = 6 := by subst hV; rfl
  clear hV
  have hvq : B + 62 ≤ vq := hC.2.1.2.2.2.2.2.1
  have hnp := hC.1.np
  have hnw := hC.1.nw
  refine a_aload_n hb dX11_wave_0 rfl 0 rfl ?_
  refine a_callV hb dX11_wave_1 (by rw [hg]; exact x_noLaw g h B S N hC.1) (by rw [ow]; exact clv_RX11_136) (hC.1.1.1 0 (by decide)) (by decide) rfl rfl rfl (Nat.le_of_ble_eq_true rfl) (by rw [hr]; exact ⟨by decide, by decide⟩) (by rw [hr]; exact ⟨Nat.le_of_ble_eq_true rfl, Nat.le_of_ble_eq_true rfl⟩) ?_
  intro rv h' hq_
  rw [hq_.1, hq_.2, if_neg (by have := hC.2.1.1; omega)]
  show AW V 0 0 h 4 [(0, .ref B), (1, .int x)] [.int 0]
  refine a_if_ne hb 16 dX11_wave_4 (by decide) (fun c4 => absurd c4 (by decide)) (fun c4 => ?_)
  refine a_iload_n hb dX11_wave_7 rfl 1 rfl ?_
  refine a_iconst (v := 0) hb dX11_wave_8 (by decide) ?_
  refine a_iconst (v := 2) hb dX11_wave_9 (by decide) ?_
  refine a_callS hb dX11_wave_10 (by rw [hg]; exact w_outside g h x 0 2) (by rw [ow]; exact cls_RX11_53) rfl rfl (Nat.le_of_ble_eq_true rfl) (by rw [hr]; exact ⟨by decide, by decide⟩) (by rw [hr]; exact ⟨Nat.le_of_ble_eq_true rfl, Nat.le_of_ble_eq_true rfl⟩) ?_
  intro rv h' hq_
  rw [hq_.1, hq_.2]
  show AW V 0 0 h 13 [(0, .ref B), (1, .int x)] [.int (b2i (oO x 0 2))]
  refine a_if_eq hb 20 dX11_wave_13 (by decide) (fun c13 => ?_) (fun c13 => ?_)
  · simp [b2i_0] at c13
    refine a_aload_n hb dX11_wave_20 rfl 0 rfl ?_
    refine a_callV hb dX11_wave_21 (by rw [hg]; exact x_layDemand g h B vq lq hl S N P hC) (by rw [ow]; exact clv_RX11_190) (hC.1.1.1 0 (by decide)) (by decide) rfl rfl rfl (Nat.le_of_ble_eq_true rfl) (by rw [hr]; exact ⟨by decide, by decide⟩) (by rw [hr]; exact ⟨Nat.le_of_ble_eq_true rfl, Nat.le_of_ble_eq_true rfl⟩) ?_
    intro rv h1_ hp
    obtain ⟨hv, hf1, hx1_0⟩ := hp
    rw [hv]
    have hF1 := FR.tr FR.rf (FR.mo (A := Xd B vq) (A' := Xb B vq) hf1 (by intro a; unfold Xd Xb; omega))
    have hC1 := hC.fr (FR.mo (A := Xb B vq) (A' := Ay B vq) hF1 (by intro a; unfold Xb Ay; omega))
    clear hv
    show AW V 0 0 h1_ 24 [(0, .ref B), (1, .int x)] []
    refine a_aload_n hb dX11_wave_24 rfl 0 rfl ?_
    refine a_aload_n hb dX11_wave_25 rfl 0 rfl ?_
    refine a_getQ (q := (B + 22)) hb dX11_wave_26 (by rw [ow]; exact fl_RX11_36_11) (hC1.1.1.1 0 (by decide)) (hC1.1.1.2.1 (0, 5, 22) (by decide)) ?_
    refine a_iconst (v := (-1)) hb dX11_wave_29 (by decide) ?_
    refine a_callV hb dX11_wave_30 (by rw [hg]; exact x_layMade22 g h1_ B vq lq hl S N P hC1 (-1)) (by rw [ow]; exact clv_RX11_193) (hC1.1.1.1 0 (by decide)) (by decide) rfl rfl rfl (Nat.le_of_ble_eq_true rfl) (by rw [hr]; exact ⟨by decide, by decide⟩) (by rw [hr]; exact ⟨Nat.le_of_ble_eq_true rfl, Nat.le_of_ble_eq_true rfl⟩) ?_
    intro rv h2_ hp
    obtain ⟨hv, hf2, hx2_0⟩ := hp
    rw [hv]
    have hF2 := FR.tr hF1 (FR.mo (A := Xm B vq) (A' := Xb B vq) hf2 (by intro a; unfold Xm Xb; omega))
    have hC2 := hC.fr (FR.mo (A := Xb B vq) (A' := Ay B vq) hF2 (by intro a; unfold Xb Ay; omega))
    clear hv
    show AW V 0 0 h2_ 33 [(0, .ref B), (1, .int x)] []
    have hD : ∀ t, t < 40 → hI h2_ (B + 21) t = dmS P S (fun _ => 0) hl (nI t) N.1 := fun t q => by rw [hf2.2.2.2.2 (B + 21) (by unfold Xm; omega)]; exact hx1_0 t q
    have hM : ∀ t, t < 40 → hI h2_ (B + 22) t = mdB S (-1) (nI t) N.2.1 := hx2_0
    refine a_aload_n hb dX11_wave_33 rfl 0 rfl ?_
    refine a_iconst (v := 0) hb dX11_wave_34 (by decide) ?_
    refine a_aload_n hb dX11_wave_35 rfl 0 rfl ?_
    refine a_getQ (q := (B + 1)) hb dX11_wave_36 (by rw [ow]; exact fl_RX11_12_11) (hC2.1.1.1 0 (by decide)) (hC2.1.1.2.1 (0, 0, 1) (by decide)) ?_
    refine a_getQ (q := (B + 9)) hb dX11_wave_39 (by rw [ow]; exact fl_RX11_96_7) (hC2.1.1.1 1 (by decide)) (hC2.1.1.2.1 (1, 12, 9) (by decide)) ?_
    refine a_iconst (v := 2) hb dX11_wave_42 (by decide) ?_
    refine b_iald (j := 2) hb dX11_wave_43 (hC2.1.1.1 9 (by decide)) ⟨by decide, by decide⟩ (by decide) ?_
    rw [hC2.1.st (i := 2) (by decide)]
    show AW V 0 0 h2_ 44 [(0, .ref B), (1, .int x)] [.int (S 7), .int 0, .ref B]
    refine a_callV hb dX11_wave_44 (by rw [hg]; exact x_pushAt g h2_ B vq lq hl S N P hC2 0 (by omega) (S 7) hC.1.r7) (by rw [ow]; exact clv_RX11_197) (hC2.1.1.1 0 (by decide)) (by decide) rfl rfl rfl (Nat.le_of_ble_eq_true rfl) (by rw [hr]; exact ⟨by decide, by decide⟩) (by rw [hr]; exact ⟨Nat.le_of_ble_eq_true rfl, Nat.le_of_ble_eq_true rfl⟩) ?_
    intro rv h' hq_
    rw [hq_.1, hq_.2]
    show AW V 0 0 h2_ 47 [(0, .ref B), (1, .int x)] [.int (psh (hI h2_ (B + 22)) (hI h2_ (B + 21)) (S 7) 0)]
    refine a_istore_n (L' := [(2, .int (psh (hI h2_ (B + 22)) (hI h2_ (B + 21)) (S 7) 0)), (0, .ref B), (1, .int x)]) hb dX11_wave_47 rfl (by rw [hml]; decide) rfl ?_
    refine a_iload_n hb dX11_wave_48 rfl 0 rfl ?_
    refine a_istore_n (L' := [(3, .int (psh (hI h2_ (B + 22)) (hI h2_ (B + 21)) (S 7) 0)), (2, .int (psh (hI h2_ (B + 22)) (hI h2_ (B + 21)) (S 7) 0)), (0, .ref B), (1, .int x)]) hb dX11_wave_49 rfl (by rw [hml]; decide) rfl ?_
    refine a_iload_n hb dX11_wave_50 rfl 1 rfl ?_
    refine a_istore (L' := [(4, .int (psh (hI h2_ (B + 22)) (hI h2_ (B + 21)) (S 7) 0)), (3, .int (psh (hI h2_ (B + 22)) (hI h2_ (B + 21)) (S 7) 0)), (2, .int (psh (hI h2_ (B + 22)) (hI h2_ (B + 21)) (S 7) 0)), (0, .ref B), (1, .int x)]) hb dX11_wave_51 (by rw [hml]; decide) rfl ?_
    refine a_iconst (v := 1) hb dX11_wave_53 (by decide) ?_
    refine a_istore (L' := [(5, .int 1), (4, .int (psh (hI h2_ (B + 22)) (hI h2_ (B + 21)) (S 7) 0)), (3, .int (psh (hI h2_ (B + 22)) (hI h2_ (B + 21)) (S 7) 0)), (2, .int (psh (hI h2_ (B + 22)) (hI h2_ (B + 21)) (S 7) 0)), (0, .ref B), (1, .int x)]) hb dX11_wave_54 (by rw [hml]; decide) rfl ?_
    obtain ⟨hbj, hbm⟩ := wv_rows hC hC.1.r7 hD hM
    have loop : ∀ (k i : Nat), i + k = 39 → AW V 0 0 h2_ 56 [(0, .ref B), (1, .int x), (2, .int (biS (hI h2_ (B + 22)) (hI h2_ (B + 21)) (S 7) (i + 1))), (3, .int (lwI (fun t => biS (hI h2_ (B + 22)) (hI h2_ (B + 21)) (S 7) (t + 1)) i)), (4, .int (gtS (fun t => biS (hI h2_ (B + 22)) (hI h2_ (B + 21)) (S 7) (t + 1)) i)), (5, .int (nI (i + 1)))] [] := by
      intro k
      induction k with
      | zero =>
        intro i hi
        refine a_iload hb dX11_wave_56 5 rfl ?_
        refine a_bipush (v := 40) hb dX11_wave_58 (by decide) ?_
        refine a_icmp_ge hb 101 dX11_wave_60 (by decide) (fun c60 => ?_) (fun c60 => absurd (nI_le (a := 40) (b := i + 1) (by omega) (by omega)) c60)
        refine a_iload_n hb dX11_wave_101 rfl 1 rfl ?_
        by_cases q102_0 : x = 0
        · refine a_lookup (off := 26) hb 128 dX11_wave_102 (by decide) (by rw [q102_0]; decide) (by decide) ?_
          refine a_iload_n hb dX11_wave_128 rfl 3 rfl ?_
          refine a_i2l hb dX11_wave_129 rfl ?_
          exact a_lreturn hb hz dX11_wave_130 hret (by rw [hr]; exact Nat.le_of_ble_eq_true rfl) (by rw [hr]; exact Nat.le_of_ble_eq_true rfl) (⟨by rw [if_neg (by simp [c13]), if_pos q102_0, show i = 39 by omega, lw_j 39 hbj], hF2⟩)
        by_cases q102_1 : x = 1
        · refine a_lookup (off := 29) hb 131 dX11_wave_102 (by decide) (by rw [q102_1]; decide) (by decide) ?_
          refine a_iload hb dX11_wave_131 4 rfl ?_
          refine a_i2l hb dX11_wave_133 rfl ?_
          exact a_lreturn hb hz dX11_wave_134 hret (by rw [hr]; exact Nat.le_of_ble_eq_true rfl) (by rw [hr]; exact Nat.le_of_ble_eq_true rfl) (⟨by rw [if_neg (by simp [c13]), if_neg (by rw [q102_1]; decide), if_pos q102_1, show i = 39 by omega, hg_j 39 hbj], hF2⟩)
        refine a_lookup (off := 33) hb 135 dX11_wave_102 (by decide) (by have z0 := lv_neT (k := 0) (a := 0) q102_0 (by decide); have z1 := lv_neT (k := 1) (a := 1) q102_1 (by decide); simp [Op.lookupswitch.offset]; omega) (by decide) ?_
        refine a_iload hb dX11_wave_135 4 rfl ?_
        refine a_iload_n hb dX11_wave_137 rfl 3 rfl ?_
        refine a_isub hb dX11_wave_138 ?_
        refine a_i2l hb dX11_wave_139 rfl ?_
        exact a_lreturn hb hz dX11_wave_140 hret (by rw [hr]; exact Nat.le_of_ble_eq_true rfl) (by rw [hr]; exact Nat.le_of_ble_eq_true rfl) (⟨by rw [if_neg (by simp [c13]), if_neg q102_0, if_neg q102_1, show i = 39 by omega, sub64 (by decide) (hg_m 39 hbm) (lw_m 39 hbm), lw_j 39 hbj, hg_j 39 hbj], hF2⟩)
      | succ k ih =>
        intro i hi
        refine a_iload hb dX11_wave_56 5 rfl ?_
        refine a_bipush (v := 40) hb dX11_wave_58 (by decide) ?_
        refine a_icmp_ge hb 101 dX11_wave_60 (by decide) (fun c60 => absurd c60 (nI_ge (b := 40) (a := i + 1) (by omega) (by omega))) (fun c60 => ?_)
        refine a_iload_n hb dX11_wave_63 rfl 2 rfl ?_
        refine a_aload_n hb dX11_wave_64 rfl 0 rfl ?_
        refine a_iload hb dX11_wave_65 5 rfl ?_
        refine a_aload_n hb dX11_wave_67 rfl 0 rfl ?_
        refine a_getQ (q := (B + 1)) hb dX11_wave_68 (by rw [ow]; exact fl_RX11_12_11) (hC2.1.1.1 0 (by decide)) (hC2.1.1.2.1 (0, 0, 1) (by decide)) ?_
        refine a_getQ (q := (B + 9)) hb dX11_wave_71 (by rw [ow]; exact fl_RX11_96_7) (hC2.1.1.1 1 (by decide)) (hC2.1.1.2.1 (1, 12, 9) (by decide)) ?_
        refine a_iconst (v := 2) hb dX11_wave_74 (by decide) ?_
        refine b_iald (j := 2) hb dX11_wave_75 (hC2.1.1.1 9 (by decide)) ⟨by decide, by decide⟩ (by decide) ?_
        rw [hC2.1.st (i := 2) (by decide)]
        show AW V 0 0 h2_ 76 [(0, .ref B), (1, .int x), (2, .int (biS (hI h2_ (B + 22)) (hI h2_ (B + 21)) (S 7) (i + 1))), (3, .int (lwI (fun t => biS (hI h2_ (B + 22)) (hI h2_ (B + 21)) (S 7) (t + 1)) i)), (4, .int (gtS (fun t => biS (hI h2_ (B + 22)) (hI h2_ (B + 21)) (S 7) (t + 1)) i)), (5, .int (nI (i + 1)))] [.int (S 7), .int (nI (i + 1)), .ref B, .int (biS (hI h2_ (B + 22)) (hI h2_ (B + 21)) (S 7) (i + 1))]
        refine a_callV hb dX11_wave_76 (by rw [hg]; exact x_pushAt g h2_ B vq lq hl S N P hC2 (i + 1) (by omega) (S 7) hC.1.r7) (by rw [ow]; exact clv_RX11_197) (hC2.1.1.1 0 (by decide)) (by decide) rfl rfl rfl (Nat.le_of_ble_eq_true rfl) (by rw [hr]; exact ⟨by decide, by decide⟩) (by rw [hr]; exact ⟨Nat.le_of_ble_eq_true rfl, Nat.le_of_ble_eq_true rfl⟩) ?_
        intro rv h' hq_
        rw [hq_.1, hq_.2]
        show AW V 0 0 h2_ 79 [(0, .ref B), (1, .int x), (2, .int (biS (hI h2_ (B + 22)) (hI h2_ (B + 21)) (S 7) (i + 1))), (3, .int (lwI (fun t => biS (hI h2_ (B + 22)) (hI h2_ (B + 21)) (S 7) (t + 1)) i)), (4, .int (gtS (fun t => biS (hI h2_ (B + 22)) (hI h2_ (B + 21)) (S 7) (t + 1)) i)), (5, .int (nI (i + 1)))] [.int (psh (hI h2_ (B + 22)) (hI h2_ (B + 21)) (S 7) (i + 1)), .int (biS (hI h2_ (B + 22)) (hI h2_ (B + 21)) (S 7) (i + 1))]
        refine a_iadd hb dX11_wave_79 ?_
        refine a_istore_n (L' := [(2, .int ((biS (hI h2_ (B + 22)) (hI h2_ (B + 21)) (S 7) (i + 1)) + (psh (hI h2_ (B + 22)) (hI h2_ (B + 21)) (S 7) (i + 1)))), (0, .ref B), (1, .int x), (3, .int (lwI (fun t => biS (hI h2_ (B + 22)) (hI h2_ (B + 21)) (S 7) (t + 1)) i)), (4, .int (gtS (fun t => biS (hI h2_ (B + 22)) (hI h2_ (B + 21)) (S 7) (t + 1)) i)), (5, .int (nI (i + 1)))]) hb dX11_wave_80 rfl (by rw [hml]; decide) rfl ?_
        refine a_iload_n hb dX11_wave_81 rfl 3 rfl ?_
        refine a_iload_n hb dX11_wave_82 rfl 0 rfl ?_
        refine a_mmin hb dX11_wave_83 (by rw [ow]; exact kw_806) kw_407 kw_94 kw_408 (by rw [hr]; exact ⟨by decide, Nat.le_of_ble_eq_true rfl⟩) (by rw [hr]; exact ⟨Nat.le_of_ble_eq_true rfl, Nat.le_of_ble_eq_true rfl⟩) ?_
        refine a_istore_n (L' := [(3, .int (if ((biS (hI h2_ (B + 22)) (hI h2_ (B + 21)) (S 7) (i + 1)) + (psh (hI h2_ (B + 22)) (hI h2_ (B + 21)) (S 7) (i + 1))) < (lwI (fun t => biS (hI h2_ (B + 22)) (hI h2_ (B + 21)) (S 7) (t + 1)) i) then ((biS (hI h2_ (B + 22)) (hI h2_ (B + 21)) (S 7) (i + 1)) + (psh (hI h2_ (B + 22)) (hI h2_ (B + 21)) (S 7) (i + 1))) else (lwI (fun t => biS (hI h2_ (B + 22)) (hI h2_ (B + 21)) (S 7) (t + 1)) i))), (2, .int ((biS (hI h2_ (B + 22)) (hI h2_ (B + 21)) (S 7) (i + 1)) + (psh (hI h2_ (B + 22)) (hI h2_ (B + 21)) (S 7) (i + 1)))), (0, .ref B), (1, .int x), (4, .int (gtS (fun t => biS (hI h2_ (B + 22)) (hI h2_ (B + 21)) (S 7) (t + 1)) i)), (5, .int (nI (i + 1)))]) hb dX11_wave_86 rfl (by rw [hml]; decide) rfl ?_
        refine a_iload hb dX11_wave_87 4 rfl ?_
        refine a_iload_n hb dX11_wave_89 rfl 1 rfl ?_
        refine a_mmax hb dX11_wave_90 (by rw [ow]; exact kw_787) kw_490 kw_94 kw_491 (by rw [hr]; exact ⟨by decide, Nat.le_of_ble_eq_true rfl⟩) (by rw [hr]; exact ⟨Nat.le_of_ble_eq_true rfl, Nat.le_of_ble_eq_true rfl⟩) ?_
        refine a_istore (L' := [(4, .int (if (gtS (fun t => biS (hI h2_ (B + 22)) (hI h2_ (B + 21)) (S 7) (t + 1)) i) < ((biS (hI h2_ (B + 22)) (hI h2_ (B + 21)) (S 7) (i + 1)) + (psh (hI h2_ (B + 22)) (hI h2_ (B + 21)) (S 7) (i + 1))) then ((biS (hI h2_ (B + 22)) (hI h2_ (B + 21)) (S 7) (i + 1)) + (psh (hI h2_ (B + 22)) (hI h2_ (B + 21)) (S 7) (i + 1))) else (gtS (fun t => biS (hI h2_ (B + 22)) (hI h2_ (B + 21)) (S 7) (t + 1)) i))), (3, .int (if ((biS (hI h2_ (B + 22)) (hI h2_ (B + 21)) (S 7) (i + 1)) + (psh (hI h2_ (B + 22)) (hI h2_ (B + 21)) (S 7) (i + 1))) < (lwI (fun t => biS (hI h2_ (B + 22)) (hI h2_ (B + 21)) (S 7) (t + 1)) i) then ((biS (hI h2_ (B + 22)) (hI h2_ (B + 21)) (S 7) (i + 1)) + (psh (hI h2_ (B + 22)) (hI h2_ (B + 21)) (S 7) (i + 1))) else (lwI (fun t => biS (hI h2_ (B + 22)) (hI h2_ (B + 21)) (S 7) (t + 1)) i))), (2, .int ((biS (hI h2_ (B + 22)) (hI h2_ (B + 21)) (S 7) (i + 1)) + (psh (hI h2_ (B + 22)) (hI h2_ (B + 21)) (S 7) (i + 1)))), (0, .ref B), (1, .int x), (5, .int (nI (i + 1)))]) hb dX11_wave_93 (by rw [hml]; decide) rfl ?_
        refine a_iinc (v := ((nI (i + 1)) + 1)) (L' := [(5, .int ((nI (i + 1)) + 1)), (4, .int (if (gtS (fun t => biS (hI h2_ (B + 22)) (hI h2_ (B + 21)) (S 7) (t + 1)) i) < ((biS (hI h2_ (B + 22)) (hI h2_ (B + 21)) (S 7) (i + 1)) + (psh (hI h2_ (B + 22)) (hI h2_ (B + 21)) (S 7) (i + 1))) then ((biS (hI h2_ (B + 22)) (hI h2_ (B + 21)) (S 7) (i + 1)) + (psh (hI h2_ (B + 22)) (hI h2_ (B + 21)) (S 7) (i + 1))) else (gtS (fun t => biS (hI h2_ (B + 22)) (hI h2_ (B + 21)) (S 7) (t + 1)) i))), (3, .int (if ((biS (hI h2_ (B + 22)) (hI h2_ (B + 21)) (S 7) (i + 1)) + (psh (hI h2_ (B + 22)) (hI h2_ (B + 21)) (S 7) (i + 1))) < (lwI (fun t => biS (hI h2_ (B + 22)) (hI h2_ (B + 21)) (S 7) (t + 1)) i) then ((biS (hI h2_ (B + 22)) (hI h2_ (B + 21)) (S 7) (i + 1)) + (psh (hI h2_ (B + 22)) (hI h2_ (B + 21)) (S 7) (i + 1))) else (lwI (fun t => biS (hI h2_ (B + 22)) (hI h2_ (B + 21)) (S 7) (t + 1)) i))), (2, .int ((biS (hI h2_ (B + 22)) (hI h2_ (B + 21)) (S 7) (i + 1)) + (psh (hI h2_ (B + 22)) (hI h2_ (B + 21)) (S 7) (i + 1)))), (0, .ref B), (1, .int x)]) hb dX11_wave_95 5 rfl rfl (by rw [hml]; decide) rfl ?_
        refine a_goto hb 56 dX11_wave_98 (by decide) ?_
        refine AW.sub (L' := [(0, .ref B), (1, .int x), (2, .int ((biS (hI h2_ (B + 22)) (hI h2_ (B + 21)) (S 7) (i + 1)) + (psh (hI h2_ (B + 22)) (hI h2_ (B + 21)) (S 7) (i + 1)))), (3, .int (if ((biS (hI h2_ (B + 22)) (hI h2_ (B + 21)) (S 7) (i + 1)) + (psh (hI h2_ (B + 22)) (hI h2_ (B + 21)) (S 7) (i + 1))) < (lwI (fun t => biS (hI h2_ (B + 22)) (hI h2_ (B + 21)) (S 7) (t + 1)) i) then ((biS (hI h2_ (B + 22)) (hI h2_ (B + 21)) (S 7) (i + 1)) + (psh (hI h2_ (B + 22)) (hI h2_ (B + 21)) (S 7) (i + 1))) else (lwI (fun t => biS (hI h2_ (B + 22)) (hI h2_ (B + 21)) (S 7) (t + 1)) i))), (4, .int (if (gtS (fun t => biS (hI h2_ (B + 22)) (hI h2_ (B + 21)) (S 7) (t + 1)) i) < ((biS (hI h2_ (B + 22)) (hI h2_ (B + 21)) (S 7) (i + 1)) + (psh (hI h2_ (B + 22)) (hI h2_ (B + 21)) (S 7) (i + 1))) then ((biS (hI h2_ (B + 22)) (hI h2_ (B + 21)) (S 7) (i + 1)) + (psh (hI h2_ (B + 22)) (hI h2_ (B + 21)) (S 7) (i + 1))) else (gtS (fun t => biS (hI h2_ (B + 22)) (hI h2_ (B + 21)) (S 7) (t + 1)) i))), (5, .int ((nI (i + 1)) + 1))]) [4, 5, 3, 2, 1, 0] rfl ?_
        exact AW.eq (ih (i + 1) (by omega)) rfl rfl (by first | (simp only [nI_1]; done) | (simp only [nI_1]; rfl) | (rw [nI_1]; rfl)) rfl
    refine AW.sub (L' := [(0, .ref B), (1, .int x), (2, .int (psh (hI h2_ (B + 22)) (hI h2_ (B + 21)) (S 7) 0)), (3, .int (psh (hI h2_ (B + 22)) (hI h2_ (B + 21)) (S 7) 0)), (4, .int (psh (hI h2_ (B + 22)) (hI h2_ (B + 21)) (S 7) 0)), (5, .int 1)]) [4, 5, 3, 2, 1, 0] rfl ?_
    exact AW.eq (loop 39 0 (by omega)) rfl rfl (by rw [show biS (hI h2_ (B + 22)) (hI h2_ (B + 21)) (S 7) (0 + 1) = psh (hI h2_ (B + 22)) (hI h2_ (B + 21)) (S 7) 0 from Int32.zero_add _]; rw [show lwI (fun t => biS (hI h2_ (B + 22)) (hI h2_ (B + 21)) (S 7) (t + 1)) 0 = psh (hI h2_ (B + 22)) (hI h2_ (B + 21)) (S 7) 0 from Int32.zero_add _, show gtS (fun t => biS (hI h2_ (B + 22)) (hI h2_ (B + 21)) (S 7) (t + 1)) 0 = psh (hI h2_ (B + 22)) (hI h2_ (B + 21)) (S 7) 0 from Int32.zero_add _]; rfl) rfl
  · simp [b2i_0] at c13
    refine a_ldc2 (v := (-9223372036854775808)) hb dX11_wave_16 (by rw [ow]; exact kw_774) ?_
    exact a_lreturn hb hz dX11_wave_19 hret (by rw [hr]; exact Nat.le_of_ble_eq_true rfl) (by rw [hr]; exact Nat.le_of_ble_eq_true rfl) (⟨(by rw [if_pos (by simp [c13])]), FR.rf⟩)
set_option maxRecDepth 100000 in
theorem x_inertia (g : GG) (h : AH) (B vq lq hl : Nat) (S : Nat → Int32) (N : NN) (P : PF) (hC : CX g h B vq lq hl S N P) (c : Int32) : AM g 8 0 0 mX11_inertia [.ref B, .int c] h (fun rv h' => rv = some (.int (if oO c 0 999 then -2 else insS (fun t => mdB S (-1) (nI t) N.2.1) (fun t => dmS P S (fun _ => 0) hl (nI t) N.1) c 0 999)) ∧ FR (Xb B vq) h h') := by
  refine AM.of [(0, .ref B), (1, .int c)] (by decide) (Nat.le_of_ble_eq_true rfl) rfl ?_
  intro V hV
  have hb : V.2.1.2.1 = cX11_inertia := by subst hV; rfl
  have ow : V.2.1.1.cls = RX11 := by subst hV; rfl
  have hr : V.2.2.1 = aw_rm 8 0 0 := by subst hV; rfl
  have hz : V.2.2.2 = aw_Z V.1 (fun rv h' => rv = some (.int (if oO c 0 999 then -2 else insS (fun t => mdB S (-1) (nI t) N.2.1) (fun t => dmS P S (fun _ => 0) hl (nI t) N.1) c 0 999)) ∧ FR (Xb B vq) h h') V.2.2.1 := by subst hV; rfl
  have hg : V.1 = g := by subst hV; rfl
  have hret : V.2.1.2.2.2 = (some .int) := by subst hV; rfl
  have hml : V.2.1.2.2.1 = 3 := by subst hV; rfl
  clear hV
  have hvq : B + 62 ≤ vq := hC.2.1.2.2.2.2.2.1
  have hnp := hC.1.np
  have hnw := hC.1.nw
  refine a_aload_n hb dX11_inertia_0 rfl 0 rfl ?_
  refine a_callV hb dX11_inertia_1 (by rw [hg]; exact x_noLaw g h B S N hC.1) (by rw [ow]; exact clv_RX11_136) (hC.1.1.1 0 (by decide)) (by decide) rfl rfl rfl (Nat.le_of_ble_eq_true rfl) (by rw [hr]; exact ⟨by decide, by decide⟩) (by rw [hr]; exact ⟨Nat.le_of_ble_eq_true rfl, Nat.le_of_ble_eq_true rfl⟩) ?_
  intro rv h' hq_
  rw [hq_.1, hq_.2, if_neg (by have := hC.2.1.1; omega)]
  show AW V 0 0 h 4 [(0, .ref B), (1, .int c)] [.int 0]
  refine a_if_eq hb 9 dX11_inertia_4 (by decide) (fun c4 => ?_) (fun c4 => absurd (by decide) c4)
  refine a_iload_n hb dX11_inertia_9 rfl 1 rfl ?_
  refine a_callS hb dX11_inertia_10 (by rw [hg]; exact w_noBound g h c) (by rw [ow]; exact cls_RX11_200) rfl rfl (Nat.le_of_ble_eq_true rfl) (by rw [hr]; exact ⟨by decide, by decide⟩) (by rw [hr]; exact ⟨Nat.le_of_ble_eq_true rfl, Nat.le_of_ble_eq_true rfl⟩) ?_
  intro rv h' hq_
  rw [hq_.1, hq_.2]
  show AW V 0 0 h 13 [(0, .ref B), (1, .int c)] [.int (b2i (oO c 0 999))]
  refine a_if_eq hb 19 dX11_inertia_13 (by decide) (fun c13 => ?_) (fun c13 => ?_)
  · simp [b2i_0] at c13
    refine a_aload_n hb dX11_inertia_19 rfl 0 rfl ?_
    refine a_callV hb dX11_inertia_20 (by rw [hg]; exact x_layDemand g h B vq lq hl S N P hC) (by rw [ow]; exact clv_RX11_190) (hC.1.1.1 0 (by decide)) (by decide) rfl rfl rfl (Nat.le_of_ble_eq_true rfl) (by rw [hr]; exact ⟨by decide, by decide⟩) (by rw [hr]; exact ⟨Nat.le_of_ble_eq_true rfl, Nat.le_of_ble_eq_true rfl⟩) ?_
    intro rv h1_ hp
    obtain ⟨hv, hf1, hx1_0⟩ := hp
    rw [hv]
    have hF1 := FR.tr FR.rf (FR.mo (A := Xd B vq) (A' := Xb B vq) hf1 (by intro a; unfold Xd Xb; omega))
    have hC1 := hC.fr (FR.mo (A := Xb B vq) (A' := Ay B vq) hF1 (by intro a; unfold Xb Ay; omega))
    clear hv
    show AW V 0 0 h1_ 23 [(0, .ref B), (1, .int c)] []
    refine a_aload_n hb dX11_inertia_23 rfl 0 rfl ?_
    refine a_aload_n hb dX11_inertia_24 rfl 0 rfl ?_
    refine a_getQ (q := (B + 22)) hb dX11_inertia_25 (by rw [ow]; exact fl_RX11_36_11) (hC1.1.1.1 0 (by decide)) (hC1.1.1.2.1 (0, 5, 22) (by decide)) ?_
    refine a_iconst (v := (-1)) hb dX11_inertia_28 (by decide) ?_
    refine a_callV hb dX11_inertia_29 (by rw [hg]; exact x_layMade22 g h1_ B vq lq hl S N P hC1 (-1)) (by rw [ow]; exact clv_RX11_193) (hC1.1.1.1 0 (by decide)) (by decide) rfl rfl rfl (Nat.le_of_ble_eq_true rfl) (by rw [hr]; exact ⟨by decide, by decide⟩) (by rw [hr]; exact ⟨Nat.le_of_ble_eq_true rfl, Nat.le_of_ble_eq_true rfl⟩) ?_
    intro rv h2_ hp
    obtain ⟨hv, hf2, hx2_0⟩ := hp
    rw [hv]
    have hF2 := FR.tr hF1 (FR.mo (A := Xm B vq) (A' := Xb B vq) hf2 (by intro a; unfold Xm Xb; omega))
    have hC2 := hC.fr (FR.mo (A := Xb B vq) (A' := Ay B vq) hF2 (by intro a; unfold Xb Ay; omega))
    clear hv
    show AW V 0 0 h2_ 32 [(0, .ref B), (1, .int c)] []
    have hD : ∀ t, t < 40 → hI h2_ (B + 21) t = dmS P S (fun _ => 0) hl (nI t) N.1 := fun t q => by rw [hf2.2.2.2.2 (B + 21) (by unfold Xm; omega)]; exact hx1_0 t q
    have hM : ∀ t, t < 40 → hI h2_ (B + 22) t = mdB S (-1) (nI t) N.2.1 := hx2_0
    refine a_getsLeast hb dX11_inertia_32 (by rw [ow]; exact kw_378) ?_
    refine a_iconst (v := 2) hb dX11_inertia_35 (by decide) ?_
    refine a_ldLeast hb dX11_inertia_36 (IX.inn (j := 2) ⟨by decide, by decide⟩ (by decide)) ?_
    rw [(⟨by decide, by decide⟩ : IX 2 2).2]
    refine a_istore_n (L' := [(2, .int (([0, 1, 1] : List Int32).getD 2 0)), (0, .ref B), (1, .int c)]) hb dX11_inertia_37 rfl (by rw [hml]; decide) rfl ?_
    rw [if_neg (by simp [c13])] at hz
    generalize hR : insS (fun t => mdB S (-1) (nI t) N.2.1) (fun t => dmS P S (fun _ => 0) hl (nI t) N.1) c 0 999 = R at hz
    have loop : ∀ (k i : Nat) (iv : insS (fun t => mdB S (-1) (nI t) N.2.1) (fun t => dmS P S (fun _ => 0) hl (nI t) N.1) c i k = R), i + k = 999 → AW V 0 0 h2_ 38 [(0, .ref B), (1, .int c), (2, .int (nI (i + 1)))] [] := by
      intro k
      induction k with
      | zero =>
        intro i iv hi
        refine a_iload_n hb dX11_inertia_38 rfl 2 rfl ?_
        refine a_getsMost hb dX11_inertia_39 (by rw [ow]; exact kw_380) ?_
        refine a_iconst (v := 2) hb dX11_inertia_42 (by decide) ?_
        refine a_ldMost hb dX11_inertia_43 (IX.inn (j := 2) ⟨by decide, by decide⟩ (by decide)) ?_
        rw [(⟨by decide, by decide⟩ : IX 2 2).2]
        refine a_icmp_gt hb 66 dX11_inertia_44 (by decide) (fun c44 => ?_) (fun c44 => absurd ((nI_ltI (a := 999) (b := i + 1) (by omega) (by omega)).mpr (by omega)) c44)
        refine a_bipush (v := (-5)) hb dX11_inertia_66 (by decide) ?_
        exact a_ireturn (ty := .int) hb hz dX11_inertia_68 hret rfl (by rw [hr]; exact Nat.le_of_ble_eq_true rfl) (by rw [hr]; exact Nat.le_of_ble_eq_true rfl) (⟨by rw [← iv]; rfl, hF2⟩)
      | succ k ih =>
        intro i iv hi
        refine a_iload_n hb dX11_inertia_38 rfl 2 rfl ?_
        refine a_getsMost hb dX11_inertia_39 (by rw [ow]; exact kw_380) ?_
        refine a_iconst (v := 2) hb dX11_inertia_42 (by decide) ?_
        refine a_ldMost hb dX11_inertia_43 (IX.inn (j := 2) ⟨by decide, by decide⟩ (by decide)) ?_
        rw [(⟨by decide, by decide⟩ : IX 2 2).2]
        refine a_icmp_gt hb 66 dX11_inertia_44 (by decide) (fun c44 => absurd c44 (fun q => absurd ((nI_ltI (a := 999) (b := i + 1) (by omega) (by omega)).mp q) (by omega))) (fun c44 => ?_)
        refine a_aload_n hb dX11_inertia_47 rfl 0 rfl ?_
        refine a_iload_n hb dX11_inertia_48 rfl 1 rfl ?_
        refine a_iload_n hb dX11_inertia_49 rfl 2 rfl ?_
        refine a_callV hb dX11_inertia_50 (by rw [hg]; exact x_firstBeyond g h2_ B vq lq hl S N P hC2 c (nI (i + 1)) (oO_nI (n := i + 1) (b := 999) (by omega) (by omega) (by decide))) (by rw [ow]; exact clv_RX11_203) (hC2.1.1.1 0 (by decide)) (by decide) rfl rfl rfl (Nat.le_of_ble_eq_true rfl) (by rw [hr]; exact ⟨by decide, by decide⟩) (by rw [hr]; exact ⟨Nat.le_of_ble_eq_true rfl, Nat.le_of_ble_eq_true rfl⟩) ?_
        intro rv h' hq_
        rw [hq_.1, hq_.2]
        show AW V 0 0 h2_ 53 [(0, .ref B), (1, .int c), (2, .int (nI (i + 1)))] [.int (fiS (fun t => biS (hI h2_ (B + 22)) (hI h2_ (B + 21)) (nI (i + 1)) (t + 1)) c 0 40)]
        rw [fi_rows hC (oO_nI (n := i + 1) (b := 999) (by omega) (by omega) (by decide)) hD hM]
        show AW V 0 0 h2_ 53 [(0, .ref B), (1, .int c), (2, .int (nI (i + 1)))] [.int (fbF (fun t => btS (fun t => mdB S (-1) (nI t) N.2.1) (fun t => dmS P S (fun _ => 0) hl (nI t) N.1) (nI (i + 1)) (t + 1)) c 0 40)]
        refine a_bipush (v := (-5)) hb dX11_inertia_53 (by decide) ?_
        refine a_icmp_ne hb 60 dX11_inertia_55 (by decide) (fun c55 => ?_) (fun c55 => ?_)
        · refine a_iinc (v := ((nI (i + 1)) + 1)) (L' := [(2, .int ((nI (i + 1)) + 1)), (0, .ref B), (1, .int c)]) hb dX11_inertia_60 2 rfl rfl (by rw [hml]; decide) rfl ?_
          refine a_goto hb 38 dX11_inertia_63 (by decide) ?_
          refine AW.sub (L' := [(0, .ref B), (1, .int c), (2, .int ((nI (i + 1)) + 1))]) [1, 2, 0] rfl ?_
          exact AW.eq (ih (i + 1) (by rw [← iv, insS, if_neg c55]) (by omega)) rfl rfl (by simp only [nI_1]) rfl
        · refine a_iload_n hb dX11_inertia_58 rfl 2 rfl ?_
          exact a_ireturn (ty := .int) hb hz dX11_inertia_59 hret rfl (by rw [hr]; exact Nat.le_of_ble_eq_true rfl) (by rw [hr]; exact Nat.le_of_ble_eq_true rfl) (⟨by rw [← iv, insS, if_pos (by simpa using c55)], hF2⟩)
    refine AW.sub (L' := [(0, .ref B), (1, .int c), (2, .int (([0, 1, 1] : List Int32).getD 2 0))]) [1, 2, 0] rfl ?_
    exact AW.eq (loop 999 0 hR (by omega)) rfl rfl (rfl) rfl
  · simp [b2i_0] at c13
    refine a_bipush (v := (-2)) hb dX11_inertia_16 (by decide) ?_
    exact a_ireturn (ty := .int) hb hz dX11_inertia_18 hret rfl (by rw [hr]; exact Nat.le_of_ble_eq_true rfl) (by rw [hr]; exact Nat.le_of_ble_eq_true rfl) (⟨(by rw [if_pos (by simp [c13])]), FR.rf⟩)
set_option maxRecDepth 100000 in
theorem x_demandBefore (g : GG) (h : AH) (B vq lq hl : Nat) (S : Nat → Int32) (N : NN) (P : PF) (hC : CX g h B vq lq hl S N P) (t m : Nat) (ht : t < 40) (hm : m ≤ 36) : AM g 1 0 0 mX11_demandBefore [.ref B, .int (nI t), .int (nI m)] h (fun rv h' => rv = some (.int (pfS (hI h (B + 21)) m t)) ∧ h' = h) := by
  refine AM.of [(0, .ref B), (1, .int (nI t)), (2, .int (nI m))] (by decide) (Nat.le_of_ble_eq_true rfl) rfl ?_
  intro V hV
  have hb : V.2.1.2.1 = cX11_demandBefore := by subst hV; rfl
  have ow : V.2.1.1.cls = RX11 := by subst hV; rfl
  have hr : V.2.2.1 = aw_rm 1 0 0 := by subst hV; rfl
  have hz : V.2.2.2 = aw_Z V.1 (fun rv h' => rv = some (.int (pfS (hI h (B + 21)) m t)) ∧ h' = h) V.2.2.1 := by subst hV; rfl
  have hg : V.1 = g := by subst hV; rfl
  have hret : V.2.1.2.2.2 = (some .int) := by subst hV; rfl
  have hml : V.2.1.2.2.1 = 3 := by subst hV; rfl
  clear hV
  have hvq : B + 62 ≤ vq := hC.2.1.2.2.2.2.2.1
  have hnp := hC.1.np
  have hnw := hC.1.nw
  refine a_iload_n hb dX11_demandBefore_0 rfl 1 rfl ?_
  refine a_iload_n hb dX11_demandBefore_1 rfl 2 rfl ?_
  refine a_icmp_ge hb 9 dX11_demandBefore_2 (by decide) (fun c2 => ?_) (fun c2 => ?_)
  · have hle : m ≤ t := (nI_leI (by omega) (by omega)).mp c2
    refine a_aload_n hb dX11_demandBefore_9 rfl 0 rfl ?_
    refine a_getQ (q := (B + 21)) hb dX11_demandBefore_10 (by rw [ow]; exact fl_RX11_32_11) (hC.1.1.1 0 (by decide)) (hC.1.1.2.1 (0, 4, 21) (by decide)) ?_
    refine a_iload_n hb dX11_demandBefore_13 rfl 1 rfl ?_
    refine a_iload_n hb dX11_demandBefore_14 rfl 2 rfl ?_
    refine a_isub hb dX11_demandBefore_15 ?_
    refine b_iald (j := (t - m)) hb dX11_demandBefore_16 (hC.1.1.1 21 (by decide)) (IX.sub (IX.n (by omega)) (IX.n (by omega)) (by omega)) (by omega) ?_
    exact a_ireturn (ty := .int) hb hz dX11_demandBefore_17 hret rfl (by rw [hr]; exact Nat.le_of_ble_eq_true rfl) (by rw [hr]; exact Nat.le_of_ble_eq_true rfl) (⟨by rw [pfS, if_neg (by omega)], rfl⟩)
  · have hle : t < m := Nat.lt_of_not_le (fun z => c2 (nI_le z (by omega)))
    refine a_iconst (v := 0) hb dX11_demandBefore_5 (by decide) ?_
    refine a_goto hb 17 dX11_demandBefore_6 (by decide) ?_
    exact a_ireturn (ty := .int) hb hz dX11_demandBefore_17 hret rfl (by rw [hr]; exact Nat.le_of_ble_eq_true rfl) (by rw [hr]; exact Nat.le_of_ble_eq_true rfl) (⟨by rw [pfS, if_pos (by omega)], rfl⟩)
theorem pm_n {f : Nat → Int32} {i : Nat} (c : ¬ f (i + 1) ≤ (pmS f (i + 1)).2) : pmS f (i + 1 + 1) = (nI (i + 1), f (i + 1)) := by
  show (if i + 1 = 0 ∨ (pmS f (i + 1)).2 < f (i + 1) then _ else _) = _
  rw [if_pos (Or.inr (Int32.not_le.mp c))]
theorem pm_s {f : Nat → Int32} {i : Nat} (c : f (i + 1) ≤ (pmS f (i + 1)).2) : pmS f (i + 1 + 1) = pmS f (i + 1) := by
  show (if i + 1 = 0 ∨ (pmS f (i + 1)).2 < f (i + 1) then _ else _) = _
  rw [if_neg (fun q => q.elim (by omega) (fun z => Int32.not_lt.mpr c z))]
theorem pf_c {f f' : Nat → Int32} {m : Nat} (h : ∀ t, t < 40 → f t = f' t) {t : Nat} (ht : t < 40) : pfS f m t = pfS f' m t := by
  unfold pfS
  split
  · rfl
  · exact h _ (by omega)
set_option maxRecDepth 100000 in
theorem x_pump (g : GG) (h : AH) (B vq lq hl : Nat) (S : Nat → Int32) (N : NN) (P : PF) (hC : CX g h B vq lq hl S N P) (p k0 : Int32) : AM g 8 0 0 mX11_pump [.ref B, .int p, .int k0] h (fun rv h' => rv = some (.int (if oO p 0 9 then -1 else if oO k0 0 4 then -2 else (pmS (pfS (fun t => dmS P S (fun _ => 0) hl (nI t) N.1) (p.toNatClampNeg * k0.toNatClampNeg)) 40).1)) ∧ FR (Xd B vq) h h') := by
  refine AM.of [(0, .ref B), (1, .int p), (2, .int k0)] (by decide) (Nat.le_of_ble_eq_true rfl) rfl ?_
  intro V hV
  have hb : V.2.1.2.1 = cX11_pump := by subst hV; rfl
  have ow : V.2.1.1.cls = RX11 := by subst hV; rfl
  have hr : V.2.2.1 = aw_rm 8 0 0 := by subst hV; rfl
  have hz : V.2.2.2 = aw_Z V.1 (fun rv h' => rv = some (.int (if oO p 0 9 then -1 else if oO k0 0 4 then -2 else (pmS (pfS (fun t => dmS P S (fun _ => 0) hl (nI t) N.1) (p.toNatClampNeg * k0.toNatClampNeg)) 40).1)) ∧ FR (Xd B vq) h h') V.2.2.1 := by subst hV; rfl
  have hg : V.1 = g := by subst hV; rfl
  have hret : V.2.1.2.2.2 = (some .int) := by subst hV; rfl
  have hml : V.2.1.2.2.1 = 8 := by subst hV; rfl
  clear hV
  have hvq : B + 62 ≤ vq := hC.2.1.2.2.2.2.2.1
  have hnp := hC.1.np
  have hnw := hC.1.nw
  refine a_iload_n hb dX11_pump_0 rfl 1 rfl ?_
  refine a_iconst (v := 0) hb dX11_pump_1 (by decide) ?_
  refine a_bipush (v := 9) hb dX11_pump_2 (by decide) ?_
  refine a_callS hb dX11_pump_4 (by rw [hg]; exact w_outside g h p 0 9) (by rw [ow]; exact cls_RX11_53) rfl rfl (Nat.le_of_ble_eq_true rfl) (by rw [hr]; exact ⟨by decide, by decide⟩) (by rw [hr]; exact ⟨Nat.le_of_ble_eq_true rfl, Nat.le_of_ble_eq_true rfl⟩) ?_
  intro rv h' hq_
  rw [hq_.1, hq_.2]
  show AW V 0 0 h 7 [(0, .ref B), (1, .int p), (2, .int k0)] [.int (b2i (oO p 0 9))]
  refine a_if_ne hb 17 dX11_pump_7 (by decide) (fun c7 => ?_) (fun c7 => ?_)
  · simp [b2i_0] at c7
    refine a_iconst (v := (-1)) hb dX11_pump_17 (by decide) ?_
    exact a_ireturn (ty := .int) hb hz dX11_pump_18 hret rfl (by rw [hr]; exact Nat.le_of_ble_eq_true rfl) (by rw [hr]; exact Nat.le_of_ble_eq_true rfl) (⟨(by rw [if_pos (by simp [c7])]), FR.rf⟩)
  · simp [b2i_0] at c7
    obtain ⟨p_, rfl, lp⟩ := c_le (z := 9) (b := 9) (by decide) (by simpa using c7)
    refine a_aload_n hb dX11_pump_10 rfl 0 rfl ?_
    refine a_callV hb dX11_pump_11 (by rw [hg]; exact x_noLaw g h B S N hC.1) (by rw [ow]; exact clv_RX11_136) (hC.1.1.1 0 (by decide)) (by decide) rfl rfl rfl (Nat.le_of_ble_eq_true rfl) (by rw [hr]; exact ⟨by decide, by decide⟩) (by rw [hr]; exact ⟨Nat.le_of_ble_eq_true rfl, Nat.le_of_ble_eq_true rfl⟩) ?_
    intro rv h' hq_
    rw [hq_.1, hq_.2, if_neg (by have := hC.2.1.1; omega)]
    show AW V 0 0 h 14 [(0, .ref B), (1, .int (nI p_)), (2, .int k0)] [.int 0]
    refine a_if_eq hb 19 dX11_pump_14 (by decide) (fun c14 => ?_) (fun c14 => absurd (by decide) c14)
    refine a_iload_n hb dX11_pump_19 rfl 2 rfl ?_
    refine a_iconst (v := 0) hb dX11_pump_20 (by decide) ?_
    refine a_iconst (v := 4) hb dX11_pump_21 (by decide) ?_
    refine a_callS hb dX11_pump_22 (by rw [hg]; exact w_outside g h k0 0 4) (by rw [ow]; exact cls_RX11_53) rfl rfl (Nat.le_of_ble_eq_true rfl) (by rw [hr]; exact ⟨by decide, by decide⟩) (by rw [hr]; exact ⟨Nat.le_of_ble_eq_true rfl, Nat.le_of_ble_eq_true rfl⟩) ?_
    intro rv h' hq_
    rw [hq_.1, hq_.2]
    show AW V 0 0 h 25 [(0, .ref B), (1, .int (nI p_)), (2, .int k0)] [.int (b2i (oO k0 0 4))]
    refine a_if_eq hb 31 dX11_pump_25 (by decide) (fun c25 => ?_) (fun c25 => ?_)
    · simp [b2i_0] at c25
      obtain ⟨k0_, rfl, lk0⟩ := c_le (z := 4) (b := 4) (by decide) (by simpa using c25)
      have hpk : p_ * k0_ ≤ 36 := Nat.le_trans (Nat.mul_le_mul lp lk0) (by decide)
      refine a_aload_n hb dX11_pump_31 rfl 0 rfl ?_
      refine a_callV hb dX11_pump_32 (by rw [hg]; exact x_layDemand g h B vq lq hl S N P hC) (by rw [ow]; exact clv_RX11_190) (hC.1.1.1 0 (by decide)) (by decide) rfl rfl rfl (Nat.le_of_ble_eq_true rfl) (by rw [hr]; exact ⟨by decide, by decide⟩) (by rw [hr]; exact ⟨Nat.le_of_ble_eq_true rfl, Nat.le_of_ble_eq_true rfl⟩) ?_
      intro rv h1_ hp
      obtain ⟨hv, hf1, hx1_0⟩ := hp
      rw [hv]
      have hF1 := FR.tr FR.rf hf1
      have hC1 := hC.fr (FR.mo (A := Xd B vq) (A' := Ay B vq) hF1 (by intro a; unfold Xd Ay; omega))
      clear hv
      show AW V 0 0 h1_ 35 [(0, .ref B), (1, .int (nI p_)), (2, .int (nI k0_))] []
      have hD := hx1_0
      refine a_iload_n hb dX11_pump_35 rfl 1 rfl ?_
      refine a_iload_n hb dX11_pump_36 rfl 2 rfl ?_
      refine a_imul hb dX11_pump_37 ?_
      rw [pk_mul]
      show AW V 0 0 h1_ 38 [(0, .ref B), (1, .int (nI p_)), (2, .int (nI k0_))] [.int (nI (p_ * k0_))]
      refine a_istore_n (L' := [(3, .int (nI (p_ * k0_))), (0, .ref B), (1, .int (nI p_)), (2, .int (nI k0_))]) hb dX11_pump_38 rfl (by rw [hml]; decide) rfl ?_
      refine a_iconst (v := 0) hb dX11_pump_39 (by decide) ?_
      refine a_istore (L' := [(4, .int 0), (3, .int (nI (p_ * k0_))), (0, .ref B), (1, .int (nI p_)), (2, .int (nI k0_))]) hb dX11_pump_40 (by rw [hml]; decide) rfl ?_
      refine a_aload_n hb dX11_pump_42 rfl 2 rfl ?_
      refine a_iconst (v := 0) hb dX11_pump_43 (by decide) ?_
      refine a_iload_n hb dX11_pump_44 rfl 1 rfl ?_
      refine a_callV hb dX11_pump_45 (by rw [hg]; exact x_demandBefore g h1_ B vq lq hl S N P hC1 0 (p_ * k0_) (by omega) (by omega)) (by rw [ow]; exact clv_RX11_247) (hC1.1.1.1 0 (by decide)) (by decide) rfl rfl rfl (Nat.le_of_ble_eq_true rfl) (by rw [hr]; exact ⟨by decide, by decide⟩) (by rw [hr]; exact ⟨Nat.le_of_ble_eq_true rfl, Nat.le_of_ble_eq_true rfl⟩) ?_
      intro rv h' hq_
      rw [hq_.1, hq_.2]
      show AW V 0 0 h1_ 48 [(4, .int 0), (3, .int (nI (p_ * k0_))), (0, .ref B), (1, .int (nI p_)), (2, .int (nI k0_))] [.int (pfS (hI h1_ (B + 21)) (p_ * k0_) 0)]
      refine a_istore (L' := [(5, .int (pfS (hI h1_ (B + 21)) (p_ * k0_) 0)), (4, .int 0), (3, .int (nI (p_ * k0_))), (0, .ref B), (1, .int (nI p_)), (2, .int (nI k0_))]) hb dX11_pump_48 (by rw [hml]; decide) rfl ?_
      refine a_iconst (v := 1) hb dX11_pump_50 (by decide) ?_
      refine a_istore (L' := [(6, .int 1), (5, .int (pfS (hI h1_ (B + 21)) (p_ * k0_) 0)), (4, .int 0), (3, .int (nI (p_ * k0_))), (0, .ref B), (1, .int (nI p_)), (2, .int (nI k0_))]) hb dX11_pump_51 (by rw [hml]; decide) rfl ?_
      have loop : ∀ (k i : Nat), i + k = 39 → AW V 0 0 h1_ 53 [(0, .ref B), (1, .int (nI p_)), (2, .int (nI k0_)), (3, .int (nI (p_ * k0_))), (4, .int ((pmS (pfS (hI h1_ (B + 21)) (p_ * k0_)) (i + 1)).1)), (5, .int ((pmS (pfS (hI h1_ (B + 21)) (p_ * k0_)) (i + 1)).2)), (6, .int (nI (i + 1)))] [] := by
        intro k
        induction k with
        | zero =>
          intro i hi
          refine a_iload hb dX11_pump_53 6 rfl ?_
          refine a_bipush (v := 40) hb dX11_pump_55 (by decide) ?_
          refine a_icmp_ge hb 90 dX11_pump_57 (by decide) (fun c57 => ?_) (fun c57 => absurd (nI_le (a := 40) (b := i + 1) (by omega) (by omega)) c57)
          refine a_iload hb dX11_pump_90 4 rfl ?_
          exact a_ireturn (ty := .int) hb hz dX11_pump_92 hret rfl (by rw [hr]; exact Nat.le_of_ble_eq_true rfl) (by rw [hr]; exact Nat.le_of_ble_eq_true rfl) (⟨by rw [if_neg (by simpa using c7), if_neg (by simp [c25]), nI_clamp (by omega), nI_clamp (by omega), show i + 1 = 40 by omega, pmS_c 40 (fun t ht => pf_c hD ht)], hF1⟩)
        | succ k ih =>
          intro i hi
          refine a_iload hb dX11_pump_53 6 rfl ?_
          refine a_bipush (v := 40) hb dX11_pump_55 (by decide) ?_
          refine a_icmp_ge hb 90 dX11_pump_57 (by decide) (fun c57 => absurd c57 (nI_ge (b := 40) (a := i + 1) (by omega) (by omega))) (fun c57 => ?_)
          refine a_aload_n hb dX11_pump_60 rfl 0 rfl ?_
          refine a_iload hb dX11_pump_61 6 rfl ?_
          refine a_iload_n hb dX11_pump_63 rfl 3 rfl ?_
          refine a_callV hb dX11_pump_64 (by rw [hg]; exact x_demandBefore g h1_ B vq lq hl S N P hC1 (i + 1) (p_ * k0_) (by omega) (by omega)) (by rw [ow]; exact clv_RX11_247) (hC1.1.1.1 0 (by decide)) (by decide) rfl rfl rfl (Nat.le_of_ble_eq_true rfl) (by rw [hr]; exact ⟨by decide, by decide⟩) (by rw [hr]; exact ⟨Nat.le_of_ble_eq_true rfl, Nat.le_of_ble_eq_true rfl⟩) ?_
          intro rv h' hq_
          rw [hq_.1, hq_.2]
          show AW V 0 0 h1_ 67 [(0, .ref B), (1, .int (nI p_)), (2, .int (nI k0_)), (3, .int (nI (p_ * k0_))), (4, .int ((pmS (pfS (hI h1_ (B + 21)) (p_ * k0_)) (i + 1)).1)), (5, .int ((pmS (pfS (hI h1_ (B + 21)) (p_ * k0_)) (i + 1)).2)), (6, .int (nI (i + 1)))] [.int (pfS (hI h1_ (B + 21)) (p_ * k0_) (i + 1))]
          refine a_istore (L' := [(7, .int (pfS (hI h1_ (B + 21)) (p_ * k0_) (i + 1))), (0, .ref B), (1, .int (nI p_)), (2, .int (nI k0_)), (3, .int (nI (p_ * k0_))), (4, .int ((pmS (pfS (hI h1_ (B + 21)) (p_ * k0_)) (i + 1)).1)), (5, .int ((pmS (pfS (hI h1_ (B + 21)) (p_ * k0_)) (i + 1)).2)), (6, .int (nI (i + 1)))]) hb dX11_pump_67 (by rw [hml]; decide) rfl ?_
          refine a_iload hb dX11_pump_69 0 rfl ?_
          refine a_iload hb dX11_pump_71 6 rfl ?_
          refine a_icmp_le hb 84 dX11_pump_73 (by decide) (fun c73 => ?_) (fun c73 => ?_)
          · refine a_iinc (v := ((nI (i + 1)) + 1)) (L' := [(6, .int ((nI (i + 1)) + 1)), (7, .int (pfS (hI h1_ (B + 21)) (p_ * k0_) (i + 1))), (0, .ref B), (1, .int (nI p_)), (2, .int (nI k0_)), (3, .int (nI (p_ * k0_))), (4, .int ((pmS (pfS (hI h1_ (B + 21)) (p_ * k0_)) (i + 1)).1)), (5, .int ((pmS (pfS (hI h1_ (B + 21)) (p_ * k0_)) (i + 1)).2))]) hb dX11_pump_84 7 rfl rfl (by rw [hml]; decide) rfl ?_
            refine a_goto hb 53 dX11_pump_87 (by decide) ?_
            refine AW.sub (L' := [(0, .ref B), (1, .int (nI p_)), (2, .int (nI k0_)), (3, .int (nI (p_ * k0_))), (4, .int ((pmS (pfS (hI h1_ (B + 21)) (p_ * k0_)) (i + 1)).1)), (5, .int ((pmS (pfS (hI h1_ (B + 21)) (p_ * k0_)) (i + 1)).2)), (6, .int ((nI (i + 1)) + 1))]) [2, 3, 4, 5, 6, 7, 0] rfl ?_
            exact AW.eq (ih (i + 1) (by omega)) rfl rfl (by first | (rw [pm_n c73, nI_1]; done) | (rw [pm_s c73, nI_1]; done)) rfl
          · refine a_iload hb dX11_pump_76 0 rfl ?_
            refine a_istore (L' := [(5, .int (pfS (hI h1_ (B + 21)) (p_ * k0_) (i + 1))), (7, .int (pfS (hI h1_ (B + 21)) (p_ * k0_) (i + 1))), (0, .ref B), (1, .int (nI p_)), (2, .int (nI k0_)), (3, .int (nI (p_ * k0_))), (4, .int ((pmS (pfS (hI h1_ (B + 21)) (p_ * k0_)) (i + 1)).1)), (6, .int (nI (i + 1)))]) hb dX11_pump_78 (by rw [hml]; decide) rfl ?_
            refine a_iload hb dX11_pump_80 7 rfl ?_
            refine a_istore (L' := [(4, .int (nI (i + 1))), (5, .int (pfS (hI h1_ (B + 21)) (p_ * k0_) (i + 1))), (7, .int (pfS (hI h1_ (B + 21)) (p_ * k0_) (i + 1))), (0, .ref B), (1, .int (nI p_)), (2, .int (nI k0_)), (3, .int (nI (p_ * k0_))), (6, .int (nI (i + 1)))]) hb dX11_pump_82 (by rw [hml]; decide) rfl ?_
            refine a_iinc (v := ((nI (i + 1)) + 1)) (L' := [(6, .int ((nI (i + 1)) + 1)), (4, .int (nI (i + 1))), (5, .int (pfS (hI h1_ (B + 21)) (p_ * k0_) (i + 1))), (7, .int (pfS (hI h1_ (B + 21)) (p_ * k0_) (i + 1))), (0, .ref B), (1, .int (nI p_)), (2, .int (nI k0_)), (3, .int (nI (p_ * k0_)))]) hb dX11_pump_84 7 rfl rfl (by rw [hml]; decide) rfl ?_
            refine a_goto hb 53 dX11_pump_87 (by decide) ?_
            refine AW.sub (L' := [(0, .ref B), (1, .int (nI p_)), (2, .int (nI k0_)), (3, .int (nI (p_ * k0_))), (4, .int (nI (i + 1))), (5, .int (pfS (hI h1_ (B + 21)) (p_ * k0_) (i + 1))), (6, .int ((nI (i + 1)) + 1))]) [4, 5, 6, 7, 1, 2, 0] rfl ?_
            exact AW.eq (ih (i + 1) (by omega)) rfl rfl (by first | (rw [pm_n c73, nI_1]; done) | (rw [pm_s c73, nI_1]; done)) rfl
      refine AW.sub (L' := [(0, .ref B), (1, .int (nI p_)), (2, .int (nI k0_)), (3, .int (nI (p_ * k0_))), (4, .int 0), (5, .int (pfS (hI h1_ (B + 21)) (p_ * k0_) 0)), (6, .int 1)]) [4, 5, 6, 3, 2, 1, 0] rfl ?_
      exact AW.eq (loop 39 0 (by omega)) rfl rfl (rfl) rfl
    · simp [b2i_0] at c25
      refine a_bipush (v := (-2)) hb dX11_pump_28 (by decide) ?_
      exact a_ireturn (ty := .int) hb hz dX11_pump_30 hret rfl (by rw [hr]; exact Nat.le_of_ble_eq_true rfl) (by rw [hr]; exact Nat.le_of_ble_eq_true rfl) (⟨(by rw [if_neg (by simp [c7]), if_pos (by simp [c25])]), FR.rf⟩)
