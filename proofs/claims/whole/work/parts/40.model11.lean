/-! ===== the model: watched ===== -/
def ofF (P : PF) (S : Nat → Int32) (hl : Nat) (tick : Int32) (rn z : Nat) : Int32 := ofS P S hl tick z rn
set_option maxRecDepth 100000 in
theorem m_watched (g : GG) (h : AH) (B : Nat) (hL : LY h B) (P : PF) (hP : PcM g B h P) (h6 : ¬ hI h (B + 52) 6 = 0) (hl : Nat) (hhl : IX (hI h (B + 52) 8) hl) (lhl : hl < 5) (hla : ¬ hI h (B + 52) 8 = -1) (rn : Nat) (hrn : IX (hI h (B + 52) 3) rn) (lrn : rn ≤ 20) (t x : Int32) : AM g 7 0 0 mX12_watched [.ref (B + 51), .int t, .int x] h (fun rv h' => rv = some (.int (if oO x 0 1 then -1 else if oO t 0 39 then -2 else if x = 0 then (waS (ofF P (hI h (B + 52)) hl t rn) 100).1 else (waS (ofF P (hI h (B + 52)) hl t rn) 100).2)) ∧ FR (Am B) h h') := by
  refine AM.of [(0, .ref (B + 51)), (1, .int t), (2, .int x)] (by decide) (Nat.le_of_ble_eq_true rfl) rfl ?_
  intro V hV
  have hb : V.2.1.2.1 = cX12_watched := by subst hV; rfl
  have ow : V.2.1.1.cls = RX12 := by subst hV; rfl
  have hr : V.2.2.1 = aw_rm 7 0 0 := by subst hV; rfl
  have hz : V.2.2.2 = aw_Z V.1 (fun rv h' => rv = some (.int (if oO x 0 1 then -1 else if oO t 0 39 then -2 else if x = 0 then (waS (ofF P (hI h (B + 52)) hl t rn) 100).1 else (waS (ofF P (hI h (B + 52)) hl t rn) 100).2)) ∧ FR (Am B) h h') V.2.2.1 := by subst hV; rfl
  have hg : V.1 = g := by subst hV; rfl
  have hret : V.2.1.2.2.2 = (some .int) := by subst hV; rfl
  have hml : V.2.1.2.2.1 = 8 := by subst hV; rfl
  clear hV
  have inner : ∀ (bo lo : Int32) (z : Nat) (K : ∀ h2, FR (Am B) h h2 → AW V 0 0 h2 102 [(0, .ref (B + 51)), (1, .int t), (2, .int x), (3, .int bo), (4, .int lo), (5, .int (nI z)), (6, .int ((ofF P (hI h (B + 52)) hl t rn) z)), (7, .int (nI rn))] []) (k i : Nat) (h1 : AH) (hF1 : FR (Am B) h h1) (iv : True), i + k = rn → AW V 0 0 h1 49 [(0, .ref (B + 51)), (1, .int t), (2, .int x), (3, .int bo), (4, .int lo), (5, .int (nI z)), (6, .int (ofS P (hI h (B + 52)) hl t z i)), (7, .int (nI i))] [] := by
    intro bo lo z K
    have lp : ∀ (k i : Nat) (h1 : AH) (hF1 : FR (Am B) h h1) (iv : True), i + k = rn → AW V 0 0 h1 49 [(0, .ref (B + 51)), (1, .int t), (2, .int x), (3, .int bo), (4, .int lo), (5, .int (nI z)), (6, .int (ofS P (hI h (B + 52)) hl t z i)), (7, .int (nI i))] [] := by
      intro k
      induction k with
      | zero =>
        intro i h1 hF1 iv hi
        have hL0_ : LY h1 B := FR.ly hF1 hL
        have hS0_52 : hI h1 (B + 52) = hI h (B + 52) := hF1.2.2.2.2 _ (by unfold Am; omega)
        have hS0_56 : hI h1 (B + 56) = hI h (B + 56) := hF1.2.2.2.2 _ (by unfold Am; omega)
        refine a_iload hb dX12_watched_49 7 rfl ?_
        refine a_aload_n hb dX12_watched_51 rfl 0 rfl ?_
        refine a_getQ (q := (B + 52)) hb dX12_watched_52 (by rw [ow]; exact fl_RX12_9_12) (hL0_.1 51 (by decide)) (hL0_.2.1 (51, 1, 52) (by decide)) ?_
        refine a_iconst (v := 3) hb dX12_watched_55 (by decide) ?_
        refine b_iald (j := 3) hb dX12_watched_56 (hL0_.1 52 (by decide)) ⟨by decide, by decide⟩ (by decide) ?_
        rw [hS0_52]
        refine a_icmp_ge hb 102 dX12_watched_57 (by decide) (fun c57 => ?_) (fun c57 => absurd (by rw [hrn.eq.1]; exact nI_le (by omega) (by omega)) c57)
        refine AW.sub (L' := [(0, .ref (B + 51)), (1, .int t), (2, .int x), (3, .int bo), (4, .int lo), (5, .int (nI z)), (6, .int (ofS P (hI h (B + 52)) hl t z i)), (7, .int (nI i))]) [0, 1, 2, 3, 4, 5, 6, 7] rfl ?_
        exact AW.eq (K h1 hF1) rfl rfl (by rw [show rn = i by omega]; rfl) rfl
      | succ k ih =>
        intro i h1 hF1 iv hi
        have hL0_ : LY h1 B := FR.ly hF1 hL
        have hS0_52 : hI h1 (B + 52) = hI h (B + 52) := hF1.2.2.2.2 _ (by unfold Am; omega)
        have hS0_56 : hI h1 (B + 56) = hI h (B + 56) := hF1.2.2.2.2 _ (by unfold Am; omega)
        refine a_iload hb dX12_watched_49 7 rfl ?_
        refine a_aload_n hb dX12_watched_51 rfl 0 rfl ?_
        refine a_getQ (q := (B + 52)) hb dX12_watched_52 (by rw [ow]; exact fl_RX12_9_12) (hL0_.1 51 (by decide)) (hL0_.2.1 (51, 1, 52) (by decide)) ?_
        refine a_iconst (v := 3) hb dX12_watched_55 (by decide) ?_
        refine b_iald (j := 3) hb dX12_watched_56 (hL0_.1 52 (by decide)) ⟨by decide, by decide⟩ (by decide) ?_
        rw [hS0_52]
        refine a_icmp_ge hb 102 dX12_watched_57 (by decide) (fun c57 => absurd c57 (by rw [hrn.eq.1]; exact nI_ge (by omega) (by omega))) (fun c57 => ?_)
        refine a_iload hb dX12_watched_60 6 rfl ?_
        refine a_aload_n hb dX12_watched_62 rfl 0 rfl ?_
        refine a_iconst (v := 0) hb dX12_watched_63 (by decide) ?_
        refine a_iload hb dX12_watched_64 5 rfl ?_
        refine a_iconst (v := 0) hb dX12_watched_66 (by decide) ?_
        refine a_iload hb dX12_watched_67 7 rfl ?_
        refine a_iload_n hb dX12_watched_69 rfl 1 rfl ?_
        refine a_isub hb dX12_watched_70 ?_
        refine a_iload hb dX12_watched_71 7 rfl ?_
        refine a_callV hb dX12_watched_73 (by rw [hg]; have h0 := m_drawnBy g h1 B hL0_ P (hP.mv (FR.mo (A := Am B) (A' := Ax B) hF1 (by intro a; unfold Am Ax; omega))) (by rw [hS0_52]; exact h6) hl (by rw [hS0_52]; exact hhl) lhl 0 (nI z) 0 ((nI i) - t) (nI i); (try rw [hS0_52] at h0); (try rw [hS0_56] at h0); exact h0) (by rw [ow]; exact clv_RX12_144) (hL0_.1 51 (by decide)) (by decide) rfl rfl rfl (Nat.le_of_ble_eq_true rfl) (by rw [hr]; exact ⟨by decide, by decide⟩) (by rw [hr]; exact ⟨Nat.le_of_ble_eq_true rfl, Nat.le_of_ble_eq_true rfl⟩) ?_
        intro rv h1_ hp
        obtain ⟨hv, hf1⟩ := hp
        rw [hv]
        have hF1 := FR.tr hF1 hf1
        have hL1 : LY h1_ B := FR.ly hF1 hL
        have hS1_52 : hI h1_ (B + 52) = hI h (B + 52) := hF1.2.2.2.2 _ (by unfold Am; omega)
        have hS1_56 : hI h1_ (B + 56) = hI h (B + 56) := hF1.2.2.2.2 _ (by unfold Am; omega)
        clear hv hf1
        show AW V 0 0 h1_ 76 [(0, .ref (B + 51)), (1, .int t), (2, .int x), (3, .int bo), (4, .int lo), (5, .int (nI z)), (6, .int (ofS P (hI h (B + 52)) hl t z i)), (7, .int (nI i))] [.int (drS P (hI h (B + 52)) hl 0 (nI z) 0 ((nI i) - t) (nI i)), .int (ofS P (hI h (B + 52)) hl t z i)]
        refine a_aload_n hb dX12_watched_76 rfl 0 rfl ?_
        refine a_getQ (q := (B + 52)) hb dX12_watched_77 (by rw [ow]; exact fl_RX12_9_12) (hL1.1 51 (by decide)) (hL1.2.1 (51, 1, 52) (by decide)) ?_
        refine a_sipush (v := 918) hb dX12_watched_80 (by decide) ?_
        refine a_iload hb dX12_watched_83 7 rfl ?_
        refine a_iadd hb dX12_watched_85 ?_
        refine b_iald (j := (918 + i)) hb dX12_watched_86 (hL1.1 52 (by decide)) (IX.add ⟨by decide, by decide⟩ (IX.n (by omega)) (by omega)) (by omega) ?_
        rw [hS1_52]
        refine a_isub hb dX12_watched_87 ?_
        refine a_i2l hb dX12_watched_88 rfl ?_
        refine a_callS hb dX12_watched_89 (by rw [hg]; exact m_sizeOf g h1_ (((drS P (hI h (B + 52)) hl 0 (nI z) 0 ((nI i) - t) (nI i)) - (hI h (B + 52) (918 + i))).toInt64)) (by rw [ow]; exact cls_RX12_171) rfl rfl (Nat.le_of_ble_eq_true rfl) (by rw [hr]; exact ⟨by decide, by decide⟩) (by rw [hr]; exact ⟨Nat.le_of_ble_eq_true rfl, Nat.le_of_ble_eq_true rfl⟩) ?_
        intro rv h' hp
        rw [hp.1, hp.2]
        show AW V 0 0 h1_ 92 [(0, .ref (B + 51)), (1, .int t), (2, .int x), (3, .int bo), (4, .int lo), (5, .int (nI z)), (6, .int (ofS P (hI h (B + 52)) hl t z i)), (7, .int (nI i))] [.long (szS (((drS P (hI h (B + 52)) hl 0 (nI z) 0 ((nI i) - t) (nI i)) - (hI h (B + 52) (918 + i))).toInt64)), .int (ofS P (hI h (B + 52)) hl t z i)]
        refine a_l2i hb dX12_watched_92 rfl ?_
        refine a_iadd hb dX12_watched_93 ?_
        refine a_istore (L' := [(6, .int ((ofS P (hI h (B + 52)) hl t z i) + ((szS (((drS P (hI h (B + 52)) hl 0 (nI z) 0 ((nI i) - t) (nI i)) - (hI h (B + 52) (918 + i))).toInt64)).toInt32))), (0, .ref (B + 51)), (1, .int t), (2, .int x), (3, .int bo), (4, .int lo), (5, .int (nI z)), (7, .int (nI i))]) hb dX12_watched_94 (by rw [hml]; decide) rfl ?_
        refine a_iinc (v := ((nI i) + 1)) (L' := [(7, .int ((nI i) + 1)), (6, .int ((ofS P (hI h (B + 52)) hl t z i) + ((szS (((drS P (hI h (B + 52)) hl 0 (nI z) 0 ((nI i) - t) (nI i)) - (hI h (B + 52) (918 + i))).toInt64)).toInt32))), (0, .ref (B + 51)), (1, .int t), (2, .int x), (3, .int bo), (4, .int lo), (5, .int (nI z))]) hb dX12_watched_96 7 rfl rfl (by rw [hml]; decide) rfl ?_
        refine a_goto hb 49 dX12_watched_99 (by decide) ?_
        refine AW.sub (L' := [(0, .ref (B + 51)), (1, .int t), (2, .int x), (3, .int bo), (4, .int lo), (5, .int (nI z)), (6, .int ((ofS P (hI h (B + 52)) hl t z i) + ((szS (((drS P (hI h (B + 52)) hl 0 (nI z) 0 ((nI i) - t) (nI i)) - (hI h (B + 52) (918 + i))).toInt64)).toInt32))), (7, .int ((nI i) + 1))]) [2, 3, 4, 5, 6, 7, 1, 0] rfl ?_
        exact AW.eq (ih (i + 1) h1_ hF1 (trivial) (by omega)) rfl rfl (by simp only [nI_1, ofS]) rfl
    exact lp
  refine a_iload_n hb dX12_watched_0 rfl 2 rfl ?_
  refine a_iconst (v := 0) hb dX12_watched_1 (by decide) ?_
  refine a_iconst (v := 1) hb dX12_watched_2 (by decide) ?_
  refine a_callS hb dX12_watched_3 (by rw [hg]; exact w_in g h x 0 1) (by rw [ow]; exact cls_RX12_48) rfl rfl (Nat.le_of_ble_eq_true rfl) (by rw [hr]; exact ⟨by decide, by decide⟩) (by rw [hr]; exact ⟨Nat.le_of_ble_eq_true rfl, Nat.le_of_ble_eq_true rfl⟩) ?_
  intro rv h' hp
  rw [hp.1, hp.2]
  show AW V 0 0 h 6 [(0, .ref (B + 51)), (1, .int t), (2, .int x)] [.int (b2i (!oO x 0 1))]
  refine a_if_eq hb 16 dX12_watched_6 (by decide) (fun c6 => ?_) (fun c6 => ?_)
  · simp [b2i_0] at c6
    refine a_iconst (v := (-1)) hb dX12_watched_16 (by decide) ?_
    exact a_ireturn (ty := .int) hb hz dX12_watched_17 hret rfl (by rw [hr]; exact Nat.le_of_ble_eq_true rfl) (by rw [hr]; exact Nat.le_of_ble_eq_true rfl) (⟨by first | (rw [if_pos (by assumption)]; done) | (rw [if_neg (by simp [c6]), if_pos (by assumption)]; done), FR.rf⟩)
  · simp [b2i_0] at c6
    refine a_aload_n hb dX12_watched_9 rfl 0 rfl ?_
    refine a_callV hb dX12_watched_10 (by rw [hg]; exact w_isLaw g h B hL) (by rw [ow]; exact clv_RX12_152) (hL.1 51 (by decide)) (by decide) rfl rfl rfl (Nat.le_of_ble_eq_true rfl) (by rw [hr]; exact ⟨by decide, by decide⟩) (by rw [hr]; exact ⟨Nat.le_of_ble_eq_true rfl, Nat.le_of_ble_eq_true rfl⟩) ?_
    intro rv h' hp
    rw [hp.1, hp.2]
    show AW V 0 0 h 13 [(0, .ref (B + 51)), (1, .int t), (2, .int x)] [.int (b2i (!decide (hI h (B + 52) 8 = -1)))]
    refine a_if_ne hb 18 dX12_watched_13 (by decide) (fun c13 => ?_) (fun c13 => absurd c13 (by simp [b2i, hla]))
    refine a_iload_n hb dX12_watched_18 rfl 1 rfl ?_
    refine a_callS hb dX12_watched_19 (by rw [hg]; exact w_isTick g h t) (by rw [ow]; exact cls_RX12_52) rfl rfl (Nat.le_of_ble_eq_true rfl) (by rw [hr]; exact ⟨by decide, by decide⟩) (by rw [hr]; exact ⟨Nat.le_of_ble_eq_true rfl, Nat.le_of_ble_eq_true rfl⟩) ?_
    intro rv h' hp
    rw [hp.1, hp.2]
    show AW V 0 0 h 22 [(0, .ref (B + 51)), (1, .int t), (2, .int x)] [.int (b2i (!oO t 0 39))]
    refine a_if_ne hb 28 dX12_watched_22 (by decide) (fun c22 => ?_) (fun c22 => ?_)
    · simp [b2i_0] at c22
      refine a_iconst (v := (-1)) hb dX12_watched_28 (by decide) ?_
      refine a_istore_n (L' := [(3, .int (-1)), (0, .ref (B + 51)), (1, .int t), (2, .int x)]) hb dX12_watched_29 rfl (by rw [hml]; decide) rfl ?_
      refine a_iconst (v := 0) hb dX12_watched_30 (by decide) ?_
      refine a_istore (L' := [(4, .int 0), (3, .int (-1)), (0, .ref (B + 51)), (1, .int t), (2, .int x)]) hb dX12_watched_31 (by rw [hml]; decide) rfl ?_
      refine a_iconst (v := 0) hb dX12_watched_33 (by decide) ?_
      refine a_istore (L' := [(5, .int 0), (4, .int 0), (3, .int (-1)), (0, .ref (B + 51)), (1, .int t), (2, .int x)]) hb dX12_watched_34 (by rw [hml]; decide) rfl ?_
      have loop : ∀ (k i : Nat) (h1 : AH) (hF1 : FR (Am B) h h1) (iv : True), i + k = 100 → AW V 0 0 h1 36 [(0, .ref (B + 51)), (1, .int t), (2, .int x), (3, .int ((waS (ofF P (hI h (B + 52)) hl t rn) i).1)), (4, .int ((waS (ofF P (hI h (B + 52)) hl t rn) i).2)), (5, .int (nI i))] [] := by
        intro k
        induction k with
        | zero =>
          intro i h1 hF1 iv hi
          have hL0_ : LY h1 B := FR.ly hF1 hL
          have hS0_52 : hI h1 (B + 52) = hI h (B + 52) := hF1.2.2.2.2 _ (by unfold Am; omega)
          have hS0_56 : hI h1 (B + 56) = hI h (B + 56) := hF1.2.2.2.2 _ (by unfold Am; omega)
          refine a_iload hb dX12_watched_36 5 rfl ?_
          refine a_bipush (v := 100) hb dX12_watched_38 (by decide) ?_
          refine a_icmp_ge hb 153 dX12_watched_40 (by decide) (fun c40 => ?_) (fun c40 => absurd (by exact nI_le (b := i) (a := 100) (by omega) (by omega)) c40)
          refine a_iload_n hb dX12_watched_153 rfl 2 rfl ?_
          refine a_if_ne hb 161 dX12_watched_154 (by decide) (fun c154 => ?_) (fun c154 => ?_)
          · refine a_iload hb dX12_watched_161 4 rfl ?_
            exact a_ireturn (ty := .int) hb hz dX12_watched_163 hret rfl (by rw [hr]; exact Nat.le_of_ble_eq_true rfl) (by rw [hr]; exact Nat.le_of_ble_eq_true rfl) (⟨by rw [if_neg (by simp [c6]), if_neg (by simp [c22])]; rw [show (100 : Nat) = i by omega]; simp [*], hF1⟩)
          · refine a_iload_n hb dX12_watched_157 rfl 3 rfl ?_
            refine a_goto hb 163 dX12_watched_158 (by decide) ?_
            exact a_ireturn (ty := .int) hb hz dX12_watched_163 hret rfl (by rw [hr]; exact Nat.le_of_ble_eq_true rfl) (by rw [hr]; exact Nat.le_of_ble_eq_true rfl) (⟨by rw [if_neg (by simp [c6]), if_neg (by simp [c22])]; rw [show (100 : Nat) = i by omega]; simp [*], hF1⟩)
        | succ k ih =>
          intro i h1 hF1 iv hi
          have hL0_ : LY h1 B := FR.ly hF1 hL
          have hS0_52 : hI h1 (B + 52) = hI h (B + 52) := hF1.2.2.2.2 _ (by unfold Am; omega)
          have hS0_56 : hI h1 (B + 56) = hI h (B + 56) := hF1.2.2.2.2 _ (by unfold Am; omega)
          refine a_iload hb dX12_watched_36 5 rfl ?_
          refine a_bipush (v := 100) hb dX12_watched_38 (by decide) ?_
          refine a_icmp_ge hb 153 dX12_watched_40 (by decide) (fun c40 => absurd c40 (by exact nI_ge (b := 100) (a := i) (by omega) (by omega))) (fun c40 => ?_)
          refine a_iconst (v := 0) hb dX12_watched_43 (by decide) ?_
          refine a_istore (L' := [(6, .int 0), (0, .ref (B + 51)), (1, .int t), (2, .int x), (3, .int ((waS (ofF P (hI h (B + 52)) hl t rn) i).1)), (4, .int ((waS (ofF P (hI h (B + 52)) hl t rn) i).2)), (5, .int (nI i))]) hb dX12_watched_44 (by rw [hml]; decide) rfl ?_
          refine a_iconst (v := 0) hb dX12_watched_46 (by decide) ?_
          refine a_istore (L' := [(7, .int 0), (6, .int 0), (0, .ref (B + 51)), (1, .int t), (2, .int x), (3, .int ((waS (ofF P (hI h (B + 52)) hl t rn) i).1)), (4, .int ((waS (ofF P (hI h (B + 52)) hl t rn) i).2)), (5, .int (nI i))]) hb dX12_watched_47 (by rw [hml]; decide) rfl ?_
          refine AW.sub (L' := [(0, .ref (B + 51)), (1, .int t), (2, .int x), (3, .int ((waS (ofF P (hI h (B + 52)) hl t rn) i).1)), (4, .int ((waS (ofF P (hI h (B + 52)) hl t rn) i).2)), (5, .int (nI i)), (6, .int 0), (7, .int 0)]) [2, 3, 4, 5, 6, 7, 1, 0] rfl ?_
          refine AW.eq (inner ((waS (ofF P (hI h (B + 52)) hl t rn) i).1) ((waS (ofF P (hI h (B + 52)) hl t rn) i).2) i (fun h2 hF2 => ?_) rn 0 h1 hF1 trivial (by omega)) rfl rfl rfl rfl
          have hL2x : LY h2 B := FR.ly hF2 hL
          have hS2x_52 : hI h2 (B + 52) = hI h (B + 52) := hF2.2.2.2.2 _ (by unfold Am; omega)
          have hS2x_56 : hI h2 (B + 56) = hI h (B + 56) := hF2.2.2.2.2 _ (by unfold Am; omega)
          show AW V 0 0 h2 102 [(0, .ref (B + 51)), (1, .int t), (2, .int x), (3, .int ((waS (ofF P (hI h (B + 52)) hl t rn) i).1)), (4, .int ((waS (ofF P (hI h (B + 52)) hl t rn) i).2)), (5, .int (nI i)), (6, .int ((ofF P (hI h (B + 52)) hl t rn) i)), (7, .int (nI rn))] []
          refine a_iload_n hb dX12_watched_102 rfl 3 rfl ?_
          refine a_iconst (v := (-1)) hb dX12_watched_103 (by decide) ?_
          refine a_icmp_eq hb 114 dX12_watched_104 (by decide) (fun c104 => ?_) (fun c104 => ?_)
          · have yy : (waS (ofF P (hI h (B + 52)) hl t rn) i).1 = -1 ∨ (ofF P (hI h (B + 52)) hl t rn) i < (waS (ofF P (hI h (B + 52)) hl t rn) i).2 := Or.inl c104
            refine a_iconst (v := 1) hb dX12_watched_114 (by decide) ?_
            refine a_goto hb 119 dX12_watched_115 (by decide) ?_
            refine a_istore (L' := [(7, .int 1), (0, .ref (B + 51)), (1, .int t), (2, .int x), (3, .int ((waS (ofF P (hI h (B + 52)) hl t rn) i).1)), (4, .int ((waS (ofF P (hI h (B + 52)) hl t rn) i).2)), (5, .int (nI i)), (6, .int ((ofF P (hI h (B + 52)) hl t rn) i))]) hb dX12_watched_119 (by rw [hml]; decide) rfl ?_
            refine a_iload hb dX12_watched_121 0 rfl ?_
            refine a_if_eq hb 131 dX12_watched_123 (by decide) (fun c123 => absurd c123 (by decide)) (fun c123 => ?_)
            refine a_iload hb dX12_watched_126 6 rfl ?_
            refine a_goto hb 132 dX12_watched_128 (by decide) ?_
            refine a_istore_n (L' := [(3, .int (nI i)), (7, .int 1), (0, .ref (B + 51)), (1, .int t), (2, .int x), (4, .int ((waS (ofF P (hI h (B + 52)) hl t rn) i).2)), (5, .int (nI i)), (6, .int ((ofF P (hI h (B + 52)) hl t rn) i))]) hb dX12_watched_132 rfl (by rw [hml]; decide) rfl ?_
            refine a_iload hb dX12_watched_133 1 rfl ?_
            refine a_if_eq hb 143 dX12_watched_135 (by decide) (fun c135 => absurd c135 (by decide)) (fun c135 => ?_)
            refine a_iload hb dX12_watched_138 7 rfl ?_
            refine a_goto hb 145 dX12_watched_140 (by decide) ?_
            refine a_istore (L' := [(4, .int ((ofF P (hI h (B + 52)) hl t rn) i)), (3, .int (nI i)), (7, .int 1), (0, .ref (B + 51)), (1, .int t), (2, .int x), (5, .int (nI i)), (6, .int ((ofF P (hI h (B + 52)) hl t rn) i))]) hb dX12_watched_145 (by rw [hml]; decide) rfl ?_
            refine a_iinc (v := ((nI i) + 1)) (L' := [(5, .int ((nI i) + 1)), (4, .int ((ofF P (hI h (B + 52)) hl t rn) i)), (3, .int (nI i)), (7, .int 1), (0, .ref (B + 51)), (1, .int t), (2, .int x), (6, .int ((ofF P (hI h (B + 52)) hl t rn) i))]) hb dX12_watched_147 6 rfl rfl (by rw [hml]; decide) rfl ?_
            refine a_goto hb 36 dX12_watched_150 (by decide) ?_
            refine AW.sub (L' := [(0, .ref (B + 51)), (1, .int t), (2, .int x), (3, .int (nI i)), (4, .int ((ofF P (hI h (B + 52)) hl t rn) i)), (5, .int ((nI i) + 1))]) [4, 5, 6, 2, 1, 0] rfl ?_
            exact AW.eq (ih (i + 1) h2 hF2 (trivial) (by omega)) rfl rfl (by first | (simp only [nI_1, waS, if_pos yy]; done) | (simp only [nI_1, waS, if_neg nn]; done)) rfl
          · refine a_iload hb dX12_watched_107 6 rfl ?_
            refine a_iload hb dX12_watched_109 4 rfl ?_
            refine a_icmp_ge hb 118 dX12_watched_111 (by decide) (fun c111 => ?_) (fun c111 => ?_)
            · have c111' := Int32.not_lt.mpr c111
              have nn : ¬ ((waS (ofF P (hI h (B + 52)) hl t rn) i).1 = -1 ∨ (ofF P (hI h (B + 52)) hl t rn) i < (waS (ofF P (hI h (B + 52)) hl t rn) i).2) := by rintro (e | e); exact c104 e; exact c111' e
              refine a_iconst (v := 0) hb dX12_watched_118 (by decide) ?_
              refine a_istore (L' := [(7, .int 0), (0, .ref (B + 51)), (1, .int t), (2, .int x), (3, .int ((waS (ofF P (hI h (B + 52)) hl t rn) i).1)), (4, .int ((waS (ofF P (hI h (B + 52)) hl t rn) i).2)), (5, .int (nI i)), (6, .int ((ofF P (hI h (B + 52)) hl t rn) i))]) hb dX12_watched_119 (by rw [hml]; decide) rfl ?_
              refine a_iload hb dX12_watched_121 0 rfl ?_
              refine a_if_eq hb 131 dX12_watched_123 (by decide) (fun c123 => ?_) (fun c123 => absurd (by decide) c123)
              refine a_iload_n hb dX12_watched_131 rfl 4 rfl ?_
              refine a_istore_n (L' := [(3, .int ((waS (ofF P (hI h (B + 52)) hl t rn) i).1)), (7, .int 0), (0, .ref (B + 51)), (1, .int t), (2, .int x), (4, .int ((waS (ofF P (hI h (B + 52)) hl t rn) i).2)), (5, .int (nI i)), (6, .int ((ofF P (hI h (B + 52)) hl t rn) i))]) hb dX12_watched_132 rfl (by rw [hml]; decide) rfl ?_
              refine a_iload hb dX12_watched_133 1 rfl ?_
              refine a_if_eq hb 143 dX12_watched_135 (by decide) (fun c135 => ?_) (fun c135 => absurd (by decide) c135)
              refine a_iload hb dX12_watched_143 5 rfl ?_
              refine a_istore (L' := [(4, .int ((waS (ofF P (hI h (B + 52)) hl t rn) i).2)), (3, .int ((waS (ofF P (hI h (B + 52)) hl t rn) i).1)), (7, .int 0), (0, .ref (B + 51)), (1, .int t), (2, .int x), (5, .int (nI i)), (6, .int ((ofF P (hI h (B + 52)) hl t rn) i))]) hb dX12_watched_145 (by rw [hml]; decide) rfl ?_
              refine a_iinc (v := ((nI i) + 1)) (L' := [(5, .int ((nI i) + 1)), (4, .int ((waS (ofF P (hI h (B + 52)) hl t rn) i).2)), (3, .int ((waS (ofF P (hI h (B + 52)) hl t rn) i).1)), (7, .int 0), (0, .ref (B + 51)), (1, .int t), (2, .int x), (6, .int ((ofF P (hI h (B + 52)) hl t rn) i))]) hb dX12_watched_147 6 rfl rfl (by rw [hml]; decide) rfl ?_
              refine a_goto hb 36 dX12_watched_150 (by decide) ?_
              refine AW.sub (L' := [(0, .ref (B + 51)), (1, .int t), (2, .int x), (3, .int ((waS (ofF P (hI h (B + 52)) hl t rn) i).1)), (4, .int ((waS (ofF P (hI h (B + 52)) hl t rn) i).2)), (5, .int ((nI i) + 1))]) [4, 5, 6, 2, 1, 0] rfl ?_
              exact AW.eq (ih (i + 1) h2 hF2 (trivial) (by omega)) rfl rfl (by first | (simp only [nI_1, waS, if_pos yy]; done) | (simp only [nI_1, waS, if_neg nn]; done)) rfl
            · have c111' := Int32.not_le.mp c111
              have yy : (waS (ofF P (hI h (B + 52)) hl t rn) i).1 = -1 ∨ (ofF P (hI h (B + 52)) hl t rn) i < (waS (ofF P (hI h (B + 52)) hl t rn) i).2 := Or.inr c111'
              refine a_iconst (v := 1) hb dX12_watched_114 (by decide) ?_
              refine a_goto hb 119 dX12_watched_115 (by decide) ?_
              refine a_istore (L' := [(7, .int 1), (0, .ref (B + 51)), (1, .int t), (2, .int x), (3, .int ((waS (ofF P (hI h (B + 52)) hl t rn) i).1)), (4, .int ((waS (ofF P (hI h (B + 52)) hl t rn) i).2)), (5, .int (nI i)), (6, .int ((ofF P (hI h (B + 52)) hl t rn) i))]) hb dX12_watched_119 (by rw [hml]; decide) rfl ?_
              refine a_iload hb dX12_watched_121 0 rfl ?_
              refine a_if_eq hb 131 dX12_watched_123 (by decide) (fun c123 => absurd c123 (by decide)) (fun c123 => ?_)
              refine a_iload hb dX12_watched_126 6 rfl ?_
              refine a_goto hb 132 dX12_watched_128 (by decide) ?_
              refine a_istore_n (L' := [(3, .int (nI i)), (7, .int 1), (0, .ref (B + 51)), (1, .int t), (2, .int x), (4, .int ((waS (ofF P (hI h (B + 52)) hl t rn) i).2)), (5, .int (nI i)), (6, .int ((ofF P (hI h (B + 52)) hl t rn) i))]) hb dX12_watched_132 rfl (by rw [hml]; decide) rfl ?_
              refine a_iload hb dX12_watched_133 1 rfl ?_
              refine a_if_eq hb 143 dX12_watched_135 (by decide) (fun c135 => absurd c135 (by decide)) (fun c135 => ?_)
              refine a_iload hb dX12_watched_138 7 rfl ?_
              refine a_goto hb 145 dX12_watched_140 (by decide) ?_
              refine a_istore (L' := [(4, .int ((ofF P (hI h (B + 52)) hl t rn) i)), (3, .int (nI i)), (7, .int 1), (0, .ref (B + 51)), (1, .int t), (2, .int x), (5, .int (nI i)), (6, .int ((ofF P (hI h (B + 52)) hl t rn) i))]) hb dX12_watched_145 (by rw [hml]; decide) rfl ?_
              refine a_iinc (v := ((nI i) + 1)) (L' := [(5, .int ((nI i) + 1)), (4, .int ((ofF P (hI h (B + 52)) hl t rn) i)), (3, .int (nI i)), (7, .int 1), (0, .ref (B + 51)), (1, .int t), (2, .int x), (6, .int ((ofF P (hI h (B + 52)) hl t rn) i))]) hb dX12_watched_147 6 rfl rfl (by rw [hml]; decide) rfl ?_
              refine a_goto hb 36 dX12_watched_150 (by decide) ?_
              refine AW.sub (L' := [(0, .ref (B + 51)), (1, .int t), (2, .int x), (3, .int (nI i)), (4, .int ((ofF P (hI h (B + 52)) hl t rn) i)), (5, .int ((nI i) + 1))]) [4, 5, 6, 2, 1, 0] rfl ?_
              exact AW.eq (ih (i + 1) h2 hF2 (trivial) (by omega)) rfl rfl (by first | (simp only [nI_1, waS, if_pos yy]; done) | (simp only [nI_1, waS, if_neg nn]; done)) rfl
      refine AW.sub (L' := [(0, .ref (B + 51)), (1, .int t), (2, .int x), (3, .int (-1)), (4, .int 0), (5, .int 0)]) [3, 4, 5, 2, 1, 0] rfl ?_
      exact AW.eq (loop 100 0 h FR.rf trivial (by omega)) rfl rfl (rfl) rfl
    · simp [b2i_0] at c22
      refine a_bipush (v := (-2)) hb dX12_watched_25 (by decide) ?_
      exact a_ireturn (ty := .int) hb hz dX12_watched_27 hret rfl (by rw [hr]; exact Nat.le_of_ble_eq_true rfl) (by rw [hr]; exact Nat.le_of_ble_eq_true rfl) (⟨by first | (rw [if_pos (by assumption)]; done) | (rw [if_neg (by simp [c6]), if_pos (by assumption)]; done), FR.rf⟩)
