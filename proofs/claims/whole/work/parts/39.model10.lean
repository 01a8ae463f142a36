/-! ===== the model: waits, watched ===== -/
theorem hI_setI_s {h : AH} {a k : Nat} {v : Int32} : hI (setI h a k v) a = upd (hI h a) k v := by rw [setI_R, hI_R]
theorem hI_setI_n {h : AH} {a b k : Nat} {v : Int32} (e : b ≠ a) : hI (setI h a k v) b = hI h b := by rw [setI_R]; exact hI_Rn e
theorem upd_u {f : Nat → Int32} {k : Nat} {v v' : Int32} : upd (upd f k v) k v' = upd f k v' := by
  funext j
  by_cases e : j = k
  · subst e; rw [upd_s, upd_s]
  · rw [upd_n e, upd_n e, upd_n e]
theorem upd_i {f : Nat → Int32} {k : Nat} {v : Int32} (e : f k = v) : upd f k v = f := by
  funext j
  by_cases q : j = k
  · subst q; rw [upd_s, e]
  · rw [upd_n q]
def Aw (B : Nat) (a : Nat) : Prop := a = B + 54 ∨ a = B + 55 ∨ a = B + 56
/-- the greatest demand with break b so much later -/
def wtF (P : PF) (S dl : Nat → Int32) (hl np b d : Nat) : Int32 := gtS (fun t => dmS P S (upd dl b (nI d)) hl (nI t) np) 39
def wtS (f : Nat → Int32) : Nat → Int32 × Int32
  | 0 => (0, f 0)
  | i + 1 => if f (i + 1) < (wtS f i).2 then (nI (i + 1), f (i + 1)) else wtS f i
def ofS (P : PF) (S : Nat → Int32) (hl : Nat) (tick : Int32) (z : Nat) : Nat → Int32
  | 0 => 0
  | t + 1 => ofS P S hl tick z t + (szS (drS P S hl 0 (nI z) 0 (nI t - tick) (nI t) - S (918 + t)).toInt64).toInt32
def waS (f : Nat → Int32) : Nat → Int32 × Int32
  | 0 => (-1, 0)
  | i + 1 => if (waS f i).1 = -1 ∨ f i < (waS f i).2 then (nI i, f i) else waS f i
set_option maxRecDepth 100000 in
theorem m_waits (g : GG) (h : AH) (B : Nat) (hL : LY h B) (P : PF) (hP : PcM g B h P) (h6 : ¬ hI h (B + 52) 6 = 0) (hl : Nat) (hhl : IX (hI h (B + 52) 8) hl) (lhl : hl < 5) (np : Nat) (hnp : IX (hI h (B + 52) 0) np) (lnp : np ≤ 8) (hla : ¬ hI h (B + 52) 8 = -1) (hd : ∀ j, j < 8 → hI h (B + 56) j = 0) (a b x : Int32) : AM g 8 0 0 mX12_waits [.ref (B + 51), .int a, .int b, .int x] h (fun rv h' => rv = some (.int (if oO a 0 (hI h (B + 52) 0 - 1) then -1 else if oO b 0 (hI h (B + 52) 0 - 1) then -1 else if oO x 0 1 then -1 else if a = b then -2 else if x = 0 then (wtS (wtF P (hI h (B + 52)) (hI h (B + 56)) hl np b.toNatClampNeg) 9).1 else (wtF P (hI h (B + 52)) (hI h (B + 56)) hl np b.toNatClampNeg) 0 - (wtS (wtF P (hI h (B + 52)) (hI h (B + 56)) hl np b.toNatClampNeg) 9).2)) ∧ FR (Aw B) h h' ∧ hI h' (B + 56) = hI h (B + 56)) := by
  refine AM.of [(0, .ref (B + 51)), (1, .int a), (2, .int b), (3, .int x)] (by decide) (Nat.le_of_ble_eq_true rfl) rfl ?_
  intro V hV
  have hb : V.2.1.2.1 = cX12_waits := by subst hV; rfl
  have ow : V.2.1.1.cls = RX12 := by subst hV; rfl
  have hr : V.2.2.1 = aw_rm 8 0 0 := by subst hV; rfl
  have hz : V.2.2.2 = aw_Z V.1 (fun rv h' => rv = some (.int (if oO a 0 (hI h (B + 52) 0 - 1) then -1 else if oO b 0 (hI h (B + 52) 0 - 1) then -1 else if oO x 0 1 then -1 else if a = b then -2 else if x = 0 then (wtS (wtF P (hI h (B + 52)) (hI h (B + 56)) hl np b.toNatClampNeg) 9).1 else (wtF P (hI h (B + 52)) (hI h (B + 56)) hl np b.toNatClampNeg) 0 - (wtS (wtF P (hI h (B + 52)) (hI h (B + 56)) hl np b.toNatClampNeg) 9).2)) ∧ FR (Aw B) h h' ∧ hI h' (B + 56) = hI h (B + 56)) V.2.2.1 := by subst hV; rfl
  have hg : V.1 = g := by subst hV; rfl
  have hret : V.2.1.2.2.2 = (some .int) := by subst hV; rfl
  have hml : V.2.1.2.2.1 = 9 := by subst hV; rfl
  clear hV
  refine a_aload_n hb dX12_waits_0 rfl 0 rfl ?_
  refine a_iload_n hb dX12_waits_1 rfl 1 rfl ?_
  refine a_callV hb dX12_waits_2 (by rw [hg]; exact w_isBreak g h B hL a) (by rw [ow]; exact clv_RX12_56) (hL.1 51 (by decide)) (by decide) rfl rfl rfl (Nat.le_of_ble_eq_true rfl) (by rw [hr]; exact ⟨by decide, by decide⟩) (by rw [hr]; exact ⟨Nat.le_of_ble_eq_true rfl, Nat.le_of_ble_eq_true rfl⟩) ?_
  intro rv h' hp
  rw [hp.1, hp.2]
  show AW V 0 0 h 5 [(0, .ref (B + 51)), (1, .int a), (2, .int b), (3, .int x)] [.int (b2i (!oO a 0 (hI h (B + 52) 0 - 1)))]
  refine a_if_eq hb 32 dX12_waits_5 (by decide) (fun c5 => ?_) (fun c5 => ?_)
  · simp [b2i_0] at c5
    refine a_iconst (v := (-1)) hb dX12_waits_32 (by decide) ?_
    exact a_ireturn (ty := .int) hb hz dX12_waits_33 hret rfl (by rw [hr]; exact Nat.le_of_ble_eq_true rfl) (by rw [hr]; exact Nat.le_of_ble_eq_true rfl) (⟨by first | (rw [if_pos (by assumption)]; done) | (rw [if_neg (by assumption), if_pos (by assumption)]; done) | (simp [*]; done), FR.rf, rfl⟩)
  · simp [b2i_0] at c5
    refine a_aload_n hb dX12_waits_8 rfl 0 rfl ?_
    refine a_iload_n hb dX12_waits_9 rfl 2 rfl ?_
    refine a_callV hb dX12_waits_10 (by rw [hg]; exact w_isBreak g h B hL b) (by rw [ow]; exact clv_RX12_56) (hL.1 51 (by decide)) (by decide) rfl rfl rfl (Nat.le_of_ble_eq_true rfl) (by rw [hr]; exact ⟨by decide, by decide⟩) (by rw [hr]; exact ⟨Nat.le_of_ble_eq_true rfl, Nat.le_of_ble_eq_true rfl⟩) ?_
    intro rv h' hp
    rw [hp.1, hp.2]
    show AW V 0 0 h 13 [(0, .ref (B + 51)), (1, .int a), (2, .int b), (3, .int x)] [.int (b2i (!oO b 0 (hI h (B + 52) 0 - 1)))]
    refine a_if_eq hb 32 dX12_waits_13 (by decide) (fun c13 => ?_) (fun c13 => ?_)
    · simp [b2i_0] at c13
      refine a_iconst (v := (-1)) hb dX12_waits_32 (by decide) ?_
      exact a_ireturn (ty := .int) hb hz dX12_waits_33 hret rfl (by rw [hr]; exact Nat.le_of_ble_eq_true rfl) (by rw [hr]; exact Nat.le_of_ble_eq_true rfl) (⟨by first | (rw [if_pos (by assumption)]; done) | (rw [if_neg (by assumption), if_pos (by assumption)]; done) | (simp [*]; done), FR.rf, rfl⟩)
    · simp [b2i_0] at c13
      obtain ⟨ix_b, lt_b⟩ : IX b b.toNatClampNeg ∧ b.toNatClampNeg < np := oO_lt hnp c13
      have hd0 : upd (hI h (B + 56)) b.toNatClampNeg (nI 0) = hI h (B + 56) := upd_i (hd _ (by omega))
      refine a_iload_n hb dX12_waits_16 rfl 3 rfl ?_
      refine a_iconst (v := 0) hb dX12_waits_17 (by decide) ?_
      refine a_iconst (v := 1) hb dX12_waits_18 (by decide) ?_
      refine a_callS hb dX12_waits_19 (by rw [hg]; exact w_in g h x 0 1) (by rw [ow]; exact cls_RX12_48) rfl rfl (Nat.le_of_ble_eq_true rfl) (by rw [hr]; exact ⟨by decide, by decide⟩) (by rw [hr]; exact ⟨Nat.le_of_ble_eq_true rfl, Nat.le_of_ble_eq_true rfl⟩) ?_
      intro rv h' hp
      rw [hp.1, hp.2]
      show AW V 0 0 h 22 [(0, .ref (B + 51)), (1, .int a), (2, .int b), (3, .int x)] [.int (b2i (!oO x 0 1))]
      refine a_if_eq hb 32 dX12_waits_22 (by decide) (fun c22 => ?_) (fun c22 => ?_)
      · simp [b2i_0] at c22
        refine a_iconst (v := (-1)) hb dX12_waits_32 (by decide) ?_
        exact a_ireturn (ty := .int) hb hz dX12_waits_33 hret rfl (by rw [hr]; exact Nat.le_of_ble_eq_true rfl) (by rw [hr]; exact Nat.le_of_ble_eq_true rfl) (⟨by first | (rw [if_pos (by assumption)]; done) | (rw [if_neg (by assumption), if_pos (by assumption)]; done) | (simp [*]; done), FR.rf, rfl⟩)
      · simp [b2i_0] at c22
        refine a_aload_n hb dX12_waits_25 rfl 0 rfl ?_
        refine a_callV hb dX12_waits_26 (by rw [hg]; exact w_isLaw g h B hL) (by rw [ow]; exact clv_RX12_152) (hL.1 51 (by decide)) (by decide) rfl rfl rfl (Nat.le_of_ble_eq_true rfl) (by rw [hr]; exact ⟨by decide, by decide⟩) (by rw [hr]; exact ⟨Nat.le_of_ble_eq_true rfl, Nat.le_of_ble_eq_true rfl⟩) ?_
        intro rv h' hp
        rw [hp.1, hp.2]
        show AW V 0 0 h 29 [(0, .ref (B + 51)), (1, .int a), (2, .int b), (3, .int x)] [.int (b2i (!decide (hI h (B + 52) 8 = -1)))]
        refine a_if_ne hb 34 dX12_waits_29 (by decide) (fun c29 => ?_) (fun c29 => absurd c29 (by simp [b2i, hla]))
        refine a_iload_n hb dX12_waits_34 rfl 1 rfl ?_
        refine a_iload_n hb dX12_waits_35 rfl 2 rfl ?_
        refine a_icmp_ne hb 42 dX12_waits_36 (by decide) (fun c36 => ?_) (fun c36 => ?_)
        · refine a_aload_n hb dX12_waits_42 rfl 0 rfl ?_
          refine a_callV hb dX12_waits_43 (by rw [hg]; exact m_greatest g h B hL P (hP.mv (FR.mo (A := Aw B) (A' := Ax B) FR.rf (by intro a; unfold Aw Ax; omega))) h6 hl hhl lhl np hnp lnp) (by rw [ow]; exact clv_RX12_228) (hL.1 51 (by decide)) (by decide) rfl rfl rfl (Nat.le_of_ble_eq_true rfl) (by rw [hr]; exact ⟨by decide, by decide⟩) (by rw [hr]; exact ⟨Nat.le_of_ble_eq_true rfl, Nat.le_of_ble_eq_true rfl⟩) ?_
          intro rv h1_ hp
          obtain ⟨hv, hf1⟩ := hp
          rw [hv]
          have hF1 := FR.tr FR.rf (FR.mo (A := Am B) (A' := Aw B) hf1 (by intro a; unfold Am Aw; omega))
          have hL1 : LY h1_ B := FR.ly hF1 hL
          have hS1_52 : hI h1_ (B + 52) = hI h (B + 52) := hF1.2.2.2.2 _ (by unfold Aw; omega)
          have hT1_56 : hI h1_ (B + 56) = hI h (B + 56) := hf1.2.2.2.2 _ (by unfold Am; omega)
          clear hv
          show AW V 0 0 h1_ 46 [(0, .ref (B + 51)), (1, .int a), (2, .int b), (3, .int x)] [.int (gtS (fun t => dmS P (hI h (B + 52)) (hI h (B + 56)) hl (nI t) np) 39)]
          refine a_istore (L' := [(4, .int (gtS (fun t => dmS P (hI h (B + 52)) (hI h (B + 56)) hl (nI t) np) 39)), (0, .ref (B + 51)), (1, .int a), (2, .int b), (3, .int x)]) hb dX12_waits_46 (by rw [hml]; decide) rfl ?_
          refine a_iconst (v := 0) hb dX12_waits_48 (by decide) ?_
          refine a_istore (L' := [(5, .int 0), (4, .int (gtS (fun t => dmS P (hI h (B + 52)) (hI h (B + 56)) hl (nI t) np) 39)), (0, .ref (B + 51)), (1, .int a), (2, .int b), (3, .int x)]) hb dX12_waits_49 (by rw [hml]; decide) rfl ?_
          refine a_iload hb dX12_waits_51 1 rfl ?_
          refine a_istore (L' := [(6, .int (gtS (fun t => dmS P (hI h (B + 52)) (hI h (B + 56)) hl (nI t) np) 39)), (5, .int 0), (4, .int (gtS (fun t => dmS P (hI h (B + 52)) (hI h (B + 56)) hl (nI t) np) 39)), (0, .ref (B + 51)), (1, .int a), (2, .int b), (3, .int x)]) hb dX12_waits_53 (by rw [hml]; decide) rfl ?_
          refine a_iconst (v := 1) hb dX12_waits_55 (by decide) ?_
          refine a_istore (L' := [(7, .int 1), (6, .int (gtS (fun t => dmS P (hI h (B + 52)) (hI h (B + 56)) hl (nI t) np) 39)), (5, .int 0), (4, .int (gtS (fun t => dmS P (hI h (B + 52)) (hI h (B + 56)) hl (nI t) np) 39)), (0, .ref (B + 51)), (1, .int a), (2, .int b), (3, .int x)]) hb dX12_waits_56 (by rw [hml]; decide) rfl ?_
          have e0 : gtS (fun t => dmS P (hI h (B + 52)) (hI h (B + 56)) hl (nI t) np) 39 = (wtF P (hI h (B + 52)) (hI h (B + 56)) hl np b.toNatClampNeg) 0 := by unfold wtF; rw [hd0]
          have loop : ∀ (k i : Nat) (h1 : AH) (hF1 : FR (Aw B) h h1) (iv : ∃ v, hI h1 (B + 56) = upd (hI h (B + 56)) b.toNatClampNeg v), i + k = 9 → AW V 0 0 h1 58 [(0, .ref (B + 51)), (1, .int a), (2, .int b), (3, .int x), (4, .int ((wtF P (hI h (B + 52)) (hI h (B + 56)) hl np b.toNatClampNeg) 0)), (5, .int ((wtS (wtF P (hI h (B + 52)) (hI h (B + 56)) hl np b.toNatClampNeg) i).1)), (6, .int ((wtS (wtF P (hI h (B + 52)) (hI h (B + 56)) hl np b.toNatClampNeg) i).2)), (7, .int (nI (i + 1)))] [] := by
            intro k
            induction k with
            | zero =>
              intro i h1 hF1 iv hi
              have hL0_ : LY h1 B := FR.ly hF1 hL
              have hS0_52 : hI h1 (B + 52) = hI h (B + 52) := hF1.2.2.2.2 _ (by unfold Aw; omega)
              obtain ⟨v0, hv0⟩ := iv
              refine a_iload hb dX12_waits_58 7 rfl ?_
              refine a_bipush (v := 10) hb dX12_waits_60 (by decide) ?_
              refine a_icmp_ge hb 117 dX12_waits_62 (by decide) (fun c62 => ?_) (fun c62 => absurd (by exact nI_le (b := i + 1) (a := 10) (by omega) (by omega)) c62)
              refine a_aload_n hb dX12_waits_117 rfl 0 rfl ?_
              refine a_getQ (q := (B + 56)) hb dX12_waits_118 (by rw [ow]; exact fl_RX12_25_12) (hL0_.1 51 (by decide)) (hL0_.2.1 (51, 11, 56) (by decide)) ?_
              refine a_iload_n hb dX12_waits_121 rfl 2 rfl ?_
              refine a_iconst (v := 0) hb dX12_waits_122 (by decide) ?_
              refine b_iast (j := b.toNatClampNeg) hb dX12_waits_123 (hL0_.1 56 (by decide)) ix_b (by omega) ?_
              refine a_iload_n hb dX12_waits_124 rfl 3 rfl ?_
              refine a_if_ne hb 133 dX12_waits_125 (by decide) (fun c125 => ?_) (fun c125 => ?_)
              · refine a_iload hb dX12_waits_133 4 rfl ?_
                refine a_iload hb dX12_waits_135 6 rfl ?_
                refine a_isub hb dX12_waits_137 ?_
                exact a_ireturn (ty := .int) hb hz dX12_waits_138 hret rfl (by rw [hr]; exact Nat.le_of_ble_eq_true rfl) (by rw [hr]; exact Nat.le_of_ble_eq_true rfl) (⟨by rw [if_neg (by simp [c5]), if_neg (by simp [c13]), if_neg (by simp [c22]), if_neg c36]; rw [show (9 : Nat) = i by omega]; simp [*], (FR.I hF1 (by unfold Aw; omega)), by rw [hI_setI_s, hv0, upd_u]; exact hd0⟩)
              · refine a_iload hb dX12_waits_128 5 rfl ?_
                refine a_goto hb 138 dX12_waits_130 (by decide) ?_
                exact a_ireturn (ty := .int) hb hz dX12_waits_138 hret rfl (by rw [hr]; exact Nat.le_of_ble_eq_true rfl) (by rw [hr]; exact Nat.le_of_ble_eq_true rfl) (⟨by rw [if_neg (by simp [c5]), if_neg (by simp [c13]), if_neg (by simp [c22]), if_neg c36]; rw [show (9 : Nat) = i by omega]; simp [*], (FR.I hF1 (by unfold Aw; omega)), by rw [hI_setI_s, hv0, upd_u]; exact hd0⟩)
            | succ k ih =>
              intro i h1 hF1 iv hi
              have hL0_ : LY h1 B := FR.ly hF1 hL
              have hS0_52 : hI h1 (B + 52) = hI h (B + 52) := hF1.2.2.2.2 _ (by unfold Aw; omega)
              obtain ⟨v0, hv0⟩ := iv
              refine a_iload hb dX12_waits_58 7 rfl ?_
              refine a_bipush (v := 10) hb dX12_waits_60 (by decide) ?_
              refine a_icmp_ge hb 117 dX12_waits_62 (by decide) (fun c62 => absurd c62 (by exact nI_ge (b := 10) (a := i + 1) (by omega) (by omega))) (fun c62 => ?_)
              refine a_aload_n hb dX12_waits_65 rfl 0 rfl ?_
              refine a_getQ (q := (B + 56)) hb dX12_waits_66 (by rw [ow]; exact fl_RX12_25_12) (hL0_.1 51 (by decide)) (hL0_.2.1 (51, 11, 56) (by decide)) ?_
              refine a_iload_n hb dX12_waits_69 rfl 2 rfl ?_
              refine a_iload hb dX12_waits_70 7 rfl ?_
              refine b_iast (j := b.toNatClampNeg) hb dX12_waits_72 (hL0_.1 56 (by decide)) ix_b (by omega) ?_
              generalize eh2 : (setI h1 (B + 56) b.toNatClampNeg (nI (i + 1))) = h2_
              have hF2 : FR (Aw B) h h2_ := by rw [← eh2]; exact (FR.I hF1 (by unfold Aw; omega))
              have hL2 : LY h2_ B := FR.ly hF2 hL
              have hW2 : hI h2_ (B + 56) = upd (hI h1 (B + 56)) b.toNatClampNeg (nI (i + 1)) := by rw [← eh2]; exact hI_setI_s
              have hS2_52 : hI h2_ (B + 52) = hI h (B + 52) := hF2.2.2.2.2 _ (by unfold Aw; omega)
              clear eh2
              have hR : hI h2_ (B + 56) = upd (hI h (B + 56)) b.toNatClampNeg (nI (i + 1)) := by rw [hW2, hv0, upd_u]
              refine a_aload_n hb dX12_waits_73 rfl 0 rfl ?_
              refine a_callV hb dX12_waits_74 (by rw [hg]; have h0 := m_greatest g h2_ B hL2 P (hP.mv (FR.mo (A := Aw B) (A' := Ax B) hF2 (by intro a; unfold Aw Ax; omega))) (by rw [hS2_52]; exact h6) hl (by rw [hS2_52]; exact hhl) lhl np (by rw [hS2_52]; exact hnp) lnp; (try rw [hS2_52] at h0); (try rw [hR] at h0); exact h0) (by rw [ow]; exact clv_RX12_228) (hL2.1 51 (by decide)) (by decide) rfl rfl rfl (Nat.le_of_ble_eq_true rfl) (by rw [hr]; exact ⟨by decide, by decide⟩) (by rw [hr]; exact ⟨Nat.le_of_ble_eq_true rfl, Nat.le_of_ble_eq_true rfl⟩) ?_
              intro rv h3_ hp
              obtain ⟨hv, hf3⟩ := hp
              rw [hv]
              have hF3 := FR.tr hF2 (FR.mo (A := Am B) (A' := Aw B) hf3 (by intro a; unfold Am Aw; omega))
              have hL3 : LY h3_ B := FR.ly hF3 hL
              have hS3_52 : hI h3_ (B + 52) = hI h (B + 52) := hF3.2.2.2.2 _ (by unfold Aw; omega)
              have hT3_56 : hI h3_ (B + 56) = hI h2_ (B + 56) := hf3.2.2.2.2 _ (by unfold Am; omega)
              clear hv
              show AW V 0 0 h3_ 77 [(0, .ref (B + 51)), (1, .int a), (2, .int b), (3, .int x), (4, .int ((wtF P (hI h (B + 52)) (hI h (B + 56)) hl np b.toNatClampNeg) 0)), (5, .int ((wtS (wtF P (hI h (B + 52)) (hI h (B + 56)) hl np b.toNatClampNeg) i).1)), (6, .int ((wtS (wtF P (hI h (B + 52)) (hI h (B + 56)) hl np b.toNatClampNeg) i).2)), (7, .int (nI (i + 1)))] [.int ((wtF P (hI h (B + 52)) (hI h (B + 56)) hl np b.toNatClampNeg) (i + 1))]
              refine a_istore (L' := [(8, .int ((wtF P (hI h (B + 52)) (hI h (B + 56)) hl np b.toNatClampNeg) (i + 1))), (0, .ref (B + 51)), (1, .int a), (2, .int b), (3, .int x), (4, .int ((wtF P (hI h (B + 52)) (hI h (B + 56)) hl np b.toNatClampNeg) 0)), (5, .int ((wtS (wtF P (hI h (B + 52)) (hI h (B + 56)) hl np b.toNatClampNeg) i).1)), (6, .int ((wtS (wtF P (hI h (B + 52)) (hI h (B + 56)) hl np b.toNatClampNeg) i).2)), (7, .int (nI (i + 1)))]) hb dX12_waits_77 (by rw [hml]; decide) rfl ?_
              refine a_iload hb dX12_waits_79 0 rfl ?_
              refine a_iload hb dX12_waits_81 7 rfl ?_
              refine a_icmp_ge hb 91 dX12_waits_83 (by decide) (fun c83 => ?_) (fun c83 => ?_)
              · have c83' := Int32.not_lt.mpr c83
                refine a_iload hb dX12_waits_91 6 rfl ?_
                refine a_istore (L' := [(5, .int ((wtS (wtF P (hI h (B + 52)) (hI h (B + 56)) hl np b.toNatClampNeg) i).1)), (8, .int ((wtF P (hI h (B + 52)) (hI h (B + 56)) hl np b.toNatClampNeg) (i + 1))), (0, .ref (B + 51)), (1, .int a), (2, .int b), (3, .int x), (4, .int ((wtF P (hI h (B + 52)) (hI h (B + 56)) hl np b.toNatClampNeg) 0)), (6, .int ((wtS (wtF P (hI h (B + 52)) (hI h (B + 56)) hl np b.toNatClampNeg) i).2)), (7, .int (nI (i + 1)))]) hb dX12_waits_93 (by rw [hml]; decide) rfl ?_
                refine a_iload hb dX12_waits_95 1 rfl ?_
                refine a_iload hb dX12_waits_97 7 rfl ?_
                refine a_icmp_ge hb 107 dX12_waits_99 (by decide) (fun c99 => ?_) (fun c99 => absurd (c83) c99)
                refine a_iload hb dX12_waits_107 7 rfl ?_
                refine a_istore (L' := [(6, .int ((wtS (wtF P (hI h (B + 52)) (hI h (B + 56)) hl np b.toNatClampNeg) i).2)), (5, .int ((wtS (wtF P (hI h (B + 52)) (hI h (B + 56)) hl np b.toNatClampNeg) i).1)), (8, .int ((wtF P (hI h (B + 52)) (hI h (B + 56)) hl np b.toNatClampNeg) (i + 1))), (0, .ref (B + 51)), (1, .int a), (2, .int b), (3, .int x), (4, .int ((wtF P (hI h (B + 52)) (hI h (B + 56)) hl np b.toNatClampNeg) 0)), (7, .int (nI (i + 1)))]) hb dX12_waits_109 (by rw [hml]; decide) rfl ?_
                refine a_iinc (v := ((nI (i + 1)) + 1)) (L' := [(7, .int ((nI (i + 1)) + 1)), (6, .int ((wtS (wtF P (hI h (B + 52)) (hI h (B + 56)) hl np b.toNatClampNeg) i).2)), (5, .int ((wtS (wtF P (hI h (B + 52)) (hI h (B + 56)) hl np b.toNatClampNeg) i).1)), (8, .int ((wtF P (hI h (B + 52)) (hI h (B + 56)) hl np b.toNatClampNeg) (i + 1))), (0, .ref (B + 51)), (1, .int a), (2, .int b), (3, .int x), (4, .int ((wtF P (hI h (B + 52)) (hI h (B + 56)) hl np b.toNatClampNeg) 0))]) hb dX12_waits_111 8 rfl rfl (by rw [hml]; decide) rfl ?_
                refine a_goto hb 58 dX12_waits_114 (by decide) ?_
                refine AW.sub (L' := [(0, .ref (B + 51)), (1, .int a), (2, .int b), (3, .int x), (4, .int ((wtF P (hI h (B + 52)) (hI h (B + 56)) hl np b.toNatClampNeg) 0)), (5, .int ((wtS (wtF P (hI h (B + 52)) (hI h (B + 56)) hl np b.toNatClampNeg) i).1)), (6, .int ((wtS (wtF P (hI h (B + 52)) (hI h (B + 56)) hl np b.toNatClampNeg) i).2)), (7, .int ((nI (i + 1)) + 1))]) [4, 5, 6, 7, 8, 2, 1, 0] rfl ?_
                exact AW.eq (ih (i + 1) h3_ hF3 (⟨_, by rw [hT3_56]; exact hR⟩) (by omega)) rfl rfl (by first | (simp only [nI_1, wtS, if_pos c83']; done) | (simp only [nI_1, wtS, if_neg c83']; done)) rfl
              · have c83' := Int32.not_le.mp c83
                refine a_iload hb dX12_waits_86 8 rfl ?_
                refine a_goto hb 93 dX12_waits_88 (by decide) ?_
                refine a_istore (L' := [(5, .int (nI (i + 1))), (8, .int ((wtF P (hI h (B + 52)) (hI h (B + 56)) hl np b.toNatClampNeg) (i + 1))), (0, .ref (B + 51)), (1, .int a), (2, .int b), (3, .int x), (4, .int ((wtF P (hI h (B + 52)) (hI h (B + 56)) hl np b.toNatClampNeg) 0)), (6, .int ((wtS (wtF P (hI h (B + 52)) (hI h (B + 56)) hl np b.toNatClampNeg) i).2)), (7, .int (nI (i + 1)))]) hb dX12_waits_93 (by rw [hml]; decide) rfl ?_
                refine a_iload hb dX12_waits_95 1 rfl ?_
                refine a_iload hb dX12_waits_97 7 rfl ?_
                refine a_icmp_ge hb 107 dX12_waits_99 (by decide) (fun c99 => absurd c99 (c83)) (fun c99 => ?_)
                refine a_iload hb dX12_waits_102 1 rfl ?_
                refine a_goto hb 109 dX12_waits_104 (by decide) ?_
                refine a_istore (L' := [(6, .int ((wtF P (hI h (B + 52)) (hI h (B + 56)) hl np b.toNatClampNeg) (i + 1))), (5, .int (nI (i + 1))), (8, .int ((wtF P (hI h (B + 52)) (hI h (B + 56)) hl np b.toNatClampNeg) (i + 1))), (0, .ref (B + 51)), (1, .int a), (2, .int b), (3, .int x), (4, .int ((wtF P (hI h (B + 52)) (hI h (B + 56)) hl np b.toNatClampNeg) 0)), (7, .int (nI (i + 1)))]) hb dX12_waits_109 (by rw [hml]; decide) rfl ?_
                refine a_iinc (v := ((nI (i + 1)) + 1)) (L' := [(7, .int ((nI (i + 1)) + 1)), (6, .int ((wtF P (hI h (B + 52)) (hI h (B + 56)) hl np b.toNatClampNeg) (i + 1))), (5, .int (nI (i + 1))), (8, .int ((wtF P (hI h (B + 52)) (hI h (B + 56)) hl np b.toNatClampNeg) (i + 1))), (0, .ref (B + 51)), (1, .int a), (2, .int b), (3, .int x), (4, .int ((wtF P (hI h (B + 52)) (hI h (B + 56)) hl np b.toNatClampNeg) 0))]) hb dX12_waits_111 8 rfl rfl (by rw [hml]; decide) rfl ?_
                refine a_goto hb 58 dX12_waits_114 (by decide) ?_
                refine AW.sub (L' := [(0, .ref (B + 51)), (1, .int a), (2, .int b), (3, .int x), (4, .int ((wtF P (hI h (B + 52)) (hI h (B + 56)) hl np b.toNatClampNeg) 0)), (5, .int (nI (i + 1))), (6, .int ((wtF P (hI h (B + 52)) (hI h (B + 56)) hl np b.toNatClampNeg) (i + 1))), (7, .int ((nI (i + 1)) + 1))]) [4, 5, 6, 7, 8, 2, 1, 0] rfl ?_
                exact AW.eq (ih (i + 1) h3_ hF3 (⟨_, by rw [hT3_56]; exact hR⟩) (by omega)) rfl rfl (by first | (simp only [nI_1, wtS, if_pos c83']; done) | (simp only [nI_1, wtS, if_neg c83']; done)) rfl
          refine AW.sub (L' := [(0, .ref (B + 51)), (1, .int a), (2, .int b), (3, .int x), (4, .int (gtS (fun t => dmS P (hI h (B + 52)) (hI h (B + 56)) hl (nI t) np) 39)), (5, .int 0), (6, .int (gtS (fun t => dmS P (hI h (B + 52)) (hI h (B + 56)) hl (nI t) np) 39)), (7, .int 1)]) [4, 5, 6, 7, 3, 2, 1, 0] rfl ?_
          exact AW.eq (loop 9 0 h1_ hF1 ⟨_, by rw [hT1_56]; exact hd0.symm⟩ (by omega)) rfl rfl (by rw [e0]; rfl) rfl
        · refine a_bipush (v := (-2)) hb dX12_waits_39 (by decide) ?_
          exact a_ireturn (ty := .int) hb hz dX12_waits_41 hret rfl (by rw [hr]; exact Nat.le_of_ble_eq_true rfl) (by rw [hr]; exact Nat.le_of_ble_eq_true rfl) (⟨by first | (rw [if_pos (by assumption)]; done) | (rw [if_neg (by assumption), if_pos (by assumption)]; done) | (simp [*]; done), FR.rf, rfl⟩)
