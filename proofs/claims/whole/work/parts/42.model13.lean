/-! ===== the model: beside ===== -/
def Ah (B : Nat) (a : Nat) : Prop := a = B + 60
def Ae (B : Nat) (a : Nat) : Prop := a = B + 54 ∨ a = B + 55 ∨ a = B + 58 ∨ a = B + 60
theorem oO_le1 {n z : Int32} {b : Nat} (hz : z.toInt = (b : Int)) (h : oO n 1 z = false) : IX n n.toNatClampNeg ∧ n.toNatClampNeg ≤ b := by
  simp only [oO, Bool.or_eq_false_iff, decide_eq_false_iff_not] at h
  have t1 := Int32.le_iff_toInt_le.mp (Int32.not_lt.mp h.1)
  have t2 := Int32.le_iff_toInt_le.mp (Int32.not_lt.mp h.2)
  have e1 : (1 : Int32).toInt = 1 := by decide
  have e0 : (0 : Int32).toInt = 0 := by decide
  have n0 : ¬ n < 0 := by rw [Int32.not_lt, Int32.le_iff_toInt_le]; omega
  have e := aw_nn n0
  exact ⟨⟨n0, rfl⟩, by omega⟩
def beD (D : Nat → Int32) (a m : Nat) : Nat → Int32 := fun j => if a ≤ j ∧ j < a + m then 1 else D j
theorem beD_0 {D : Nat → Int32} {a : Nat} : beD D a 0 = D := by funext j; exact if_neg (by omega)
theorem beD_r {h : AH} {b a i : Nat} {D : Nat → Int32} (x : ∀ j, j < 80 → hI h b j = beD D a i j) : ∀ j, j < 80 → hI (setI h b (a + i) 1) b j = beD D a (i + 1) j := by
  intro j hj
  rw [hI_setI_s]
  by_cases e : j = a + i
  · subst e; rw [upd_s]; exact (if_pos (by omega)).symm
  · rw [upd_n e, x j hj]; unfold beD
    by_cases f : a ≤ j ∧ j < a + i
    · rw [if_pos f, if_pos (by omega)]
    · rw [if_neg f, if_neg (by omega)]
abbrev BE : Type := (Nat → Int32) × Int32 × Int64 × Int32
def beG (S : Nat → Int32) (w t : Nat) (s : BE) : Int32 := if ¬ s.1 t = 0 ∧ s.2.1 < S (188 + w) then 1 else 0
def beP (S : Nat → Int32) (w t : Nat) (s : BE) : Int32 := if ¬ s.1 t = 0 ∧ s.2.1 < S (188 + w) then S (183 + w) else 0
def beT (S dm : Nat → Int32) (w n : Nat) (wi : Int32) (t : Nat) (s : BE) : Int64 := s.2.2.1 + (mdB S wi (nI t) n + beP S w t s - dm t).toInt64 * 10 / (S 7).toInt64
def beF (S dm : Nat → Int32) (w n : Nat) (wi c : Int32) (t : Nat) (s : BE) : Int32 := if s.2.2.2 = -5 ∧ c.toInt64 < szS (beT S dm w n wi t s) then nI t else s.2.2.2
def beS (S dm : Nat → Int32) (w n lg m : Nat) (wi r c : Int32) : Nat → BE
  | 0 => (fun _ => 0, 0, 0, -5)
  | t + 1 => (if beT S dm w n wi t (beS S dm w n lg m wi r c t) < (-r).toInt64 then beD (beS S dm w n lg m wi r c t).1 (t + 1 + lg) m else (beS S dm w n lg m wi r c t).1, (beS S dm w n lg m wi r c t).2.1 + beG S w t (beS S dm w n lg m wi r c t), beT S dm w n wi t (beS S dm w n lg m wi r c t), beF S dm w n wi c t (beS S dm w n lg m wi r c t))
theorem beS_c {S dm dm' : Nat → Int32} {w n lg m : Nat} {wi r c : Int32} : ∀ k, (∀ t, t < k → dm t = dm' t) → beS S dm w n lg m wi r c k = beS S dm' w n lg m wi r c k
  | 0, _ => rfl
  | k + 1, h => by
    have e := beS_c (S := S) (w := w) (n := n) (lg := lg) (m := m) (wi := wi) (r := r) (c := c) k (fun t q => h t (by omega))
    have eT : ∀ s, beT S dm w n wi k s = beT S dm' w n wi k s := fun s => by unfold beT; rw [h k (by omega)]
    simp only [beS, beF, eT, e]
set_option maxRecDepth 100000 in
theorem m_beside (g : GG) (h : AH) (B : Nat) (hL : LY h B) (P : PF) (hP : PcM g B h P) (h6 : ¬ hI h (B + 52) 6 = 0) (hl : Nat) (hhl : IX (hI h (B + 52) 8) hl) (lhl : hl < 5) (np : Nat) (hnp : IX (hI h (B + 52) 0) np) (lnp : np ≤ 8) (n : Nat) (hn : IX (hI h (B + 52) 1) n) (ln : n ≤ 5) (h7 : ¬ (hI h (B + 52) 7).toInt64 = 0) (hla : ¬ hI h (B + 52) 8 = -1) (hlg : ∀ j, j < n → ∃ lg, IX (hI h (B + 52) (178 + j)) lg ∧ lg ≤ 9) (w r mm c : Int32) : AM g 8 0 0 mX12_beside [.ref (B + 51), .int w, .int r, .int mm, .int c] h (fun rv h' => ((oO w 0 (hI h (B + 52) 1 - 1) = true ∧ rv = some (.int (-1))) ∨ (oO w 0 (hI h (B + 52) 1 - 1) = false ∧ (oO r 0 999 || oO mm 1 20 || oO c 0 999) = true ∧ rv = some (.int (-2))) ∨ (oO w 0 (hI h (B + 52) 1 - 1) = false ∧ (oO r 0 999 || oO mm 1 20 || oO c 0 999) = false ∧ ∃ lg, IX (hI h (B + 52) (178 + w.toNatClampNeg)) lg ∧ rv = some (.int (beS (hI h (B + 52)) (fun t => dmS P (hI h (B + 52)) (hI h (B + 56)) hl (nI t) np) w.toNatClampNeg n lg mm.toNatClampNeg w r c 40).2.2.2))) ∧ FR (Ae B) h h') := by
  refine AM.of [(0, .ref (B + 51)), (1, .int w), (2, .int r), (3, .int mm), (4, .int c)] (by decide) (Nat.le_of_ble_eq_true rfl) rfl ?_
  intro V hV
  have hb : V.2.1.2.1 = cX12_beside := by subst hV; rfl
  have ow : V.2.1.1.cls = RX12 := by subst hV; rfl
  have hr : V.2.2.1 = aw_rm 8 0 0 := by subst hV; rfl
  have hz : V.2.2.2 = aw_Z V.1 (fun rv h' => ((oO w 0 (hI h (B + 52) 1 - 1) = true ∧ rv = some (.int (-1))) ∨ (oO w 0 (hI h (B + 52) 1 - 1) = false ∧ (oO r 0 999 || oO mm 1 20 || oO c 0 999) = true ∧ rv = some (.int (-2))) ∨ (oO w 0 (hI h (B + 52) 1 - 1) = false ∧ (oO r 0 999 || oO mm 1 20 || oO c 0 999) = false ∧ ∃ lg, IX (hI h (B + 52) (178 + w.toNatClampNeg)) lg ∧ rv = some (.int (beS (hI h (B + 52)) (fun t => dmS P (hI h (B + 52)) (hI h (B + 56)) hl (nI t) np) w.toNatClampNeg n lg mm.toNatClampNeg w r c 40).2.2.2))) ∧ FR (Ae B) h h') V.2.2.1 := by subst hV; rfl
  have hg : V.1 = g := by subst hV; rfl
  have hret : V.2.1.2.2.2 = (some .int) := by subst hV; rfl
  have hml : V.2.1.2.2.1 = 13 := by subst hV; rfl
  clear hV
  refine a_aload_n hb dX12_beside_0 rfl 0 rfl ?_
  refine a_iload_n hb dX12_beside_1 rfl 1 rfl ?_
  refine a_callV hb dX12_beside_2 (by rw [hg]; exact w_isWork g h B hL w) (by rw [ow]; exact clv_RX12_160) (hL.1 51 (by decide)) (by decide) rfl rfl rfl (Nat.le_of_ble_eq_true rfl) (by rw [hr]; exact ⟨by decide, by decide⟩) (by rw [hr]; exact ⟨Nat.le_of_ble_eq_true rfl, Nat.le_of_ble_eq_true rfl⟩) ?_
  intro rv h' hp
  rw [hp.1, hp.2]
  show AW V 0 0 h 5 [(0, .ref (B + 51)), (1, .int w), (2, .int r), (3, .int mm), (4, .int c)] [.int (b2i (!oO w 0 (hI h (B + 52) 1 - 1)))]
  refine a_if_eq hb 15 dX12_beside_5 (by decide) (fun c5 => ?_) (fun c5 => ?_)
  · simp [b2i_0] at c5
    refine a_iconst (v := (-1)) hb dX12_beside_15 (by decide) ?_
    exact a_ireturn (ty := .int) hb hz dX12_beside_16 hret rfl (by rw [hr]; exact Nat.le_of_ble_eq_true rfl) (by rw [hr]; exact Nat.le_of_ble_eq_true rfl) (⟨by first | exact Or.inl ⟨c5, rfl⟩ | exact Or.inr (Or.inl ⟨c5, by simp [*], rfl⟩), FR.rf⟩)
  · simp [b2i_0] at c5
    obtain ⟨ix_w, lt_w⟩ : IX w w.toNatClampNeg ∧ w.toNatClampNeg < n := oO_lt hn c5
    obtain ⟨lg, hlg1, llg⟩ := hlg _ lt_w
    refine a_aload_n hb dX12_beside_8 rfl 0 rfl ?_
    refine a_callV hb dX12_beside_9 (by rw [hg]; exact w_isLaw g h B hL) (by rw [ow]; exact clv_RX12_152) (hL.1 51 (by decide)) (by decide) rfl rfl rfl (Nat.le_of_ble_eq_true rfl) (by rw [hr]; exact ⟨by decide, by decide⟩) (by rw [hr]; exact ⟨Nat.le_of_ble_eq_true rfl, Nat.le_of_ble_eq_true rfl⟩) ?_
    intro rv h' hp
    rw [hp.1, hp.2]
    show AW V 0 0 h 12 [(0, .ref (B + 51)), (1, .int w), (2, .int r), (3, .int mm), (4, .int c)] [.int (b2i (!decide (hI h (B + 52) 8 = -1)))]
    refine a_if_ne hb 17 dX12_beside_12 (by decide) (fun c12 => ?_) (fun c12 => absurd c12 (by simp [b2i, hla]))
    refine a_iload_n hb dX12_beside_17 rfl 2 rfl ?_
    refine a_iconst (v := 0) hb dX12_beside_18 (by decide) ?_
    refine a_sipush (v := 999) hb dX12_beside_19 (by decide) ?_
    refine a_callS hb dX12_beside_22 (by rw [hg]; exact w_in g h r 0 999) (by rw [ow]; exact cls_RX12_48) rfl rfl (Nat.le_of_ble_eq_true rfl) (by rw [hr]; exact ⟨by decide, by decide⟩) (by rw [hr]; exact ⟨Nat.le_of_ble_eq_true rfl, Nat.le_of_ble_eq_true rfl⟩) ?_
    intro rv h' hp
    rw [hp.1, hp.2]
    show AW V 0 0 h 25 [(0, .ref (B + 51)), (1, .int w), (2, .int r), (3, .int mm), (4, .int c)] [.int (b2i (!oO r 0 999))]
    refine a_if_eq hb 46 dX12_beside_25 (by decide) (fun c25 => ?_) (fun c25 => ?_)
    · simp [b2i_0] at c25
      refine a_bipush (v := (-2)) hb dX12_beside_46 (by decide) ?_
      exact a_ireturn (ty := .int) hb hz dX12_beside_48 hret rfl (by rw [hr]; exact Nat.le_of_ble_eq_true rfl) (by rw [hr]; exact Nat.le_of_ble_eq_true rfl) (⟨by first | exact Or.inl ⟨c5, rfl⟩ | exact Or.inr (Or.inl ⟨c5, by simp [*], rfl⟩), FR.rf⟩)
    · simp [b2i_0] at c25
      refine a_iload_n hb dX12_beside_28 rfl 3 rfl ?_
      refine a_iconst (v := 1) hb dX12_beside_29 (by decide) ?_
      refine a_bipush (v := 20) hb dX12_beside_30 (by decide) ?_
      refine a_callS hb dX12_beside_32 (by rw [hg]; exact w_in g h mm 1 20) (by rw [ow]; exact cls_RX12_48) rfl rfl (Nat.le_of_ble_eq_true rfl) (by rw [hr]; exact ⟨by decide, by decide⟩) (by rw [hr]; exact ⟨Nat.le_of_ble_eq_true rfl, Nat.le_of_ble_eq_true rfl⟩) ?_
      intro rv h' hp
      rw [hp.1, hp.2]
      show AW V 0 0 h 35 [(0, .ref (B + 51)), (1, .int w), (2, .int r), (3, .int mm), (4, .int c)] [.int (b2i (!oO mm 1 20))]
      refine a_if_eq hb 46 dX12_beside_35 (by decide) (fun c35 => ?_) (fun c35 => ?_)
      · simp [b2i_0] at c35
        refine a_bipush (v := (-2)) hb dX12_beside_46 (by decide) ?_
        exact a_ireturn (ty := .int) hb hz dX12_beside_48 hret rfl (by rw [hr]; exact Nat.le_of_ble_eq_true rfl) (by rw [hr]; exact Nat.le_of_ble_eq_true rfl) (⟨by first | exact Or.inl ⟨c5, rfl⟩ | exact Or.inr (Or.inl ⟨c5, by simp [*], rfl⟩), FR.rf⟩)
      · simp [b2i_0] at c35
        obtain ⟨ix_mm, le_mm⟩ : IX mm mm.toNatClampNeg ∧ mm.toNatClampNeg ≤ 20 := oO_le1 (by decide) c35
        refine a_iload hb dX12_beside_38 4 rfl ?_
        refine a_callS hb dX12_beside_40 (by rw [hg]; exact w_isBound g h c) (by rw [ow]; exact cls_RX12_189) rfl rfl (Nat.le_of_ble_eq_true rfl) (by rw [hr]; exact ⟨by decide, by decide⟩) (by rw [hr]; exact ⟨Nat.le_of_ble_eq_true rfl, Nat.le_of_ble_eq_true rfl⟩) ?_
        intro rv h' hp
        rw [hp.1, hp.2]
        show AW V 0 0 h 43 [(0, .ref (B + 51)), (1, .int w), (2, .int r), (3, .int mm), (4, .int c)] [.int (b2i (!oO c 0 999))]
        refine a_if_ne hb 49 dX12_beside_43 (by decide) (fun c43 => ?_) (fun c43 => ?_)
        · simp [b2i_0] at c43
          refine a_aload_n hb dX12_beside_49 rfl 0 rfl ?_
          refine a_callV hb dX12_beside_50 (by rw [hg]; exact m_looksAtDemand g h B hL P (hP.mv (FR.mo (A := Ad B) (A' := Ax B) FR.rf (by intro a; unfold Ad Ax; omega))) h6 hl hhl lhl np hnp lnp) (by rw [ow]; exact clv_RX12_175) (hL.1 51 (by decide)) (by decide) rfl rfl rfl (Nat.le_of_ble_eq_true rfl) (by rw [hr]; exact ⟨by decide, by decide⟩) (by rw [hr]; exact ⟨Nat.le_of_ble_eq_true rfl, Nat.le_of_ble_eq_true rfl⟩) ?_
          intro rv h1_ hp
          obtain ⟨hv, hf1, hx1_0⟩ := hp
          rw [hv]
          have hF1 := FR.tr FR.rf hf1
          have hL1 : LY h1_ B := FR.ly hF1 hL
          have hS1_52 : hI h1_ (B + 52) = hI h (B + 52) := hF1.2.2.2.2 _ (by unfold Ad; omega)
          have hS1_56 : hI h1_ (B + 56) = hI h (B + 56) := hF1.2.2.2.2 _ (by unfold Ad; omega)
          have hT1_60 : hI h1_ (B + 60) = hI h (B + 60) := hf1.2.2.2.2 _ (by unfold Ad; omega)
          clear hv
          show AW V 0 0 h1_ 53 [(0, .ref (B + 51)), (1, .int w), (2, .int r), (3, .int mm), (4, .int c)] []
          refine a_iconst (v := 0) hb dX12_beside_53 (by decide) ?_
          refine a_istore (L' := [(5, .int 0), (0, .ref (B + 51)), (1, .int w), (2, .int r), (3, .int mm), (4, .int c)]) hb dX12_beside_54 (by rw [hml]; decide) rfl ?_
          have hFL := hF1
          have hn1 : IX (hI h1_ (B + 52) 1) n := by rw [hS1_52]; exact hn
          have h71 : ¬ (hI h1_ (B + 52) 7).toInt64 = 0 := by rw [hS1_52]; exact h7
          have hlg2 : IX (hI h1_ (B + 52) (178 + w.toNatClampNeg)) lg := by rw [hS1_52]; exact hlg1
          have inner : ∀ (gv_ ft gi al : Int32) (bt : Int64) (z : Nat) (lz : z < 40) (D : Nat → Int32) (K : ∀ h2, FR (Ah B) h1_ h2 → (∀ j, j < 80 → hI h2 (B + 60) j = (if bt < (-r).toInt64 then beD D (z + 1 + lg) mm.toNatClampNeg else D) j) → AW V 0 0 h2 278 [(0, .ref (B + 51)), (1, .int w), (2, .int r), (3, .int mm), (4, .int c), (5, .int gv_), (6, .long bt), (8, .int ft), (9, .int (nI z)), (10, .int gi), (11, .int al)] []) (k i : Nat) (h1 : AH) (hF1 : FR (Ah B) h1_ h1) (iv : ∀ j, j < 80 → hI h1 (B + 60) j = (if bt < (-r).toInt64 then beD D (z + 1 + lg) i else D) j), i + k = mm.toNatClampNeg → AW V 0 0 h1 233 [(0, .ref (B + 51)), (1, .int w), (2, .int r), (3, .int mm), (4, .int c), (5, .int gv_), (6, .long bt), (8, .int ft), (9, .int (nI z)), (10, .int gi), (11, .int al), (12, .int (nI i))] [] := by
            intro gv_ ft gi al bt z lz D K
            have lp : ∀ (k i : Nat) (h1 : AH) (hF1 : FR (Ah B) h1_ h1) (iv : ∀ j, j < 80 → hI h1 (B + 60) j = (if bt < (-r).toInt64 then beD D (z + 1 + lg) i else D) j), i + k = mm.toNatClampNeg → AW V 0 0 h1 233 [(0, .ref (B + 51)), (1, .int w), (2, .int r), (3, .int mm), (4, .int c), (5, .int gv_), (6, .long bt), (8, .int ft), (9, .int (nI z)), (10, .int gi), (11, .int al), (12, .int (nI i))] [] := by
              intro k
              induction k with
              | zero =>
                intro i h1 hF1 iv hi
                have hL0_ : LY h1 B := FR.ly hF1 hL1
                have hS0_52 : hI h1 (B + 52) = hI h1_ (B + 52) := hF1.2.2.2.2 _ (by unfold Ah; omega)
                have hS0_58 : hI h1 (B + 58) = hI h1_ (B + 58) := hF1.2.2.2.2 _ (by unfold Ah; omega)
                refine a_iload hb dX12_beside_233 11 rfl ?_
                refine a_iload_n hb dX12_beside_235 rfl 3 rfl ?_
                refine a_icmp_ge hb 278 dX12_beside_236 (by decide) (fun c236 => ?_) (fun c236 => absurd (by rw [ix_mm.eq.1]; exact nI_le (by omega) (by omega)) c236)
                refine AW.sub (L' := [(0, .ref (B + 51)), (1, .int w), (2, .int r), (3, .int mm), (4, .int c), (5, .int gv_), (6, .long bt), (8, .int ft), (9, .int (nI z)), (10, .int gi), (11, .int al)]) [0, 1, 2, 3, 4, 5, 6, 7, 8, 9, 10] rfl ?_
                exact AW.eq (K h1 hF1 (by rw [show mm.toNatClampNeg = i by omega]; exact iv)) rfl rfl (rfl) rfl
              | succ k ih =>
                intro i h1 hF1 iv hi
                have hL0_ : LY h1 B := FR.ly hF1 hL1
                have hS0_52 : hI h1 (B + 52) = hI h1_ (B + 52) := hF1.2.2.2.2 _ (by unfold Ah; omega)
                have hS0_58 : hI h1 (B + 58) = hI h1_ (B + 58) := hF1.2.2.2.2 _ (by unfold Ah; omega)
                refine a_iload hb dX12_beside_233 11 rfl ?_
                refine a_iload_n hb dX12_beside_235 rfl 3 rfl ?_
                refine a_icmp_ge hb 278 dX12_beside_236 (by decide) (fun c236 => absurd c236 (by rw [ix_mm.eq.1]; exact nI_ge (by omega) (by omega))) (fun c236 => ?_)
                refine a_lload hb dX12_beside_239 6 rfl ?_
                refine a_iload_n hb dX12_beside_241 rfl 2 rfl ?_
                refine a_ineg hb dX12_beside_242 ?_
                refine a_i2l hb dX12_beside_243 rfl ?_
                refine a_lcmp hb dX12_beside_244 ?_
                refine a_if_ge hb 278 dX12_beside_245 (by decide) (fun c245 => ?_) (fun c245 => ?_)
                · rw [lc_ge] at c245
                  refine AW.sub (L' := [(0, .ref (B + 51)), (1, .int w), (2, .int r), (3, .int mm), (4, .int c), (5, .int gv_), (6, .long bt), (8, .int ft), (9, .int (nI z)), (10, .int gi), (11, .int al)]) [0, 1, 2, 3, 4, 5, 6, 7, 8, 9, 10] rfl ?_
                  exact AW.eq (K h1 hF1 (by intro j hj; rw [iv j hj, if_neg c245, if_neg c245])) rfl rfl (rfl) rfl
                · rw [lc_ge, Decidable.not_not] at c245
                  refine a_aload_n hb dX12_beside_248 rfl 0 rfl ?_
                  refine a_getQ (q := (B + 60)) hb dX12_beside_249 (by rw [ow]; exact fl_RX12_38_12) (hL0_.1 51 (by decide)) (hL0_.2.1 (51, 19, 60) (by decide)) ?_
                  refine a_iload hb dX12_beside_252 8 rfl ?_
                  refine a_iconst (v := 1) hb dX12_beside_254 (by decide) ?_
                  refine a_iadd hb dX12_beside_255 ?_
                  refine a_aload_n hb dX12_beside_256 rfl 0 rfl ?_
                  refine a_getQ (q := (B + 52)) hb dX12_beside_257 (by rw [ow]; exact fl_RX12_9_12) (hL0_.1 51 (by decide)) (hL0_.2.1 (51, 1, 52) (by decide)) ?_
                  refine a_sipush (v := 178) hb dX12_beside_260 (by decide) ?_
                  refine a_iload_n hb dX12_beside_263 rfl 1 rfl ?_
                  refine a_iadd hb dX12_beside_264 ?_
                  refine b_iald (j := (178 + w.toNatClampNeg)) hb dX12_beside_265 (hL0_.1 52 (by decide)) (IX.add ⟨by decide, by decide⟩ ix_w (by omega)) (by omega) ?_
                  rw [hS0_52]
                  refine a_iadd hb dX12_beside_266 ?_
                  refine a_iload hb dX12_beside_267 11 rfl ?_
                  refine a_iadd hb dX12_beside_269 ?_
                  refine a_iconst (v := 1) hb dX12_beside_270 (by decide) ?_
                  refine b_zast (j := (((z + 1) + lg) + i)) hb dX12_beside_271 (hL0_.1 60 (by decide)) (IX.add (IX.add (IX.add (IX.n (by omega)) ⟨by decide, by decide⟩ (by omega)) hlg2 (by omega)) (IX.n (by omega)) (by omega)) (by omega) rfl ?_
                  refine a_iinc (v := ((nI i) + 1)) (L' := [(12, .int ((nI i) + 1)), (0, .ref (B + 51)), (1, .int w), (2, .int r), (3, .int mm), (4, .int c), (5, .int gv_), (6, .long bt), (8, .int ft), (9, .int (nI z)), (10, .int gi), (11, .int al)]) hb dX12_beside_272 11 rfl rfl (by rw [hml]; decide) rfl ?_
                  refine a_goto hb 233 dX12_beside_275 (by decide) ?_
                  refine AW.sub (L' := [(0, .ref (B + 51)), (1, .int w), (2, .int r), (3, .int mm), (4, .int c), (5, .int gv_), (6, .long bt), (8, .int ft), (9, .int (nI z)), (10, .int gi), (11, .int al), (12, .int ((nI i) + 1))]) [1, 2, 3, 4, 5, 6, 7, 8, 9, 10, 11, 0] rfl ?_
                  exact AW.eq (ih (i + 1) (setI h1 (B + 60) (((z + 1) + lg) + i) 1) (FR.I hF1 (by unfold Ah; omega)) (by intro j hj; rw [if_pos c245]; exact beD_r (fun j hj => by rw [iv j hj, if_pos c245]) j hj) (by omega)) rfl rfl (by simp only [nI_1]) rfl
            exact lp
          have loop : ∀ (k i : Nat) (h1 : AH) (hF1 : FR (Ah B) h1_ h1) (iv : ∀ j, j < 80 → hI h1 (B + 60) j = (beS (hI h1_ (B + 52)) (hI h1_ (B + 58)) w.toNatClampNeg n lg mm.toNatClampNeg w r c i).1 j), i + k = 40 → AW V 0 0 h1 90 [(0, .ref (B + 51)), (1, .int w), (2, .int r), (3, .int mm), (4, .int c), (5, .int ((beS (hI h1_ (B + 52)) (hI h1_ (B + 58)) w.toNatClampNeg n lg mm.toNatClampNeg w r c i).2.1)), (6, .long ((beS (hI h1_ (B + 52)) (hI h1_ (B + 58)) w.toNatClampNeg n lg mm.toNatClampNeg w r c i).2.2.1)), (8, .int ((beS (hI h1_ (B + 52)) (hI h1_ (B + 58)) w.toNatClampNeg n lg mm.toNatClampNeg w r c i).2.2.2)), (9, .int (nI i))] [] := by
            intro k
            induction k with
            | zero =>
              intro i h1 hF1 iv hi
              have hL0_ : LY h1 B := FR.ly hF1 hL1
              have hS0_52 : hI h1 (B + 52) = hI h1_ (B + 52) := hF1.2.2.2.2 _ (by unfold Ah; omega)
              have hS0_58 : hI h1 (B + 58) = hI h1_ (B + 58) := hF1.2.2.2.2 _ (by unfold Ah; omega)
              refine a_iload hb dX12_beside_90 8 rfl ?_
              refine a_bipush (v := 40) hb dX12_beside_92 (by decide) ?_
              refine a_icmp_ge hb 284 dX12_beside_94 (by decide) (fun c94 => ?_) (fun c94 => absurd (by exact nI_le (b := i) (a := 40) (by omega) (by omega)) c94)
              refine a_iload hb dX12_beside_284 7 rfl ?_
              exact a_ireturn (ty := .int) hb hz dX12_beside_286 hret rfl (by rw [hr]; exact Nat.le_of_ble_eq_true rfl) (by rw [hr]; exact Nat.le_of_ble_eq_true rfl) (⟨Or.inr (Or.inr ⟨c5, by simp [c25, c35, c43], lg, hlg1, by rw [← beS_c 40 hx1_0, ← hS1_52]; rw [show (40 : Nat) = i by omega]⟩), (FR.tr (FR.mo (A := Ad B) (A' := Ae B) hFL (by intro a; unfold Ad Ae; omega)) (FR.mo (A := Ah B) (A' := Ae B) hF1 (by intro a; unfold Ah Ae; omega)))⟩)
            | succ k ih =>
              intro i h1 hF1 iv hi
              have hL0_ : LY h1 B := FR.ly hF1 hL1
              have hS0_52 : hI h1 (B + 52) = hI h1_ (B + 52) := hF1.2.2.2.2 _ (by unfold Ah; omega)
              have hS0_58 : hI h1 (B + 58) = hI h1_ (B + 58) := hF1.2.2.2.2 _ (by unfold Ah; omega)
              refine a_iload hb dX12_beside_90 8 rfl ?_
              refine a_bipush (v := 40) hb dX12_beside_92 (by decide) ?_
              refine a_icmp_ge hb 284 dX12_beside_94 (by decide) (fun c94 => absurd c94 (by exact nI_ge (b := 40) (a := i) (by omega) (by omega))) (fun c94 => ?_)
              refine a_aload_n hb dX12_beside_97 rfl 0 rfl ?_
              refine a_getQ (q := (B + 60)) hb dX12_beside_98 (by rw [ow]; exact fl_RX12_38_12) (hL0_.1 51 (by decide)) (hL0_.2.1 (51, 19, 60) (by decide)) ?_
              refine a_iload hb dX12_beside_101 8 rfl ?_
              refine b_zald (j := i) hb dX12_beside_103 (hL0_.1 60 (by decide)) (IX.n (by omega)) (by omega) ?_
              refine a_if_eq hb 126 dX12_beside_104 (by decide) (fun c104 => ?_) (fun c104 => ?_)
              · have eG : beG (hI h1_ (B + 52)) w.toNatClampNeg i (beS (hI h1_ (B + 52)) (hI h1_ (B + 58)) w.toNatClampNeg n lg mm.toNatClampNeg w r c i) = 0 := if_neg (fun e => e.1 (by rw [← iv i (by omega)]; exact c104))
                have eP : beP (hI h1_ (B + 52)) w.toNatClampNeg i (beS (hI h1_ (B + 52)) (hI h1_ (B + 58)) w.toNatClampNeg n lg mm.toNatClampNeg w r c i) = 0 := if_neg (fun e => e.1 (by rw [← iv i (by omega)]; exact c104))
                refine a_iconst (v := 0) hb dX12_beside_126 (by decide) ?_
                refine a_istore (L' := [(10, .int 0), (0, .ref (B + 51)), (1, .int w), (2, .int r), (3, .int mm), (4, .int c), (5, .int ((beS (hI h1_ (B + 52)) (hI h1_ (B + 58)) w.toNatClampNeg n lg mm.toNatClampNeg w r c i).2.1)), (6, .long ((beS (hI h1_ (B + 52)) (hI h1_ (B + 58)) w.toNatClampNeg n lg mm.toNatClampNeg w r c i).2.2.1)), (8, .int ((beS (hI h1_ (B + 52)) (hI h1_ (B + 58)) w.toNatClampNeg n lg mm.toNatClampNeg w r c i).2.2.2)), (9, .int (nI i))]) hb dX12_beside_127 (by rw [hml]; decide) rfl ?_
                refine a_iload hb dX12_beside_129 6 rfl ?_
                refine a_iload hb dX12_beside_131 0 rfl ?_
                refine a_if_eq hb 140 dX12_beside_133 (by decide) (fun c133 => ?_) (fun c133 => absurd (by decide) c133)
                refine a_iconst (v := 0) hb dX12_beside_140 (by decide) ?_
                refine a_iadd hb dX12_beside_141 ?_
                refine a_istore (L' := [(5, .int (((beS (hI h1_ (B + 52)) (hI h1_ (B + 58)) w.toNatClampNeg n lg mm.toNatClampNeg w r c i).2.1) + 0)), (10, .int 0), (0, .ref (B + 51)), (1, .int w), (2, .int r), (3, .int mm), (4, .int c), (6, .long ((beS (hI h1_ (B + 52)) (hI h1_ (B + 58)) w.toNatClampNeg n lg mm.toNatClampNeg w r c i).2.2.1)), (8, .int ((beS (hI h1_ (B + 52)) (hI h1_ (B + 58)) w.toNatClampNeg n lg mm.toNatClampNeg w r c i).2.2.2)), (9, .int (nI i))]) hb dX12_beside_142 (by rw [hml]; decide) rfl ?_
                refine a_aload_n hb dX12_beside_144 rfl 2 rfl ?_
                refine a_iload_n hb dX12_beside_145 rfl 3 rfl ?_
                refine a_iload hb dX12_beside_146 9 rfl ?_
                refine a_callV hb dX12_beside_148 (by rw [hg]; have h0 := m_madeBut g h1 B hL0_ n (by rw [hS0_52]; exact hn1) ln w (nI i); rw [hS0_52] at h0; exact h0) (by rw [ow]; exact clv_RX12_166) (hL0_.1 51 (by decide)) (by decide) rfl rfl rfl (Nat.le_of_ble_eq_true rfl) (by rw [hr]; exact ⟨by decide, by decide⟩) (by rw [hr]; exact ⟨Nat.le_of_ble_eq_true rfl, Nat.le_of_ble_eq_true rfl⟩) ?_
                intro rv h' hp
                rw [hp.1, hp.2]
                show AW V 0 0 h1 151 [(5, .int (((beS (hI h1_ (B + 52)) (hI h1_ (B + 58)) w.toNatClampNeg n lg mm.toNatClampNeg w r c i).2.1) + 0)), (10, .int 0), (0, .ref (B + 51)), (1, .int w), (2, .int r), (3, .int mm), (4, .int c), (6, .long ((beS (hI h1_ (B + 52)) (hI h1_ (B + 58)) w.toNatClampNeg n lg mm.toNatClampNeg w r c i).2.2.1)), (8, .int ((beS (hI h1_ (B + 52)) (hI h1_ (B + 58)) w.toNatClampNeg n lg mm.toNatClampNeg w r c i).2.2.2)), (9, .int (nI i))] [.int (mdB (hI h1_ (B + 52)) w (nI i) n)]
                refine a_iload hb dX12_beside_151 1 rfl ?_
                refine a_if_eq hb 169 dX12_beside_153 (by decide) (fun c153 => ?_) (fun c153 => absurd (by decide) c153)
                refine a_iconst (v := 0) hb dX12_beside_169 (by decide) ?_
                refine a_iadd hb dX12_beside_170 ?_
                refine a_istore (L' := [(11, .int ((mdB (hI h1_ (B + 52)) w (nI i) n) + 0)), (5, .int (((beS (hI h1_ (B + 52)) (hI h1_ (B + 58)) w.toNatClampNeg n lg mm.toNatClampNeg w r c i).2.1) + 0)), (10, .int 0), (0, .ref (B + 51)), (1, .int w), (2, .int r), (3, .int mm), (4, .int c), (6, .long ((beS (hI h1_ (B + 52)) (hI h1_ (B + 58)) w.toNatClampNeg n lg mm.toNatClampNeg w r c i).2.2.1)), (8, .int ((beS (hI h1_ (B + 52)) (hI h1_ (B + 58)) w.toNatClampNeg n lg mm.toNatClampNeg w r c i).2.2.2)), (9, .int (nI i))]) hb dX12_beside_171 (by rw [hml]; decide) rfl ?_
                refine a_lload hb dX12_beside_173 8 rfl ?_
                refine a_iload hb dX12_beside_175 0 rfl ?_
                refine a_aload_n hb dX12_beside_177 rfl 3 rfl ?_
                refine a_getQ (q := (B + 58)) hb dX12_beside_178 (by rw [ow]; exact fl_RX12_31_12) (hL0_.1 51 (by decide)) (hL0_.2.1 (51, 13, 58) (by decide)) ?_
                refine a_iload hb dX12_beside_181 10 rfl ?_
                refine b_iald (j := i) hb dX12_beside_183 (hL0_.1 58 (by decide)) (IX.n (by omega)) (by omega) ?_
                rw [hS0_58]
                refine a_isub hb dX12_beside_184 ?_
                refine a_i2l hb dX12_beside_185 rfl ?_
                refine a_ldc2 (v := 10) hb dX12_beside_186 (by rw [ow]; exact kw_1275) ?_
                refine a_lmul hb dX12_beside_189 ?_
                refine a_aload_n hb dX12_beside_190 rfl 3 rfl ?_
                refine a_getQ (q := (B + 52)) hb dX12_beside_191 (by rw [ow]; exact fl_RX12_9_12) (hL0_.1 51 (by decide)) (hL0_.2.1 (51, 1, 52) (by decide)) ?_
                refine a_bipush (v := 7) hb dX12_beside_194 (by decide) ?_
                refine b_iald (j := 7) hb dX12_beside_196 (hL0_.1 52 (by decide)) ⟨by decide, by decide⟩ (by decide) ?_
                rw [hS0_52]
                refine a_i2l hb dX12_beside_197 rfl ?_
                refine a_ldiv hb dX12_beside_198 h71 ?_
                refine a_ladd hb dX12_beside_199 ?_
                refine a_lstore (L' := [(6, .long (((beS (hI h1_ (B + 52)) (hI h1_ (B + 58)) w.toNatClampNeg n lg mm.toNatClampNeg w r c i).2.2.1) + ((((((mdB (hI h1_ (B + 52)) w (nI i) n) + 0) - (hI h1_ (B + 58) i)).toInt64) * 10) / ((hI h1_ (B + 52) 7).toInt64)))), (11, .int ((mdB (hI h1_ (B + 52)) w (nI i) n) + 0)), (5, .int (((beS (hI h1_ (B + 52)) (hI h1_ (B + 58)) w.toNatClampNeg n lg mm.toNatClampNeg w r c i).2.1) + 0)), (10, .int 0), (0, .ref (B + 51)), (1, .int w), (2, .int r), (3, .int mm), (4, .int c), (8, .int ((beS (hI h1_ (B + 52)) (hI h1_ (B + 58)) w.toNatClampNeg n lg mm.toNatClampNeg w r c i).2.2.2)), (9, .int (nI i))]) hb dX12_beside_200 (by rw [hml]; decide) rfl ?_
                refine a_iload hb dX12_beside_202 9 rfl ?_
                refine a_bipush (v := (-5)) hb dX12_beside_204 (by decide) ?_
                refine a_icmp_ne hb 226 dX12_beside_206 (by decide) (fun c206 => ?_) (fun c206 => ?_)
                · have nf : ¬ ((beS (hI h1_ (B + 52)) (hI h1_ (B + 58)) w.toNatClampNeg n lg mm.toNatClampNeg w r c i).2.2.2 = -5 ∧ c.toInt64 < szS (((beS (hI h1_ (B + 52)) (hI h1_ (B + 58)) w.toNatClampNeg n lg mm.toNatClampNeg w r c i).2.2.1) + ((((((mdB (hI h1_ (B + 52)) w (nI i) n) + 0) - (hI h1_ (B + 58) i)).toInt64) * 10) / ((hI h1_ (B + 52) 7).toInt64)))) := fun e => c206 e.1
                  refine a_iload hb dX12_beside_226 9 rfl ?_
                  refine a_istore (L' := [(8, .int ((beS (hI h1_ (B + 52)) (hI h1_ (B + 58)) w.toNatClampNeg n lg mm.toNatClampNeg w r c i).2.2.2)), (6, .long (((beS (hI h1_ (B + 52)) (hI h1_ (B + 58)) w.toNatClampNeg n lg mm.toNatClampNeg w r c i).2.2.1) + ((((((mdB (hI h1_ (B + 52)) w (nI i) n) + 0) - (hI h1_ (B + 58) i)).toInt64) * 10) / ((hI h1_ (B + 52) 7).toInt64)))), (11, .int ((mdB (hI h1_ (B + 52)) w (nI i) n) + 0)), (5, .int (((beS (hI h1_ (B + 52)) (hI h1_ (B + 58)) w.toNatClampNeg n lg mm.toNatClampNeg w r c i).2.1) + 0)), (10, .int 0), (0, .ref (B + 51)), (1, .int w), (2, .int r), (3, .int mm), (4, .int c), (9, .int (nI i))]) hb dX12_beside_228 (by rw [hml]; decide) rfl ?_
                  refine a_iconst (v := 0) hb dX12_beside_230 (by decide) ?_
                  refine a_istore (L' := [(12, .int 0), (8, .int ((beS (hI h1_ (B + 52)) (hI h1_ (B + 58)) w.toNatClampNeg n lg mm.toNatClampNeg w r c i).2.2.2)), (6, .long (((beS (hI h1_ (B + 52)) (hI h1_ (B + 58)) w.toNatClampNeg n lg mm.toNatClampNeg w r c i).2.2.1) + ((((((mdB (hI h1_ (B + 52)) w (nI i) n) + 0) - (hI h1_ (B + 58) i)).toInt64) * 10) / ((hI h1_ (B + 52) 7).toInt64)))), (11, .int ((mdB (hI h1_ (B + 52)) w (nI i) n) + 0)), (5, .int (((beS (hI h1_ (B + 52)) (hI h1_ (B + 58)) w.toNatClampNeg n lg mm.toNatClampNeg w r c i).2.1) + 0)), (10, .int 0), (0, .ref (B + 51)), (1, .int w), (2, .int r), (3, .int mm), (4, .int c), (9, .int (nI i))]) hb dX12_beside_231 (by rw [hml]; decide) rfl ?_
                  have eT : beT (hI h1_ (B + 52)) (hI h1_ (B + 58)) w.toNatClampNeg n w i (beS (hI h1_ (B + 52)) (hI h1_ (B + 58)) w.toNatClampNeg n lg mm.toNatClampNeg w r c i) = (((beS (hI h1_ (B + 52)) (hI h1_ (B + 58)) w.toNatClampNeg n lg mm.toNatClampNeg w r c i).2.2.1) + ((((((mdB (hI h1_ (B + 52)) w (nI i) n) + 0) - (hI h1_ (B + 58) i)).toInt64) * 10) / ((hI h1_ (B + 52) 7).toInt64))) := by unfold beT; rw [eP]
                  have eF : beF (hI h1_ (B + 52)) (hI h1_ (B + 58)) w.toNatClampNeg n w c i (beS (hI h1_ (B + 52)) (hI h1_ (B + 58)) w.toNatClampNeg n lg mm.toNatClampNeg w r c i) = (beS (hI h1_ (B + 52)) (hI h1_ (B + 58)) w.toNatClampNeg n lg mm.toNatClampNeg w r c i).2.2.2 := by unfold beF; rw [eT]; first | exact if_pos yf | exact if_neg nf
                  refine AW.sub (L' := [(0, .ref (B + 51)), (1, .int w), (2, .int r), (3, .int mm), (4, .int c), (5, .int (((beS (hI h1_ (B + 52)) (hI h1_ (B + 58)) w.toNatClampNeg n lg mm.toNatClampNeg w r c i).2.1) + 0)), (6, .long (((beS (hI h1_ (B + 52)) (hI h1_ (B + 58)) w.toNatClampNeg n lg mm.toNatClampNeg w r c i).2.2.1) + ((((((mdB (hI h1_ (B + 52)) w (nI i) n) + 0) - (hI h1_ (B + 58) i)).toInt64) * 10) / ((hI h1_ (B + 52) 7).toInt64)))), (8, .int ((beS (hI h1_ (B + 52)) (hI h1_ (B + 58)) w.toNatClampNeg n lg mm.toNatClampNeg w r c i).2.2.2)), (9, .int (nI i)), (10, .int 0), (11, .int ((mdB (hI h1_ (B + 52)) w (nI i) n) + 0)), (12, .int 0)]) [6, 7, 8, 9, 10, 4, 2, 1, 11, 5, 3, 0] rfl ?_
                  refine AW.eq (inner (((beS (hI h1_ (B + 52)) (hI h1_ (B + 58)) w.toNatClampNeg n lg mm.toNatClampNeg w r c i).2.1) + 0) ((beS (hI h1_ (B + 52)) (hI h1_ (B + 58)) w.toNatClampNeg n lg mm.toNatClampNeg w r c i).2.2.2) 0 ((mdB (hI h1_ (B + 52)) w (nI i) n) + 0) (((beS (hI h1_ (B + 52)) (hI h1_ (B + 58)) w.toNatClampNeg n lg mm.toNatClampNeg w r c i).2.2.1) + ((((((mdB (hI h1_ (B + 52)) w (nI i) n) + 0) - (hI h1_ (B + 58) i)).toInt64) * 10) / ((hI h1_ (B + 52) 7).toInt64))) i (by omega) (beS (hI h1_ (B + 52)) (hI h1_ (B + 58)) w.toNatClampNeg n lg mm.toNatClampNeg w r c i).1 (fun h2 hF2 r2 => ?_) mm.toNatClampNeg 0 h1 hF1 (by intro j hj; rw [beD_0, ite_self]; exact iv j (by omega)) (by omega)) rfl rfl rfl rfl
                  have hL2x : LY h2 B := FR.ly hF2 hL1
                  have hS2x_52 : hI h2 (B + 52) = hI h1_ (B + 52) := hF2.2.2.2.2 _ (by unfold Ah; omega)
                  have hS2x_58 : hI h2 (B + 58) = hI h1_ (B + 58) := hF2.2.2.2.2 _ (by unfold Ah; omega)
                  show AW V 0 0 h2 278 [(0, .ref (B + 51)), (1, .int w), (2, .int r), (3, .int mm), (4, .int c), (5, .int (((beS (hI h1_ (B + 52)) (hI h1_ (B + 58)) w.toNatClampNeg n lg mm.toNatClampNeg w r c i).2.1) + 0)), (6, .long (((beS (hI h1_ (B + 52)) (hI h1_ (B + 58)) w.toNatClampNeg n lg mm.toNatClampNeg w r c i).2.2.1) + ((((((mdB (hI h1_ (B + 52)) w (nI i) n) + 0) - (hI h1_ (B + 58) i)).toInt64) * 10) / ((hI h1_ (B + 52) 7).toInt64)))), (8, .int ((beS (hI h1_ (B + 52)) (hI h1_ (B + 58)) w.toNatClampNeg n lg mm.toNatClampNeg w r c i).2.2.2)), (9, .int (nI i)), (10, .int 0), (11, .int ((mdB (hI h1_ (B + 52)) w (nI i) n) + 0))] []
                  refine a_iinc (v := ((nI i) + 1)) (L' := [(9, .int ((nI i) + 1)), (0, .ref (B + 51)), (1, .int w), (2, .int r), (3, .int mm), (4, .int c), (5, .int (((beS (hI h1_ (B + 52)) (hI h1_ (B + 58)) w.toNatClampNeg n lg mm.toNatClampNeg w r c i).2.1) + 0)), (6, .long (((beS (hI h1_ (B + 52)) (hI h1_ (B + 58)) w.toNatClampNeg n lg mm.toNatClampNeg w r c i).2.2.1) + ((((((mdB (hI h1_ (B + 52)) w (nI i) n) + 0) - (hI h1_ (B + 58) i)).toInt64) * 10) / ((hI h1_ (B + 52) 7).toInt64)))), (8, .int ((beS (hI h1_ (B + 52)) (hI h1_ (B + 58)) w.toNatClampNeg n lg mm.toNatClampNeg w r c i).2.2.2)), (10, .int 0), (11, .int ((mdB (hI h1_ (B + 52)) w (nI i) n) + 0))]) hb dX12_beside_278 8 rfl rfl (by rw [hml]; decide) rfl ?_
                  refine a_goto hb 90 dX12_beside_281 (by decide) ?_
                  refine AW.sub (L' := [(0, .ref (B + 51)), (1, .int w), (2, .int r), (3, .int mm), (4, .int c), (5, .int (((beS (hI h1_ (B + 52)) (hI h1_ (B + 58)) w.toNatClampNeg n lg mm.toNatClampNeg w r c i).2.1) + 0)), (6, .long (((beS (hI h1_ (B + 52)) (hI h1_ (B + 58)) w.toNatClampNeg n lg mm.toNatClampNeg w r c i).2.2.1) + ((((((mdB (hI h1_ (B + 52)) w (nI i) n) + 0) - (hI h1_ (B + 58) i)).toInt64) * 10) / ((hI h1_ (B + 52) 7).toInt64)))), (8, .int ((beS (hI h1_ (B + 52)) (hI h1_ (B + 58)) w.toNatClampNeg n lg mm.toNatClampNeg w r c i).2.2.2)), (9, .int ((nI i) + 1))]) [1, 2, 3, 4, 5, 6, 7, 8, 0] rfl ?_
                  exact AW.eq (ih (i + 1) h2 hF2 (by intro j hj; rw [r2 j hj]; simp only [beS, eT]) (by omega)) rfl rfl (by simp only [nI_1, beS, eG, eT, eF]) rfl
                · refine a_lload hb dX12_beside_209 0 rfl ?_
                  refine a_callS hb dX12_beside_211 (by rw [hg]; exact m_sizeOf g h1 (((beS (hI h1_ (B + 52)) (hI h1_ (B + 58)) w.toNatClampNeg n lg mm.toNatClampNeg w r c i).2.2.1) + ((((((mdB (hI h1_ (B + 52)) w (nI i) n) + 0) - (hI h1_ (B + 58) i)).toInt64) * 10) / ((hI h1_ (B + 52) 7).toInt64)))) (by rw [ow]; exact cls_RX12_171) rfl rfl (Nat.le_of_ble_eq_true rfl) (by rw [hr]; exact ⟨by decide, by decide⟩) (by rw [hr]; exact ⟨Nat.le_of_ble_eq_true rfl, Nat.le_of_ble_eq_true rfl⟩) ?_
                  intro rv h' hp
                  rw [hp.1, hp.2]
                  show AW V 0 0 h1 214 [(6, .long (((beS (hI h1_ (B + 52)) (hI h1_ (B + 58)) w.toNatClampNeg n lg mm.toNatClampNeg w r c i).2.2.1) + ((((((mdB (hI h1_ (B + 52)) w (nI i) n) + 0) - (hI h1_ (B + 58) i)).toInt64) * 10) / ((hI h1_ (B + 52) 7).toInt64)))), (11, .int ((mdB (hI h1_ (B + 52)) w (nI i) n) + 0)), (5, .int (((beS (hI h1_ (B + 52)) (hI h1_ (B + 58)) w.toNatClampNeg n lg mm.toNatClampNeg w r c i).2.1) + 0)), (10, .int 0), (0, .ref (B + 51)), (1, .int w), (2, .int r), (3, .int mm), (4, .int c), (8, .int ((beS (hI h1_ (B + 52)) (hI h1_ (B + 58)) w.toNatClampNeg n lg mm.toNatClampNeg w r c i).2.2.2)), (9, .int (nI i))] [.long (szS (((beS (hI h1_ (B + 52)) (hI h1_ (B + 58)) w.toNatClampNeg n lg mm.toNatClampNeg w r c i).2.2.1) + ((((((mdB (hI h1_ (B + 52)) w (nI i) n) + 0) - (hI h1_ (B + 58) i)).toInt64) * 10) / ((hI h1_ (B + 52) 7).toInt64))))]
                  refine a_iload hb dX12_beside_214 8 rfl ?_
                  refine a_i2l hb dX12_beside_216 rfl ?_
                  refine a_lcmp hb dX12_beside_217 ?_
                  refine a_if_le hb 226 dX12_beside_218 (by decide) (fun c218 => ?_) (fun c218 => ?_)
                  · rw [lc_le] at c218
                    have nf : ¬ ((beS (hI h1_ (B + 52)) (hI h1_ (B + 58)) w.toNatClampNeg n lg mm.toNatClampNeg w r c i).2.2.2 = -5 ∧ c.toInt64 < szS (((beS (hI h1_ (B + 52)) (hI h1_ (B + 58)) w.toNatClampNeg n lg mm.toNatClampNeg w r c i).2.2.1) + ((((((mdB (hI h1_ (B + 52)) w (nI i) n) + 0) - (hI h1_ (B + 58) i)).toInt64) * 10) / ((hI h1_ (B + 52) 7).toInt64)))) := fun e => c218 e.2
                    refine a_iload hb dX12_beside_226 9 rfl ?_
                    refine a_istore (L' := [(8, .int ((beS (hI h1_ (B + 52)) (hI h1_ (B + 58)) w.toNatClampNeg n lg mm.toNatClampNeg w r c i).2.2.2)), (6, .long (((beS (hI h1_ (B + 52)) (hI h1_ (B + 58)) w.toNatClampNeg n lg mm.toNatClampNeg w r c i).2.2.1) + ((((((mdB (hI h1_ (B + 52)) w (nI i) n) + 0) - (hI h1_ (B + 58) i)).toInt64) * 10) / ((hI h1_ (B + 52) 7).toInt64)))), (11, .int ((mdB (hI h1_ (B + 52)) w (nI i) n) + 0)), (5, .int (((beS (hI h1_ (B + 52)) (hI h1_ (B + 58)) w.toNatClampNeg n lg mm.toNatClampNeg w r c i).2.1) + 0)), (10, .int 0), (0, .ref (B + 51)), (1, .int w), (2, .int r), (3, .int mm), (4, .int c), (9, .int (nI i))]) hb dX12_beside_228 (by rw [hml]; decide) rfl ?_
                    refine a_iconst (v := 0) hb dX12_beside_230 (by decide) ?_
                    refine a_istore (L' := [(12, .int 0), (8, .int ((beS (hI h1_ (B + 52)) (hI h1_ (B + 58)) w.toNatClampNeg n lg mm.toNatClampNeg w r c i).2.2.2)), (6, .long (((beS (hI h1_ (B + 52)) (hI h1_ (B + 58)) w.toNatClampNeg n lg mm.toNatClampNeg w r c i).2.2.1) + ((((((mdB (hI h1_ (B + 52)) w (nI i) n) + 0) - (hI h1_ (B + 58) i)).toInt64) * 10) / ((hI h1_ (B + 52) 7).toInt64)))), (11, .int ((mdB (hI h1_ (B + 52)) w (nI i) n) + 0)), (5, .int (((beS (hI h1_ (B + 52)) (hI h1_ (B + 58)) w.toNatClampNeg n lg mm.toNatClampNeg w r c i).2.1) + 0)), (10, .int 0), (0, .ref (B + 51)), (1, .int w), (2, .int r), (3, .int mm), (4, .int c), (9, .int (nI i))]) hb dX12_beside_231 (by rw [hml]; decide) rfl ?_
                    have eT : beT (hI h1_ (B + 52)) (hI h1_ (B + 58)) w.toNatClampNeg n w i (beS (hI h1_ (B + 52)) (hI h1_ (B + 58)) w.toNatClampNeg n lg mm.toNatClampNeg w r c i) = (((beS (hI h1_ (B + 52)) (hI h1_ (B + 58)) w.toNatClampNeg n lg mm.toNatClampNeg w r c i).2.2.1) + ((((((mdB (hI h1_ (B + 52)) w (nI i) n) + 0) - (hI h1_ (B + 58) i)).toInt64) * 10) / ((hI h1_ (B + 52) 7).toInt64))) := by unfold beT; rw [eP]
                    have eF : beF (hI h1_ (B + 52)) (hI h1_ (B + 58)) w.toNatClampNeg n w c i (beS (hI h1_ (B + 52)) (hI h1_ (B + 58)) w.toNatClampNeg n lg mm.toNatClampNeg w r c i) = (beS (hI h1_ (B + 52)) (hI h1_ (B + 58)) w.toNatClampNeg n lg mm.toNatClampNeg w r c i).2.2.2 := by unfold beF; rw [eT]; first | exact if_pos yf | exact if_neg nf
                    refine AW.sub (L' := [(0, .ref (B + 51)), (1, .int w), (2, .int r), (3, .int mm), (4, .int c), (5, .int (((beS (hI h1_ (B + 52)) (hI h1_ (B + 58)) w.toNatClampNeg n lg mm.toNatClampNeg w r c i).2.1) + 0)), (6, .long (((beS (hI h1_ (B + 52)) (hI h1_ (B + 58)) w.toNatClampNeg n lg mm.toNatClampNeg w r c i).2.2.1) + ((((((mdB (hI h1_ (B + 52)) w (nI i) n) + 0) - (hI h1_ (B + 58) i)).toInt64) * 10) / ((hI h1_ (B + 52) 7).toInt64)))), (8, .int ((beS (hI h1_ (B + 52)) (hI h1_ (B + 58)) w.toNatClampNeg n lg mm.toNatClampNeg w r c i).2.2.2)), (9, .int (nI i)), (10, .int 0), (11, .int ((mdB (hI h1_ (B + 52)) w (nI i) n) + 0)), (12, .int 0)]) [6, 7, 8, 9, 10, 4, 2, 1, 11, 5, 3, 0] rfl ?_
                    refine AW.eq (inner (((beS (hI h1_ (B + 52)) (hI h1_ (B + 58)) w.toNatClampNeg n lg mm.toNatClampNeg w r c i).2.1) + 0) ((beS (hI h1_ (B + 52)) (hI h1_ (B + 58)) w.toNatClampNeg n lg mm.toNatClampNeg w r c i).2.2.2) 0 ((mdB (hI h1_ (B + 52)) w (nI i) n) + 0) (((beS (hI h1_ (B + 52)) (hI h1_ (B + 58)) w.toNatClampNeg n lg mm.toNatClampNeg w r c i).2.2.1) + ((((((mdB (hI h1_ (B + 52)) w (nI i) n) + 0) - (hI h1_ (B + 58) i)).toInt64) * 10) / ((hI h1_ (B + 52) 7).toInt64))) i (by omega) (beS (hI h1_ (B + 52)) (hI h1_ (B + 58)) w.toNatClampNeg n lg mm.toNatClampNeg w r c i).1 (fun h2 hF2 r2 => ?_) mm.toNatClampNeg 0 h1 hF1 (by intro j hj; rw [beD_0, ite_self]; exact iv j (by omega)) (by omega)) rfl rfl rfl rfl
                    have hL2x : LY h2 B := FR.ly hF2 hL1
                    have hS2x_52 : hI h2 (B + 52) = hI h1_ (B + 52) := hF2.2.2.2.2 _ (by unfold Ah; omega)
                    have hS2x_58 : hI h2 (B + 58) = hI h1_ (B + 58) := hF2.2.2.2.2 _ (by unfold Ah; omega)
                    show AW V 0 0 h2 278 [(0, .ref (B + 51)), (1, .int w), (2, .int r), (3, .int mm), (4, .int c), (5, .int (((beS (hI h1_ (B + 52)) (hI h1_ (B + 58)) w.toNatClampNeg n lg mm.toNatClampNeg w r c i).2.1) + 0)), (6, .long (((beS (hI h1_ (B + 52)) (hI h1_ (B + 58)) w.toNatClampNeg n lg mm.toNatClampNeg w r c i).2.2.1) + ((((((mdB (hI h1_ (B + 52)) w (nI i) n) + 0) - (hI h1_ (B + 58) i)).toInt64) * 10) / ((hI h1_ (B + 52) 7).toInt64)))), (8, .int ((beS (hI h1_ (B + 52)) (hI h1_ (B + 58)) w.toNatClampNeg n lg mm.toNatClampNeg w r c i).2.2.2)), (9, .int (nI i)), (10, .int 0), (11, .int ((mdB (hI h1_ (B + 52)) w (nI i) n) + 0))] []
                    refine a_iinc (v := ((nI i) + 1)) (L' := [(9, .int ((nI i) + 1)), (0, .ref (B + 51)), (1, .int w), (2, .int r), (3, .int mm), (4, .int c), (5, .int (((beS (hI h1_ (B + 52)) (hI h1_ (B + 58)) w.toNatClampNeg n lg mm.toNatClampNeg w r c i).2.1) + 0)), (6, .long (((beS (hI h1_ (B + 52)) (hI h1_ (B + 58)) w.toNatClampNeg n lg mm.toNatClampNeg w r c i).2.2.1) + ((((((mdB (hI h1_ (B + 52)) w (nI i) n) + 0) - (hI h1_ (B + 58) i)).toInt64) * 10) / ((hI h1_ (B + 52) 7).toInt64)))), (8, .int ((beS (hI h1_ (B + 52)) (hI h1_ (B + 58)) w.toNatClampNeg n lg mm.toNatClampNeg w r c i).2.2.2)), (10, .int 0), (11, .int ((mdB (hI h1_ (B + 52)) w (nI i) n) + 0))]) hb dX12_beside_278 8 rfl rfl (by rw [hml]; decide) rfl ?_
                    refine a_goto hb 90 dX12_beside_281 (by decide) ?_
                    refine AW.sub (L' := [(0, .ref (B + 51)), (1, .int w), (2, .int r), (3, .int mm), (4, .int c), (5, .int (((beS (hI h1_ (B + 52)) (hI h1_ (B + 58)) w.toNatClampNeg n lg mm.toNatClampNeg w r c i).2.1) + 0)), (6, .long (((beS (hI h1_ (B + 52)) (hI h1_ (B + 58)) w.toNatClampNeg n lg mm.toNatClampNeg w r c i).2.2.1) + ((((((mdB (hI h1_ (B + 52)) w (nI i) n) + 0) - (hI h1_ (B + 58) i)).toInt64) * 10) / ((hI h1_ (B + 52) 7).toInt64)))), (8, .int ((beS (hI h1_ (B + 52)) (hI h1_ (B + 58)) w.toNatClampNeg n lg mm.toNatClampNeg w r c i).2.2.2)), (9, .int ((nI i) + 1))]) [1, 2, 3, 4, 5, 6, 7, 8, 0] rfl ?_
                    exact AW.eq (ih (i + 1) h2 hF2 (by intro j hj; rw [r2 j hj]; simp only [beS, eT]) (by omega)) rfl rfl (by simp only [nI_1, beS, eG, eT, eF]) rfl
                  · rw [lc_le, Decidable.not_not] at c218
                    have yf : (beS (hI h1_ (B + 52)) (hI h1_ (B + 58)) w.toNatClampNeg n lg mm.toNatClampNeg w r c i).2.2.2 = -5 ∧ c.toInt64 < szS (((beS (hI h1_ (B + 52)) (hI h1_ (B + 58)) w.toNatClampNeg n lg mm.toNatClampNeg w r c i).2.2.1) + ((((((mdB (hI h1_ (B + 52)) w (nI i) n) + 0) - (hI h1_ (B + 58) i)).toInt64) * 10) / ((hI h1_ (B + 52) 7).toInt64))) := ⟨c206, c218⟩
                    refine a_iload hb dX12_beside_221 10 rfl ?_
                    refine a_goto hb 228 dX12_beside_223 (by decide) ?_
                    refine a_istore (L' := [(8, .int (nI i)), (6, .long (((beS (hI h1_ (B + 52)) (hI h1_ (B + 58)) w.toNatClampNeg n lg mm.toNatClampNeg w r c i).2.2.1) + ((((((mdB (hI h1_ (B + 52)) w (nI i) n) + 0) - (hI h1_ (B + 58) i)).toInt64) * 10) / ((hI h1_ (B + 52) 7).toInt64)))), (11, .int ((mdB (hI h1_ (B + 52)) w (nI i) n) + 0)), (5, .int (((beS (hI h1_ (B + 52)) (hI h1_ (B + 58)) w.toNatClampNeg n lg mm.toNatClampNeg w r c i).2.1) + 0)), (10, .int 0), (0, .ref (B + 51)), (1, .int w), (2, .int r), (3, .int mm), (4, .int c), (9, .int (nI i))]) hb dX12_beside_228 (by rw [hml]; decide) rfl ?_
                    refine a_iconst (v := 0) hb dX12_beside_230 (by decide) ?_
                    refine a_istore (L' := [(12, .int 0), (8, .int (nI i)), (6, .long (((beS (hI h1_ (B + 52)) (hI h1_ (B + 58)) w.toNatClampNeg n lg mm.toNatClampNeg w r c i).2.2.1) + ((((((mdB (hI h1_ (B + 52)) w (nI i) n) + 0) - (hI h1_ (B + 58) i)).toInt64) * 10) / ((hI h1_ (B + 52) 7).toInt64)))), (11, .int ((mdB (hI h1_ (B + 52)) w (nI i) n) + 0)), (5, .int (((beS (hI h1_ (B + 52)) (hI h1_ (B + 58)) w.toNatClampNeg n lg mm.toNatClampNeg w r c i).2.1) + 0)), (10, .int 0), (0, .ref (B + 51)), (1, .int w), (2, .int r), (3, .int mm), (4, .int c), (9, .int (nI i))]) hb dX12_beside_231 (by rw [hml]; decide) rfl ?_
                    have eT : beT (hI h1_ (B + 52)) (hI h1_ (B + 58)) w.toNatClampNeg n w i (beS (hI h1_ (B + 52)) (hI h1_ (B + 58)) w.toNatClampNeg n lg mm.toNatClampNeg w r c i) = (((beS (hI h1_ (B + 52)) (hI h1_ (B + 58)) w.toNatClampNeg n lg mm.toNatClampNeg w r c i).2.2.1) + ((((((mdB (hI h1_ (B + 52)) w (nI i) n) + 0) - (hI h1_ (B + 58) i)).toInt64) * 10) / ((hI h1_ (B + 52) 7).toInt64))) := by unfold beT; rw [eP]
                    have eF : beF (hI h1_ (B + 52)) (hI h1_ (B + 58)) w.toNatClampNeg n w c i (beS (hI h1_ (B + 52)) (hI h1_ (B + 58)) w.toNatClampNeg n lg mm.toNatClampNeg w r c i) = (nI i) := by unfold beF; rw [eT]; first | exact if_pos yf | exact if_neg nf
                    refine AW.sub (L' := [(0, .ref (B + 51)), (1, .int w), (2, .int r), (3, .int mm), (4, .int c), (5, .int (((beS (hI h1_ (B + 52)) (hI h1_ (B + 58)) w.toNatClampNeg n lg mm.toNatClampNeg w r c i).2.1) + 0)), (6, .long (((beS (hI h1_ (B + 52)) (hI h1_ (B + 58)) w.toNatClampNeg n lg mm.toNatClampNeg w r c i).2.2.1) + ((((((mdB (hI h1_ (B + 52)) w (nI i) n) + 0) - (hI h1_ (B + 58) i)).toInt64) * 10) / ((hI h1_ (B + 52) 7).toInt64)))), (8, .int (nI i)), (9, .int (nI i)), (10, .int 0), (11, .int ((mdB (hI h1_ (B + 52)) w (nI i) n) + 0)), (12, .int 0)]) [6, 7, 8, 9, 10, 4, 2, 1, 11, 5, 3, 0] rfl ?_
                    refine AW.eq (inner (((beS (hI h1_ (B + 52)) (hI h1_ (B + 58)) w.toNatClampNeg n lg mm.toNatClampNeg w r c i).2.1) + 0) (nI i) 0 ((mdB (hI h1_ (B + 52)) w (nI i) n) + 0) (((beS (hI h1_ (B + 52)) (hI h1_ (B + 58)) w.toNatClampNeg n lg mm.toNatClampNeg w r c i).2.2.1) + ((((((mdB (hI h1_ (B + 52)) w (nI i) n) + 0) - (hI h1_ (B + 58) i)).toInt64) * 10) / ((hI h1_ (B + 52) 7).toInt64))) i (by omega) (beS (hI h1_ (B + 52)) (hI h1_ (B + 58)) w.toNatClampNeg n lg mm.toNatClampNeg w r c i).1 (fun h2 hF2 r2 => ?_) mm.toNatClampNeg 0 h1 hF1 (by intro j hj; rw [beD_0, ite_self]; exact iv j (by omega)) (by omega)) rfl rfl rfl rfl
                    have hL2x : LY h2 B := FR.ly hF2 hL1
                    have hS2x_52 : hI h2 (B + 52) = hI h1_ (B + 52) := hF2.2.2.2.2 _ (by unfold Ah; omega)
                    have hS2x_58 : hI h2 (B + 58) = hI h1_ (B + 58) := hF2.2.2.2.2 _ (by unfold Ah; omega)
                    show AW V 0 0 h2 278 [(0, .ref (B + 51)), (1, .int w), (2, .int r), (3, .int mm), (4, .int c), (5, .int (((beS (hI h1_ (B + 52)) (hI h1_ (B + 58)) w.toNatClampNeg n lg mm.toNatClampNeg w r c i).2.1) + 0)), (6, .long (((beS (hI h1_ (B + 52)) (hI h1_ (B + 58)) w.toNatClampNeg n lg mm.toNatClampNeg w r c i).2.2.1) + ((((((mdB (hI h1_ (B + 52)) w (nI i) n) + 0) - (hI h1_ (B + 58) i)).toInt64) * 10) / ((hI h1_ (B + 52) 7).toInt64)))), (8, .int (nI i)), (9, .int (nI i)), (10, .int 0), (11, .int ((mdB (hI h1_ (B + 52)) w (nI i) n) + 0))] []
                    refine a_iinc (v := ((nI i) + 1)) (L' := [(9, .int ((nI i) + 1)), (0, .ref (B + 51)), (1, .int w), (2, .int r), (3, .int mm), (4, .int c), (5, .int (((beS (hI h1_ (B + 52)) (hI h1_ (B + 58)) w.toNatClampNeg n lg mm.toNatClampNeg w r c i).2.1) + 0)), (6, .long (((beS (hI h1_ (B + 52)) (hI h1_ (B + 58)) w.toNatClampNeg n lg mm.toNatClampNeg w r c i).2.2.1) + ((((((mdB (hI h1_ (B + 52)) w (nI i) n) + 0) - (hI h1_ (B + 58) i)).toInt64) * 10) / ((hI h1_ (B + 52) 7).toInt64)))), (8, .int (nI i)), (10, .int 0), (11, .int ((mdB (hI h1_ (B + 52)) w (nI i) n) + 0))]) hb dX12_beside_278 8 rfl rfl (by rw [hml]; decide) rfl ?_
                    refine a_goto hb 90 dX12_beside_281 (by decide) ?_
                    refine AW.sub (L' := [(0, .ref (B + 51)), (1, .int w), (2, .int r), (3, .int mm), (4, .int c), (5, .int (((beS (hI h1_ (B + 52)) (hI h1_ (B + 58)) w.toNatClampNeg n lg mm.toNatClampNeg w r c i).2.1) + 0)), (6, .long (((beS (hI h1_ (B + 52)) (hI h1_ (B + 58)) w.toNatClampNeg n lg mm.toNatClampNeg w r c i).2.2.1) + ((((((mdB (hI h1_ (B + 52)) w (nI i) n) + 0) - (hI h1_ (B + 58) i)).toInt64) * 10) / ((hI h1_ (B + 52) 7).toInt64)))), (8, .int (nI i)), (9, .int ((nI i) + 1))]) [1, 2, 3, 4, 5, 6, 7, 8, 0] rfl ?_
                    exact AW.eq (ih (i + 1) h2 hF2 (by intro j hj; rw [r2 j hj]; simp only [beS, eT]) (by omega)) rfl rfl (by simp only [nI_1, beS, eG, eT, eF]) rfl
              · refine a_iload hb dX12_beside_107 5 rfl ?_
                refine a_aload_n hb dX12_beside_109 rfl 0 rfl ?_
                refine a_getQ (q := (B + 52)) hb dX12_beside_110 (by rw [ow]; exact fl_RX12_9_12) (hL0_.1 51 (by decide)) (hL0_.2.1 (51, 1, 52) (by decide)) ?_
                refine a_sipush (v := 188) hb dX12_beside_113 (by decide) ?_
                refine a_iload_n hb dX12_beside_116 rfl 1 rfl ?_
                refine a_iadd hb dX12_beside_117 ?_
                refine b_iald (j := (188 + w.toNatClampNeg)) hb dX12_beside_118 (hL0_.1 52 (by decide)) (IX.add ⟨by decide, by decide⟩ ix_w (by omega)) (by omega) ?_
                rw [hS0_52]
                refine a_icmp_ge hb 126 dX12_beside_119 (by decide) (fun c119 => ?_) (fun c119 => ?_)
                · have c119' := Int32.not_lt.mpr c119
                  have eG : beG (hI h1_ (B + 52)) w.toNatClampNeg i (beS (hI h1_ (B + 52)) (hI h1_ (B + 58)) w.toNatClampNeg n lg mm.toNatClampNeg w r c i) = 0 := if_neg (fun e => c119' e.2)
                  have eP : beP (hI h1_ (B + 52)) w.toNatClampNeg i (beS (hI h1_ (B + 52)) (hI h1_ (B + 58)) w.toNatClampNeg n lg mm.toNatClampNeg w r c i) = 0 := if_neg (fun e => c119' e.2)
                  refine a_iconst (v := 0) hb dX12_beside_126 (by decide) ?_
                  refine a_istore (L' := [(10, .int 0), (0, .ref (B + 51)), (1, .int w), (2, .int r), (3, .int mm), (4, .int c), (5, .int ((beS (hI h1_ (B + 52)) (hI h1_ (B + 58)) w.toNatClampNeg n lg mm.toNatClampNeg w r c i).2.1)), (6, .long ((beS (hI h1_ (B + 52)) (hI h1_ (B + 58)) w.toNatClampNeg n lg mm.toNatClampNeg w r c i).2.2.1)), (8, .int ((beS (hI h1_ (B + 52)) (hI h1_ (B + 58)) w.toNatClampNeg n lg mm.toNatClampNeg w r c i).2.2.2)), (9, .int (nI i))]) hb dX12_beside_127 (by rw [hml]; decide) rfl ?_
                  refine a_iload hb dX12_beside_129 6 rfl ?_
                  refine a_iload hb dX12_beside_131 0 rfl ?_
                  refine a_if_eq hb 140 dX12_beside_133 (by decide) (fun c133 => ?_) (fun c133 => absurd (by decide) c133)
                  refine a_iconst (v := 0) hb dX12_beside_140 (by decide) ?_
                  refine a_iadd hb dX12_beside_141 ?_
                  refine a_istore (L' := [(5, .int (((beS (hI h1_ (B + 52)) (hI h1_ (B + 58)) w.toNatClampNeg n lg mm.toNatClampNeg w r c i).2.1) + 0)), (10, .int 0), (0, .ref (B + 51)), (1, .int w), (2, .int r), (3, .int mm), (4, .int c), (6, .long ((beS (hI h1_ (B + 52)) (hI h1_ (B + 58)) w.toNatClampNeg n lg mm.toNatClampNeg w r c i).2.2.1)), (8, .int ((beS (hI h1_ (B + 52)) (hI h1_ (B + 58)) w.toNatClampNeg n lg mm.toNatClampNeg w r c i).2.2.2)), (9, .int (nI i))]) hb dX12_beside_142 (by rw [hml]; decide) rfl ?_
                  refine a_aload_n hb dX12_beside_144 rfl 2 rfl ?_
                  refine a_iload_n hb dX12_beside_145 rfl 3 rfl ?_
                  refine a_iload hb dX12_beside_146 9 rfl ?_
                  refine a_callV hb dX12_beside_148 (by rw [hg]; have h0 := m_madeBut g h1 B hL0_ n (by rw [hS0_52]; exact hn1) ln w (nI i); rw [hS0_52] at h0; exact h0) (by rw [ow]; exact clv_RX12_166) (hL0_.1 51 (by decide)) (by decide) rfl rfl rfl (Nat.le_of_ble_eq_true rfl) (by rw [hr]; exact ⟨by decide, by decide⟩) (by rw [hr]; exact ⟨Nat.le_of_ble_eq_true rfl, Nat.le_of_ble_eq_true rfl⟩) ?_
                  intro rv h' hp
                  rw [hp.1, hp.2]
                  show AW V 0 0 h1 151 [(5, .int (((beS (hI h1_ (B + 52)) (hI h1_ (B + 58)) w.toNatClampNeg n lg mm.toNatClampNeg w r c i).2.1) + 0)), (10, .int 0), (0, .ref (B + 51)), (1, .int w), (2, .int r), (3, .int mm), (4, .int c), (6, .long ((beS (hI h1_ (B + 52)) (hI h1_ (B + 58)) w.toNatClampNeg n lg mm.toNatClampNeg w r c i).2.2.1)), (8, .int ((beS (hI h1_ (B + 52)) (hI h1_ (B + 58)) w.toNatClampNeg n lg mm.toNatClampNeg w r c i).2.2.2)), (9, .int (nI i))] [.int (mdB (hI h1_ (B + 52)) w (nI i) n)]
                  refine a_iload hb dX12_beside_151 1 rfl ?_
                  refine a_if_eq hb 169 dX12_beside_153 (by decide) (fun c153 => ?_) (fun c153 => absurd (by decide) c153)
                  refine a_iconst (v := 0) hb dX12_beside_169 (by decide) ?_
                  refine a_iadd hb dX12_beside_170 ?_
                  refine a_istore (L' := [(11, .int ((mdB (hI h1_ (B + 52)) w (nI i) n) + 0)), (5, .int (((beS (hI h1_ (B + 52)) (hI h1_ (B + 58)) w.toNatClampNeg n lg mm.toNatClampNeg w r c i).2.1) + 0)), (10, .int 0), (0, .ref (B + 51)), (1, .int w), (2, .int r), (3, .int mm), (4, .int c), (6, .long ((beS (hI h1_ (B + 52)) (hI h1_ (B + 58)) w.toNatClampNeg n lg mm.toNatClampNeg w r c i).2.2.1)), (8, .int ((beS (hI h1_ (B + 52)) (hI h1_ (B + 58)) w.toNatClampNeg n lg mm.toNatClampNeg w r c i).2.2.2)), (9, .int (nI i))]) hb dX12_beside_171 (by rw [hml]; decide) rfl ?_
                  refine a_lload hb dX12_beside_173 8 rfl ?_
                  refine a_iload hb dX12_beside_175 0 rfl ?_
                  refine a_aload_n hb dX12_beside_177 rfl 3 rfl ?_
                  refine a_getQ (q := (B + 58)) hb dX12_beside_178 (by rw [ow]; exact fl_RX12_31_12) (hL0_.1 51 (by decide)) (hL0_.2.1 (51, 13, 58) (by decide)) ?_
                  refine a_iload hb dX12_beside_181 10 rfl ?_
                  refine b_iald (j := i) hb dX12_beside_183 (hL0_.1 58 (by decide)) (IX.n (by omega)) (by omega) ?_
                  rw [hS0_58]
                  refine a_isub hb dX12_beside_184 ?_
                  refine a_i2l hb dX12_beside_185 rfl ?_
                  refine a_ldc2 (v := 10) hb dX12_beside_186 (by rw [ow]; exact kw_1275) ?_
                  refine a_lmul hb dX12_beside_189 ?_
                  refine a_aload_n hb dX12_beside_190 rfl 3 rfl ?_
                  refine a_getQ (q := (B + 52)) hb dX12_beside_191 (by rw [ow]; exact fl_RX12_9_12) (hL0_.1 51 (by decide)) (hL0_.2.1 (51, 1, 52) (by decide)) ?_
                  refine a_bipush (v := 7) hb dX12_beside_194 (by decide) ?_
                  refine b_iald (j := 7) hb dX12_beside_196 (hL0_.1 52 (by decide)) ⟨by decide, by decide⟩ (by decide) ?_
                  rw [hS0_52]
                  refine a_i2l hb dX12_beside_197 rfl ?_
                  refine a_ldiv hb dX12_beside_198 h71 ?_
                  refine a_ladd hb dX12_beside_199 ?_
                  refine a_lstore (L' := [(6, .long (((beS (hI h1_ (B + 52)) (hI h1_ (B + 58)) w.toNatClampNeg n lg mm.toNatClampNeg w r c i).2.2.1) + ((((((mdB (hI h1_ (B + 52)) w (nI i) n) + 0) - (hI h1_ (B + 58) i)).toInt64) * 10) / ((hI h1_ (B + 52) 7).toInt64)))), (11, .int ((mdB (hI h1_ (B + 52)) w (nI i) n) + 0)), (5, .int (((beS (hI h1_ (B + 52)) (hI h1_ (B + 58)) w.toNatClampNeg n lg mm.toNatClampNeg w r c i).2.1) + 0)), (10, .int 0), (0, .ref (B + 51)), (1, .int w), (2, .int r), (3, .int mm), (4, .int c), (8, .int ((beS (hI h1_ (B + 52)) (hI h1_ (B + 58)) w.toNatClampNeg n lg mm.toNatClampNeg w r c i).2.2.2)), (9, .int (nI i))]) hb dX12_beside_200 (by rw [hml]; decide) rfl ?_
                  refine a_iload hb dX12_beside_202 9 rfl ?_
                  refine a_bipush (v := (-5)) hb dX12_beside_204 (by decide) ?_
                  refine a_icmp_ne hb 226 dX12_beside_206 (by decide) (fun c206 => ?_) (fun c206 => ?_)
                  · have nf : ¬ ((beS (hI h1_ (B + 52)) (hI h1_ (B + 58)) w.toNatClampNeg n lg mm.toNatClampNeg w r c i).2.2.2 = -5 ∧ c.toInt64 < szS (((beS (hI h1_ (B + 52)) (hI h1_ (B + 58)) w.toNatClampNeg n lg mm.toNatClampNeg w r c i).2.2.1) + ((((((mdB (hI h1_ (B + 52)) w (nI i) n) + 0) - (hI h1_ (B + 58) i)).toInt64) * 10) / ((hI h1_ (B + 52) 7).toInt64)))) := fun e => c206 e.1
                    refine a_iload hb dX12_beside_226 9 rfl ?_
                    refine a_istore (L' := [(8, .int ((beS (hI h1_ (B + 52)) (hI h1_ (B + 58)) w.toNatClampNeg n lg mm.toNatClampNeg w r c i).2.2.2)), (6, .long (((beS (hI h1_ (B + 52)) (hI h1_ (B + 58)) w.toNatClampNeg n lg mm.toNatClampNeg w r c i).2.2.1) + ((((((mdB (hI h1_ (B + 52)) w (nI i) n) + 0) - (hI h1_ (B + 58) i)).toInt64) * 10) / ((hI h1_ (B + 52) 7).toInt64)))), (11, .int ((mdB (hI h1_ (B + 52)) w (nI i) n) + 0)), (5, .int (((beS (hI h1_ (B + 52)) (hI h1_ (B + 58)) w.toNatClampNeg n lg mm.toNatClampNeg w r c i).2.1) + 0)), (10, .int 0), (0, .ref (B + 51)), (1, .int w), (2, .int r), (3, .int mm), (4, .int c), (9, .int (nI i))]) hb dX12_beside_228 (by rw [hml]; decide) rfl ?_
                    refine a_iconst (v := 0) hb dX12_beside_230 (by decide) ?_
                    refine a_istore (L' := [(12, .int 0), (8, .int ((beS (hI h1_ (B + 52)) (hI h1_ (B + 58)) w.toNatClampNeg n lg mm.toNatClampNeg w r c i).2.2.2)), (6, .long (((beS (hI h1_ (B + 52)) (hI h1_ (B + 58)) w.toNatClampNeg n lg mm.toNatClampNeg w r c i).2.2.1) + ((((((mdB (hI h1_ (B + 52)) w (nI i) n) + 0) - (hI h1_ (B + 58) i)).toInt64) * 10) / ((hI h1_ (B + 52) 7).toInt64)))), (11, .int ((mdB (hI h1_ (B + 52)) w (nI i) n) + 0)), (5, .int (((beS (hI h1_ (B + 52)) (hI h1_ (B + 58)) w.toNatClampNeg n lg mm.toNatClampNeg w r c i).2.1) + 0)), (10, .int 0), (0, .ref (B + 51)), (1, .int w), (2, .int r), (3, .int mm), (4, .int c), (9, .int (nI i))]) hb dX12_beside_231 (by rw [hml]; decide) rfl ?_
                    have eT : beT (hI h1_ (B + 52)) (hI h1_ (B + 58)) w.toNatClampNeg n w i (beS (hI h1_ (B + 52)) (hI h1_ (B + 58)) w.toNatClampNeg n lg mm.toNatClampNeg w r c i) = (((beS (hI h1_ (B + 52)) (hI h1_ (B + 58)) w.toNatClampNeg n lg mm.toNatClampNeg w r c i).2.2.1) + ((((((mdB (hI h1_ (B + 52)) w (nI i) n) + 0) - (hI h1_ (B + 58) i)).toInt64) * 10) / ((hI h1_ (B + 52) 7).toInt64))) := by unfold beT; rw [eP]
                    have eF : beF (hI h1_ (B + 52)) (hI h1_ (B + 58)) w.toNatClampNeg n w c i (beS (hI h1_ (B + 52)) (hI h1_ (B + 58)) w.toNatClampNeg n lg mm.toNatClampNeg w r c i) = (beS (hI h1_ (B + 52)) (hI h1_ (B + 58)) w.toNatClampNeg n lg mm.toNatClampNeg w r c i).2.2.2 := by unfold beF; rw [eT]; first | exact if_pos yf | exact if_neg nf
                    refine AW.sub (L' := [(0, .ref (B + 51)), (1, .int w), (2, .int r), (3, .int mm), (4, .int c), (5, .int (((beS (hI h1_ (B + 52)) (hI h1_ (B + 58)) w.toNatClampNeg n lg mm.toNatClampNeg w r c i).2.1) + 0)), (6, .long (((beS (hI h1_ (B + 52)) (hI h1_ (B + 58)) w.toNatClampNeg n lg mm.toNatClampNeg w r c i).2.2.1) + ((((((mdB (hI h1_ (B + 52)) w (nI i) n) + 0) - (hI h1_ (B + 58) i)).toInt64) * 10) / ((hI h1_ (B + 52) 7).toInt64)))), (8, .int ((beS (hI h1_ (B + 52)) (hI h1_ (B + 58)) w.toNatClampNeg n lg mm.toNatClampNeg w r c i).2.2.2)), (9, .int (nI i)), (10, .int 0), (11, .int ((mdB (hI h1_ (B + 52)) w (nI i) n) + 0)), (12, .int 0)]) [6, 7, 8, 9, 10, 4, 2, 1, 11, 5, 3, 0] rfl ?_
                    refine AW.eq (inner (((beS (hI h1_ (B + 52)) (hI h1_ (B + 58)) w.toNatClampNeg n lg mm.toNatClampNeg w r c i).2.1) + 0) ((beS (hI h1_ (B + 52)) (hI h1_ (B + 58)) w.toNatClampNeg n lg mm.toNatClampNeg w r c i).2.2.2) 0 ((mdB (hI h1_ (B + 52)) w (nI i) n) + 0) (((beS (hI h1_ (B + 52)) (hI h1_ (B + 58)) w.toNatClampNeg n lg mm.toNatClampNeg w r c i).2.2.1) + ((((((mdB (hI h1_ (B + 52)) w (nI i) n) + 0) - (hI h1_ (B + 58) i)).toInt64) * 10) / ((hI h1_ (B + 52) 7).toInt64))) i (by omega) (beS (hI h1_ (B + 52)) (hI h1_ (B + 58)) w.toNatClampNeg n lg mm.toNatClampNeg w r c i).1 (fun h2 hF2 r2 => ?_) mm.toNatClampNeg 0 h1 hF1 (by intro j hj; rw [beD_0, ite_self]; exact iv j (by omega)) (by omega)) rfl rfl rfl rfl
                    have hL2x : LY h2 B := FR.ly hF2 hL1
                    have hS2x_52 : hI h2 (B + 52) = hI h1_ (B + 52) := hF2.2.2.2.2 _ (by unfold Ah; omega)
                    have hS2x_58 : hI h2 (B + 58) = hI h1_ (B + 58) := hF2.2.2.2.2 _ (by unfold Ah; omega)
                    show AW V 0 0 h2 278 [(0, .ref (B + 51)), (1, .int w), (2, .int r), (3, .int mm), (4, .int c), (5, .int (((beS (hI h1_ (B + 52)) (hI h1_ (B + 58)) w.toNatClampNeg n lg mm.toNatClampNeg w r c i).2.1) + 0)), (6, .long (((beS (hI h1_ (B + 52)) (hI h1_ (B + 58)) w.toNatClampNeg n lg mm.toNatClampNeg w r c i).2.2.1) + ((((((mdB (hI h1_ (B + 52)) w (nI i) n) + 0) - (hI h1_ (B + 58) i)).toInt64) * 10) / ((hI h1_ (B + 52) 7).toInt64)))), (8, .int ((beS (hI h1_ (B + 52)) (hI h1_ (B + 58)) w.toNatClampNeg n lg mm.toNatClampNeg w r c i).2.2.2)), (9, .int (nI i)), (10, .int 0), (11, .int ((mdB (hI h1_ (B + 52)) w (nI i) n) + 0))] []
                    refine a_iinc (v := ((nI i) + 1)) (L' := [(9, .int ((nI i) + 1)), (0, .ref (B + 51)), (1, .int w), (2, .int r), (3, .int mm), (4, .int c), (5, .int (((beS (hI h1_ (B + 52)) (hI h1_ (B + 58)) w.toNatClampNeg n lg mm.toNatClampNeg w r c i).2.1) + 0)), (6, .long (((beS (hI h1_ (B + 52)) (hI h1_ (B + 58)) w.toNatClampNeg n lg mm.toNatClampNeg w r c i).2.2.1) + ((((((mdB (hI h1_ (B + 52)) w (nI i) n) + 0) - (hI h1_ (B + 58) i)).toInt64) * 10) / ((hI h1_ (B + 52) 7).toInt64)))), (8, .int ((beS (hI h1_ (B + 52)) (hI h1_ (B + 58)) w.toNatClampNeg n lg mm.toNatClampNeg w r c i).2.2.2)), (10, .int 0), (11, .int ((mdB (hI h1_ (B + 52)) w (nI i) n) + 0))]) hb dX12_beside_278 8 rfl rfl (by rw [hml]; decide) rfl ?_
                    refine a_goto hb 90 dX12_beside_281 (by decide) ?_
                    refine AW.sub (L' := [(0, .ref (B + 51)), (1, .int w), (2, .int r), (3, .int mm), (4, .int c), (5, .int (((beS (hI h1_ (B + 52)) (hI h1_ (B + 58)) w.toNatClampNeg n lg mm.toNatClampNeg w r c i).2.1) + 0)), (6, .long (((beS (hI h1_ (B + 52)) (hI h1_ (B + 58)) w.toNatClampNeg n lg mm.toNatClampNeg w r c i).2.2.1) + ((((((mdB (hI h1_ (B + 52)) w (nI i) n) + 0) - (hI h1_ (B + 58) i)).toInt64) * 10) / ((hI h1_ (B + 52) 7).toInt64)))), (8, .int ((beS (hI h1_ (B + 52)) (hI h1_ (B + 58)) w.toNatClampNeg n lg mm.toNatClampNeg w r c i).2.2.2)), (9, .int ((nI i) + 1))]) [1, 2, 3, 4, 5, 6, 7, 8, 0] rfl ?_
                    exact AW.eq (ih (i + 1) h2 hF2 (by intro j hj; rw [r2 j hj]; simp only [beS, eT]) (by omega)) rfl rfl (by simp only [nI_1, beS, eG, eT, eF]) rfl
                  · refine a_lload hb dX12_beside_209 0 rfl ?_
                    refine a_callS hb dX12_beside_211 (by rw [hg]; exact m_sizeOf g h1 (((beS (hI h1_ (B + 52)) (hI h1_ (B + 58)) w.toNatClampNeg n lg mm.toNatClampNeg w r c i).2.2.1) + ((((((mdB (hI h1_ (B + 52)) w (nI i) n) + 0) - (hI h1_ (B + 58) i)).toInt64) * 10) / ((hI h1_ (B + 52) 7).toInt64)))) (by rw [ow]; exact cls_RX12_171) rfl rfl (Nat.le_of_ble_eq_true rfl) (by rw [hr]; exact ⟨by decide, by decide⟩) (by rw [hr]; exact ⟨Nat.le_of_ble_eq_true rfl, Nat.le_of_ble_eq_true rfl⟩) ?_
                    intro rv h' hp
                    rw [hp.1, hp.2]
                    show AW V 0 0 h1 214 [(6, .long (((beS (hI h1_ (B + 52)) (hI h1_ (B + 58)) w.toNatClampNeg n lg mm.toNatClampNeg w r c i).2.2.1) + ((((((mdB (hI h1_ (B + 52)) w (nI i) n) + 0) - (hI h1_ (B + 58) i)).toInt64) * 10) / ((hI h1_ (B + 52) 7).toInt64)))), (11, .int ((mdB (hI h1_ (B + 52)) w (nI i) n) + 0)), (5, .int (((beS (hI h1_ (B + 52)) (hI h1_ (B + 58)) w.toNatClampNeg n lg mm.toNatClampNeg w r c i).2.1) + 0)), (10, .int 0), (0, .ref (B + 51)), (1, .int w), (2, .int r), (3, .int mm), (4, .int c), (8, .int ((beS (hI h1_ (B + 52)) (hI h1_ (B + 58)) w.toNatClampNeg n lg mm.toNatClampNeg w r c i).2.2.2)), (9, .int (nI i))] [.long (szS (((beS (hI h1_ (B + 52)) (hI h1_ (B + 58)) w.toNatClampNeg n lg mm.toNatClampNeg w r c i).2.2.1) + ((((((mdB (hI h1_ (B + 52)) w (nI i) n) + 0) - (hI h1_ (B + 58) i)).toInt64) * 10) / ((hI h1_ (B + 52) 7).toInt64))))]
                    refine a_iload hb dX12_beside_214 8 rfl ?_
                    refine a_i2l hb dX12_beside_216 rfl ?_
                    refine a_lcmp hb dX12_beside_217 ?_
                    refine a_if_le hb 226 dX12_beside_218 (by decide) (fun c218 => ?_) (fun c218 => ?_)
                    · rw [lc_le] at c218
                      have nf : ¬ ((beS (hI h1_ (B + 52)) (hI h1_ (B + 58)) w.toNatClampNeg n lg mm.toNatClampNeg w r c i).2.2.2 = -5 ∧ c.toInt64 < szS (((beS (hI h1_ (B + 52)) (hI h1_ (B + 58)) w.toNatClampNeg n lg mm.toNatClampNeg w r c i).2.2.1) + ((((((mdB (hI h1_ (B + 52)) w (nI i) n) + 0) - (hI h1_ (B + 58) i)).toInt64) * 10) / ((hI h1_ (B + 52) 7).toInt64)))) := fun e => c218 e.2
                      refine a_iload hb dX12_beside_226 9 rfl ?_
                      refine a_istore (L' := [(8, .int ((beS (hI h1_ (B + 52)) (hI h1_ (B + 58)) w.toNatClampNeg n lg mm.toNatClampNeg w r c i).2.2.2)), (6, .long (((beS (hI h1_ (B + 52)) (hI h1_ (B + 58)) w.toNatClampNeg n lg mm.toNatClampNeg w r c i).2.2.1) + ((((((mdB (hI h1_ (B + 52)) w (nI i) n) + 0) - (hI h1_ (B + 58) i)).toInt64) * 10) / ((hI h1_ (B + 52) 7).toInt64)))), (11, .int ((mdB (hI h1_ (B + 52)) w (nI i) n) + 0)), (5, .int (((beS (hI h1_ (B + 52)) (hI h1_ (B + 58)) w.toNatClampNeg n lg mm.toNatClampNeg w r c i).2.1) + 0)), (10, .int 0), (0, .ref (B + 51)), (1, .int w), (2, .int r), (3, .int mm), (4, .int c), (9, .int (nI i))]) hb dX12_beside_228 (by rw [hml]; decide) rfl ?_
                      refine a_iconst (v := 0) hb dX12_beside_230 (by decide) ?_
                      refine a_istore (L' := [(12, .int 0), (8, .int ((beS (hI h1_ (B + 52)) (hI h1_ (B + 58)) w.toNatClampNeg n lg mm.toNatClampNeg w r c i).2.2.2)), (6, .long (((beS (hI h1_ (B + 52)) (hI h1_ (B + 58)) w.toNatClampNeg n lg mm.toNatClampNeg w r c i).2.2.1) + ((((((mdB (hI h1_ (B + 52)) w (nI i) n) + 0) - (hI h1_ (B + 58) i)).toInt64) * 10) / ((hI h1_ (B + 52) 7).toInt64)))), (11, .int ((mdB (hI h1_ (B + 52)) w (nI i) n) + 0)), (5, .int (((beS (hI h1_ (B + 52)) (hI h1_ (B + 58)) w.toNatClampNeg n lg mm.toNatClampNeg w r c i).2.1) + 0)), (10, .int 0), (0, .ref (B + 51)), (1, .int w), (2, .int r), (3, .int mm), (4, .int c), (9, .int (nI i))]) hb dX12_beside_231 (by rw [hml]; decide) rfl ?_
                      have eT : beT (hI h1_ (B + 52)) (hI h1_ (B + 58)) w.toNatClampNeg n w i (beS (hI h1_ (B + 52)) (hI h1_ (B + 58)) w.toNatClampNeg n lg mm.toNatClampNeg w r c i) = (((beS (hI h1_ (B + 52)) (hI h1_ (B + 58)) w.toNatClampNeg n lg mm.toNatClampNeg w r c i).2.2.1) + ((((((mdB (hI h1_ (B + 52)) w (nI i) n) + 0) - (hI h1_ (B + 58) i)).toInt64) * 10) / ((hI h1_ (B + 52) 7).toInt64))) := by unfold beT; rw [eP]
                      have eF : beF (hI h1_ (B + 52)) (hI h1_ (B + 58)) w.toNatClampNeg n w c i (beS (hI h1_ (B + 52)) (hI h1_ (B + 58)) w.toNatClampNeg n lg mm.toNatClampNeg w r c i) = (beS (hI h1_ (B + 52)) (hI h1_ (B + 58)) w.toNatClampNeg n lg mm.toNatClampNeg w r c i).2.2.2 := by unfold beF; rw [eT]; first | exact if_pos yf | exact if_neg nf
                      refine AW.sub (L' := [(0, .ref (B + 51)), (1, .int w), (2, .int r), (3, .int mm), (4, .int c), (5, .int (((beS (hI h1_ (B + 52)) (hI h1_ (B + 58)) w.toNatClampNeg n lg mm.toNatClampNeg w r c i).2.1) + 0)), (6, .long (((beS (hI h1_ (B + 52)) (hI h1_ (B + 58)) w.toNatClampNeg n lg mm.toNatClampNeg w r c i).2.2.1) + ((((((mdB (hI h1_ (B + 52)) w (nI i) n) + 0) - (hI h1_ (B + 58) i)).toInt64) * 10) / ((hI h1_ (B + 52) 7).toInt64)))), (8, .int ((beS (hI h1_ (B + 52)) (hI h1_ (B + 58)) w.toNatClampNeg n lg mm.toNatClampNeg w r c i).2.2.2)), (9, .int (nI i)), (10, .int 0), (11, .int ((mdB (hI h1_ (B + 52)) w (nI i) n) + 0)), (12, .int 0)]) [6, 7, 8, 9, 10, 4, 2, 1, 11, 5, 3, 0] rfl ?_
                      refine AW.eq (inner (((beS (hI h1_ (B + 52)) (hI h1_ (B + 58)) w.toNatClampNeg n lg mm.toNatClampNeg w r c i).2.1) + 0) ((beS (hI h1_ (B + 52)) (hI h1_ (B + 58)) w.toNatClampNeg n lg mm.toNatClampNeg w r c i).2.2.2) 0 ((mdB (hI h1_ (B + 52)) w (nI i) n) + 0) (((beS (hI h1_ (B + 52)) (hI h1_ (B + 58)) w.toNatClampNeg n lg mm.toNatClampNeg w r c i).2.2.1) + ((((((mdB (hI h1_ (B + 52)) w (nI i) n) + 0) - (hI h1_ (B + 58) i)).toInt64) * 10) / ((hI h1_ (B + 52) 7).toInt64))) i (by omega) (beS (hI h1_ (B + 52)) (hI h1_ (B + 58)) w.toNatClampNeg n lg mm.toNatClampNeg w r c i).1 (fun h2 hF2 r2 => ?_) mm.toNatClampNeg 0 h1 hF1 (by intro j hj; rw [beD_0, ite_self]; exact iv j (by omega)) (by omega)) rfl rfl rfl rfl
                      have hL2x : LY h2 B := FR.ly hF2 hL1
                      have hS2x_52 : hI h2 (B + 52) = hI h1_ (B + 52) := hF2.2.2.2.2 _ (by unfold Ah; omega)
                      have hS2x_58 : hI h2 (B + 58) = hI h1_ (B + 58) := hF2.2.2.2.2 _ (by unfold Ah; omega)
                      show AW V 0 0 h2 278 [(0, .ref (B + 51)), (1, .int w), (2, .int r), (3, .int mm), (4, .int c), (5, .int (((beS (hI h1_ (B + 52)) (hI h1_ (B + 58)) w.toNatClampNeg n lg mm.toNatClampNeg w r c i).2.1) + 0)), (6, .long (((beS (hI h1_ (B + 52)) (hI h1_ (B + 58)) w.toNatClampNeg n lg mm.toNatClampNeg w r c i).2.2.1) + ((((((mdB (hI h1_ (B + 52)) w (nI i) n) + 0) - (hI h1_ (B + 58) i)).toInt64) * 10) / ((hI h1_ (B + 52) 7).toInt64)))), (8, .int ((beS (hI h1_ (B + 52)) (hI h1_ (B + 58)) w.toNatClampNeg n lg mm.toNatClampNeg w r c i).2.2.2)), (9, .int (nI i)), (10, .int 0), (11, .int ((mdB (hI h1_ (B + 52)) w (nI i) n) + 0))] []
                      refine a_iinc (v := ((nI i) + 1)) (L' := [(9, .int ((nI i) + 1)), (0, .ref (B + 51)), (1, .int w), (2, .int r), (3, .int mm), (4, .int c), (5, .int (((beS (hI h1_ (B + 52)) (hI h1_ (B + 58)) w.toNatClampNeg n lg mm.toNatClampNeg w r c i).2.1) + 0)), (6, .long (((beS (hI h1_ (B + 52)) (hI h1_ (B + 58)) w.toNatClampNeg n lg mm.toNatClampNeg w r c i).2.2.1) + ((((((mdB (hI h1_ (B + 52)) w (nI i) n) + 0) - (hI h1_ (B + 58) i)).toInt64) * 10) / ((hI h1_ (B + 52) 7).toInt64)))), (8, .int ((beS (hI h1_ (B + 52)) (hI h1_ (B + 58)) w.toNatClampNeg n lg mm.toNatClampNeg w r c i).2.2.2)), (10, .int 0), (11, .int ((mdB (hI h1_ (B + 52)) w (nI i) n) + 0))]) hb dX12_beside_278 8 rfl rfl (by rw [hml]; decide) rfl ?_
                      refine a_goto hb 90 dX12_beside_281 (by decide) ?_
                      refine AW.sub (L' := [(0, .ref (B + 51)), (1, .int w), (2, .int r), (3, .int mm), (4, .int c), (5, .int (((beS (hI h1_ (B + 52)) (hI h1_ (B + 58)) w.toNatClampNeg n lg mm.toNatClampNeg w r c i).2.1) + 0)), (6, .long (((beS (hI h1_ (B + 52)) (hI h1_ (B + 58)) w.toNatClampNeg n lg mm.toNatClampNeg w r c i).2.2.1) + ((((((mdB (hI h1_ (B + 52)) w (nI i) n) + 0) - (hI h1_ (B + 58) i)).toInt64) * 10) / ((hI h1_ (B + 52) 7).toInt64)))), (8, .int ((beS (hI h1_ (B + 52)) (hI h1_ (B + 58)) w.toNatClampNeg n lg mm.toNatClampNeg w r c i).2.2.2)), (9, .int ((nI i) + 1))]) [1, 2, 3, 4, 5, 6, 7, 8, 0] rfl ?_
                      exact AW.eq (ih (i + 1) h2 hF2 (by intro j hj; rw [r2 j hj]; simp only [beS, eT]) (by omega)) rfl rfl (by simp only [nI_1, beS, eG, eT, eF]) rfl
                    · rw [lc_le, Decidable.not_not] at c218
                      have yf : (beS (hI h1_ (B + 52)) (hI h1_ (B + 58)) w.toNatClampNeg n lg mm.toNatClampNeg w r c i).2.2.2 = -5 ∧ c.toInt64 < szS (((beS (hI h1_ (B + 52)) (hI h1_ (B + 58)) w.toNatClampNeg n lg mm.toNatClampNeg w r c i).2.2.1) + ((((((mdB (hI h1_ (B + 52)) w (nI i) n) + 0) - (hI h1_ (B + 58) i)).toInt64) * 10) / ((hI h1_ (B + 52) 7).toInt64))) := ⟨c206, c218⟩
                      refine a_iload hb dX12_beside_221 10 rfl ?_
                      refine a_goto hb 228 dX12_beside_223 (by decide) ?_
                      refine a_istore (L' := [(8, .int (nI i)), (6, .long (((beS (hI h1_ (B + 52)) (hI h1_ (B + 58)) w.toNatClampNeg n lg mm.toNatClampNeg w r c i).2.2.1) + ((((((mdB (hI h1_ (B + 52)) w (nI i) n) + 0) - (hI h1_ (B + 58) i)).toInt64) * 10) / ((hI h1_ (B + 52) 7).toInt64)))), (11, .int ((mdB (hI h1_ (B + 52)) w (nI i) n) + 0)), (5, .int (((beS (hI h1_ (B + 52)) (hI h1_ (B + 58)) w.toNatClampNeg n lg mm.toNatClampNeg w r c i).2.1) + 0)), (10, .int 0), (0, .ref (B + 51)), (1, .int w), (2, .int r), (3, .int mm), (4, .int c), (9, .int (nI i))]) hb dX12_beside_228 (by rw [hml]; decide) rfl ?_
                      refine a_iconst (v := 0) hb dX12_beside_230 (by decide) ?_
                      refine a_istore (L' := [(12, .int 0), (8, .int (nI i)), (6, .long (((beS (hI h1_ (B + 52)) (hI h1_ (B + 58)) w.toNatClampNeg n lg mm.toNatClampNeg w r c i).2.2.1) + ((((((mdB (hI h1_ (B + 52)) w (nI i) n) + 0) - (hI h1_ (B + 58) i)).toInt64) * 10) / ((hI h1_ (B + 52) 7).toInt64)))), (11, .int ((mdB (hI h1_ (B + 52)) w (nI i) n) + 0)), (5, .int (((beS (hI h1_ (B + 52)) (hI h1_ (B + 58)) w.toNatClampNeg n lg mm.toNatClampNeg w r c i).2.1) + 0)), (10, .int 0), (0, .ref (B + 51)), (1, .int w), (2, .int r), (3, .int mm), (4, .int c), (9, .int (nI i))]) hb dX12_beside_231 (by rw [hml]; decide) rfl ?_
                      have eT : beT (hI h1_ (B + 52)) (hI h1_ (B + 58)) w.toNatClampNeg n w i (beS (hI h1_ (B + 52)) (hI h1_ (B + 58)) w.toNatClampNeg n lg mm.toNatClampNeg w r c i) = (((beS (hI h1_ (B + 52)) (hI h1_ (B + 58)) w.toNatClampNeg n lg mm.toNatClampNeg w r c i).2.2.1) + ((((((mdB (hI h1_ (B + 52)) w (nI i) n) + 0) - (hI h1_ (B + 58) i)).toInt64) * 10) / ((hI h1_ (B + 52) 7).toInt64))) := by unfold beT; rw [eP]
                      have eF : beF (hI h1_ (B + 52)) (hI h1_ (B + 58)) w.toNatClampNeg n w c i (beS (hI h1_ (B + 52)) (hI h1_ (B + 58)) w.toNatClampNeg n lg mm.toNatClampNeg w r c i) = (nI i) := by unfold beF; rw [eT]; first | exact if_pos yf | exact if_neg nf
                      refine AW.sub (L' := [(0, .ref (B + 51)), (1, .int w), (2, .int r), (3, .int mm), (4, .int c), (5, .int (((beS (hI h1_ (B + 52)) (hI h1_ (B + 58)) w.toNatClampNeg n lg mm.toNatClampNeg w r c i).2.1) + 0)), (6, .long (((beS (hI h1_ (B + 52)) (hI h1_ (B + 58)) w.toNatClampNeg n lg mm.toNatClampNeg w r c i).2.2.1) + ((((((mdB (hI h1_ (B + 52)) w (nI i) n) + 0) - (hI h1_ (B + 58) i)).toInt64) * 10) / ((hI h1_ (B + 52) 7).toInt64)))), (8, .int (nI i)), (9, .int (nI i)), (10, .int 0), (11, .int ((mdB (hI h1_ (B + 52)) w (nI i) n) + 0)), (12, .int 0)]) [6, 7, 8, 9, 10, 4, 2, 1, 11, 5, 3, 0] rfl ?_
                      refine AW.eq (inner (((beS (hI h1_ (B + 52)) (hI h1_ (B + 58)) w.toNatClampNeg n lg mm.toNatClampNeg w r c i).2.1) + 0) (nI i) 0 ((mdB (hI h1_ (B + 52)) w (nI i) n) + 0) (((beS (hI h1_ (B + 52)) (hI h1_ (B + 58)) w.toNatClampNeg n lg mm.toNatClampNeg w r c i).2.2.1) + ((((((mdB (hI h1_ (B + 52)) w (nI i) n) + 0) - (hI h1_ (B + 58) i)).toInt64) * 10) / ((hI h1_ (B + 52) 7).toInt64))) i (by omega) (beS (hI h1_ (B + 52)) (hI h1_ (B + 58)) w.toNatClampNeg n lg mm.toNatClampNeg w r c i).1 (fun h2 hF2 r2 => ?_) mm.toNatClampNeg 0 h1 hF1 (by intro j hj; rw [beD_0, ite_self]; exact iv j (by omega)) (by omega)) rfl rfl rfl rfl
                      have hL2x : LY h2 B := FR.ly hF2 hL1
                      have hS2x_52 : hI h2 (B + 52) = hI h1_ (B + 52) := hF2.2.2.2.2 _ (by unfold Ah; omega)
                      have hS2x_58 : hI h2 (B + 58) = hI h1_ (B + 58) := hF2.2.2.2.2 _ (by unfold Ah; omega)
                      show AW V 0 0 h2 278 [(0, .ref (B + 51)), (1, .int w), (2, .int r), (3, .int mm), (4, .int c), (5, .int (((beS (hI h1_ (B + 52)) (hI h1_ (B + 58)) w.toNatClampNeg n lg mm.toNatClampNeg w r c i).2.1) + 0)), (6, .long (((beS (hI h1_ (B + 52)) (hI h1_ (B + 58)) w.toNatClampNeg n lg mm.toNatClampNeg w r c i).2.2.1) + ((((((mdB (hI h1_ (B + 52)) w (nI i) n) + 0) - (hI h1_ (B + 58) i)).toInt64) * 10) / ((hI h1_ (B + 52) 7).toInt64)))), (8, .int (nI i)), (9, .int (nI i)), (10, .int 0), (11, .int ((mdB (hI h1_ (B + 52)) w (nI i) n) + 0))] []
                      refine a_iinc (v := ((nI i) + 1)) (L' := [(9, .int ((nI i) + 1)), (0, .ref (B + 51)), (1, .int w), (2, .int r), (3, .int mm), (4, .int c), (5, .int (((beS (hI h1_ (B + 52)) (hI h1_ (B + 58)) w.toNatClampNeg n lg mm.toNatClampNeg w r c i).2.1) + 0)), (6, .long (((beS (hI h1_ (B + 52)) (hI h1_ (B + 58)) w.toNatClampNeg n lg mm.toNatClampNeg w r c i).2.2.1) + ((((((mdB (hI h1_ (B + 52)) w (nI i) n) + 0) - (hI h1_ (B + 58) i)).toInt64) * 10) / ((hI h1_ (B + 52) 7).toInt64)))), (8, .int (nI i)), (10, .int 0), (11, .int ((mdB (hI h1_ (B + 52)) w (nI i) n) + 0))]) hb dX12_beside_278 8 rfl rfl (by rw [hml]; decide) rfl ?_
                      refine a_goto hb 90 dX12_beside_281 (by decide) ?_
                      refine AW.sub (L' := [(0, .ref (B + 51)), (1, .int w), (2, .int r), (3, .int mm), (4, .int c), (5, .int (((beS (hI h1_ (B + 52)) (hI h1_ (B + 58)) w.toNatClampNeg n lg mm.toNatClampNeg w r c i).2.1) + 0)), (6, .long (((beS (hI h1_ (B + 52)) (hI h1_ (B + 58)) w.toNatClampNeg n lg mm.toNatClampNeg w r c i).2.2.1) + ((((((mdB (hI h1_ (B + 52)) w (nI i) n) + 0) - (hI h1_ (B + 58) i)).toInt64) * 10) / ((hI h1_ (B + 52) 7).toInt64)))), (8, .int (nI i)), (9, .int ((nI i) + 1))]) [1, 2, 3, 4, 5, 6, 7, 8, 0] rfl ?_
                      exact AW.eq (ih (i + 1) h2 hF2 (by intro j hj; rw [r2 j hj]; simp only [beS, eT]) (by omega)) rfl rfl (by simp only [nI_1, beS, eG, eT, eF]) rfl
                · have c119' := Int32.not_le.mp c119
                  have eG : beG (hI h1_ (B + 52)) w.toNatClampNeg i (beS (hI h1_ (B + 52)) (hI h1_ (B + 58)) w.toNatClampNeg n lg mm.toNatClampNeg w r c i) = 1 := if_pos (⟨fun e => c104 (by rw [iv i (by omega)]; exact e), c119'⟩)
                  have eP : beP (hI h1_ (B + 52)) w.toNatClampNeg i (beS (hI h1_ (B + 52)) (hI h1_ (B + 58)) w.toNatClampNeg n lg mm.toNatClampNeg w r c i) = (hI h1_ (B + 52)) (183 + w.toNatClampNeg) := if_pos (⟨fun e => c104 (by rw [iv i (by omega)]; exact e), c119'⟩)
                  refine a_iconst (v := 1) hb dX12_beside_122 (by decide) ?_
                  refine a_goto hb 127 dX12_beside_123 (by decide) ?_
                  refine a_istore (L' := [(10, .int 1), (0, .ref (B + 51)), (1, .int w), (2, .int r), (3, .int mm), (4, .int c), (5, .int ((beS (hI h1_ (B + 52)) (hI h1_ (B + 58)) w.toNatClampNeg n lg mm.toNatClampNeg w r c i).2.1)), (6, .long ((beS (hI h1_ (B + 52)) (hI h1_ (B + 58)) w.toNatClampNeg n lg mm.toNatClampNeg w r c i).2.2.1)), (8, .int ((beS (hI h1_ (B + 52)) (hI h1_ (B + 58)) w.toNatClampNeg n lg mm.toNatClampNeg w r c i).2.2.2)), (9, .int (nI i))]) hb dX12_beside_127 (by rw [hml]; decide) rfl ?_
                  refine a_iload hb dX12_beside_129 6 rfl ?_
                  refine a_iload hb dX12_beside_131 0 rfl ?_
                  refine a_if_eq hb 140 dX12_beside_133 (by decide) (fun c133 => absurd c133 (by decide)) (fun c133 => ?_)
                  refine a_iconst (v := 1) hb dX12_beside_136 (by decide) ?_
                  refine a_goto hb 141 dX12_beside_137 (by decide) ?_
                  refine a_iadd hb dX12_beside_141 ?_
                  refine a_istore (L' := [(5, .int (((beS (hI h1_ (B + 52)) (hI h1_ (B + 58)) w.toNatClampNeg n lg mm.toNatClampNeg w r c i).2.1) + 1)), (10, .int 1), (0, .ref (B + 51)), (1, .int w), (2, .int r), (3, .int mm), (4, .int c), (6, .long ((beS (hI h1_ (B + 52)) (hI h1_ (B + 58)) w.toNatClampNeg n lg mm.toNatClampNeg w r c i).2.2.1)), (8, .int ((beS (hI h1_ (B + 52)) (hI h1_ (B + 58)) w.toNatClampNeg n lg mm.toNatClampNeg w r c i).2.2.2)), (9, .int (nI i))]) hb dX12_beside_142 (by rw [hml]; decide) rfl ?_
                  refine a_aload_n hb dX12_beside_144 rfl 2 rfl ?_
                  refine a_iload_n hb dX12_beside_145 rfl 3 rfl ?_
                  refine a_iload hb dX12_beside_146 9 rfl ?_
                  refine a_callV hb dX12_beside_148 (by rw [hg]; have h0 := m_madeBut g h1 B hL0_ n (by rw [hS0_52]; exact hn1) ln w (nI i); rw [hS0_52] at h0; exact h0) (by rw [ow]; exact clv_RX12_166) (hL0_.1 51 (by decide)) (by decide) rfl rfl rfl (Nat.le_of_ble_eq_true rfl) (by rw [hr]; exact ⟨by decide, by decide⟩) (by rw [hr]; exact ⟨Nat.le_of_ble_eq_true rfl, Nat.le_of_ble_eq_true rfl⟩) ?_
                  intro rv h' hp
                  rw [hp.1, hp.2]
                  show AW V 0 0 h1 151 [(5, .int (((beS (hI h1_ (B + 52)) (hI h1_ (B + 58)) w.toNatClampNeg n lg mm.toNatClampNeg w r c i).2.1) + 1)), (10, .int 1), (0, .ref (B + 51)), (1, .int w), (2, .int r), (3, .int mm), (4, .int c), (6, .long ((beS (hI h1_ (B + 52)) (hI h1_ (B + 58)) w.toNatClampNeg n lg mm.toNatClampNeg w r c i).2.2.1)), (8, .int ((beS (hI h1_ (B + 52)) (hI h1_ (B + 58)) w.toNatClampNeg n lg mm.toNatClampNeg w r c i).2.2.2)), (9, .int (nI i))] [.int (mdB (hI h1_ (B + 52)) w (nI i) n)]
                  refine a_iload hb dX12_beside_151 1 rfl ?_
                  refine a_if_eq hb 169 dX12_beside_153 (by decide) (fun c153 => absurd c153 (by decide)) (fun c153 => ?_)
                  refine a_aload_n hb dX12_beside_156 rfl 2 rfl ?_
                  refine a_getQ (q := (B + 52)) hb dX12_beside_157 (by rw [ow]; exact fl_RX12_9_12) (hL0_.1 51 (by decide)) (hL0_.2.1 (51, 1, 52) (by decide)) ?_
                  refine a_sipush (v := 183) hb dX12_beside_160 (by decide) ?_
                  refine a_iload_n hb dX12_beside_163 rfl 3 rfl ?_
                  refine a_iadd hb dX12_beside_164 ?_
                  refine b_iald (j := (183 + w.toNatClampNeg)) hb dX12_beside_165 (hL0_.1 52 (by decide)) (IX.add ⟨by decide, by decide⟩ ix_w (by omega)) (by omega) ?_
                  rw [hS0_52]
                  refine a_goto hb 170 dX12_beside_166 (by decide) ?_
                  refine a_iadd hb dX12_beside_170 ?_
                  refine a_istore (L' := [(11, .int ((mdB (hI h1_ (B + 52)) w (nI i) n) + (hI h1_ (B + 52) (183 + w.toNatClampNeg)))), (5, .int (((beS (hI h1_ (B + 52)) (hI h1_ (B + 58)) w.toNatClampNeg n lg mm.toNatClampNeg w r c i).2.1) + 1)), (10, .int 1), (0, .ref (B + 51)), (1, .int w), (2, .int r), (3, .int mm), (4, .int c), (6, .long ((beS (hI h1_ (B + 52)) (hI h1_ (B + 58)) w.toNatClampNeg n lg mm.toNatClampNeg w r c i).2.2.1)), (8, .int ((beS (hI h1_ (B + 52)) (hI h1_ (B + 58)) w.toNatClampNeg n lg mm.toNatClampNeg w r c i).2.2.2)), (9, .int (nI i))]) hb dX12_beside_171 (by rw [hml]; decide) rfl ?_
                  refine a_lload hb dX12_beside_173 8 rfl ?_
                  refine a_iload hb dX12_beside_175 0 rfl ?_
                  refine a_aload_n hb dX12_beside_177 rfl 3 rfl ?_
                  refine a_getQ (q := (B + 58)) hb dX12_beside_178 (by rw [ow]; exact fl_RX12_31_12) (hL0_.1 51 (by decide)) (hL0_.2.1 (51, 13, 58) (by decide)) ?_
                  refine a_iload hb dX12_beside_181 10 rfl ?_
                  refine b_iald (j := i) hb dX12_beside_183 (hL0_.1 58 (by decide)) (IX.n (by omega)) (by omega) ?_
                  rw [hS0_58]
                  refine a_isub hb dX12_beside_184 ?_
                  refine a_i2l hb dX12_beside_185 rfl ?_
                  refine a_ldc2 (v := 10) hb dX12_beside_186 (by rw [ow]; exact kw_1275) ?_
                  refine a_lmul hb dX12_beside_189 ?_
                  refine a_aload_n hb dX12_beside_190 rfl 3 rfl ?_
                  refine a_getQ (q := (B + 52)) hb dX12_beside_191 (by rw [ow]; exact fl_RX12_9_12) (hL0_.1 51 (by decide)) (hL0_.2.1 (51, 1, 52) (by decide)) ?_
                  refine a_bipush (v := 7) hb dX12_beside_194 (by decide) ?_
                  refine b_iald (j := 7) hb dX12_beside_196 (hL0_.1 52 (by decide)) ⟨by decide, by decide⟩ (by decide) ?_
                  rw [hS0_52]
                  refine a_i2l hb dX12_beside_197 rfl ?_
                  refine a_ldiv hb dX12_beside_198 h71 ?_
                  refine a_ladd hb dX12_beside_199 ?_
                  refine a_lstore (L' := [(6, .long (((beS (hI h1_ (B + 52)) (hI h1_ (B + 58)) w.toNatClampNeg n lg mm.toNatClampNeg w r c i).2.2.1) + ((((((mdB (hI h1_ (B + 52)) w (nI i) n) + (hI h1_ (B + 52) (183 + w.toNatClampNeg))) - (hI h1_ (B + 58) i)).toInt64) * 10) / ((hI h1_ (B + 52) 7).toInt64)))), (11, .int ((mdB (hI h1_ (B + 52)) w (nI i) n) + (hI h1_ (B + 52) (183 + w.toNatClampNeg)))), (5, .int (((beS (hI h1_ (B + 52)) (hI h1_ (B + 58)) w.toNatClampNeg n lg mm.toNatClampNeg w r c i).2.1) + 1)), (10, .int 1), (0, .ref (B + 51)), (1, .int w), (2, .int r), (3, .int mm), (4, .int c), (8, .int ((beS (hI h1_ (B + 52)) (hI h1_ (B + 58)) w.toNatClampNeg n lg mm.toNatClampNeg w r c i).2.2.2)), (9, .int (nI i))]) hb dX12_beside_200 (by rw [hml]; decide) rfl ?_
                  refine a_iload hb dX12_beside_202 9 rfl ?_
                  refine a_bipush (v := (-5)) hb dX12_beside_204 (by decide) ?_
                  refine a_icmp_ne hb 226 dX12_beside_206 (by decide) (fun c206 => ?_) (fun c206 => ?_)
                  · have nf : ¬ ((beS (hI h1_ (B + 52)) (hI h1_ (B + 58)) w.toNatClampNeg n lg mm.toNatClampNeg w r c i).2.2.2 = -5 ∧ c.toInt64 < szS (((beS (hI h1_ (B + 52)) (hI h1_ (B + 58)) w.toNatClampNeg n lg mm.toNatClampNeg w r c i).2.2.1) + ((((((mdB (hI h1_ (B + 52)) w (nI i) n) + (hI h1_ (B + 52) (183 + w.toNatClampNeg))) - (hI h1_ (B + 58) i)).toInt64) * 10) / ((hI h1_ (B + 52) 7).toInt64)))) := fun e => c206 e.1
                    refine a_iload hb dX12_beside_226 9 rfl ?_
                    refine a_istore (L' := [(8, .int ((beS (hI h1_ (B + 52)) (hI h1_ (B + 58)) w.toNatClampNeg n lg mm.toNatClampNeg w r c i).2.2.2)), (6, .long (((beS (hI h1_ (B + 52)) (hI h1_ (B + 58)) w.toNatClampNeg n lg mm.toNatClampNeg w r c i).2.2.1) + ((((((mdB (hI h1_ (B + 52)) w (nI i) n) + (hI h1_ (B + 52) (183 + w.toNatClampNeg))) - (hI h1_ (B + 58) i)).toInt64) * 10) / ((hI h1_ (B + 52) 7).toInt64)))), (11, .int ((mdB (hI h1_ (B + 52)) w (nI i) n) + (hI h1_ (B + 52) (183 + w.toNatClampNeg)))), (5, .int (((beS (hI h1_ (B + 52)) (hI h1_ (B + 58)) w.toNatClampNeg n lg mm.toNatClampNeg w r c i).2.1) + 1)), (10, .int 1), (0, .ref (B + 51)), (1, .int w), (2, .int r), (3, .int mm), (4, .int c), (9, .int (nI i))]) hb dX12_beside_228 (by rw [hml]; decide) rfl ?_
                    refine a_iconst (v := 0) hb dX12_beside_230 (by decide) ?_
                    refine a_istore (L' := [(12, .int 0), (8, .int ((beS (hI h1_ (B + 52)) (hI h1_ (B + 58)) w.toNatClampNeg n lg mm.toNatClampNeg w r c i).2.2.2)), (6, .long (((beS (hI h1_ (B + 52)) (hI h1_ (B + 58)) w.toNatClampNeg n lg mm.toNatClampNeg w r c i).2.2.1) + ((((((mdB (hI h1_ (B + 52)) w (nI i) n) + (hI h1_ (B + 52) (183 + w.toNatClampNeg))) - (hI h1_ (B + 58) i)).toInt64) * 10) / ((hI h1_ (B + 52) 7).toInt64)))), (11, .int ((mdB (hI h1_ (B + 52)) w (nI i) n) + (hI h1_ (B + 52) (183 + w.toNatClampNeg)))), (5, .int (((beS (hI h1_ (B + 52)) (hI h1_ (B + 58)) w.toNatClampNeg n lg mm.toNatClampNeg w r c i).2.1) + 1)), (10, .int 1), (0, .ref (B + 51)), (1, .int w), (2, .int r), (3, .int mm), (4, .int c), (9, .int (nI i))]) hb dX12_beside_231 (by rw [hml]; decide) rfl ?_
                    have eT : beT (hI h1_ (B + 52)) (hI h1_ (B + 58)) w.toNatClampNeg n w i (beS (hI h1_ (B + 52)) (hI h1_ (B + 58)) w.toNatClampNeg n lg mm.toNatClampNeg w r c i) = (((beS (hI h1_ (B + 52)) (hI h1_ (B + 58)) w.toNatClampNeg n lg mm.toNatClampNeg w r c i).2.2.1) + ((((((mdB (hI h1_ (B + 52)) w (nI i) n) + (hI h1_ (B + 52) (183 + w.toNatClampNeg))) - (hI h1_ (B + 58) i)).toInt64) * 10) / ((hI h1_ (B + 52) 7).toInt64))) := by unfold beT; rw [eP]
                    have eF : beF (hI h1_ (B + 52)) (hI h1_ (B + 58)) w.toNatClampNeg n w c i (beS (hI h1_ (B + 52)) (hI h1_ (B + 58)) w.toNatClampNeg n lg mm.toNatClampNeg w r c i) = (beS (hI h1_ (B + 52)) (hI h1_ (B + 58)) w.toNatClampNeg n lg mm.toNatClampNeg w r c i).2.2.2 := by unfold beF; rw [eT]; first | exact if_pos yf | exact if_neg nf
                    refine AW.sub (L' := [(0, .ref (B + 51)), (1, .int w), (2, .int r), (3, .int mm), (4, .int c), (5, .int (((beS (hI h1_ (B + 52)) (hI h1_ (B + 58)) w.toNatClampNeg n lg mm.toNatClampNeg w r c i).2.1) + 1)), (6, .long (((beS (hI h1_ (B + 52)) (hI h1_ (B + 58)) w.toNatClampNeg n lg mm.toNatClampNeg w r c i).2.2.1) + ((((((mdB (hI h1_ (B + 52)) w (nI i) n) + (hI h1_ (B + 52) (183 + w.toNatClampNeg))) - (hI h1_ (B + 58) i)).toInt64) * 10) / ((hI h1_ (B + 52) 7).toInt64)))), (8, .int ((beS (hI h1_ (B + 52)) (hI h1_ (B + 58)) w.toNatClampNeg n lg mm.toNatClampNeg w r c i).2.2.2)), (9, .int (nI i)), (10, .int 1), (11, .int ((mdB (hI h1_ (B + 52)) w (nI i) n) + (hI h1_ (B + 52) (183 + w.toNatClampNeg)))), (12, .int 0)]) [6, 7, 8, 9, 10, 4, 2, 1, 11, 5, 3, 0] rfl ?_
                    refine AW.eq (inner (((beS (hI h1_ (B + 52)) (hI h1_ (B + 58)) w.toNatClampNeg n lg mm.toNatClampNeg w r c i).2.1) + 1) ((beS (hI h1_ (B + 52)) (hI h1_ (B + 58)) w.toNatClampNeg n lg mm.toNatClampNeg w r c i).2.2.2) 1 ((mdB (hI h1_ (B + 52)) w (nI i) n) + (hI h1_ (B + 52) (183 + w.toNatClampNeg))) (((beS (hI h1_ (B + 52)) (hI h1_ (B + 58)) w.toNatClampNeg n lg mm.toNatClampNeg w r c i).2.2.1) + ((((((mdB (hI h1_ (B + 52)) w (nI i) n) + (hI h1_ (B + 52) (183 + w.toNatClampNeg))) - (hI h1_ (B + 58) i)).toInt64) * 10) / ((hI h1_ (B + 52) 7).toInt64))) i (by omega) (beS (hI h1_ (B + 52)) (hI h1_ (B + 58)) w.toNatClampNeg n lg mm.toNatClampNeg w r c i).1 (fun h2 hF2 r2 => ?_) mm.toNatClampNeg 0 h1 hF1 (by intro j hj; rw [beD_0, ite_self]; exact iv j (by omega)) (by omega)) rfl rfl rfl rfl
                    have hL2x : LY h2 B := FR.ly hF2 hL1
                    have hS2x_52 : hI h2 (B + 52) = hI h1_ (B + 52) := hF2.2.2.2.2 _ (by unfold Ah; omega)
                    have hS2x_58 : hI h2 (B + 58) = hI h1_ (B + 58) := hF2.2.2.2.2 _ (by unfold Ah; omega)
                    show AW V 0 0 h2 278 [(0, .ref (B + 51)), (1, .int w), (2, .int r), (3, .int mm), (4, .int c), (5, .int (((beS (hI h1_ (B + 52)) (hI h1_ (B + 58)) w.toNatClampNeg n lg mm.toNatClampNeg w r c i).2.1) + 1)), (6, .long (((beS (hI h1_ (B + 52)) (hI h1_ (B + 58)) w.toNatClampNeg n lg mm.toNatClampNeg w r c i).2.2.1) + ((((((mdB (hI h1_ (B + 52)) w (nI i) n) + (hI h1_ (B + 52) (183 + w.toNatClampNeg))) - (hI h1_ (B + 58) i)).toInt64) * 10) / ((hI h1_ (B + 52) 7).toInt64)))), (8, .int ((beS (hI h1_ (B + 52)) (hI h1_ (B + 58)) w.toNatClampNeg n lg mm.toNatClampNeg w r c i).2.2.2)), (9, .int (nI i)), (10, .int 1), (11, .int ((mdB (hI h1_ (B + 52)) w (nI i) n) + (hI h1_ (B + 52) (183 + w.toNatClampNeg))))] []
                    refine a_iinc (v := ((nI i) + 1)) (L' := [(9, .int ((nI i) + 1)), (0, .ref (B + 51)), (1, .int w), (2, .int r), (3, .int mm), (4, .int c), (5, .int (((beS (hI h1_ (B + 52)) (hI h1_ (B + 58)) w.toNatClampNeg n lg mm.toNatClampNeg w r c i).2.1) + 1)), (6, .long (((beS (hI h1_ (B + 52)) (hI h1_ (B + 58)) w.toNatClampNeg n lg mm.toNatClampNeg w r c i).2.2.1) + ((((((mdB (hI h1_ (B + 52)) w (nI i) n) + (hI h1_ (B + 52) (183 + w.toNatClampNeg))) - (hI h1_ (B + 58) i)).toInt64) * 10) / ((hI h1_ (B + 52) 7).toInt64)))), (8, .int ((beS (hI h1_ (B + 52)) (hI h1_ (B + 58)) w.toNatClampNeg n lg mm.toNatClampNeg w r c i).2.2.2)), (10, .int 1), (11, .int ((mdB (hI h1_ (B + 52)) w (nI i) n) + (hI h1_ (B + 52) (183 + w.toNatClampNeg))))]) hb dX12_beside_278 8 rfl rfl (by rw [hml]; decide) rfl ?_
                    refine a_goto hb 90 dX12_beside_281 (by decide) ?_
                    refine AW.sub (L' := [(0, .ref (B + 51)), (1, .int w), (2, .int r), (3, .int mm), (4, .int c), (5, .int (((beS (hI h1_ (B + 52)) (hI h1_ (B + 58)) w.toNatClampNeg n lg mm.toNatClampNeg w r c i).2.1) + 1)), (6, .long (((beS (hI h1_ (B + 52)) (hI h1_ (B + 58)) w.toNatClampNeg n lg mm.toNatClampNeg w r c i).2.2.1) + ((((((mdB (hI h1_ (B + 52)) w (nI i) n) + (hI h1_ (B + 52) (183 + w.toNatClampNeg))) - (hI h1_ (B + 58) i)).toInt64) * 10) / ((hI h1_ (B + 52) 7).toInt64)))), (8, .int ((beS (hI h1_ (B + 52)) (hI h1_ (B + 58)) w.toNatClampNeg n lg mm.toNatClampNeg w r c i).2.2.2)), (9, .int ((nI i) + 1))]) [1, 2, 3, 4, 5, 6, 7, 8, 0] rfl ?_
                    exact AW.eq (ih (i + 1) h2 hF2 (by intro j hj; rw [r2 j hj]; simp only [beS, eT]) (by omega)) rfl rfl (by simp only [nI_1, beS, eG, eT, eF]) rfl
                  · refine a_lload hb dX12_beside_209 0 rfl ?_
                    refine a_callS hb dX12_beside_211 (by rw [hg]; exact m_sizeOf g h1 (((beS (hI h1_ (B + 52)) (hI h1_ (B + 58)) w.toNatClampNeg n lg mm.toNatClampNeg w r c i).2.2.1) + ((((((mdB (hI h1_ (B + 52)) w (nI i) n) + (hI h1_ (B + 52) (183 + w.toNatClampNeg))) - (hI h1_ (B + 58) i)).toInt64) * 10) / ((hI h1_ (B + 52) 7).toInt64)))) (by rw [ow]; exact cls_RX12_171) rfl rfl (Nat.le_of_ble_eq_true rfl) (by rw [hr]; exact ⟨by decide, by decide⟩) (by rw [hr]; exact ⟨Nat.le_of_ble_eq_true rfl, Nat.le_of_ble_eq_true rfl⟩) ?_
                    intro rv h' hp
                    rw [hp.1, hp.2]
                    show AW V 0 0 h1 214 [(6, .long (((beS (hI h1_ (B + 52)) (hI h1_ (B + 58)) w.toNatClampNeg n lg mm.toNatClampNeg w r c i).2.2.1) + ((((((mdB (hI h1_ (B + 52)) w (nI i) n) + (hI h1_ (B + 52) (183 + w.toNatClampNeg))) - (hI h1_ (B + 58) i)).toInt64) * 10) / ((hI h1_ (B + 52) 7).toInt64)))), (11, .int ((mdB (hI h1_ (B + 52)) w (nI i) n) + (hI h1_ (B + 52) (183 + w.toNatClampNeg)))), (5, .int (((beS (hI h1_ (B + 52)) (hI h1_ (B + 58)) w.toNatClampNeg n lg mm.toNatClampNeg w r c i).2.1) + 1)), (10, .int 1), (0, .ref (B + 51)), (1, .int w), (2, .int r), (3, .int mm), (4, .int c), (8, .int ((beS (hI h1_ (B + 52)) (hI h1_ (B + 58)) w.toNatClampNeg n lg mm.toNatClampNeg w r c i).2.2.2)), (9, .int (nI i))] [.long (szS (((beS (hI h1_ (B + 52)) (hI h1_ (B + 58)) w.toNatClampNeg n lg mm.toNatClampNeg w r c i).2.2.1) + ((((((mdB (hI h1_ (B + 52)) w (nI i) n) + (hI h1_ (B + 52) (183 + w.toNatClampNeg))) - (hI h1_ (B + 58) i)).toInt64) * 10) / ((hI h1_ (B + 52) 7).toInt64))))]
                    refine a_iload hb dX12_beside_214 8 rfl ?_
                    refine a_i2l hb dX12_beside_216 rfl ?_
                    refine a_lcmp hb dX12_beside_217 ?_
                    refine a_if_le hb 226 dX12_beside_218 (by decide) (fun c218 => ?_) (fun c218 => ?_)
                    · rw [lc_le] at c218
                      have nf : ¬ ((beS (hI h1_ (B + 52)) (hI h1_ (B + 58)) w.toNatClampNeg n lg mm.toNatClampNeg w r c i).2.2.2 = -5 ∧ c.toInt64 < szS (((beS (hI h1_ (B + 52)) (hI h1_ (B + 58)) w.toNatClampNeg n lg mm.toNatClampNeg w r c i).2.2.1) + ((((((mdB (hI h1_ (B + 52)) w (nI i) n) + (hI h1_ (B + 52) (183 + w.toNatClampNeg))) - (hI h1_ (B + 58) i)).toInt64) * 10) / ((hI h1_ (B + 52) 7).toInt64)))) := fun e => c218 e.2
                      refine a_iload hb dX12_beside_226 9 rfl ?_
                      refine a_istore (L' := [(8, .int ((beS (hI h1_ (B + 52)) (hI h1_ (B + 58)) w.toNatClampNeg n lg mm.toNatClampNeg w r c i).2.2.2)), (6, .long (((beS (hI h1_ (B + 52)) (hI h1_ (B + 58)) w.toNatClampNeg n lg mm.toNatClampNeg w r c i).2.2.1) + ((((((mdB (hI h1_ (B + 52)) w (nI i) n) + (hI h1_ (B + 52) (183 + w.toNatClampNeg))) - (hI h1_ (B + 58) i)).toInt64) * 10) / ((hI h1_ (B + 52) 7).toInt64)))), (11, .int ((mdB (hI h1_ (B + 52)) w (nI i) n) + (hI h1_ (B + 52) (183 + w.toNatClampNeg)))), (5, .int (((beS (hI h1_ (B + 52)) (hI h1_ (B + 58)) w.toNatClampNeg n lg mm.toNatClampNeg w r c i).2.1) + 1)), (10, .int 1), (0, .ref (B + 51)), (1, .int w), (2, .int r), (3, .int mm), (4, .int c), (9, .int (nI i))]) hb dX12_beside_228 (by rw [hml]; decide) rfl ?_
                      refine a_iconst (v := 0) hb dX12_beside_230 (by decide) ?_
                      refine a_istore (L' := [(12, .int 0), (8, .int ((beS (hI h1_ (B + 52)) (hI h1_ (B + 58)) w.toNatClampNeg n lg mm.toNatClampNeg w r c i).2.2.2)), (6, .long (((beS (hI h1_ (B + 52)) (hI h1_ (B + 58)) w.toNatClampNeg n lg mm.toNatClampNeg w r c i).2.2.1) + ((((((mdB (hI h1_ (B + 52)) w (nI i) n) + (hI h1_ (B + 52) (183 + w.toNatClampNeg))) - (hI h1_ (B + 58) i)).toInt64) * 10) / ((hI h1_ (B + 52) 7).toInt64)))), (11, .int ((mdB (hI h1_ (B + 52)) w (nI i) n) + (hI h1_ (B + 52) (183 + w.toNatClampNeg)))), (5, .int (((beS (hI h1_ (B + 52)) (hI h1_ (B + 58)) w.toNatClampNeg n lg mm.toNatClampNeg w r c i).2.1) + 1)), (10, .int 1), (0, .ref (B + 51)), (1, .int w), (2, .int r), (3, .int mm), (4, .int c), (9, .int (nI i))]) hb dX12_beside_231 (by rw [hml]; decide) rfl ?_
                      have eT : beT (hI h1_ (B + 52)) (hI h1_ (B + 58)) w.toNatClampNeg n w i (beS (hI h1_ (B + 52)) (hI h1_ (B + 58)) w.toNatClampNeg n lg mm.toNatClampNeg w r c i) = (((beS (hI h1_ (B + 52)) (hI h1_ (B + 58)) w.toNatClampNeg n lg mm.toNatClampNeg w r c i).2.2.1) + ((((((mdB (hI h1_ (B + 52)) w (nI i) n) + (hI h1_ (B + 52) (183 + w.toNatClampNeg))) - (hI h1_ (B + 58) i)).toInt64) * 10) / ((hI h1_ (B + 52) 7).toInt64))) := by unfold beT; rw [eP]
                      have eF : beF (hI h1_ (B + 52)) (hI h1_ (B + 58)) w.toNatClampNeg n w c i (beS (hI h1_ (B + 52)) (hI h1_ (B + 58)) w.toNatClampNeg n lg mm.toNatClampNeg w r c i) = (beS (hI h1_ (B + 52)) (hI h1_ (B + 58)) w.toNatClampNeg n lg mm.toNatClampNeg w r c i).2.2.2 := by unfold beF; rw [eT]; first | exact if_pos yf | exact if_neg nf
                      refine AW.sub (L' := [(0, .ref (B + 51)), (1, .int w), (2, .int r), (3, .int mm), (4, .int c), (5, .int (((beS (hI h1_ (B + 52)) (hI h1_ (B + 58)) w.toNatClampNeg n lg mm.toNatClampNeg w r c i).2.1) + 1)), (6, .long (((beS (hI h1_ (B + 52)) (hI h1_ (B + 58)) w.toNatClampNeg n lg mm.toNatClampNeg w r c i).2.2.1) + ((((((mdB (hI h1_ (B + 52)) w (nI i) n) + (hI h1_ (B + 52) (183 + w.toNatClampNeg))) - (hI h1_ (B + 58) i)).toInt64) * 10) / ((hI h1_ (B + 52) 7).toInt64)))), (8, .int ((beS (hI h1_ (B + 52)) (hI h1_ (B + 58)) w.toNatClampNeg n lg mm.toNatClampNeg w r c i).2.2.2)), (9, .int (nI i)), (10, .int 1), (11, .int ((mdB (hI h1_ (B + 52)) w (nI i) n) + (hI h1_ (B + 52) (183 + w.toNatClampNeg)))), (12, .int 0)]) [6, 7, 8, 9, 10, 4, 2, 1, 11, 5, 3, 0] rfl ?_
                      refine AW.eq (inner (((beS (hI h1_ (B + 52)) (hI h1_ (B + 58)) w.toNatClampNeg n lg mm.toNatClampNeg w r c i).2.1) + 1) ((beS (hI h1_ (B + 52)) (hI h1_ (B + 58)) w.toNatClampNeg n lg mm.toNatClampNeg w r c i).2.2.2) 1 ((mdB (hI h1_ (B + 52)) w (nI i) n) + (hI h1_ (B + 52) (183 + w.toNatClampNeg))) (((beS (hI h1_ (B + 52)) (hI h1_ (B + 58)) w.toNatClampNeg n lg mm.toNatClampNeg w r c i).2.2.1) + ((((((mdB (hI h1_ (B + 52)) w (nI i) n) + (hI h1_ (B + 52) (183 + w.toNatClampNeg))) - (hI h1_ (B + 58) i)).toInt64) * 10) / ((hI h1_ (B + 52) 7).toInt64))) i (by omega) (beS (hI h1_ (B + 52)) (hI h1_ (B + 58)) w.toNatClampNeg n lg mm.toNatClampNeg w r c i).1 (fun h2 hF2 r2 => ?_) mm.toNatClampNeg 0 h1 hF1 (by intro j hj; rw [beD_0, ite_self]; exact iv j (by omega)) (by omega)) rfl rfl rfl rfl
                      have hL2x : LY h2 B := FR.ly hF2 hL1
                      have hS2x_52 : hI h2 (B + 52) = hI h1_ (B + 52) := hF2.2.2.2.2 _ (by unfold Ah; omega)
                      have hS2x_58 : hI h2 (B + 58) = hI h1_ (B + 58) := hF2.2.2.2.2 _ (by unfold Ah; omega)
                      show AW V 0 0 h2 278 [(0, .ref (B + 51)), (1, .int w), (2, .int r), (3, .int mm), (4, .int c), (5, .int (((beS (hI h1_ (B + 52)) (hI h1_ (B + 58)) w.toNatClampNeg n lg mm.toNatClampNeg w r c i).2.1) + 1)), (6, .long (((beS (hI h1_ (B + 52)) (hI h1_ (B + 58)) w.toNatClampNeg n lg mm.toNatClampNeg w r c i).2.2.1) + ((((((mdB (hI h1_ (B + 52)) w (nI i) n) + (hI h1_ (B + 52) (183 + w.toNatClampNeg))) - (hI h1_ (B + 58) i)).toInt64) * 10) / ((hI h1_ (B + 52) 7).toInt64)))), (8, .int ((beS (hI h1_ (B + 52)) (hI h1_ (B + 58)) w.toNatClampNeg n lg mm.toNatClampNeg w r c i).2.2.2)), (9, .int (nI i)), (10, .int 1), (11, .int ((mdB (hI h1_ (B + 52)) w (nI i) n) + (hI h1_ (B + 52) (183 + w.toNatClampNeg))))] []
                      refine a_iinc (v := ((nI i) + 1)) (L' := [(9, .int ((nI i) + 1)), (0, .ref (B + 51)), (1, .int w), (2, .int r), (3, .int mm), (4, .int c), (5, .int (((beS (hI h1_ (B + 52)) (hI h1_ (B + 58)) w.toNatClampNeg n lg mm.toNatClampNeg w r c i).2.1) + 1)), (6, .long (((beS (hI h1_ (B + 52)) (hI h1_ (B + 58)) w.toNatClampNeg n lg mm.toNatClampNeg w r c i).2.2.1) + ((((((mdB (hI h1_ (B + 52)) w (nI i) n) + (hI h1_ (B + 52) (183 + w.toNatClampNeg))) - (hI h1_ (B + 58) i)).toInt64) * 10) / ((hI h1_ (B + 52) 7).toInt64)))), (8, .int ((beS (hI h1_ (B + 52)) (hI h1_ (B + 58)) w.toNatClampNeg n lg mm.toNatClampNeg w r c i).2.2.2)), (10, .int 1), (11, .int ((mdB (hI h1_ (B + 52)) w (nI i) n) + (hI h1_ (B + 52) (183 + w.toNatClampNeg))))]) hb dX12_beside_278 8 rfl rfl (by rw [hml]; decide) rfl ?_
                      refine a_goto hb 90 dX12_beside_281 (by decide) ?_
                      refine AW.sub (L' := [(0, .ref (B + 51)), (1, .int w), (2, .int r), (3, .int mm), (4, .int c), (5, .int (((beS (hI h1_ (B + 52)) (hI h1_ (B + 58)) w.toNatClampNeg n lg mm.toNatClampNeg w r c i).2.1) + 1)), (6, .long (((beS (hI h1_ (B + 52)) (hI h1_ (B + 58)) w.toNatClampNeg n lg mm.toNatClampNeg w r c i).2.2.1) + ((((((mdB (hI h1_ (B + 52)) w (nI i) n) + (hI h1_ (B + 52) (183 + w.toNatClampNeg))) - (hI h1_ (B + 58) i)).toInt64) * 10) / ((hI h1_ (B + 52) 7).toInt64)))), (8, .int ((beS (hI h1_ (B + 52)) (hI h1_ (B + 58)) w.toNatClampNeg n lg mm.toNatClampNeg w r c i).2.2.2)), (9, .int ((nI i) + 1))]) [1, 2, 3, 4, 5, 6, 7, 8, 0] rfl ?_
                      exact AW.eq (ih (i + 1) h2 hF2 (by intro j hj; rw [r2 j hj]; simp only [beS, eT]) (by omega)) rfl rfl (by simp only [nI_1, beS, eG, eT, eF]) rfl
                    · rw [lc_le, Decidable.not_not] at c218
                      have yf : (beS (hI h1_ (B + 52)) (hI h1_ (B + 58)) w.toNatClampNeg n lg mm.toNatClampNeg w r c i).2.2.2 = -5 ∧ c.toInt64 < szS (((beS (hI h1_ (B + 52)) (hI h1_ (B + 58)) w.toNatClampNeg n lg mm.toNatClampNeg w r c i).2.2.1) + ((((((mdB (hI h1_ (B + 52)) w (nI i) n) + (hI h1_ (B + 52) (183 + w.toNatClampNeg))) - (hI h1_ (B + 58) i)).toInt64) * 10) / ((hI h1_ (B + 52) 7).toInt64))) := ⟨c206, c218⟩
                      refine a_iload hb dX12_beside_221 10 rfl ?_
                      refine a_goto hb 228 dX12_beside_223 (by decide) ?_
                      refine a_istore (L' := [(8, .int (nI i)), (6, .long (((beS (hI h1_ (B + 52)) (hI h1_ (B + 58)) w.toNatClampNeg n lg mm.toNatClampNeg w r c i).2.2.1) + ((((((mdB (hI h1_ (B + 52)) w (nI i) n) + (hI h1_ (B + 52) (183 + w.toNatClampNeg))) - (hI h1_ (B + 58) i)).toInt64) * 10) / ((hI h1_ (B + 52) 7).toInt64)))), (11, .int ((mdB (hI h1_ (B + 52)) w (nI i) n) + (hI h1_ (B + 52) (183 + w.toNatClampNeg)))), (5, .int (((beS (hI h1_ (B + 52)) (hI h1_ (B + 58)) w.toNatClampNeg n lg mm.toNatClampNeg w r c i).2.1) + 1)), (10, .int 1), (0, .ref (B + 51)), (1, .int w), (2, .int r), (3, .int mm), (4, .int c), (9, .int (nI i))]) hb dX12_beside_228 (by rw [hml]; decide) rfl ?_
                      refine a_iconst (v := 0) hb dX12_beside_230 (by decide) ?_
                      refine a_istore (L' := [(12, .int 0), (8, .int (nI i)), (6, .long (((beS (hI h1_ (B + 52)) (hI h1_ (B + 58)) w.toNatClampNeg n lg mm.toNatClampNeg w r c i).2.2.1) + ((((((mdB (hI h1_ (B + 52)) w (nI i) n) + (hI h1_ (B + 52) (183 + w.toNatClampNeg))) - (hI h1_ (B + 58) i)).toInt64) * 10) / ((hI h1_ (B + 52) 7).toInt64)))), (11, .int ((mdB (hI h1_ (B + 52)) w (nI i) n) + (hI h1_ (B + 52) (183 + w.toNatClampNeg)))), (5, .int (((beS (hI h1_ (B + 52)) (hI h1_ (B + 58)) w.toNatClampNeg n lg mm.toNatClampNeg w r c i).2.1) + 1)), (10, .int 1), (0, .ref (B + 51)), (1, .int w), (2, .int r), (3, .int mm), (4, .int c), (9, .int (nI i))]) hb dX12_beside_231 (by rw [hml]; decide) rfl ?_
                      have eT : beT (hI h1_ (B + 52)) (hI h1_ (B + 58)) w.toNatClampNeg n w i (beS (hI h1_ (B + 52)) (hI h1_ (B + 58)) w.toNatClampNeg n lg mm.toNatClampNeg w r c i) = (((beS (hI h1_ (B + 52)) (hI h1_ (B + 58)) w.toNatClampNeg n lg mm.toNatClampNeg w r c i).2.2.1) + ((((((mdB (hI h1_ (B + 52)) w (nI i) n) + (hI h1_ (B + 52) (183 + w.toNatClampNeg))) - (hI h1_ (B + 58) i)).toInt64) * 10) / ((hI h1_ (B + 52) 7).toInt64))) := by unfold beT; rw [eP]
                      have eF : beF (hI h1_ (B + 52)) (hI h1_ (B + 58)) w.toNatClampNeg n w c i (beS (hI h1_ (B + 52)) (hI h1_ (B + 58)) w.toNatClampNeg n lg mm.toNatClampNeg w r c i) = (nI i) := by unfold beF; rw [eT]; first | exact if_pos yf | exact if_neg nf
                      refine AW.sub (L' := [(0, .ref (B + 51)), (1, .int w), (2, .int r), (3, .int mm), (4, .int c), (5, .int (((beS (hI h1_ (B + 52)) (hI h1_ (B + 58)) w.toNatClampNeg n lg mm.toNatClampNeg w r c i).2.1) + 1)), (6, .long (((beS (hI h1_ (B + 52)) (hI h1_ (B + 58)) w.toNatClampNeg n lg mm.toNatClampNeg w r c i).2.2.1) + ((((((mdB (hI h1_ (B + 52)) w (nI i) n) + (hI h1_ (B + 52) (183 + w.toNatClampNeg))) - (hI h1_ (B + 58) i)).toInt64) * 10) / ((hI h1_ (B + 52) 7).toInt64)))), (8, .int (nI i)), (9, .int (nI i)), (10, .int 1), (11, .int ((mdB (hI h1_ (B + 52)) w (nI i) n) + (hI h1_ (B + 52) (183 + w.toNatClampNeg)))), (12, .int 0)]) [6, 7, 8, 9, 10, 4, 2, 1, 11, 5, 3, 0] rfl ?_
                      refine AW.eq (inner (((beS (hI h1_ (B + 52)) (hI h1_ (B + 58)) w.toNatClampNeg n lg mm.toNatClampNeg w r c i).2.1) + 1) (nI i) 1 ((mdB (hI h1_ (B + 52)) w (nI i) n) + (hI h1_ (B + 52) (183 + w.toNatClampNeg))) (((beS (hI h1_ (B + 52)) (hI h1_ (B + 58)) w.toNatClampNeg n lg mm.toNatClampNeg w r c i).2.2.1) + ((((((mdB (hI h1_ (B + 52)) w (nI i) n) + (hI h1_ (B + 52) (183 + w.toNatClampNeg))) - (hI h1_ (B + 58) i)).toInt64) * 10) / ((hI h1_ (B + 52) 7).toInt64))) i (by omega) (beS (hI h1_ (B + 52)) (hI h1_ (B + 58)) w.toNatClampNeg n lg mm.toNatClampNeg w r c i).1 (fun h2 hF2 r2 => ?_) mm.toNatClampNeg 0 h1 hF1 (by intro j hj; rw [beD_0, ite_self]; exact iv j (by omega)) (by omega)) rfl rfl rfl rfl
                      have hL2x : LY h2 B := FR.ly hF2 hL1
                      have hS2x_52 : hI h2 (B + 52) = hI h1_ (B + 52) := hF2.2.2.2.2 _ (by unfold Ah; omega)
                      have hS2x_58 : hI h2 (B + 58) = hI h1_ (B + 58) := hF2.2.2.2.2 _ (by unfold Ah; omega)
                      show AW V 0 0 h2 278 [(0, .ref (B + 51)), (1, .int w), (2, .int r), (3, .int mm), (4, .int c), (5, .int (((beS (hI h1_ (B + 52)) (hI h1_ (B + 58)) w.toNatClampNeg n lg mm.toNatClampNeg w r c i).2.1) + 1)), (6, .long (((beS (hI h1_ (B + 52)) (hI h1_ (B + 58)) w.toNatClampNeg n lg mm.toNatClampNeg w r c i).2.2.1) + ((((((mdB (hI h1_ (B + 52)) w (nI i) n) + (hI h1_ (B + 52) (183 + w.toNatClampNeg))) - (hI h1_ (B + 58) i)).toInt64) * 10) / ((hI h1_ (B + 52) 7).toInt64)))), (8, .int (nI i)), (9, .int (nI i)), (10, .int 1), (11, .int ((mdB (hI h1_ (B + 52)) w (nI i) n) + (hI h1_ (B + 52) (183 + w.toNatClampNeg))))] []
                      refine a_iinc (v := ((nI i) + 1)) (L' := [(9, .int ((nI i) + 1)), (0, .ref (B + 51)), (1, .int w), (2, .int r), (3, .int mm), (4, .int c), (5, .int (((beS (hI h1_ (B + 52)) (hI h1_ (B + 58)) w.toNatClampNeg n lg mm.toNatClampNeg w r c i).2.1) + 1)), (6, .long (((beS (hI h1_ (B + 52)) (hI h1_ (B + 58)) w.toNatClampNeg n lg mm.toNatClampNeg w r c i).2.2.1) + ((((((mdB (hI h1_ (B + 52)) w (nI i) n) + (hI h1_ (B + 52) (183 + w.toNatClampNeg))) - (hI h1_ (B + 58) i)).toInt64) * 10) / ((hI h1_ (B + 52) 7).toInt64)))), (8, .int (nI i)), (10, .int 1), (11, .int ((mdB (hI h1_ (B + 52)) w (nI i) n) + (hI h1_ (B + 52) (183 + w.toNatClampNeg))))]) hb dX12_beside_278 8 rfl rfl (by rw [hml]; decide) rfl ?_
                      refine a_goto hb 90 dX12_beside_281 (by decide) ?_
                      refine AW.sub (L' := [(0, .ref (B + 51)), (1, .int w), (2, .int r), (3, .int mm), (4, .int c), (5, .int (((beS (hI h1_ (B + 52)) (hI h1_ (B + 58)) w.toNatClampNeg n lg mm.toNatClampNeg w r c i).2.1) + 1)), (6, .long (((beS (hI h1_ (B + 52)) (hI h1_ (B + 58)) w.toNatClampNeg n lg mm.toNatClampNeg w r c i).2.2.1) + ((((((mdB (hI h1_ (B + 52)) w (nI i) n) + (hI h1_ (B + 52) (183 + w.toNatClampNeg))) - (hI h1_ (B + 58) i)).toInt64) * 10) / ((hI h1_ (B + 52) 7).toInt64)))), (8, .int (nI i)), (9, .int ((nI i) + 1))]) [1, 2, 3, 4, 5, 6, 7, 8, 0] rfl ?_
                      exact AW.eq (ih (i + 1) h2 hF2 (by intro j hj; rw [r2 j hj]; simp only [beS, eT]) (by omega)) rfl rfl (by simp only [nI_1, beS, eG, eT, eF]) rfl
          have clr : ∀ (k i : Nat) (h1 : AH) (hF1 : FR (Ah B) h1_ h1) (iv : ∀ t, t < i → hI h1 (B + 60) t = (fun _ => (0 : Int32)) t), i + k = 80 → AW V 0 0 h1 56 [(0, .ref (B + 51)), (1, .int w), (2, .int r), (3, .int mm), (4, .int c), (5, .int (nI i))] [] := by
            intro k
            induction k with
            | zero =>
              intro i h1 hF1 iv hi
              have hL0_ : LY h1 B := FR.ly hF1 hL1
              have hS0_52 : hI h1 (B + 52) = hI h1_ (B + 52) := hF1.2.2.2.2 _ (by unfold Ah; omega)
              have hS0_58 : hI h1 (B + 58) = hI h1_ (B + 58) := hF1.2.2.2.2 _ (by unfold Ah; omega)
              refine a_iload hb dX12_beside_56 5 rfl ?_
              refine a_bipush (v := 80) hb dX12_beside_58 (by decide) ?_
              refine a_icmp_ge hb 77 dX12_beside_60 (by decide) (fun c60 => ?_) (fun c60 => absurd (by exact nI_le (b := i) (a := 80) (by omega) (by omega)) c60)
              refine a_iconst (v := 0) hb dX12_beside_77 (by decide) ?_
              refine a_istore (L' := [(5, .int 0), (0, .ref (B + 51)), (1, .int w), (2, .int r), (3, .int mm), (4, .int c)]) hb dX12_beside_78 (by rw [hml]; decide) rfl ?_
              refine a_lconst (v := 0) hb dX12_beside_80 (by decide) ?_
              refine a_lstore (L' := [(6, .long 0), (5, .int 0), (0, .ref (B + 51)), (1, .int w), (2, .int r), (3, .int mm), (4, .int c)]) hb dX12_beside_81 (by rw [hml]; decide) rfl ?_
              refine a_bipush (v := (-5)) hb dX12_beside_83 (by decide) ?_
              refine a_istore (L' := [(8, .int (-5)), (6, .long 0), (5, .int 0), (0, .ref (B + 51)), (1, .int w), (2, .int r), (3, .int mm), (4, .int c)]) hb dX12_beside_85 (by rw [hml]; decide) rfl ?_
              refine a_iconst (v := 0) hb dX12_beside_87 (by decide) ?_
              refine a_istore (L' := [(9, .int 0), (8, .int (-5)), (6, .long 0), (5, .int 0), (0, .ref (B + 51)), (1, .int w), (2, .int r), (3, .int mm), (4, .int c)]) hb dX12_beside_88 (by rw [hml]; decide) rfl ?_
              refine AW.sub (L' := [(0, .ref (B + 51)), (1, .int w), (2, .int r), (3, .int mm), (4, .int c), (5, .int 0), (6, .long 0), (8, .int (-5)), (9, .int 0)]) [4, 5, 6, 7, 8, 3, 2, 1, 0] rfl ?_
              exact AW.eq (loop 40 0 h1 hF1 (by rw [show i = 80 by omega] at iv; exact iv) (by omega)) rfl rfl (rfl) rfl
            | succ k ih =>
              intro i h1 hF1 iv hi
              have hL0_ : LY h1 B := FR.ly hF1 hL1
              have hS0_52 : hI h1 (B + 52) = hI h1_ (B + 52) := hF1.2.2.2.2 _ (by unfold Ah; omega)
              have hS0_58 : hI h1 (B + 58) = hI h1_ (B + 58) := hF1.2.2.2.2 _ (by unfold Ah; omega)
              refine a_iload hb dX12_beside_56 5 rfl ?_
              refine a_bipush (v := 80) hb dX12_beside_58 (by decide) ?_
              refine a_icmp_ge hb 77 dX12_beside_60 (by decide) (fun c60 => absurd c60 (by exact nI_ge (b := 80) (a := i) (by omega) (by omega))) (fun c60 => ?_)
              refine a_aload_n hb dX12_beside_63 rfl 0 rfl ?_
              refine a_getQ (q := (B + 60)) hb dX12_beside_64 (by rw [ow]; exact fl_RX12_38_12) (hL0_.1 51 (by decide)) (hL0_.2.1 (51, 19, 60) (by decide)) ?_
              refine a_iload hb dX12_beside_67 5 rfl ?_
              refine a_iconst (v := 0) hb dX12_beside_69 (by decide) ?_
              refine b_zast (j := i) hb dX12_beside_70 (hL0_.1 60 (by decide)) (IX.n (by omega)) (by omega) rfl ?_
              refine a_iinc (v := ((nI i) + 1)) (L' := [(5, .int ((nI i) + 1)), (0, .ref (B + 51)), (1, .int w), (2, .int r), (3, .int mm), (4, .int c)]) hb dX12_beside_71 5 rfl rfl (by rw [hml]; decide) rfl ?_
              refine a_goto hb 56 dX12_beside_74 (by decide) ?_
              refine AW.sub (L' := [(0, .ref (B + 51)), (1, .int w), (2, .int r), (3, .int mm), (4, .int c), (5, .int ((nI i) + 1))]) [1, 2, 3, 4, 5, 0] rfl ?_
              exact AW.eq (ih (i + 1) (setI h1 (B + 60) i 0) (FR.I hF1 (by unfold Ah; omega)) (rowI iv rfl) (by omega)) rfl rfl (by first | (simp only [nI_1]; done) | (simp only [nI_1]; rfl)) rfl
          refine AW.sub (L' := [(0, .ref (B + 51)), (1, .int w), (2, .int r), (3, .int mm), (4, .int c), (5, .int 0)]) [1, 2, 3, 4, 5, 0] rfl ?_
          exact AW.eq (clr 80 0 h1_ FR.rf row0 (by omega)) rfl rfl (rfl) rfl
        · simp [b2i_0] at c43
          refine a_bipush (v := (-2)) hb dX12_beside_46 (by decide) ?_
          exact a_ireturn (ty := .int) hb hz dX12_beside_48 hret rfl (by rw [hr]; exact Nat.le_of_ble_eq_true rfl) (by rw [hr]; exact Nat.le_of_ble_eq_true rfl) (⟨by first | exact Or.inl ⟨c5, rfl⟩ | exact Or.inr (Or.inl ⟨c5, by simp [*], rfl⟩), FR.rf⟩)
