/-! ===== the model: the ways ===== -/
def Aq (B : Nat) (a : Nat) : Prop := a = B + 51 ∨ a = B + 54 ∨ a = B + 55 ∨ a = B + 56 ∨ a = B + 57 ∨ a = B + 58 ∨ a = B + 59
theorem hJ_s {h : AH} {a k : Nat} {v : Int64} : hJ (setJ h a k v) a k = v := u2_s
theorem hJ_k {h : AH} {a k j : Nat} {v : Int64} (e : j ≠ k) : hJ (setJ h a k v) a j = hJ h a j := u2_k e
theorem hJ_I {h : AH} {a k : Nat} {v : Int32} : hJ (setI h a k v) = hJ h := rfl
theorem hI_J {h : AH} {a k : Nat} {v : Int64} : hI (setJ h a k v) = hI h := rfl
theorem hJ_e {h : AH} {a k : Nat} {v : Int64} : hJ (setJ h a k v) a = fun j => if j = k then v else hJ h a j := by
  funext j
  by_cases e : j = k
  · subst e; rw [hJ_s, if_pos rfl]
  · rw [hJ_k e, if_neg e]
abbrev WY : Type := Int64 × Int64 × Int32 × Int32
def MW (h : AH) (B : Nat) : WY := (hJ h (B + 51) 15, hJ h (B + 51) 16, hI h (B + 51) 17, hI h (B + 51) 18)
def wyL (f : Int32) (often : Int64) (way : Int32) (W : WY) : WY := (W.1 + (if f = -5 then often else 0), W.2.1 + often, if ¬ f = -5 ∧ (W.2.2.1 = -5 ∨ f < W.2.2.1) then (f, way) else W.2.2)
def fbW (P : PF) (S dl : Nat → Int32) (hl np n : Nat) (c : Int32) : Int32 := fbF (fun t => btS (fun t => mdB S (-1) (nI t) n) (fun t => dmS P S dl hl (nI t) np) (S 7) (t + 1)) c 0 40
def wyF (st : Nat → WY → WY) : Nat → WY → WY
  | 0, W => W
  | d + 1, W => st d (wyF st d W)
def wyS (fb : (Nat → Int32) → Int32) (S : Nat → Int32) : Nat → Nat → (Nat → Int32) → Int64 → Int32 → WY → WY
  | 0, _, dl, often, way, W => wyL (fb dl) often way W
  | k + 1, b, dl, often, way, W => wyF (fun d W => if 0 < odS S b (nI d) then wyS fb S k (b + 1) (upd dl b (nI d)) (if S (162 + b) = 10 then often else often * (odS S b (nI d)).toInt64) (10 * way + nI d) W else W) 3 W
theorem nI_inj {a b : Nat} (ha : a < 2 ^ 31) (hb : b < 2 ^ 31) (e : nI a = nI b) : a = b := by
  have := congrArg Int32.toInt e
  rw [nI_toInt ha, nI_toInt hb] at this
  omega
set_option maxRecDepth 100000 in
theorem m_ways0 (g : GG) (h : AH) (B : Nat) (hL : LY h B) (P : PF) (hP : PcM g B h P) (h6 : ¬ hI h (B + 52) 6 = 0) (hl : Nat) (hhl : IX (hI h (B + 52) 8) hl) (lhl : hl < 5) (np : Nat) (hnp : IX (hI h (B + 52) 0) np) (lnp : np ≤ 8) (n : Nat) (hn : IX (hI h (B + 52) 1) n) (ln : n ≤ 5) (h7 : ¬ (hI h (B + 52) 7).toInt64 = 0) (c : Int32) (often : Int64) (way : Int32) : AM g 9 0 0 mX12_ways [.ref (B + 51), .int (nI np), .long often, .int way, .int c] h (fun rv h' => rv = none ∧ FR (Aq B) h h' ∧ (hI h' (B + 56) = hI h (B + 56)) ∧ (∀ j, j ≠ 17 → j ≠ 18 → hI h' (B + 51) j = hI h (B + 51) j) ∧ (MW h' B = wyS (fun dl => fbW P (hI h (B + 52)) dl hl np n c) (hI h (B + 52)) 0 np (hI h (B + 56)) often way (MW h B))) := by
  refine AM.of [(0, .ref (B + 51)), (1, .int (nI np)), (2, .long often), (4, .int way), (5, .int c)] (by decide) (Nat.le_of_ble_eq_true rfl) rfl ?_
  intro V hV
  have hb : V.2.1.2.1 = cX12_ways := by subst hV; rfl
  have ow : V.2.1.1.cls = RX12 := by subst hV; rfl
  have hr : V.2.2.1 = aw_rm 9 0 0 := by subst hV; rfl
  have hz : V.2.2.2 = aw_Z V.1 (fun rv h' => rv = none ∧ FR (Aq B) h h' ∧ (hI h' (B + 56) = hI h (B + 56)) ∧ (∀ j, j ≠ 17 → j ≠ 18 → hI h' (B + 51) j = hI h (B + 51) j) ∧ (MW h' B = wyS (fun dl => fbW P (hI h (B + 52)) dl hl np n c) (hI h (B + 52)) 0 np (hI h (B + 56)) often way (MW h B))) V.2.2.1 := by subst hV; rfl
  have hg : V.1 = g := by subst hV; rfl
  have hret : V.2.1.2.2.2 = none := by subst hV; rfl
  have hml : V.2.1.2.2.1 = 8 := by subst hV; rfl
  clear hV
  refine a_iload_n hb dX12_ways_0 rfl 1 rfl ?_
  refine a_aload_n hb dX12_ways_1 rfl 0 rfl ?_
  refine a_getQ (q := (B + 52)) hb dX12_ways_2 (by rw [ow]; exact fl_RX12_9_12) (hL.1 51 (by decide)) (hL.2.1 (51, 1, 52) (by decide)) ?_
  refine a_iconst (v := 0) hb dX12_ways_5 (by decide) ?_
  refine b_iald (j := 0) hb dX12_ways_6 (hL.1 52 (by decide)) ⟨by decide, by decide⟩ (by decide) ?_
  refine a_icmp_ne hb 91 dX12_ways_7 (by decide) (fun c7 => absurd c7 (fun q => q hnp.eq.1.symm)) (fun c7 => ?_)
  refine a_aload_n hb dX12_ways_10 rfl 0 rfl ?_
  refine a_callV hb dX12_ways_11 (by rw [hg]; exact m_looks g h B hL P (hP.mv (FR.mo (A := Aq B) (A' := Ax B) FR.rf (by intro a; unfold Aq Ax; omega))) h6 hl hhl lhl np hnp lnp n hn ln h7) (by rw [ow]; exact clv_RX12_186) (hL.1 51 (by decide)) (by decide) rfl rfl rfl (Nat.le_of_ble_eq_true rfl) (by rw [hr]; exact ⟨by decide, by decide⟩) (by rw [hr]; exact ⟨Nat.le_of_ble_eq_true rfl, Nat.le_of_ble_eq_true rfl⟩) ?_
  intro rv h1_ hp
  obtain ⟨hv, hf1, hx1_0, hx1_1, hx1_2⟩ := hp
  rw [hv]
  have hF1 := FR.tr FR.rf (FR.mo (A := Al B) (A' := Aq B) hf1 (by intro a; unfold Al Aq; omega))
  have hL1 : LY h1_ B := FR.ly hF1 hL
  have hS1_52 : hI h1_ (B + 52) = hI h (B + 52) := hF1.2.2.2.2 _ (by unfold Aq; omega)
  have hT1_51 : hI h1_ (B + 51) = hI h (B + 51) := hf1.2.2.2.2 _ (by unfold Al; omega)
  have hT1_56 : hI h1_ (B + 56) = hI h (B + 56) := hf1.2.2.2.2 _ (by unfold Al; omega)
  clear hv
  show AW V 0 0 h1_ 14 [(0, .ref (B + 51)), (1, .int (nI np)), (2, .long often), (4, .int way), (5, .int c)] []
  refine a_aload_n hb dX12_ways_14 rfl 0 rfl ?_
  refine a_iload hb dX12_ways_15 4 rfl ?_
  refine a_callV hb dX12_ways_17 (by rw [hg]; exact m_firstBeyond g h1_ B hL1 c) (by rw [ow]; exact clv_RX12_192) (hL1.1 51 (by decide)) (by decide) rfl rfl rfl (Nat.le_of_ble_eq_true rfl) (by rw [hr]; exact ⟨by decide, by decide⟩) (by rw [hr]; exact ⟨Nat.le_of_ble_eq_true rfl, Nat.le_of_ble_eq_true rfl⟩) ?_
  intro rv h' hp
  rw [hp.1, hp.2]
  show AW V 0 0 h1_ 20 [(0, .ref (B + 51)), (1, .int (nI np)), (2, .long often), (4, .int way), (5, .int c)] [.int (fbF (hJ h1_ (B + 59)) c 0 40)]
  refine a_istore (L' := [(6, .int (fbF (hJ h1_ (B + 59)) c 0 40)), (0, .ref (B + 51)), (1, .int (nI np)), (2, .long often), (4, .int way), (5, .int c)]) hb dX12_ways_20 (by rw [hml]; decide) rfl ?_
  have hJ51 : hJ h1_ (B + 51) = hJ h (B + 51) := hf1.2.2.2.1 _ (by unfold Al; omega)
  have eF : fbF (hJ h1_ (B + 59)) c 0 40 = fbW P (hI h (B + 52)) (hI h (B + 56)) hl np n c := fbF_c 40 0 (fun t q => hx1_2 t (by omega))
  refine a_aload_n hb dX12_ways_22 rfl 1 rfl ?_
  refine a_dup hb dX12_ways_23 rfl ?_
  refine a_getJ hb dX12_ways_24 (by rw [ow]; exact fl_RX12_198_12) (hL1.1 51 (by decide)) ?_
  refine a_lload_n hb dX12_ways_27 rfl 3 rfl ?_
  refine a_ladd hb dX12_ways_28 ?_
  refine a_putJ (fty := .long) hb dX12_ways_29 (by rw [ow]; exact fp_RX12_198_12) (Or.inr (fun C T N hq => by cases hq; rfl)) (hL1.1 51 (by decide)) rfl rfl ?_
  refine a_aload_n hb dX12_ways_32 rfl 1 rfl ?_
  refine a_dup hb dX12_ways_33 rfl ?_
  refine a_getJ hb dX12_ways_34 (by rw [ow]; exact fl_RX12_202_12) (hL1.1 51 (by decide)) ?_
  refine a_iload hb dX12_ways_37 0 rfl ?_
  refine a_bipush (v := (-5)) hb dX12_ways_39 (by decide) ?_
  refine a_icmp_ne hb 48 dX12_ways_41 (by decide) (fun c41 => ?_) (fun c41 => ?_)
  · refine a_lconst (v := 0) hb dX12_ways_48 (by decide) ?_
    refine a_ladd hb dX12_ways_49 ?_
    refine a_putJ (fty := .long) hb dX12_ways_50 (by rw [ow]; exact fp_RX12_202_12) (Or.inr (fun C T N hq => by cases hq; rfl)) (hL1.1 51 (by decide)) rfl rfl ?_
    refine a_iload hb dX12_ways_53 0 rfl ?_
    refine a_bipush (v := (-5)) hb dX12_ways_55 (by decide) ?_
    refine a_icmp_eq hb 90 dX12_ways_57 (by decide) (fun c57 => absurd c57 (c41)) (fun c57 => ?_)
    refine a_aload_n hb dX12_ways_60 rfl 1 rfl ?_
    refine a_getI hb dX12_ways_61 (by rw [ow]; exact fl_RX12_205_12) (hL1.1 51 (by decide)) ?_
    refine a_bipush (v := (-5)) hb dX12_ways_64 (by decide) ?_
    refine a_icmp_eq hb 78 dX12_ways_66 (by decide) (fun c66 => ?_) (fun c66 => ?_)
    · refine a_aload_n hb dX12_ways_78 rfl 1 rfl ?_
      refine a_iload hb dX12_ways_79 0 rfl ?_
      refine a_putI (fty := .int) hb dX12_ways_81 (by rw [ow]; exact fp_RX12_205_12) (Or.inr (fun C T N hq => by cases hq; rfl)) (hL1.1 51 (by decide)) rfl rfl ?_
      refine a_aload_n hb dX12_ways_84 rfl 1 rfl ?_
      refine a_iload hb dX12_ways_85 4 rfl ?_
      refine a_putI (fty := .int) hb dX12_ways_87 (by rw [ow]; exact fp_RX12_208_12) (Or.inr (fun C T N hq => by cases hq; rfl)) (hL1.1 51 (by decide)) rfl rfl ?_
      exact a_return hb hz dX12_ways_90 hret (by rw [hr]; exact Nat.le_of_ble_eq_true rfl) (by rw [hr]; exact Nat.le_of_ble_eq_true rfl) (⟨rfl, (FR.I (FR.I (FR.J (FR.J hF1 (by unfold Aq; omega)) (by unfold Aq; omega)) (by unfold Aq; omega)) (by unfold Aq; omega)), by rw [hI_setI_n (by omega), hI_setI_n (by omega)]; exact hT1_56, fun j a b => by rw [hI_setI_s, upd_n b, hI_setI_s, upd_n a]; exact congrFun hT1_51 j, by rw [eF] at *; (try simp only [hI_J, hT1_51] at c41); (try simp only [hI_J, hT1_51] at c66); simp only [wyS, wyL, MW, hJ_e, hJ_I, hI_J, hI_setI_s, upd, hJ51, hT1_51]; simp [c41, c66]⟩)
    · refine a_iload hb dX12_ways_69 0 rfl ?_
      refine a_aload_n hb dX12_ways_71 rfl 1 rfl ?_
      refine a_getI hb dX12_ways_72 (by rw [ow]; exact fl_RX12_205_12) (hL1.1 51 (by decide)) ?_
      refine a_icmp_ge hb 90 dX12_ways_75 (by decide) (fun c75 => ?_) (fun c75 => ?_)
      · have c75' := Int32.not_lt.mpr c75
        exact a_return hb hz dX12_ways_90 hret (by rw [hr]; exact Nat.le_of_ble_eq_true rfl) (by rw [hr]; exact Nat.le_of_ble_eq_true rfl) (⟨rfl, (FR.J (FR.J hF1 (by unfold Aq; omega)) (by unfold Aq; omega)), hT1_56, fun j _ _ => congrFun hT1_51 j, by rw [eF] at *; (try simp only [hI_J, hT1_51] at c41); (try simp only [hI_J, hT1_51] at c66); (try simp only [hI_J, hT1_51] at c75'); simp only [wyS, wyL, MW, hJ_e, hJ_I, hI_J, hI_setI_s, upd, hJ51, hT1_51]; simp [c41, c66, c75']⟩)
      · have c75' := Int32.not_le.mp c75
        refine a_aload_n hb dX12_ways_78 rfl 1 rfl ?_
        refine a_iload hb dX12_ways_79 0 rfl ?_
        refine a_putI (fty := .int) hb dX12_ways_81 (by rw [ow]; exact fp_RX12_205_12) (Or.inr (fun C T N hq => by cases hq; rfl)) (hL1.1 51 (by decide)) rfl rfl ?_
        refine a_aload_n hb dX12_ways_84 rfl 1 rfl ?_
        refine a_iload hb dX12_ways_85 4 rfl ?_
        refine a_putI (fty := .int) hb dX12_ways_87 (by rw [ow]; exact fp_RX12_208_12) (Or.inr (fun C T N hq => by cases hq; rfl)) (hL1.1 51 (by decide)) rfl rfl ?_
        exact a_return hb hz dX12_ways_90 hret (by rw [hr]; exact Nat.le_of_ble_eq_true rfl) (by rw [hr]; exact Nat.le_of_ble_eq_true rfl) (⟨rfl, (FR.I (FR.I (FR.J (FR.J hF1 (by unfold Aq; omega)) (by unfold Aq; omega)) (by unfold Aq; omega)) (by unfold Aq; omega)), by rw [hI_setI_n (by omega), hI_setI_n (by omega)]; exact hT1_56, fun j a b => by rw [hI_setI_s, upd_n b, hI_setI_s, upd_n a]; exact congrFun hT1_51 j, by rw [eF] at *; (try simp only [hI_J, hT1_51] at c41); (try simp only [hI_J, hT1_51] at c66); (try simp only [hI_J, hT1_51] at c75'); simp only [wyS, wyL, MW, hJ_e, hJ_I, hI_J, hI_setI_s, upd, hJ51, hT1_51]; simp [c41, c66, c75']⟩)
  · refine a_lload_n hb dX12_ways_44 rfl 3 rfl ?_
    refine a_goto hb 49 dX12_ways_45 (by decide) ?_
    refine a_ladd hb dX12_ways_49 ?_
    refine a_putJ (fty := .long) hb dX12_ways_50 (by rw [ow]; exact fp_RX12_202_12) (Or.inr (fun C T N hq => by cases hq; rfl)) (hL1.1 51 (by decide)) rfl rfl ?_
    refine a_iload hb dX12_ways_53 0 rfl ?_
    refine a_bipush (v := (-5)) hb dX12_ways_55 (by decide) ?_
    refine a_icmp_eq hb 90 dX12_ways_57 (by decide) (fun c57 => ?_) (fun c57 => absurd (c41) c57)
    exact a_return hb hz dX12_ways_90 hret (by rw [hr]; exact Nat.le_of_ble_eq_true rfl) (by rw [hr]; exact Nat.le_of_ble_eq_true rfl) (⟨rfl, (FR.J (FR.J hF1 (by unfold Aq; omega)) (by unfold Aq; omega)), hT1_56, fun j _ _ => congrFun hT1_51 j, by rw [eF] at *; (try simp only [hI_J, hT1_51] at c41); simp only [wyS, wyL, MW, hJ_e, hJ_I, hI_J, hI_setI_s, upd, hJ51, hT1_51]; simp [c41]⟩)
theorem m_wy0 (g : GG) (h : AH) (B : Nat) (hL : LY h B) (P : PF) (hP : PcM g B h P) (h6 : ¬ hI h (B + 52) 6 = 0) (hl : Nat) (hhl : IX (hI h (B + 52) 8) hl) (lhl : hl < 5) (np : Nat) (hnp : IX (hI h (B + 52) 0) np) (lnp : np ≤ 8) (n : Nat) (hn : IX (hI h (B + 52) 1) n) (ln : n ≤ 5) (h7 : ¬ (hI h (B + 52) 7).toInt64 = 0) (c : Int32) (often : Int64) (way : Int32) (b : Nat) (hbk : b + 0 = np) (hd : ∀ j, b ≤ j → j < 8 → hI h (B + 56) j = 0) : AM g 9 0 0 mX12_ways [.ref (B + 51), .int (nI b), .long often, .int way, .int c] h (fun rv h' => rv = none ∧ FR (Aq B) h h' ∧ (hI h' (B + 56) = hI h (B + 56)) ∧ (∀ j, j ≠ 17 → j ≠ 18 → hI h' (B + 51) j = hI h (B + 51) j) ∧ (MW h' B = wyS (fun dl => fbW P (hI h (B + 52)) dl hl np n c) (hI h (B + 52)) 0 b (hI h (B + 56)) often way (MW h B))) := by
  have e : b = np := by omega
  rw [e]
  exact m_ways0 g h B hL P hP h6 hl hhl lhl np hnp lnp n hn ln h7 c often way
set_option maxRecDepth 100000 in
theorem m_wy1 (g : GG) (h : AH) (B : Nat) (hL : LY h B) (P : PF) (hP : PcM g B h P) (h6 : ¬ hI h (B + 52) 6 = 0) (hl : Nat) (hhl : IX (hI h (B + 52) 8) hl) (lhl : hl < 5) (np : Nat) (hnp : IX (hI h (B + 52) 0) np) (lnp : np ≤ 8) (n : Nat) (hn : IX (hI h (B + 52) 1) n) (ln : n ≤ 5) (h7 : ¬ (hI h (B + 52) 7).toInt64 = 0) (c : Int32) (often : Int64) (way : Int32) (b : Nat) (hbk : b + 1 = np) (hd : ∀ j, b ≤ j → j < 8 → hI h (B + 56) j = 0) : AM g 10 0 0 mX12_ways [.ref (B + 51), .int (nI b), .long often, .int way, .int c] h (fun rv h' => rv = none ∧ FR (Aq B) h h' ∧ (hI h' (B + 56) = hI h (B + 56)) ∧ (∀ j, j ≠ 17 → j ≠ 18 → hI h' (B + 51) j = hI h (B + 51) j) ∧ (MW h' B = wyS (fun dl => fbW P (hI h (B + 52)) dl hl np n c) (hI h (B + 52)) 1 b (hI h (B + 56)) often way (MW h B))) := by
  refine AM.of [(0, .ref (B + 51)), (1, .int (nI b)), (2, .long often), (4, .int way), (5, .int c)] (by decide) (Nat.le_of_ble_eq_true rfl) rfl ?_
  intro V hV
  have hb : V.2.1.2.1 = cX12_ways := by subst hV; rfl
  have ow : V.2.1.1.cls = RX12 := by subst hV; rfl
  have hr : V.2.2.1 = aw_rm 10 0 0 := by subst hV; rfl
  have hz : V.2.2.2 = aw_Z V.1 (fun rv h' => rv = none ∧ FR (Aq B) h h' ∧ (hI h' (B + 56) = hI h (B + 56)) ∧ (∀ j, j ≠ 17 → j ≠ 18 → hI h' (B + 51) j = hI h (B + 51) j) ∧ (MW h' B = wyS (fun dl => fbW P (hI h (B + 52)) dl hl np n c) (hI h (B + 52)) 1 b (hI h (B + 56)) often way (MW h B))) V.2.2.1 := by subst hV; rfl
  have hg : V.1 = g := by subst hV; rfl
  have hret : V.2.1.2.2.2 = none := by subst hV; rfl
  have hml : V.2.1.2.2.1 = 8 := by subst hV; rfl
  clear hV
  refine a_iload_n hb dX12_ways_0 rfl 1 rfl ?_
  refine a_aload_n hb dX12_ways_1 rfl 0 rfl ?_
  refine a_getQ (q := (B + 52)) hb dX12_ways_2 (by rw [ow]; exact fl_RX12_9_12) (hL.1 51 (by decide)) (hL.2.1 (51, 1, 52) (by decide)) ?_
  refine a_iconst (v := 0) hb dX12_ways_5 (by decide) ?_
  refine b_iald (j := 0) hb dX12_ways_6 (hL.1 52 (by decide)) ⟨by decide, by decide⟩ (by decide) ?_
  refine a_icmp_ne hb 91 dX12_ways_7 (by decide) (fun c7 => ?_) (fun c7 => absurd c7 (by rw [hnp.eq.1]; exact fun e => absurd (nI_inj (by omega) (by omega) e) (by omega)))
  refine a_iconst (v := 0) hb dX12_ways_91 (by decide) ?_
  refine a_istore (L' := [(6, .int 0), (0, .ref (B + 51)), (1, .int (nI b)), (2, .long often), (4, .int way), (5, .int c)]) hb dX12_ways_92 (by rw [hml]; decide) rfl ?_
  have loop : ∀ (k i : Nat) (h1 : AH) (hF1 : FR (Aq B) h h1) (iv : (∃ v, hI h1 (B + 56) = upd (hI h (B + 56)) b v) ∧ (∀ j, j ≠ 17 → j ≠ 18 → hI h1 (B + 51) j = hI h (B + 51) j) ∧ MW h1 B = wyF (fun d W => if 0 < odS (hI h (B + 52)) b (nI d) then wyS (fun dl => fbW P (hI h (B + 52)) dl hl np n c) (hI h (B + 52)) 0 (b + 1) (upd (hI h (B + 56)) b (nI d)) (if hI h (B + 52) (162 + b) = 10 then often else often * (odS (hI h (B + 52)) b (nI d)).toInt64) (10 * way + nI d) W else W) i (MW h B)), i + k = 3 → AW V 0 0 h1 94 [(0, .ref (B + 51)), (1, .int (nI b)), (2, .long often), (4, .int way), (5, .int c), (6, .int (nI i))] [] := by
    intro k
    induction k with
    | zero =>
      intro i h1 hF1 iv hi
      have hL0_ : LY h1 B := FR.ly hF1 hL
      have hS0_52 : hI h1 (B + 52) = hI h (B + 52) := hF1.2.2.2.2 _ (by unfold Aq; omega)
      obtain ⟨⟨v0, hv0⟩, iv2, iv3⟩ := iv
      refine a_iload hb dX12_ways_94 5 rfl ?_
      refine a_iconst (v := 3) hb dX12_ways_96 (by decide) ?_
      refine a_icmp_ge hb 169 dX12_ways_97 (by decide) (fun c97 => ?_) (fun c97 => absurd (by exact nI_le (b := i) (a := 3) (by omega) (by omega)) c97)
      refine a_aload_n hb dX12_ways_169 rfl 0 rfl ?_
      refine a_getQ (q := (B + 56)) hb dX12_ways_170 (by rw [ow]; exact fl_RX12_25_12) (hL0_.1 51 (by decide)) (hL0_.2.1 (51, 11, 56) (by decide)) ?_
      refine a_iload_n hb dX12_ways_173 rfl 1 rfl ?_
      refine a_iconst (v := 0) hb dX12_ways_174 (by decide) ?_
      refine b_iast (j := b) hb dX12_ways_175 (hL0_.1 56 (by decide)) (IX.n (by omega)) (by omega) ?_
      exact a_return hb hz dX12_ways_176 hret (by rw [hr]; exact Nat.le_of_ble_eq_true rfl) (by rw [hr]; exact Nat.le_of_ble_eq_true rfl) (⟨rfl, (FR.I hF1 (by unfold Aq; omega)), by rw [hI_setI_s, hv0, upd_u]; exact upd_i (hd b (by omega) (by omega)), fun j a b => by rw [hI_setI_n (by omega)]; exact iv2 j a b, (show MW _ B = MW h1 B by unfold MW; rw [hI_setI_n (by omega)]; rfl).trans (by rw [iv3, show i = 3 by omega]; rfl)⟩)
    | succ k ih =>
      intro i h1 hF1 iv hi
      have hL0_ : LY h1 B := FR.ly hF1 hL
      have hS0_52 : hI h1 (B + 52) = hI h (B + 52) := hF1.2.2.2.2 _ (by unfold Aq; omega)
      obtain ⟨⟨v0, hv0⟩, iv2, iv3⟩ := iv
      refine a_iload hb dX12_ways_94 5 rfl ?_
      refine a_iconst (v := 3) hb dX12_ways_96 (by decide) ?_
      refine a_icmp_ge hb 169 dX12_ways_97 (by decide) (fun c97 => absurd c97 (by exact nI_ge (b := 3) (a := i) (by omega) (by omega))) (fun c97 => ?_)
      refine a_aload_n hb dX12_ways_100 rfl 0 rfl ?_
      refine a_iload_n hb dX12_ways_101 rfl 1 rfl ?_
      refine a_iload hb dX12_ways_102 5 rfl ?_
      refine a_callV hb dX12_ways_104 (by rw [hg]; have h0 := m_oddsOf g h1 B hL0_ b (by omega) (nI i); rw [hS0_52] at h0; exact h0) (by rw [ow]; exact clv_RX12_211) (hL0_.1 51 (by decide)) (by decide) rfl rfl rfl (Nat.le_of_ble_eq_true rfl) (by rw [hr]; exact ⟨by decide, by decide⟩) (by rw [hr]; exact ⟨Nat.le_of_ble_eq_true rfl, Nat.le_of_ble_eq_true rfl⟩) ?_
      intro rv h' hp
      rw [hp.1, hp.2]
      show AW V 0 0 h1 107 [(0, .ref (B + 51)), (1, .int (nI b)), (2, .long often), (4, .int way), (5, .int c), (6, .int (nI i))] [.int (odS (hI h (B + 52)) b (nI i))]
      refine a_istore (L' := [(7, .int (odS (hI h (B + 52)) b (nI i))), (0, .ref (B + 51)), (1, .int (nI b)), (2, .long often), (4, .int way), (5, .int c), (6, .int (nI i))]) hb dX12_ways_107 (by rw [hml]; decide) rfl ?_
      refine a_iload hb dX12_ways_109 0 rfl ?_
      refine a_if_le hb 163 dX12_ways_111 (by decide) (fun c111 => ?_) (fun c111 => ?_)
      · have c111' := Int32.not_lt.mpr c111
        refine a_iinc (v := ((nI i) + 1)) (L' := [(6, .int ((nI i) + 1)), (7, .int (odS (hI h (B + 52)) b (nI i))), (0, .ref (B + 51)), (1, .int (nI b)), (2, .long often), (4, .int way), (5, .int c)]) hb dX12_ways_163 6 rfl rfl (by rw [hml]; decide) rfl ?_
        refine a_goto hb 94 dX12_ways_166 (by decide) ?_
        refine AW.sub (L' := [(0, .ref (B + 51)), (1, .int (nI b)), (2, .long often), (4, .int way), (5, .int c), (6, .int ((nI i) + 1))]) [2, 3, 4, 5, 6, 0] rfl ?_
        exact AW.eq (ih (i + 1) h1 hF1 (⟨⟨v0, hv0⟩, iv2, by rw [iv3]; simp only [wyF]; rw [if_neg c111']⟩) (by omega)) rfl rfl (by first | (simp only [nI_1]; done) | (simp only [nI_1]; rfl)) rfl
      · have c111' := Int32.not_le.mp c111
        refine a_aload_n hb dX12_ways_114 rfl 1 rfl ?_
        refine a_getQ (q := (B + 56)) hb dX12_ways_115 (by rw [ow]; exact fl_RX12_25_12) (hL0_.1 51 (by decide)) (hL0_.2.1 (51, 11, 56) (by decide)) ?_
        refine a_iload_n hb dX12_ways_118 rfl 2 rfl ?_
        refine a_iload hb dX12_ways_119 6 rfl ?_
        refine b_iast (j := b) hb dX12_ways_121 (hL0_.1 56 (by decide)) (IX.n (by omega)) (by omega) ?_
        generalize eh1 : (setI h1 (B + 56) b (nI i)) = h1_
        have hF1 : FR (Aq B) h h1_ := by rw [← eh1]; exact (FR.I hF1 (by unfold Aq; omega))
        have hL1 : LY h1_ B := FR.ly hF1 hL
        have hW1 : hI h1_ (B + 56) = upd (hI h1 (B + 56)) b (nI i) := by rw [← eh1]; exact hI_setI_s
        have hS1_52 : hI h1_ (B + 52) = hI h (B + 52) := hF1.2.2.2.2 _ (by unfold Aq; omega)
        have hT1_51 : hI h1_ (B + 51) = hI h1 (B + 51) := by rw [← eh1]; exact hI_setI_n (by omega)
        have hJW1 : hJ h1_ = hJ h1 := by rw [← eh1]; rfl
        clear eh1
        have hR : hI h1_ (B + 56) = upd (hI h (B + 56)) b (nI i) := by rw [hW1, hv0, upd_u]
        have hM : MW h1_ B = MW h1 B := by unfold MW; rw [hJW1, hT1_51]
        refine a_aload_n hb dX12_ways_122 rfl 1 rfl ?_
        refine a_iload_n hb dX12_ways_123 rfl 2 rfl ?_
        refine a_iconst (v := 1) hb dX12_ways_124 (by decide) ?_
        refine a_iadd hb dX12_ways_125 ?_
        refine a_aload_n hb dX12_ways_126 rfl 1 rfl ?_
        refine a_getQ (q := (B + 52)) hb dX12_ways_127 (by rw [ow]; exact fl_RX12_9_12) (hL1.1 51 (by decide)) (hL1.2.1 (51, 1, 52) (by decide)) ?_
        refine a_sipush (v := 162) hb dX12_ways_130 (by decide) ?_
        refine a_iload_n hb dX12_ways_133 rfl 2 rfl ?_
        refine a_iadd hb dX12_ways_134 ?_
        refine b_iald (j := (162 + b)) hb dX12_ways_135 (hL1.1 52 (by decide)) (IX.add ⟨by decide, by decide⟩ (IX.n (by omega)) (by omega)) (by omega) ?_
        rw [hS1_52]
        refine a_bipush (v := 10) hb dX12_ways_136 (by decide) ?_
        refine a_icmp_ne hb 145 dX12_ways_138 (by decide) (fun c138 => ?_) (fun c138 => ?_)
        · refine a_lload_n hb dX12_ways_145 rfl 3 rfl ?_
          refine a_iload hb dX12_ways_146 0 rfl ?_
          refine a_i2l hb dX12_ways_148 rfl ?_
          refine a_lmul hb dX12_ways_149 ?_
          refine a_bipush (v := 10) hb dX12_ways_150 (by decide) ?_
          refine a_iload hb dX12_ways_152 4 rfl ?_
          refine a_imul hb dX12_ways_154 ?_
          refine a_iload hb dX12_ways_155 6 rfl ?_
          refine a_iadd hb dX12_ways_157 ?_
          refine a_iload hb dX12_ways_158 5 rfl ?_
          refine a_callV hb dX12_ways_160 (by rw [hg]; have h0 := m_wy0 g h1_ B hL1 P (hP.mv (FR.mo (A := Aq B) (A' := Ax B) hF1 (by intro a; unfold Aq Ax; omega))) (by rw [hS1_52]; exact h6) hl (by rw [hS1_52]; exact hhl) lhl np (by rw [hS1_52]; exact hnp) lnp n (by rw [hS1_52]; exact hn) ln (by rw [hS1_52]; exact h7) c (often * ((odS (hI h (B + 52)) b (nI i)).toInt64)) ((10 * way) + (nI i)) (b + 1) (by omega) (by intro j a e; rw [hR, upd_n (by omega)]; exact hd j (by omega) e); (try rw [hS1_52] at h0); (try rw [hR] at h0); rw [show nI (b + 1) = nI b + 1 from by rw [nI_1]] at h0; exact h0) (by rw [ow]; exact clv_RX12_214) (hL1.1 51 (by decide)) (by decide) rfl rfl rfl (Nat.le_of_ble_eq_true rfl) (by rw [hr]; exact ⟨by decide, by decide⟩) (by rw [hr]; exact ⟨Nat.le_of_ble_eq_true rfl, Nat.le_of_ble_eq_true rfl⟩) ?_
          intro rv h2_ hp
          obtain ⟨hv, hf2, hx2_0, hx2_1, hx2_2⟩ := hp
          rw [hv]
          have hF2 := FR.tr hF1 hf2
          have hL2 : LY h2_ B := FR.ly hF2 hL
          have hS2_52 : hI h2_ (B + 52) = hI h (B + 52) := hF2.2.2.2.2 _ (by unfold Aq; omega)
          clear hv
          show AW V 0 0 h2_ 163 [(7, .int (odS (hI h (B + 52)) b (nI i))), (0, .ref (B + 51)), (1, .int (nI b)), (2, .long often), (4, .int way), (5, .int c), (6, .int (nI i))] []
          refine a_iinc (v := ((nI i) + 1)) (L' := [(6, .int ((nI i) + 1)), (7, .int (odS (hI h (B + 52)) b (nI i))), (0, .ref (B + 51)), (1, .int (nI b)), (2, .long often), (4, .int way), (5, .int c)]) hb dX12_ways_163 6 rfl rfl (by rw [hml]; decide) rfl ?_
          refine a_goto hb 94 dX12_ways_166 (by decide) ?_
          refine AW.sub (L' := [(0, .ref (B + 51)), (1, .int (nI b)), (2, .long often), (4, .int way), (5, .int c), (6, .int ((nI i) + 1))]) [2, 3, 4, 5, 6, 0] rfl ?_
          exact AW.eq (ih (i + 1) h2_ hF2 (⟨⟨nI i, hx2_0⟩, fun j a b => (hx2_1 j a b).trans ((congrFun hT1_51 j).trans (iv2 j a b)), by rw [hx2_2, hM, iv3]; simp only [wyF]; rw [if_pos c111', if_neg c138]⟩) (by omega)) rfl rfl (by first | (simp only [nI_1]; done) | (simp only [nI_1]; rfl)) rfl
        · refine a_lload_n hb dX12_ways_141 rfl 3 rfl ?_
          refine a_goto hb 150 dX12_ways_142 (by decide) ?_
          refine a_bipush (v := 10) hb dX12_ways_150 (by decide) ?_
          refine a_iload hb dX12_ways_152 4 rfl ?_
          refine a_imul hb dX12_ways_154 ?_
          refine a_iload hb dX12_ways_155 6 rfl ?_
          refine a_iadd hb dX12_ways_157 ?_
          refine a_iload hb dX12_ways_158 5 rfl ?_
          refine a_callV hb dX12_ways_160 (by rw [hg]; have h0 := m_wy0 g h1_ B hL1 P (hP.mv (FR.mo (A := Aq B) (A' := Ax B) hF1 (by intro a; unfold Aq Ax; omega))) (by rw [hS1_52]; exact h6) hl (by rw [hS1_52]; exact hhl) lhl np (by rw [hS1_52]; exact hnp) lnp n (by rw [hS1_52]; exact hn) ln (by rw [hS1_52]; exact h7) c often ((10 * way) + (nI i)) (b + 1) (by omega) (by intro j a e; rw [hR, upd_n (by omega)]; exact hd j (by omega) e); (try rw [hS1_52] at h0); (try rw [hR] at h0); rw [show nI (b + 1) = nI b + 1 from by rw [nI_1]] at h0; exact h0) (by rw [ow]; exact clv_RX12_214) (hL1.1 51 (by decide)) (by decide) rfl rfl rfl (Nat.le_of_ble_eq_true rfl) (by rw [hr]; exact ⟨by decide, by decide⟩) (by rw [hr]; exact ⟨Nat.le_of_ble_eq_true rfl, Nat.le_of_ble_eq_true rfl⟩) ?_
          intro rv h3_ hp
          obtain ⟨hv, hf3, hx3_0, hx3_1, hx3_2⟩ := hp
          rw [hv]
          have hF3 := FR.tr hF1 hf3
          have hL3 : LY h3_ B := FR.ly hF3 hL
          have hS3_52 : hI h3_ (B + 52) = hI h (B + 52) := hF3.2.2.2.2 _ (by unfold Aq; omega)
          clear hv
          show AW V 0 0 h3_ 163 [(7, .int (odS (hI h (B + 52)) b (nI i))), (0, .ref (B + 51)), (1, .int (nI b)), (2, .long often), (4, .int way), (5, .int c), (6, .int (nI i))] []
          refine a_iinc (v := ((nI i) + 1)) (L' := [(6, .int ((nI i) + 1)), (7, .int (odS (hI h (B + 52)) b (nI i))), (0, .ref (B + 51)), (1, .int (nI b)), (2, .long often), (4, .int way), (5, .int c)]) hb dX12_ways_163 6 rfl rfl (by rw [hml]; decide) rfl ?_
          refine a_goto hb 94 dX12_ways_166 (by decide) ?_
          refine AW.sub (L' := [(0, .ref (B + 51)), (1, .int (nI b)), (2, .long often), (4, .int way), (5, .int c), (6, .int ((nI i) + 1))]) [2, 3, 4, 5, 6, 0] rfl ?_
          exact AW.eq (ih (i + 1) h3_ hF3 (⟨⟨nI i, hx3_0⟩, fun j a b => (hx3_1 j a b).trans ((congrFun hT1_51 j).trans (iv2 j a b)), by rw [hx3_2, hM, iv3]; simp only [wyF]; rw [if_pos c111', if_pos c138]⟩) (by omega)) rfl rfl (by first | (simp only [nI_1]; done) | (simp only [nI_1]; rfl)) rfl
  refine AW.sub (L' := [(0, .ref (B + 51)), (1, .int (nI b)), (2, .long often), (4, .int way), (5, .int c), (6, .int 0)]) [1, 2, 3, 4, 5, 0] rfl ?_
  exact AW.eq (loop 3 0 h FR.rf ⟨⟨_, (upd_i rfl).symm⟩, fun _ _ _ => rfl, rfl⟩ (by omega)) rfl rfl (rfl) rfl
set_option maxRecDepth 100000 in
theorem m_wy2 (g : GG) (h : AH) (B : Nat) (hL : LY h B) (P : PF) (hP : PcM g B h P) (h6 : ¬ hI h (B + 52) 6 = 0) (hl : Nat) (hhl : IX (hI h (B + 52) 8) hl) (lhl : hl < 5) (np : Nat) (hnp : IX (hI h (B + 52) 0) np) (lnp : np ≤ 8) (n : Nat) (hn : IX (hI h (B + 52) 1) n) (ln : n ≤ 5) (h7 : ¬ (hI h (B + 52) 7).toInt64 = 0) (c : Int32) (often : Int64) (way : Int32) (b : Nat) (hbk : b + 2 = np) (hd : ∀ j, b ≤ j → j < 8 → hI h (B + 56) j = 0) : AM g 11 0 0 mX12_ways [.ref (B + 51), .int (nI b), .long often, .int way, .int c] h (fun rv h' => rv = none ∧ FR (Aq B) h h' ∧ (hI h' (B + 56) = hI h (B + 56)) ∧ (∀ j, j ≠ 17 → j ≠ 18 → hI h' (B + 51) j = hI h (B + 51) j) ∧ (MW h' B = wyS (fun dl => fbW P (hI h (B + 52)) dl hl np n c) (hI h (B + 52)) 2 b (hI h (B + 56)) often way (MW h B))) := by
  refine AM.of [(0, .ref (B + 51)), (1, .int (nI b)), (2, .long often), (4, .int way), (5, .int c)] (by decide) (Nat.le_of_ble_eq_true rfl) rfl ?_
  intro V hV
  have hb : V.2.1.2.1 = cX12_ways := by subst hV; rfl
  have ow : V.2.1.1.cls = RX12 := by subst hV; rfl
  have hr : V.2.2.1 = aw_rm 11 0 0 := by subst hV; rfl
  have hz : V.2.2.2 = aw_Z V.1 (fun rv h' => rv = none ∧ FR (Aq B) h h' ∧ (hI h' (B + 56) = hI h (B + 56)) ∧ (∀ j, j ≠ 17 → j ≠ 18 → hI h' (B + 51) j = hI h (B + 51) j) ∧ (MW h' B = wyS (fun dl => fbW P (hI h (B + 52)) dl hl np n c) (hI h (B + 52)) 2 b (hI h (B + 56)) often way (MW h B))) V.2.2.1 := by subst hV; rfl
  have hg : V.1 = g := by subst hV; rfl
  have hret : V.2.1.2.2.2 = none := by subst hV; rfl
  have hml : V.2.1.2.2.1 = 8 := by subst hV; rfl
  clear hV
  refine a_iload_n hb dX12_ways_0 rfl 1 rfl ?_
  refine a_aload_n hb dX12_ways_1 rfl 0 rfl ?_
  refine a_getQ (q := (B + 52)) hb dX12_ways_2 (by rw [ow]; exact fl_RX12_9_12) (hL.1 51 (by decide)) (hL.2.1 (51, 1, 52) (by decide)) ?_
  refine a_iconst (v := 0) hb dX12_ways_5 (by decide) ?_
  refine b_iald (j := 0) hb dX12_ways_6 (hL.1 52 (by decide)) ⟨by decide, by decide⟩ (by decide) ?_
  refine a_icmp_ne hb 91 dX12_ways_7 (by decide) (fun c7 => ?_) (fun c7 => absurd c7 (by rw [hnp.eq.1]; exact fun e => absurd (nI_inj (by omega) (by omega) e) (by omega)))
  refine a_iconst (v := 0) hb dX12_ways_91 (by decide) ?_
  refine a_istore (L' := [(6, .int 0), (0, .ref (B + 51)), (1, .int (nI b)), (2, .long often), (4, .int way), (5, .int c)]) hb dX12_ways_92 (by rw [hml]; decide) rfl ?_
  have loop : ∀ (k i : Nat) (h1 : AH) (hF1 : FR (Aq B) h h1) (iv : (∃ v, hI h1 (B + 56) = upd (hI h (B + 56)) b v) ∧ (∀ j, j ≠ 17 → j ≠ 18 → hI h1 (B + 51) j = hI h (B + 51) j) ∧ MW h1 B = wyF (fun d W => if 0 < odS (hI h (B + 52)) b (nI d) then wyS (fun dl => fbW P (hI h (B + 52)) dl hl np n c) (hI h (B + 52)) 1 (b + 1) (upd (hI h (B + 56)) b (nI d)) (if hI h (B + 52) (162 + b) = 10 then often else often * (odS (hI h (B + 52)) b (nI d)).toInt64) (10 * way + nI d) W else W) i (MW h B)), i + k = 3 → AW V 0 0 h1 94 [(0, .ref (B + 51)), (1, .int (nI b)), (2, .long often), (4, .int way), (5, .int c), (6, .int (nI i))] [] := by
    intro k
    induction k with
    | zero =>
      intro i h1 hF1 iv hi
      have hL0_ : LY h1 B := FR.ly hF1 hL
      have hS0_52 : hI h1 (B + 52) = hI h (B + 52) := hF1.2.2.2.2 _ (by unfold Aq; omega)
      obtain ⟨⟨v0, hv0⟩, iv2, iv3⟩ := iv
      refine a_iload hb dX12_ways_94 5 rfl ?_
      refine a_iconst (v := 3) hb dX12_ways_96 (by decide) ?_
      refine a_icmp_ge hb 169 dX12_ways_97 (by decide) (fun c97 => ?_) (fun c97 => absurd (by exact nI_le (b := i) (a := 3) (by omega) (by omega)) c97)
      refine a_aload_n hb dX12_ways_169 rfl 0 rfl ?_
      refine a_getQ (q := (B + 56)) hb dX12_ways_170 (by rw [ow]; exact fl_RX12_25_12) (hL0_.1 51 (by decide)) (hL0_.2.1 (51, 11, 56) (by decide)) ?_
      refine a_iload_n hb dX12_ways_173 rfl 1 rfl ?_
      refine a_iconst (v := 0) hb dX12_ways_174 (by decide) ?_
      refine b_iast (j := b) hb dX12_ways_175 (hL0_.1 56 (by decide)) (IX.n (by omega)) (by omega) ?_
      exact a_return hb hz dX12_ways_176 hret (by rw [hr]; exact Nat.le_of_ble_eq_true rfl) (by rw [hr]; exact Nat.le_of_ble_eq_true rfl) (⟨rfl, (FR.I hF1 (by unfold Aq; omega)), by rw [hI_setI_s, hv0, upd_u]; exact upd_i (hd b (by omega) (by omega)), fun j a b => by rw [hI_setI_n (by omega)]; exact iv2 j a b, (show MW _ B = MW h1 B by unfold MW; rw [hI_setI_n (by omega)]; rfl).trans (by rw [iv3, show i = 3 by omega]; rfl)⟩)
    | succ k ih =>
      intro i h1 hF1 iv hi
      have hL0_ : LY h1 B := FR.ly hF1 hL
      have hS0_52 : hI h1 (B + 52) = hI h (B + 52) := hF1.2.2.2.2 _ (by unfold Aq; omega)
      obtain ⟨⟨v0, hv0⟩, iv2, iv3⟩ := iv
      refine a_iload hb dX12_ways_94 5 rfl ?_
      refine a_iconst (v := 3) hb dX12_ways_96 (by decide) ?_
      refine a_icmp_ge hb 169 dX12_ways_97 (by decide) (fun c97 => absurd c97 (by exact nI_ge (b := 3) (a := i) (by omega) (by omega))) (fun c97 => ?_)
      refine a_aload_n hb dX12_ways_100 rfl 0 rfl ?_
      refine a_iload_n hb dX12_ways_101 rfl 1 rfl ?_
      refine a_iload hb dX12_ways_102 5 rfl ?_
      refine a_callV hb dX12_ways_104 (by rw [hg]; have h0 := m_oddsOf g h1 B hL0_ b (by omega) (nI i); rw [hS0_52] at h0; exact h0) (by rw [ow]; exact clv_RX12_211) (hL0_.1 51 (by decide)) (by decide) rfl rfl rfl (Nat.le_of_ble_eq_true rfl) (by rw [hr]; exact ⟨by decide, by decide⟩) (by rw [hr]; exact ⟨Nat.le_of_ble_eq_true rfl, Nat.le_of_ble_eq_true rfl⟩) ?_
      intro rv h' hp
      rw [hp.1, hp.2]
      show AW V 0 0 h1 107 [(0, .ref (B + 51)), (1, .int (nI b)), (2, .long often), (4, .int way), (5, .int c), (6, .int (nI i))] [.int (odS (hI h (B + 52)) b (nI i))]
      refine a_istore (L' := [(7, .int (odS (hI h (B + 52)) b (nI i))), (0, .ref (B + 51)), (1, .int (nI b)), (2, .long often), (4, .int way), (5, .int c), (6, .int (nI i))]) hb dX12_ways_107 (by rw [hml]; decide) rfl ?_
      refine a_iload hb dX12_ways_109 0 rfl ?_
      refine a_if_le hb 163 dX12_ways_111 (by decide) (fun c111 => ?_) (fun c111 => ?_)
      · have c111' := Int32.not_lt.mpr c111
        refine a_iinc (v := ((nI i) + 1)) (L' := [(6, .int ((nI i) + 1)), (7, .int (odS (hI h (B + 52)) b (nI i))), (0, .ref (B + 51)), (1, .int (nI b)), (2, .long often), (4, .int way), (5, .int c)]) hb dX12_ways_163 6 rfl rfl (by rw [hml]; decide) rfl ?_
        refine a_goto hb 94 dX12_ways_166 (by decide) ?_
        refine AW.sub (L' := [(0, .ref (B + 51)), (1, .int (nI b)), (2, .long often), (4, .int way), (5, .int c), (6, .int ((nI i) + 1))]) [2, 3, 4, 5, 6, 0] rfl ?_
        exact AW.eq (ih (i + 1) h1 hF1 (⟨⟨v0, hv0⟩, iv2, by rw [iv3]; simp only [wyF]; rw [if_neg c111']⟩) (by omega)) rfl rfl (by first | (simp only [nI_1]; done) | (simp only [nI_1]; rfl)) rfl
      · have c111' := Int32.not_le.mp c111
        refine a_aload_n hb dX12_ways_114 rfl 1 rfl ?_
        refine a_getQ (q := (B + 56)) hb dX12_ways_115 (by rw [ow]; exact fl_RX12_25_12) (hL0_.1 51 (by decide)) (hL0_.2.1 (51, 11, 56) (by decide)) ?_
        refine a_iload_n hb dX12_ways_118 rfl 2 rfl ?_
        refine a_iload hb dX12_ways_119 6 rfl ?_
        refine b_iast (j := b) hb dX12_ways_121 (hL0_.1 56 (by decide)) (IX.n (by omega)) (by omega) ?_
        generalize eh1 : (setI h1 (B + 56) b (nI i)) = h1_
        have hF1 : FR (Aq B) h h1_ := by rw [← eh1]; exact (FR.I hF1 (by unfold Aq; omega))
        have hL1 : LY h1_ B := FR.ly hF1 hL
        have hW1 : hI h1_ (B + 56) = upd (hI h1 (B + 56)) b (nI i) := by rw [← eh1]; exact hI_setI_s
        have hS1_52 : hI h1_ (B + 52) = hI h (B + 52) := hF1.2.2.2.2 _ (by unfold Aq; omega)
        have hT1_51 : hI h1_ (B + 51) = hI h1 (B + 51) := by rw [← eh1]; exact hI_setI_n (by omega)
        have hJW1 : hJ h1_ = hJ h1 := by rw [← eh1]; rfl
        clear eh1
        have hR : hI h1_ (B + 56) = upd (hI h (B + 56)) b (nI i) := by rw [hW1, hv0, upd_u]
        have hM : MW h1_ B = MW h1 B := by unfold MW; rw [hJW1, hT1_51]
        refine a_aload_n hb dX12_ways_122 rfl 1 rfl ?_
        refine a_iload_n hb dX12_ways_123 rfl 2 rfl ?_
        refine a_iconst (v := 1) hb dX12_ways_124 (by decide) ?_
        refine a_iadd hb dX12_ways_125 ?_
        refine a_aload_n hb dX12_ways_126 rfl 1 rfl ?_
        refine a_getQ (q := (B + 52)) hb dX12_ways_127 (by rw [ow]; exact fl_RX12_9_12) (hL1.1 51 (by decide)) (hL1.2.1 (51, 1, 52) (by decide)) ?_
        refine a_sipush (v := 162) hb dX12_ways_130 (by decide) ?_
        refine a_iload_n hb dX12_ways_133 rfl 2 rfl ?_
        refine a_iadd hb dX12_ways_134 ?_
        refine b_iald (j := (162 + b)) hb dX12_ways_135 (hL1.1 52 (by decide)) (IX.add ⟨by decide, by decide⟩ (IX.n (by omega)) (by omega)) (by omega) ?_
        rw [hS1_52]
        refine a_bipush (v := 10) hb dX12_ways_136 (by decide) ?_
        refine a_icmp_ne hb 145 dX12_ways_138 (by decide) (fun c138 => ?_) (fun c138 => ?_)
        · refine a_lload_n hb dX12_ways_145 rfl 3 rfl ?_
          refine a_iload hb dX12_ways_146 0 rfl ?_
          refine a_i2l hb dX12_ways_148 rfl ?_
          refine a_lmul hb dX12_ways_149 ?_
          refine a_bipush (v := 10) hb dX12_ways_150 (by decide) ?_
          refine a_iload hb dX12_ways_152 4 rfl ?_
          refine a_imul hb dX12_ways_154 ?_
          refine a_iload hb dX12_ways_155 6 rfl ?_
          refine a_iadd hb dX12_ways_157 ?_
          refine a_iload hb dX12_ways_158 5 rfl ?_
          refine a_callV hb dX12_ways_160 (by rw [hg]; have h0 := m_wy1 g h1_ B hL1 P (hP.mv (FR.mo (A := Aq B) (A' := Ax B) hF1 (by intro a; unfold Aq Ax; omega))) (by rw [hS1_52]; exact h6) hl (by rw [hS1_52]; exact hhl) lhl np (by rw [hS1_52]; exact hnp) lnp n (by rw [hS1_52]; exact hn) ln (by rw [hS1_52]; exact h7) c (often * ((odS (hI h (B + 52)) b (nI i)).toInt64)) ((10 * way) + (nI i)) (b + 1) (by omega) (by intro j a e; rw [hR, upd_n (by omega)]; exact hd j (by omega) e); (try rw [hS1_52] at h0); (try rw [hR] at h0); rw [show nI (b + 1) = nI b + 1 from by rw [nI_1]] at h0; exact h0) (by rw [ow]; exact clv_RX12_214) (hL1.1 51 (by decide)) (by decide) rfl rfl rfl (Nat.le_of_ble_eq_true rfl) (by rw [hr]; exact ⟨by decide, by decide⟩) (by rw [hr]; exact ⟨Nat.le_of_ble_eq_true rfl, Nat.le_of_ble_eq_true rfl⟩) ?_
          intro rv h2_ hp
          obtain ⟨hv, hf2, hx2_0, hx2_1, hx2_2⟩ := hp
          rw [hv]
          have hF2 := FR.tr hF1 hf2
          have hL2 : LY h2_ B := FR.ly hF2 hL
          have hS2_52 : hI h2_ (B + 52) = hI h (B + 52) := hF2.2.2.2.2 _ (by unfold Aq; omega)
          clear hv
          show AW V 0 0 h2_ 163 [(7, .int (odS (hI h (B + 52)) b (nI i))), (0, .ref (B + 51)), (1, .int (nI b)), (2, .long often), (4, .int way), (5, .int c), (6, .int (nI i))] []
          refine a_iinc (v := ((nI i) + 1)) (L' := [(6, .int ((nI i) + 1)), (7, .int (odS (hI h (B + 52)) b (nI i))), (0, .ref (B + 51)), (1, .int (nI b)), (2, .long often), (4, .int way), (5, .int c)]) hb dX12_ways_163 6 rfl rfl (by rw [hml]; decide) rfl ?_
          refine a_goto hb 94 dX12_ways_166 (by decide) ?_
          refine AW.sub (L' := [(0, .ref (B + 51)), (1, .int (nI b)), (2, .long often), (4, .int way), (5, .int c), (6, .int ((nI i) + 1))]) [2, 3, 4, 5, 6, 0] rfl ?_
          exact AW.eq (ih (i + 1) h2_ hF2 (⟨⟨nI i, hx2_0⟩, fun j a b => (hx2_1 j a b).trans ((congrFun hT1_51 j).trans (iv2 j a b)), by rw [hx2_2, hM, iv3]; simp only [wyF]; rw [if_pos c111', if_neg c138]⟩) (by omega)) rfl rfl (by first | (simp only [nI_1]; done) | (simp only [nI_1]; rfl)) rfl
        · refine a_lload_n hb dX12_ways_141 rfl 3 rfl ?_
          refine a_goto hb 150 dX12_ways_142 (by decide) ?_
          refine a_bipush (v := 10) hb dX12_ways_150 (by decide) ?_
          refine a_iload hb dX12_ways_152 4 rfl ?_
          refine a_imul hb dX12_ways_154 ?_
          refine a_iload hb dX12_ways_155 6 rfl ?_
          refine a_iadd hb dX12_ways_157 ?_
          refine a_iload hb dX12_ways_158 5 rfl ?_
          refine a_callV hb dX12_ways_160 (by rw [hg]; have h0 := m_wy1 g h1_ B hL1 P (hP.mv (FR.mo (A := Aq B) (A' := Ax B) hF1 (by intro a; unfold Aq Ax; omega))) (by rw [hS1_52]; exact h6) hl (by rw [hS1_52]; exact hhl) lhl np (by rw [hS1_52]; exact hnp) lnp n (by rw [hS1_52]; exact hn) ln (by rw [hS1_52]; exact h7) c often ((10 * way) + (nI i)) (b + 1) (by omega) (by intro j a e; rw [hR, upd_n (by omega)]; exact hd j (by omega) e); (try rw [hS1_52] at h0); (try rw [hR] at h0); rw [show nI (b + 1) = nI b + 1 from by rw [nI_1]] at h0; exact h0) (by rw [ow]; exact clv_RX12_214) (hL1.1 51 (by decide)) (by decide) rfl rfl rfl (Nat.le_of_ble_eq_true rfl) (by rw [hr]; exact ⟨by decide, by decide⟩) (by rw [hr]; exact ⟨Nat.le_of_ble_eq_true rfl, Nat.le_of_ble_eq_true rfl⟩) ?_
          intro rv h3_ hp
          obtain ⟨hv, hf3, hx3_0, hx3_1, hx3_2⟩ := hp
          rw [hv]
          have hF3 := FR.tr hF1 hf3
          have hL3 : LY h3_ B := FR.ly hF3 hL
          have hS3_52 : hI h3_ (B + 52) = hI h (B + 52) := hF3.2.2.2.2 _ (by unfold Aq; omega)
          clear hv
          show AW V 0 0 h3_ 163 [(7, .int (odS (hI h (B + 52)) b (nI i))), (0, .ref (B + 51)), (1, .int (nI b)), (2, .long often), (4, .int way), (5, .int c), (6, .int (nI i))] []
          refine a_iinc (v := ((nI i) + 1)) (L' := [(6, .int ((nI i) + 1)), (7, .int (odS (hI h (B + 52)) b (nI i))), (0, .ref (B + 51)), (1, .int (nI b)), (2, .long often), (4, .int way), (5, .int c)]) hb dX12_ways_163 6 rfl rfl (by rw [hml]; decide) rfl ?_
          refine a_goto hb 94 dX12_ways_166 (by decide) ?_
          refine AW.sub (L' := [(0, .ref (B + 51)), (1, .int (nI b)), (2, .long often), (4, .int way), (5, .int c), (6, .int ((nI i) + 1))]) [2, 3, 4, 5, 6, 0] rfl ?_
          exact AW.eq (ih (i + 1) h3_ hF3 (⟨⟨nI i, hx3_0⟩, fun j a b => (hx3_1 j a b).trans ((congrFun hT1_51 j).trans (iv2 j a b)), by rw [hx3_2, hM, iv3]; simp only [wyF]; rw [if_pos c111', if_pos c138]⟩) (by omega)) rfl rfl (by first | (simp only [nI_1]; done) | (simp only [nI_1]; rfl)) rfl
  refine AW.sub (L' := [(0, .ref (B + 51)), (1, .int (nI b)), (2, .long often), (4, .int way), (5, .int c), (6, .int 0)]) [1, 2, 3, 4, 5, 0] rfl ?_
  exact AW.eq (loop 3 0 h FR.rf ⟨⟨_, (upd_i rfl).symm⟩, fun _ _ _ => rfl, rfl⟩ (by omega)) rfl rfl (rfl) rfl
set_option maxRecDepth 100000 in
theorem m_wy3 (g : GG) (h : AH) (B : Nat) (hL : LY h B) (P : PF) (hP : PcM g B h P) (h6 : ¬ hI h (B + 52) 6 = 0) (hl : Nat) (hhl : IX (hI h (B + 52) 8) hl) (lhl : hl < 5) (np : Nat) (hnp : IX (hI h (B + 52) 0) np) (lnp : np ≤ 8) (n : Nat) (hn : IX (hI h (B + 52) 1) n) (ln : n ≤ 5) (h7 : ¬ (hI h (B + 52) 7).toInt64 = 0) (c : Int32) (often : Int64) (way : Int32) (b : Nat) (hbk : b + 3 = np) (hd : ∀ j, b ≤ j → j < 8 → hI h (B + 56) j = 0) : AM g 12 0 0 mX12_ways [.ref (B + 51), .int (nI b), .long often, .int way, .int c] h (fun rv h' => rv = none ∧ FR (Aq B) h h' ∧ (hI h' (B + 56) = hI h (B + 56)) ∧ (∀ j, j ≠ 17 → j ≠ 18 → hI h' (B + 51) j = hI h (B + 51) j) ∧ (MW h' B = wyS (fun dl => fbW P (hI h (B + 52)) dl hl np n c) (hI h (B + 52)) 3 b (hI h (B + 56)) often way (MW h B))) := by
  refine AM.of [(0, .ref (B + 51)), (1, .int (nI b)), (2, .long often), (4, .int way), (5, .int c)] (by decide) (Nat.le_of_ble_eq_true rfl) rfl ?_
  intro V hV
  have hb : V.2.1.2.1 = cX12_ways := by subst hV; rfl
  have ow : V.2.1.1.cls = RX12 := by subst hV; rfl
  have hr : V.2.2.1 = aw_rm 12 0 0 := by subst hV; rfl
  have hz : V.2.2.2 = aw_Z V.1 (fun rv h' => rv = none ∧ FR (Aq B) h h' ∧ (hI h' (B + 56) = hI h (B + 56)) ∧ (∀ j, j ≠ 17 → j ≠ 18 → hI h' (B + 51) j = hI h (B + 51) j) ∧ (MW h' B = wyS (fun dl => fbW P (hI h (B + 52)) dl hl np n c) (hI h (B + 52)) 3 b (hI h (B + 56)) often way (MW h B))) V.2.2.1 := by subst hV; rfl
  have hg : V.1 = g := by subst hV; rfl
  have hret : V.2.1.2.2.2 = none := by subst hV; rfl
  have hml : V.2.1.2.2.1 = 8 := by subst hV; rfl
  clear hV
  refine a_iload_n hb dX12_ways_0 rfl 1 rfl ?_
  refine a_aload_n hb dX12_ways_1 rfl 0 rfl ?_
  refine a_getQ (q := (B + 52)) hb dX12_ways_2 (by rw [ow]; exact fl_RX12_9_12) (hL.1 51 (by decide)) (hL.2.1 (51, 1, 52) (by decide)) ?_
  refine a_iconst (v := 0) hb dX12_ways_5 (by decide) ?_
  refine b_iald (j := 0) hb dX12_ways_6 (hL.1 52 (by decide)) ⟨by decide, by decide⟩ (by decide) ?_
  refine a_icmp_ne hb 91 dX12_ways_7 (by decide) (fun c7 => ?_) (fun c7 => absurd c7 (by rw [hnp.eq.1]; exact fun e => absurd (nI_inj (by omega) (by omega) e) (by omega)))
  refine a_iconst (v := 0) hb dX12_ways_91 (by decide) ?_
  refine a_istore (L' := [(6, .int 0), (0, .ref (B + 51)), (1, .int (nI b)), (2, .long often), (4, .int way), (5, .int c)]) hb dX12_ways_92 (by rw [hml]; decide) rfl ?_
  have loop : ∀ (k i : Nat) (h1 : AH) (hF1 : FR (Aq B) h h1) (iv : (∃ v, hI h1 (B + 56) = upd (hI h (B + 56)) b v) ∧ (∀ j, j ≠ 17 → j ≠ 18 → hI h1 (B + 51) j = hI h (B + 51) j) ∧ MW h1 B = wyF (fun d W => if 0 < odS (hI h (B + 52)) b (nI d) then wyS (fun dl => fbW P (hI h (B + 52)) dl hl np n c) (hI h (B + 52)) 2 (b + 1) (upd (hI h (B + 56)) b (nI d)) (if hI h (B + 52) (162 + b) = 10 then often else often * (odS (hI h (B + 52)) b (nI d)).toInt64) (10 * way + nI d) W else W) i (MW h B)), i + k = 3 → AW V 0 0 h1 94 [(0, .ref (B + 51)), (1, .int (nI b)), (2, .long often), (4, .int way), (5, .int c), (6, .int (nI i))] [] := by
    intro k
    induction k with
    | zero =>
      intro i h1 hF1 iv hi
      have hL0_ : LY h1 B := FR.ly hF1 hL
      have hS0_52 : hI h1 (B + 52) = hI h (B + 52) := hF1.2.2.2.2 _ (by unfold Aq; omega)
      obtain ⟨⟨v0, hv0⟩, iv2, iv3⟩ := iv
      refine a_iload hb dX12_ways_94 5 rfl ?_
      refine a_iconst (v := 3) hb dX12_ways_96 (by decide) ?_
      refine a_icmp_ge hb 169 dX12_ways_97 (by decide) (fun c97 => ?_) (fun c97 => absurd (by exact nI_le (b := i) (a := 3) (by omega) (by omega)) c97)
      refine a_aload_n hb dX12_ways_169 rfl 0 rfl ?_
      refine a_getQ (q := (B + 56)) hb dX12_ways_170 (by rw [ow]; exact fl_RX12_25_12) (hL0_.1 51 (by decide)) (hL0_.2.1 (51, 11, 56) (by decide)) ?_
      refine a_iload_n hb dX12_ways_173 rfl 1 rfl ?_
      refine a_iconst (v := 0) hb dX12_ways_174 (by decide) ?_
      refine b_iast (j := b) hb dX12_ways_175 (hL0_.1 56 (by decide)) (IX.n (by omega)) (by omega) ?_
      exact a_return hb hz dX12_ways_176 hret (by rw [hr]; exact Nat.le_of_ble_eq_true rfl) (by rw [hr]; exact Nat.le_of_ble_eq_true rfl) (⟨rfl, (FR.I hF1 (by unfold Aq; omega)), by rw [hI_setI_s, hv0, upd_u]; exact upd_i (hd b (by omega) (by omega)), fun j a b => by rw [hI_setI_n (by omega)]; exact iv2 j a b, (show MW _ B = MW h1 B by unfold MW; rw [hI_setI_n (by omega)]; rfl).trans (by rw [iv3, show i = 3 by omega]; rfl)⟩)
    | succ k ih =>
      intro i h1 hF1 iv hi
      have hL0_ : LY h1 B := FR.ly hF1 hL
      have hS0_52 : hI h1 (B + 52) = hI h (B + 52) := hF1.2.2.2.2 _ (by unfold Aq; omega)
      obtain ⟨⟨v0, hv0⟩, iv2, iv3⟩ := iv
      refine a_iload hb dX12_ways_94 5 rfl ?_
      refine a_iconst (v := 3) hb dX12_ways_96 (by decide) ?_
      refine a_icmp_ge hb 169 dX12_ways_97 (by decide) (fun c97 => absurd c97 (by exact nI_ge (b := 3) (a := i) (by omega) (by omega))) (fun c97 => ?_)
      refine a_aload_n hb dX12_ways_100 rfl 0 rfl ?_
      refine a_iload_n hb dX12_ways_101 rfl 1 rfl ?_
      refine a_iload hb dX12_ways_102 5 rfl ?_
      refine a_callV hb dX12_ways_104 (by rw [hg]; have h0 := m_oddsOf g h1 B hL0_ b (by omega) (nI i); rw [hS0_52] at h0; exact h0) (by rw [ow]; exact clv_RX12_211) (hL0_.1 51 (by decide)) (by decide) rfl rfl rfl (Nat.le_of_ble_eq_true rfl) (by rw [hr]; exact ⟨by decide, by decide⟩) (by rw [hr]; exact ⟨Nat.le_of_ble_eq_true rfl, Nat.le_of_ble_eq_true rfl⟩) ?_
      intro rv h' hp
      rw [hp.1, hp.2]
      show AW V 0 0 h1 107 [(0, .ref (B + 51)), (1, .int (nI b)), (2, .long often), (4, .int way), (5, .int c), (6, .int (nI i))] [.int (odS (hI h (B + 52)) b (nI i))]
      refine a_istore (L' := [(7, .int (odS (hI h (B + 52)) b (nI i))), (0, .ref (B + 51)), (1, .int (nI b)), (2, .long often), (4, .int way), (5, .int c), (6, .int (nI i))]) hb dX12_ways_107 (by rw [hml]; decide) rfl ?_
      refine a_iload hb dX12_ways_109 0 rfl ?_
      refine a_if_le hb 163 dX12_ways_111 (by decide) (fun c111 => ?_) (fun c111 => ?_)
      · have c111' := Int32.not_lt.mpr c111
        refine a_iinc (v := ((nI i) + 1)) (L' := [(6, .int ((nI i) + 1)), (7, .int (odS (hI h (B + 52)) b (nI i))), (0, .ref (B + 51)), (1, .int (nI b)), (2, .long often), (4, .int way), (5, .int c)]) hb dX12_ways_163 6 rfl rfl (by rw [hml]; decide) rfl ?_
        refine a_goto hb 94 dX12_ways_166 (by decide) ?_
        refine AW.sub (L' := [(0, .ref (B + 51)), (1, .int (nI b)), (2, .long often), (4, .int way), (5, .int c), (6, .int ((nI i) + 1))]) [2, 3, 4, 5, 6, 0] rfl ?_
        exact AW.eq (ih (i + 1) h1 hF1 (⟨⟨v0, hv0⟩, iv2, by rw [iv3]; simp only [wyF]; rw [if_neg c111']⟩) (by omega)) rfl rfl (by first | (simp only [nI_1]; done) | (simp only [nI_1]; rfl)) rfl
      · have c111' := Int32.not_le.mp c111
        refine a_aload_n hb dX12_ways_114 rfl 1 rfl ?_
        refine a_getQ (q := (B + 56)) hb dX12_ways_115 (by rw [ow]; exact fl_RX12_25_12) (hL0_.1 51 (by decide)) (hL0_.2.1 (51, 11, 56) (by decide)) ?_
        refine a_iload_n hb dX12_ways_118 rfl 2 rfl ?_
        refine a_iload hb dX12_ways_119 6 rfl ?_
        refine b_iast (j := b) hb dX12_ways_121 (hL0_.1 56 (by decide)) (IX.n (by omega)) (by omega) ?_
        generalize eh1 : (setI h1 (B + 56) b (nI i)) = h1_
        have hF1 : FR (Aq B) h h1_ := by rw [← eh1]; exact (FR.I hF1 (by unfold Aq; omega))
        have hL1 : LY h1_ B := FR.ly hF1 hL
        have hW1 : hI h1_ (B + 56) = upd (hI h1 (B + 56)) b (nI i) := by rw [← eh1]; exact hI_setI_s
        have hS1_52 : hI h1_ (B + 52) = hI h (B + 52) := hF1.2.2.2.2 _ (by unfold Aq; omega)
        have hT1_51 : hI h1_ (B + 51) = hI h1 (B + 51) := by rw [← eh1]; exact hI_setI_n (by omega)
        have hJW1 : hJ h1_ = hJ h1 := by rw [← eh1]; rfl
        clear eh1
        have hR : hI h1_ (B + 56) = upd (hI h (B + 56)) b (nI i) := by rw [hW1, hv0, upd_u]
        have hM : MW h1_ B = MW h1 B := by unfold MW; rw [hJW1, hT1_51]
        refine a_aload_n hb dX12_ways_122 rfl 1 rfl ?_
        refine a_iload_n hb dX12_ways_123 rfl 2 rfl ?_
        refine a_iconst (v := 1) hb dX12_ways_124 (by decide) ?_
        refine a_iadd hb dX12_ways_125 ?_
        refine a_aload_n hb dX12_ways_126 rfl 1 rfl ?_
        refine a_getQ (q := (B + 52)) hb dX12_ways_127 (by rw [ow]; exact fl_RX12_9_12) (hL1.1 51 (by decide)) (hL1.2.1 (51, 1, 52) (by decide)) ?_
        refine a_sipush (v := 162) hb dX12_ways_130 (by decide) ?_
        refine a_iload_n hb dX12_ways_133 rfl 2 rfl ?_
        refine a_iadd hb dX12_ways_134 ?_
        refine b_iald (j := (162 + b)) hb dX12_ways_135 (hL1.1 52 (by decide)) (IX.add ⟨by decide, by decide⟩ (IX.n (by omega)) (by omega)) (by omega) ?_
        rw [hS1_52]
        refine a_bipush (v := 10) hb dX12_ways_136 (by decide) ?_
        refine a_icmp_ne hb 145 dX12_ways_138 (by decide) (fun c138 => ?_) (fun c138 => ?_)
        · refine a_lload_n hb dX12_ways_145 rfl 3 rfl ?_
          refine a_iload hb dX12_ways_146 0 rfl ?_
          refine a_i2l hb dX12_ways_148 rfl ?_
          refine a_lmul hb dX12_ways_149 ?_
          refine a_bipush (v := 10) hb dX12_ways_150 (by decide) ?_
          refine a_iload hb dX12_ways_152 4 rfl ?_
          refine a_imul hb dX12_ways_154 ?_
          refine a_iload hb dX12_ways_155 6 rfl ?_
          refine a_iadd hb dX12_ways_157 ?_
          refine a_iload hb dX12_ways_158 5 rfl ?_
          refine a_callV hb dX12_ways_160 (by rw [hg]; have h0 := m_wy2 g h1_ B hL1 P (hP.mv (FR.mo (A := Aq B) (A' := Ax B) hF1 (by intro a; unfold Aq Ax; omega))) (by rw [hS1_52]; exact h6) hl (by rw [hS1_52]; exact hhl) lhl np (by rw [hS1_52]; exact hnp) lnp n (by rw [hS1_52]; exact hn) ln (by rw [hS1_52]; exact h7) c (often * ((odS (hI h (B + 52)) b (nI i)).toInt64)) ((10 * way) + (nI i)) (b + 1) (by omega) (by intro j a e; rw [hR, upd_n (by omega)]; exact hd j (by omega) e); (try rw [hS1_52] at h0); (try rw [hR] at h0); rw [show nI (b + 1) = nI b + 1 from by rw [nI_1]] at h0; exact h0) (by rw [ow]; exact clv_RX12_214) (hL1.1 51 (by decide)) (by decide) rfl rfl rfl (Nat.le_of_ble_eq_true rfl) (by rw [hr]; exact ⟨by decide, by decide⟩) (by rw [hr]; exact ⟨Nat.le_of_ble_eq_true rfl, Nat.le_of_ble_eq_true rfl⟩) ?_
          intro rv h2_ hp
          obtain ⟨hv, hf2, hx2_0, hx2_1, hx2_2⟩ := hp
          rw [hv]
          have hF2 := FR.tr hF1 hf2
          have hL2 : LY h2_ B := FR.ly hF2 hL
          have hS2_52 : hI h2_ (B + 52) = hI h (B + 52) := hF2.2.2.2.2 _ (by unfold Aq; omega)
          clear hv
          show AW V 0 0 h2_ 163 [(7, .int (odS (hI h (B + 52)) b (nI i))), (0, .ref (B + 51)), (1, .int (nI b)), (2, .long often), (4, .int way), (5, .int c), (6, .int (nI i))] []
          refine a_iinc (v := ((nI i) + 1)) (L' := [(6, .int ((nI i) + 1)), (7, .int (odS (hI h (B + 52)) b (nI i))), (0, .ref (B + 51)), (1, .int (nI b)), (2, .long often), (4, .int way), (5, .int c)]) hb dX12_ways_163 6 rfl rfl (by rw [hml]; decide) rfl ?_
          refine a_goto hb 94 dX12_ways_166 (by decide) ?_
          refine AW.sub (L' := [(0, .ref (B + 51)), (1, .int (nI b)), (2, .long often), (4, .int way), (5, .int c), (6, .int ((nI i) + 1))]) [2, 3, 4, 5, 6, 0] rfl ?_
          exact AW.eq (ih (i + 1) h2_ hF2 (⟨⟨nI i, hx2_0⟩, fun j a b => (hx2_1 j a b).trans ((congrFun hT1_51 j).trans (iv2 j a b)), by rw [hx2_2, hM, iv3]; simp only [wyF]; rw [if_pos c111', if_neg c138]⟩) (by omega)) rfl rfl (by first | (simp only [nI_1]; done) | (simp only [nI_1]; rfl)) rfl
        · refine a_lload_n hb dX12_ways_141 rfl 3 rfl ?_
          refine a_goto hb 150 dX12_ways_142 (by decide) ?_
          refine a_bipush (v := 10) hb dX12_ways_150 (by decide) ?_
          refine a_iload hb dX12_ways_152 4 rfl ?_
          refine a_imul hb dX12_ways_154 ?_
          refine a_iload hb dX12_ways_155 6 rfl ?_
          refine a_iadd hb dX12_ways_157 ?_
          refine a_iload hb dX12_ways_158 5 rfl ?_
          refine a_callV hb dX12_ways_160 (by rw [hg]; have h0 := m_wy2 g h1_ B hL1 P (hP.mv (FR.mo (A := Aq B) (A' := Ax B) hF1 (by intro a; unfold Aq Ax; omega))) (by rw [hS1_52]; exact h6) hl (by rw [hS1_52]; exact hhl) lhl np (by rw [hS1_52]; exact hnp) lnp n (by rw [hS1_52]; exact hn) ln (by rw [hS1_52]; exact h7) c often ((10 * way) + (nI i)) (b + 1) (by omega) (by intro j a e; rw [hR, upd_n (by omega)]; exact hd j (by omega) e); (try rw [hS1_52] at h0); (try rw [hR] at h0); rw [show nI (b + 1) = nI b + 1 from by rw [nI_1]] at h0; exact h0) (by rw [ow]; exact clv_RX12_214) (hL1.1 51 (by decide)) (by decide) rfl rfl rfl (Nat.le_of_ble_eq_true rfl) (by rw [hr]; exact ⟨by decide, by decide⟩) (by rw [hr]; exact ⟨Nat.le_of_ble_eq_true rfl, Nat.le_of_ble_eq_true rfl⟩) ?_
          intro rv h3_ hp
          obtain ⟨hv, hf3, hx3_0, hx3_1, hx3_2⟩ := hp
          rw [hv]
          have hF3 := FR.tr hF1 hf3
          have hL3 : LY h3_ B := FR.ly hF3 hL
          have hS3_52 : hI h3_ (B + 52) = hI h (B + 52) := hF3.2.2.2.2 _ (by unfold Aq; omega)
          clear hv
          show AW V 0 0 h3_ 163 [(7, .int (odS (hI h (B + 52)) b (nI i))), (0, .ref (B + 51)), (1, .int (nI b)), (2, .long often), (4, .int way), (5, .int c), (6, .int (nI i))] []
          refine a_iinc (v := ((nI i) + 1)) (L' := [(6, .int ((nI i) + 1)), (7, .int (odS (hI h (B + 52)) b (nI i))), (0, .ref (B + 51)), (1, .int (nI b)), (2, .long often), (4, .int way), (5, .int c)]) hb dX12_ways_163 6 rfl rfl (by rw [hml]; decide) rfl ?_
          refine a_goto hb 94 dX12_ways_166 (by decide) ?_
          refine AW.sub (L' := [(0, .ref (B + 51)), (1, .int (nI b)), (2, .long often), (4, .int way), (5, .int c), (6, .int ((nI i) + 1))]) [2, 3, 4, 5, 6, 0] rfl ?_
          exact AW.eq (ih (i + 1) h3_ hF3 (⟨⟨nI i, hx3_0⟩, fun j a b => (hx3_1 j a b).trans ((congrFun hT1_51 j).trans (iv2 j a b)), by rw [hx3_2, hM, iv3]; simp only [wyF]; rw [if_pos c111', if_pos c138]⟩) (by omega)) rfl rfl (by first | (simp only [nI_1]; done) | (simp only [nI_1]; rfl)) rfl
  refine AW.sub (L' := [(0, .ref (B + 51)), (1, .int (nI b)), (2, .long often), (4, .int way), (5, .int c), (6, .int 0)]) [1, 2, 3, 4, 5, 0] rfl ?_
  exact AW.eq (loop 3 0 h FR.rf ⟨⟨_, (upd_i rfl).symm⟩, fun _ _ _ => rfl, rfl⟩ (by omega)) rfl rfl (rfl) rfl
set_option maxRecDepth 100000 in
theorem m_wy4 (g : GG) (h : AH) (B : Nat) (hL : LY h B) (P : PF) (hP : PcM g B h P) (h6 : ¬ hI h (B + 52) 6 = 0) (hl : Nat) (hhl : IX (hI h (B + 52) 8) hl) (lhl : hl < 5) (np : Nat) (hnp : IX (hI h (B + 52) 0) np) (lnp : np ≤ 8) (n : Nat) (hn : IX (hI h (B + 52) 1) n) (ln : n ≤ 5) (h7 : ¬ (hI h (B + 52) 7).toInt64 = 0) (c : Int32) (often : Int64) (way : Int32) (b : Nat) (hbk : b + 4 = np) (hd : ∀ j, b ≤ j → j < 8 → hI h (B + 56) j = 0) : AM g 13 0 0 mX12_ways [.ref (B + 51), .int (nI b), .long often, .int way, .int c] h (fun rv h' => rv = none ∧ FR (Aq B) h h' ∧ (hI h' (B + 56) = hI h (B + 56)) ∧ (∀ j, j ≠ 17 → j ≠ 18 → hI h' (B + 51) j = hI h (B + 51) j) ∧ (MW h' B = wyS (fun dl => fbW P (hI h (B + 52)) dl hl np n c) (hI h (B + 52)) 4 b (hI h (B + 56)) often way (MW h B))) := by
  refine AM.of [(0, .ref (B + 51)), (1, .int (nI b)), (2, .long often), (4, .int way), (5, .int c)] (by decide) (Nat.le_of_ble_eq_true rfl) rfl ?_
  intro V hV
  have hb : V.2.1.2.1 = cX12_ways := by subst hV; rfl
  have ow : V.2.1.1.cls = RX12 := by subst hV; rfl
  have hr : V.2.2.1 = aw_rm 13 0 0 := by subst hV; rfl
  have hz : V.2.2.2 = aw_Z V.1 (fun rv h' => rv = none ∧ FR (Aq B) h h' ∧ (hI h' (B + 56) = hI h (B + 56)) ∧ (∀ j, j ≠ 17 → j ≠ 18 → hI h' (B + 51) j = hI h (B + 51) j) ∧ (MW h' B = wyS (fun dl => fbW P (hI h (B + 52)) dl hl np n c) (hI h (B + 52)) 4 b (hI h (B + 56)) often way (MW h B))) V.2.2.1 := by subst hV; rfl
  have hg : V.1 = g := by subst hV; rfl
  have hret : V.2.1.2.2.2 = none := by subst hV; rfl
  have hml : V.2.1.2.2.1 = 8 := by subst hV; rfl
  clear hV
  refine a_iload_n hb dX12_ways_0 rfl 1 rfl ?_
  refine a_aload_n hb dX12_ways_1 rfl 0 rfl ?_
  refine a_getQ (q := (B + 52)) hb dX12_ways_2 (by rw [ow]; exact fl_RX12_9_12) (hL.1 51 (by decide)) (hL.2.1 (51, 1, 52) (by decide)) ?_
  refine a_iconst (v := 0) hb dX12_ways_5 (by decide) ?_
  refine b_iald (j := 0) hb dX12_ways_6 (hL.1 52 (by decide)) ⟨by decide, by decide⟩ (by decide) ?_
  refine a_icmp_ne hb 91 dX12_ways_7 (by decide) (fun c7 => ?_) (fun c7 => absurd c7 (by rw [hnp.eq.1]; exact fun e => absurd (nI_inj (by omega) (by omega) e) (by omega)))
  refine a_iconst (v := 0) hb dX12_ways_91 (by decide) ?_
  refine a_istore (L' := [(6, .int 0), (0, .ref (B + 51)), (1, .int (nI b)), (2, .long often), (4, .int way), (5, .int c)]) hb dX12_ways_92 (by rw [hml]; decide) rfl ?_
  have loop : ∀ (k i : Nat) (h1 : AH) (hF1 : FR (Aq B) h h1) (iv : (∃ v, hI h1 (B + 56) = upd (hI h (B + 56)) b v) ∧ (∀ j, j ≠ 17 → j ≠ 18 → hI h1 (B + 51) j = hI h (B + 51) j) ∧ MW h1 B = wyF (fun d W => if 0 < odS (hI h (B + 52)) b (nI d) then wyS (fun dl => fbW P (hI h (B + 52)) dl hl np n c) (hI h (B + 52)) 3 (b + 1) (upd (hI h (B + 56)) b (nI d)) (if hI h (B + 52) (162 + b) = 10 then often else often * (odS (hI h (B + 52)) b (nI d)).toInt64) (10 * way + nI d) W else W) i (MW h B)), i + k = 3 → AW V 0 0 h1 94 [(0, .ref (B + 51)), (1, .int (nI b)), (2, .long often), (4, .int way), (5, .int c), (6, .int (nI i))] [] := by
    intro k
    induction k with
    | zero =>
      intro i h1 hF1 iv hi
      have hL0_ : LY h1 B := FR.ly hF1 hL
      have hS0_52 : hI h1 (B + 52) = hI h (B + 52) := hF1.2.2.2.2 _ (by unfold Aq; omega)
      obtain ⟨⟨v0, hv0⟩, iv2, iv3⟩ := iv
      refine a_iload hb dX12_ways_94 5 rfl ?_
      refine a_iconst (v := 3) hb dX12_ways_96 (by decide) ?_
      refine a_icmp_ge hb 169 dX12_ways_97 (by decide) (fun c97 => ?_) (fun c97 => absurd (by exact nI_le (b := i) (a := 3) (by omega) (by omega)) c97)
      refine a_aload_n hb dX12_ways_169 rfl 0 rfl ?_
      refine a_getQ (q := (B + 56)) hb dX12_ways_170 (by rw [ow]; exact fl_RX12_25_12) (hL0_.1 51 (by decide)) (hL0_.2.1 (51, 11, 56) (by decide)) ?_
      refine a_iload_n hb dX12_ways_173 rfl 1 rfl ?_
      refine a_iconst (v := 0) hb dX12_ways_174 (by decide) ?_
      refine b_iast (j := b) hb dX12_ways_175 (hL0_.1 56 (by decide)) (IX.n (by omega)) (by omega) ?_
      exact a_return hb hz dX12_ways_176 hret (by rw [hr]; exact Nat.le_of_ble_eq_true rfl) (by rw [hr]; exact Nat.le_of_ble_eq_true rfl) (⟨rfl, (FR.I hF1 (by unfold Aq; omega)), by rw [hI_setI_s, hv0, upd_u]; exact upd_i (hd b (by omega) (by omega)), fun j a b => by rw [hI_setI_n (by omega)]; exact iv2 j a b, (show MW _ B = MW h1 B by unfold MW; rw [hI_setI_n (by omega)]; rfl).trans (by rw [iv3, show i = 3 by omega]; rfl)⟩)
    | succ k ih =>
      intro i h1 hF1 iv hi
      have hL0_ : LY h1 B := FR.ly hF1 hL
      have hS0_52 : hI h1 (B + 52) = hI h (B + 52) := hF1.2.2.2.2 _ (by unfold Aq; omega)
      obtain ⟨⟨v0, hv0⟩, iv2, iv3⟩ := iv
      refine a_iload hb dX12_ways_94 5 rfl ?_
      refine a_iconst (v := 3) hb dX12_ways_96 (by decide) ?_
      refine a_icmp_ge hb 169 dX12_ways_97 (by decide) (fun c97 => absurd c97 (by exact nI_ge (b := 3) (a := i) (by omega) (by omega))) (fun c97 => ?_)
      refine a_aload_n hb dX12_ways_100 rfl 0 rfl ?_
      refine a_iload_n hb dX12_ways_101 rfl 1 rfl ?_
      refine a_iload hb dX12_ways_102 5 rfl ?_
      refine a_callV hb dX12_ways_104 (by rw [hg]; have h0 := m_oddsOf g h1 B hL0_ b (by omega) (nI i); rw [hS0_52] at h0; exact h0) (by rw [ow]; exact clv_RX12_211) (hL0_.1 51 (by decide)) (by decide) rfl rfl rfl (Nat.le_of_ble_eq_true rfl) (by rw [hr]; exact ⟨by decide, by decide⟩) (by rw [hr]; exact ⟨Nat.le_of_ble_eq_true rfl, Nat.le_of_ble_eq_true rfl⟩) ?_
      intro rv h' hp
      rw [hp.1, hp.2]
      show AW V 0 0 h1 107 [(0, .ref (B + 51)), (1, .int (nI b)), (2, .long often), (4, .int way), (5, .int c), (6, .int (nI i))] [.int (odS (hI h (B + 52)) b (nI i))]
      refine a_istore (L' := [(7, .int (odS (hI h (B + 52)) b (nI i))), (0, .ref (B + 51)), (1, .int (nI b)), (2, .long often), (4, .int way), (5, .int c), (6, .int (nI i))]) hb dX12_ways_107 (by rw [hml]; decide) rfl ?_
      refine a_iload hb dX12_ways_109 0 rfl ?_
      refine a_if_le hb 163 dX12_ways_111 (by decide) (fun c111 => ?_) (fun c111 => ?_)
      · have c111' := Int32.not_lt.mpr c111
        refine a_iinc (v := ((nI i) + 1)) (L' := [(6, .int ((nI i) + 1)), (7, .int (odS (hI h (B + 52)) b (nI i))), (0, .ref (B + 51)), (1, .int (nI b)), (2, .long often), (4, .int way), (5, .int c)]) hb dX12_ways_163 6 rfl rfl (by rw [hml]; decide) rfl ?_
        refine a_goto hb 94 dX12_ways_166 (by decide) ?_
        refine AW.sub (L' := [(0, .ref (B + 51)), (1, .int (nI b)), (2, .long often), (4, .int way), (5, .int c), (6, .int ((nI i) + 1))]) [2, 3, 4, 5, 6, 0] rfl ?_
        exact AW.eq (ih (i + 1) h1 hF1 (⟨⟨v0, hv0⟩, iv2, by rw [iv3]; simp only [wyF]; rw [if_neg c111']⟩) (by omega)) rfl rfl (by first | (simp only [nI_1]; done) | (simp only [nI_1]; rfl)) rfl
      · have c111' := Int32.not_le.mp c111
        refine a_aload_n hb dX12_ways_114 rfl 1 rfl ?_
        refine a_getQ (q := (B + 56)) hb dX12_ways_115 (by rw [ow]; exact fl_RX12_25_12) (hL0_.1 51 (by decide)) (hL0_.2.1 (51, 11, 56) (by decide)) ?_
        refine a_iload_n hb dX12_ways_118 rfl 2 rfl ?_
        refine a_iload hb dX12_ways_119 6 rfl ?_
        refine b_iast (j := b) hb dX12_ways_121 (hL0_.1 56 (by decide)) (IX.n (by omega)) (by omega) ?_
        generalize eh1 : (setI h1 (B + 56) b (nI i)) = h1_
        have hF1 : FR (Aq B) h h1_ := by rw [← eh1]; exact (FR.I hF1 (by unfold Aq; omega))
        have hL1 : LY h1_ B := FR.ly hF1 hL
        have hW1 : hI h1_ (B + 56) = upd (hI h1 (B + 56)) b (nI i) := by rw [← eh1]; exact hI_setI_s
        have hS1_52 : hI h1_ (B + 52) = hI h (B + 52) := hF1.2.2.2.2 _ (by unfold Aq; omega)
        have hT1_51 : hI h1_ (B + 51) = hI h1 (B + 51) := by rw [← eh1]; exact hI_setI_n (by omega)
        have hJW1 : hJ h1_ = hJ h1 := by rw [← eh1]; rfl
        clear eh1
        have hR : hI h1_ (B + 56) = upd (hI h (B + 56)) b (nI i) := by rw [hW1, hv0, upd_u]
        have hM : MW h1_ B = MW h1 B := by unfold MW; rw [hJW1, hT1_51]
        refine a_aload_n hb dX12_ways_122 rfl 1 rfl ?_
        refine a_iload_n hb dX12_ways_123 rfl 2 rfl ?_
        refine a_iconst (v := 1) hb dX12_ways_124 (by decide) ?_
        refine a_iadd hb dX12_ways_125 ?_
        refine a_aload_n hb dX12_ways_126 rfl 1 rfl ?_
        refine a_getQ (q := (B + 52)) hb dX12_ways_127 (by rw [ow]; exact fl_RX12_9_12) (hL1.1 51 (by decide)) (hL1.2.1 (51, 1, 52) (by decide)) ?_
        refine a_sipush (v := 162) hb dX12_ways_130 (by decide) ?_
        refine a_iload_n hb dX12_ways_133 rfl 2 rfl ?_
        refine a_iadd hb dX12_ways_134 ?_
        refine b_iald (j := (162 + b)) hb dX12_ways_135 (hL1.1 52 (by decide)) (IX.add ⟨by decide, by decide⟩ (IX.n (by omega)) (by omega)) (by omega) ?_
        rw [hS1_52]
        refine a_bipush (v := 10) hb dX12_ways_136 (by decide) ?_
        refine a_icmp_ne hb 145 dX12_ways_138 (by decide) (fun c138 => ?_) (fun c138 => ?_)
        · refine a_lload_n hb dX12_ways_145 rfl 3 rfl ?_
          refine a_iload hb dX12_ways_146 0 rfl ?_
          refine a_i2l hb dX12_ways_148 rfl ?_
          refine a_lmul hb dX12_ways_149 ?_
          refine a_bipush (v := 10) hb dX12_ways_150 (by decide) ?_
          refine a_iload hb dX12_ways_152 4 rfl ?_
          refine a_imul hb dX12_ways_154 ?_
          refine a_iload hb dX12_ways_155 6 rfl ?_
          refine a_iadd hb dX12_ways_157 ?_
          refine a_iload hb dX12_ways_158 5 rfl ?_
          refine a_callV hb dX12_ways_160 (by rw [hg]; have h0 := m_wy3 g h1_ B hL1 P (hP.mv (FR.mo (A := Aq B) (A' := Ax B) hF1 (by intro a; unfold Aq Ax; omega))) (by rw [hS1_52]; exact h6) hl (by rw [hS1_52]; exact hhl) lhl np (by rw [hS1_52]; exact hnp) lnp n (by rw [hS1_52]; exact hn) ln (by rw [hS1_52]; exact h7) c (often * ((odS (hI h (B + 52)) b (nI i)).toInt64)) ((10 * way) + (nI i)) (b + 1) (by omega) (by intro j a e; rw [hR, upd_n (by omega)]; exact hd j (by omega) e); (try rw [hS1_52] at h0); (try rw [hR] at h0); rw [show nI (b + 1) = nI b + 1 from by rw [nI_1]] at h0; exact h0) (by rw [ow]; exact clv_RX12_214) (hL1.1 51 (by decide)) (by decide) rfl rfl rfl (Nat.le_of_ble_eq_true rfl) (by rw [hr]; exact ⟨by decide, by decide⟩) (by rw [hr]; exact ⟨Nat.le_of_ble_eq_true rfl, Nat.le_of_ble_eq_true rfl⟩) ?_
          intro rv h2_ hp
          obtain ⟨hv, hf2, hx2_0, hx2_1, hx2_2⟩ := hp
          rw [hv]
          have hF2 := FR.tr hF1 hf2
          have hL2 : LY h2_ B := FR.ly hF2 hL
          have hS2_52 : hI h2_ (B + 52) = hI h (B + 52) := hF2.2.2.2.2 _ (by unfold Aq; omega)
          clear hv
          show AW V 0 0 h2_ 163 [(7, .int (odS (hI h (B + 52)) b (nI i))), (0, .ref (B + 51)), (1, .int (nI b)), (2, .long often), (4, .int way), (5, .int c), (6, .int (nI i))] []
          refine a_iinc (v := ((nI i) + 1)) (L' := [(6, .int ((nI i) + 1)), (7, .int (odS (hI h (B + 52)) b (nI i))), (0, .ref (B + 51)), (1, .int (nI b)), (2, .long often), (4, .int way), (5, .int c)]) hb dX12_ways_163 6 rfl rfl (by rw [hml]; decide) rfl ?_
          refine a_goto hb 94 dX12_ways_166 (by decide) ?_
          refine AW.sub (L' := [(0, .ref (B + 51)), (1, .int (nI b)), (2, .long often), (4, .int way), (5, .int c), (6, .int ((nI i) + 1))]) [2, 3, 4, 5, 6, 0] rfl ?_
          exact AW.eq (ih (i + 1) h2_ hF2 (⟨⟨nI i, hx2_0⟩, fun j a b => (hx2_1 j a b).trans ((congrFun hT1_51 j).trans (iv2 j a b)), by rw [hx2_2, hM, iv3]; simp only [wyF]; rw [if_pos c111', if_neg c138]⟩) (by omega)) rfl rfl (by first | (simp only [nI_1]; done) | (simp only [nI_1]; rfl)) rfl
        · refine a_lload_n hb dX12_ways_141 rfl 3 rfl ?_
          refine a_goto hb 150 dX12_ways_142 (by decide) ?_
          refine a_bipush (v := 10) hb dX12_ways_150 (by decide) ?_
          refine a_iload hb dX12_ways_152 4 rfl ?_
          refine a_imul hb dX12_ways_154 ?_
          refine a_iload hb dX12_ways_155 6 rfl ?_
          refine a_iadd hb dX12_ways_157 ?_
          refine a_iload hb dX12_ways_158 5 rfl ?_
          refine a_callV hb dX12_ways_160 (by rw [hg]; have h0 := m_wy3 g h1_ B hL1 P (hP.mv (FR.mo (A := Aq B) (A' := Ax B) hF1 (by intro a; unfold Aq Ax; omega))) (by rw [hS1_52]; exact h6) hl (by rw [hS1_52]; exact hhl) lhl np (by rw [hS1_52]; exact hnp) lnp n (by rw [hS1_52]; exact hn) ln (by rw [hS1_52]; exact h7) c often ((10 * way) + (nI i)) (b + 1) (by omega) (by intro j a e; rw [hR, upd_n (by omega)]; exact hd j (by omega) e); (try rw [hS1_52] at h0); (try rw [hR] at h0); rw [show nI (b + 1) = nI b + 1 from by rw [nI_1]] at h0; exact h0) (by rw [ow]; exact clv_RX12_214) (hL1.1 51 (by decide)) (by decide) rfl rfl rfl (Nat.le_of_ble_eq_true rfl) (by rw [hr]; exact ⟨by decide, by decide⟩) (by rw [hr]; exact ⟨Nat.le_of_ble_eq_true rfl, Nat.le_of_ble_eq_true rfl⟩) ?_
          intro rv h3_ hp
          obtain ⟨hv, hf3, hx3_0, hx3_1, hx3_2⟩ := hp
          rw [hv]
          have hF3 := FR.tr hF1 hf3
          have hL3 : LY h3_ B := FR.ly hF3 hL
          have hS3_52 : hI h3_ (B + 52) = hI h (B + 52) := hF3.2.2.2.2 _ (by unfold Aq; omega)
          clear hv
          show AW V 0 0 h3_ 163 [(7, .int (odS (hI h (B + 52)) b (nI i))), (0, .ref (B + 51)), (1, .int (nI b)), (2, .long often), (4, .int way), (5, .int c), (6, .int (nI i))] []
          refine a_iinc (v := ((nI i) + 1)) (L' := [(6, .int ((nI i) + 1)), (7, .int (odS (hI h (B + 52)) b (nI i))), (0, .ref (B + 51)), (1, .int (nI b)), (2, .long often), (4, .int way), (5, .int c)]) hb dX12_ways_163 6 rfl rfl (by rw [hml]; decide) rfl ?_
          refine a_goto hb 94 dX12_ways_166 (by decide) ?_
          refine AW.sub (L' := [(0, .ref (B + 51)), (1, .int (nI b)), (2, .long often), (4, .int way), (5, .int c), (6, .int ((nI i) + 1))]) [2, 3, 4, 5, 6, 0] rfl ?_
          exact AW.eq (ih (i + 1) h3_ hF3 (⟨⟨nI i, hx3_0⟩, fun j a b => (hx3_1 j a b).trans ((congrFun hT1_51 j).trans (iv2 j a b)), by rw [hx3_2, hM, iv3]; simp only [wyF]; rw [if_pos c111', if_pos c138]⟩) (by omega)) rfl rfl (by first | (simp only [nI_1]; done) | (simp only [nI_1]; rfl)) rfl
  refine AW.sub (L' := [(0, .ref (B + 51)), (1, .int (nI b)), (2, .long often), (4, .int way), (5, .int c), (6, .int 0)]) [1, 2, 3, 4, 5, 0] rfl ?_
  exact AW.eq (loop 3 0 h FR.rf ⟨⟨_, (upd_i rfl).symm⟩, fun _ _ _ => rfl, rfl⟩ (by omega)) rfl rfl (rfl) rfl
set_option maxRecDepth 100000 in
theorem m_wy5 (g : GG) (h : AH) (B : Nat) (hL : LY h B) (P : PF) (hP : PcM g B h P) (h6 : ¬ hI h (B + 52) 6 = 0) (hl : Nat) (hhl : IX (hI h (B + 52) 8) hl) (lhl : hl < 5) (np : Nat) (hnp : IX (hI h (B + 52) 0) np) (lnp : np ≤ 8) (n : Nat) (hn : IX (hI h (B + 52) 1) n) (ln : n ≤ 5) (h7 : ¬ (hI h (B + 52) 7).toInt64 = 0) (c : Int32) (often : Int64) (way : Int32) (b : Nat) (hbk : b + 5 = np) (hd : ∀ j, b ≤ j → j < 8 → hI h (B + 56) j = 0) : AM g 14 0 0 mX12_ways [.ref (B + 51), .int (nI b), .long often, .int way, .int c] h (fun rv h' => rv = none ∧ FR (Aq B) h h' ∧ (hI h' (B + 56) = hI h (B + 56)) ∧ (∀ j, j ≠ 17 → j ≠ 18 → hI h' (B + 51) j = hI h (B + 51) j) ∧ (MW h' B = wyS (fun dl => fbW P (hI h (B + 52)) dl hl np n c) (hI h (B + 52)) 5 b (hI h (B + 56)) often way (MW h B))) := by
  refine AM.of [(0, .ref (B + 51)), (1, .int (nI b)), (2, .long often), (4, .int way), (5, .int c)] (by decide) (Nat.le_of_ble_eq_true rfl) rfl ?_
  intro V hV
  have hb : V.2.1.2.1 = cX12_ways := by subst hV; rfl
  have ow : V.2.1.1.cls = RX12 := by subst hV; rfl
  have hr : V.2.2.1 = aw_rm 14 0 0 := by subst hV; rfl
  have hz : V.2.2.2 = aw_Z V.1 (fun rv h' => rv = none ∧ FR (Aq B) h h' ∧ (hI h' (B + 56) = hI h (B + 56)) ∧ (∀ j, j ≠ 17 → j ≠ 18 → hI h' (B + 51) j = hI h (B + 51) j) ∧ (MW h' B = wyS (fun dl => fbW P (hI h (B + 52)) dl hl np n c) (hI h (B + 52)) 5 b (hI h (B + 56)) often way (MW h B))) V.2.2.1 := by subst hV; rfl
  have hg : V.1 = g := by subst hV; rfl
  have hret : V.2.1.2.2.2 = none := by subst hV; rfl
  have hml : V.2.1.2.2.1 = 8 := by subst hV; rfl
  clear hV
  refine a_iload_n hb dX12_ways_0 rfl 1 rfl ?_
  refine a_aload_n hb dX12_ways_1 rfl 0 rfl ?_
  refine a_getQ (q := (B + 52)) hb dX12_ways_2 (by rw [ow]; exact fl_RX12_9_12) (hL.1 51 (by decide)) (hL.2.1 (51, 1, 52) (by decide)) ?_
  refine a_iconst (v := 0) hb dX12_ways_5 (by decide) ?_
  refine b_iald (j := 0) hb dX12_ways_6 (hL.1 52 (by decide)) ⟨by decide, by decide⟩ (by decide) ?_
  refine a_icmp_ne hb 91 dX12_ways_7 (by decide) (fun c7 => ?_) (fun c7 => absurd c7 (by rw [hnp.eq.1]; exact fun e => absurd (nI_inj (by omega) (by omega) e) (by omega)))
  refine a_iconst (v := 0) hb dX12_ways_91 (by decide) ?_
  refine a_istore (L' := [(6, .int 0), (0, .ref (B + 51)), (1, .int (nI b)), (2, .long often), (4, .int way), (5, .int c)]) hb dX12_ways_92 (by rw [hml]; decide) rfl ?_
  have loop : ∀ (k i : Nat) (h1 : AH) (hF1 : FR (Aq B) h h1) (iv : (∃ v, hI h1 (B + 56) = upd (hI h (B + 56)) b v) ∧ (∀ j, j ≠ 17 → j ≠ 18 → hI h1 (B + 51) j = hI h (B + 51) j) ∧ MW h1 B = wyF (fun d W => if 0 < odS (hI h (B + 52)) b (nI d) then wyS (fun dl => fbW P (hI h (B + 52)) dl hl np n c) (hI h (B + 52)) 4 (b + 1) (upd (hI h (B + 56)) b (nI d)) (if hI h (B + 52) (162 + b) = 10 then often else often * (odS (hI h (B + 52)) b (nI d)).toInt64) (10 * way + nI d) W else W) i (MW h B)), i + k = 3 → AW V 0 0 h1 94 [(0, .ref (B + 51)), (1, .int (nI b)), (2, .long often), (4, .int way), (5, .int c), (6, .int (nI i))] [] := by
    intro k
    induction k with
    | zero =>
      intro i h1 hF1 iv hi
      have hL0_ : LY h1 B := FR.ly hF1 hL
      have hS0_52 : hI h1 (B + 52) = hI h (B + 52) := hF1.2.2.2.2 _ (by unfold Aq; omega)
      obtain ⟨⟨v0, hv0⟩, iv2, iv3⟩ := iv
      refine a_iload hb dX12_ways_94 5 rfl ?_
      refine a_iconst (v := 3) hb dX12_ways_96 (by decide) ?_
      refine a_icmp_ge hb 169 dX12_ways_97 (by decide) (fun c97 => ?_) (fun c97 => absurd (by exact nI_le (b := i) (a := 3) (by omega) (by omega)) c97)
      refine a_aload_n hb dX12_ways_169 rfl 0 rfl ?_
      refine a_getQ (q := (B + 56)) hb dX12_ways_170 (by rw [ow]; exact fl_RX12_25_12) (hL0_.1 51 (by decide)) (hL0_.2.1 (51, 11, 56) (by decide)) ?_
      refine a_iload_n hb dX12_ways_173 rfl 1 rfl ?_
      refine a_iconst (v := 0) hb dX12_ways_174 (by decide) ?_
      refine b_iast (j := b) hb dX12_ways_175 (hL0_.1 56 (by decide)) (IX.n (by omega)) (by omega) ?_
      exact a_return hb hz dX12_ways_176 hret (by rw [hr]; exact Nat.le_of_ble_eq_true rfl) (by rw [hr]; exact Nat.le_of_ble_eq_true rfl) (⟨rfl, (FR.I hF1 (by unfold Aq; omega)), by rw [hI_setI_s, hv0, upd_u]; exact upd_i (hd b (by omega) (by omega)), fun j a b => by rw [hI_setI_n (by omega)]; exact iv2 j a b, (show MW _ B = MW h1 B by unfold MW; rw [hI_setI_n (by omega)]; rfl).trans (by rw [iv3, show i = 3 by omega]; rfl)⟩)
    | succ k ih =>
      intro i h1 hF1 iv hi
      have hL0_ : LY h1 B := FR.ly hF1 hL
      have hS0_52 : hI h1 (B + 52) = hI h (B + 52) := hF1.2.2.2.2 _ (by unfold Aq; omega)
      obtain ⟨⟨v0, hv0⟩, iv2, iv3⟩ := iv
      refine a_iload hb dX12_ways_94 5 rfl ?_
      refine a_iconst (v := 3) hb dX12_ways_96 (by decide) ?_
      refine a_icmp_ge hb 169 dX12_ways_97 (by decide) (fun c97 => absurd c97 (by exact nI_ge (b := 3) (a := i) (by omega) (by omega))) (fun c97 => ?_)
      refine a_aload_n hb dX12_ways_100 rfl 0 rfl ?_
      refine a_iload_n hb dX12_ways_101 rfl 1 rfl ?_
      refine a_iload hb dX12_ways_102 5 rfl ?_
      refine a_callV hb dX12_ways_104 (by rw [hg]; have h0 := m_oddsOf g h1 B hL0_ b (by omega) (nI i); rw [hS0_52] at h0; exact h0) (by rw [ow]; exact clv_RX12_211) (hL0_.1 51 (by decide)) (by decide) rfl rfl rfl (Nat.le_of_ble_eq_true rfl) (by rw [hr]; exact ⟨by decide, by decide⟩) (by rw [hr]; exact ⟨Nat.le_of_ble_eq_true rfl, Nat.le_of_ble_eq_true rfl⟩) ?_
      intro rv h' hp
      rw [hp.1, hp.2]
      show AW V 0 0 h1 107 [(0, .ref (B + 51)), (1, .int (nI b)), (2, .long often), (4, .int way), (5, .int c), (6, .int (nI i))] [.int (odS (hI h (B + 52)) b (nI i))]
      refine a_istore (L' := [(7, .int (odS (hI h (B + 52)) b (nI i))), (0, .ref (B + 51)), (1, .int (nI b)), (2, .long often), (4, .int way), (5, .int c), (6, .int (nI i))]) hb dX12_ways_107 (by rw [hml]; decide) rfl ?_
      refine a_iload hb dX12_ways_109 0 rfl ?_
      refine a_if_le hb 163 dX12_ways_111 (by decide) (fun c111 => ?_) (fun c111 => ?_)
      · have c111' := Int32.not_lt.mpr c111
        refine a_iinc (v := ((nI i) + 1)) (L' := [(6, .int ((nI i) + 1)), (7, .int (odS (hI h (B + 52)) b (nI i))), (0, .ref (B + 51)), (1, .int (nI b)), (2, .long often), (4, .int way), (5, .int c)]) hb dX12_ways_163 6 rfl rfl (by rw [hml]; decide) rfl ?_
        refine a_goto hb 94 dX12_ways_166 (by decide) ?_
        refine AW.sub (L' := [(0, .ref (B + 51)), (1, .int (nI b)), (2, .long often), (4, .int way), (5, .int c), (6, .int ((nI i) + 1))]) [2, 3, 4, 5, 6, 0] rfl ?_
        exact AW.eq (ih (i + 1) h1 hF1 (⟨⟨v0, hv0⟩, iv2, by rw [iv3]; simp only [wyF]; rw [if_neg c111']⟩) (by omega)) rfl rfl (by first | (simp only [nI_1]; done) | (simp only [nI_1]; rfl)) rfl
      · have c111' := Int32.not_le.mp c111
        refine a_aload_n hb dX12_ways_114 rfl 1 rfl ?_
        refine a_getQ (q := (B + 56)) hb dX12_ways_115 (by rw [ow]; exact fl_RX12_25_12) (hL0_.1 51 (by decide)) (hL0_.2.1 (51, 11, 56) (by decide)) ?_
        refine a_iload_n hb dX12_ways_118 rfl 2 rfl ?_
        refine a_iload hb dX12_ways_119 6 rfl ?_
        refine b_iast (j := b) hb dX12_ways_121 (hL0_.1 56 (by decide)) (IX.n (by omega)) (by omega) ?_
        generalize eh1 : (setI h1 (B + 56) b (nI i)) = h1_
        have hF1 : FR (Aq B) h h1_ := by rw [← eh1]; exact (FR.I hF1 (by unfold Aq; omega))
        have hL1 : LY h1_ B := FR.ly hF1 hL
        have hW1 : hI h1_ (B + 56) = upd (hI h1 (B + 56)) b (nI i) := by rw [← eh1]; exact hI_setI_s
        have hS1_52 : hI h1_ (B + 52) = hI h (B + 52) := hF1.2.2.2.2 _ (by unfold Aq; omega)
        have hT1_51 : hI h1_ (B + 51) = hI h1 (B + 51) := by rw [← eh1]; exact hI_setI_n (by omega)
        have hJW1 : hJ h1_ = hJ h1 := by rw [← eh1]; rfl
        clear eh1
        have hR : hI h1_ (B + 56) = upd (hI h (B + 56)) b (nI i) := by rw [hW1, hv0, upd_u]
        have hM : MW h1_ B = MW h1 B := by unfold MW; rw [hJW1, hT1_51]
        refine a_aload_n hb dX12_ways_122 rfl 1 rfl ?_
        refine a_iload_n hb dX12_ways_123 rfl 2 rfl ?_
        refine a_iconst (v := 1) hb dX12_ways_124 (by decide) ?_
        refine a_iadd hb dX12_ways_125 ?_
        refine a_aload_n hb dX12_ways_126 rfl 1 rfl ?_
        refine a_getQ (q := (B + 52)) hb dX12_ways_127 (by rw [ow]; exact fl_RX12_9_12) (hL1.1 51 (by decide)) (hL1.2.1 (51, 1, 52) (by decide)) ?_
        refine a_sipush (v := 162) hb dX12_ways_130 (by decide) ?_
        refine a_iload_n hb dX12_ways_133 rfl 2 rfl ?_
        refine a_iadd hb dX12_ways_134 ?_
        refine b_iald (j := (162 + b)) hb dX12_ways_135 (hL1.1 52 (by decide)) (IX.add ⟨by decide, by decide⟩ (IX.n (by omega)) (by omega)) (by omega) ?_
        rw [hS1_52]
        refine a_bipush (v := 10) hb dX12_ways_136 (by decide) ?_
        refine a_icmp_ne hb 145 dX12_ways_138 (by decide) (fun c138 => ?_) (fun c138 => ?_)
        · refine a_lload_n hb dX12_ways_145 rfl 3 rfl ?_
          refine a_iload hb dX12_ways_146 0 rfl ?_
          refine a_i2l hb dX12_ways_148 rfl ?_
          refine a_lmul hb dX12_ways_149 ?_
          refine a_bipush (v := 10) hb dX12_ways_150 (by decide) ?_
          refine a_iload hb dX12_ways_152 4 rfl ?_
          refine a_imul hb dX12_ways_154 ?_
          refine a_iload hb dX12_ways_155 6 rfl ?_
          refine a_iadd hb dX12_ways_157 ?_
          refine a_iload hb dX12_ways_158 5 rfl ?_
          refine a_callV hb dX12_ways_160 (by rw [hg]; have h0 := m_wy4 g h1_ B hL1 P (hP.mv (FR.mo (A := Aq B) (A' := Ax B) hF1 (by intro a; unfold Aq Ax; omega))) (by rw [hS1_52]; exact h6) hl (by rw [hS1_52]; exact hhl) lhl np (by rw [hS1_52]; exact hnp) lnp n (by rw [hS1_52]; exact hn) ln (by rw [hS1_52]; exact h7) c (often * ((odS (hI h (B + 52)) b (nI i)).toInt64)) ((10 * way) + (nI i)) (b + 1) (by omega) (by intro j a e; rw [hR, upd_n (by omega)]; exact hd j (by omega) e); (try rw [hS1_52] at h0); (try rw [hR] at h0); rw [show nI (b + 1) = nI b + 1 from by rw [nI_1]] at h0; exact h0) (by rw [ow]; exact clv_RX12_214) (hL1.1 51 (by decide)) (by decide) rfl rfl rfl (Nat.le_of_ble_eq_true rfl) (by rw [hr]; exact ⟨by decide, by decide⟩) (by rw [hr]; exact ⟨Nat.le_of_ble_eq_true rfl, Nat.le_of_ble_eq_true rfl⟩) ?_
          intro rv h2_ hp
          obtain ⟨hv, hf2, hx2_0, hx2_1, hx2_2⟩ := hp
          rw [hv]
          have hF2 := FR.tr hF1 hf2
          have hL2 : LY h2_ B := FR.ly hF2 hL
          have hS2_52 : hI h2_ (B + 52) = hI h (B + 52) := hF2.2.2.2.2 _ (by unfold Aq; omega)
          clear hv
          show AW V 0 0 h2_ 163 [(7, .int (odS (hI h (B + 52)) b (nI i))), (0, .ref (B + 51)), (1, .int (nI b)), (2, .long often), (4, .int way), (5, .int c), (6, .int (nI i))] []
          refine a_iinc (v := ((nI i) + 1)) (L' := [(6, .int ((nI i) + 1)), (7, .int (odS (hI h (B + 52)) b (nI i))), (0, .ref (B + 51)), (1, .int (nI b)), (2, .long often), (4, .int way), (5, .int c)]) hb dX12_ways_163 6 rfl rfl (by rw [hml]; decide) rfl ?_
          refine a_goto hb 94 dX12_ways_166 (by decide) ?_
          refine AW.sub (L' := [(0, .ref (B + 51)), (1, .int (nI b)), (2, .long often), (4, .int way), (5, .int c), (6, .int ((nI i) + 1))]) [2, 3, 4, 5, 6, 0] rfl ?_
          exact AW.eq (ih (i + 1) h2_ hF2 (⟨⟨nI i, hx2_0⟩, fun j a b => (hx2_1 j a b).trans ((congrFun hT1_51 j).trans (iv2 j a b)), by rw [hx2_2, hM, iv3]; simp only [wyF]; rw [if_pos c111', if_neg c138]⟩) (by omega)) rfl rfl (by first | (simp only [nI_1]; done) | (simp only [nI_1]; rfl)) rfl
        · refine a_lload_n hb dX12_ways_141 rfl 3 rfl ?_
          refine a_goto hb 150 dX12_ways_142 (by decide) ?_
          refine a_bipush (v := 10) hb dX12_ways_150 (by decide) ?_
          refine a_iload hb dX12_ways_152 4 rfl ?_
          refine a_imul hb dX12_ways_154 ?_
          refine a_iload hb dX12_ways_155 6 rfl ?_
          refine a_iadd hb dX12_ways_157 ?_
          refine a_iload hb dX12_ways_158 5 rfl ?_
          refine a_callV hb dX12_ways_160 (by rw [hg]; have h0 := m_wy4 g h1_ B hL1 P (hP.mv (FR.mo (A := Aq B) (A' := Ax B) hF1 (by intro a; unfold Aq Ax; omega))) (by rw [hS1_52]; exact h6) hl (by rw [hS1_52]; exact hhl) lhl np (by rw [hS1_52]; exact hnp) lnp n (by rw [hS1_52]; exact hn) ln (by rw [hS1_52]; exact h7) c often ((10 * way) + (nI i)) (b + 1) (by omega) (by intro j a e; rw [hR, upd_n (by omega)]; exact hd j (by omega) e); (try rw [hS1_52] at h0); (try rw [hR] at h0); rw [show nI (b + 1) = nI b + 1 from by rw [nI_1]] at h0; exact h0) (by rw [ow]; exact clv_RX12_214) (hL1.1 51 (by decide)) (by decide) rfl rfl rfl (Nat.le_of_ble_eq_true rfl) (by rw [hr]; exact ⟨by decide, by decide⟩) (by rw [hr]; exact ⟨Nat.le_of_ble_eq_true rfl, Nat.le_of_ble_eq_true rfl⟩) ?_
          intro rv h3_ hp
          obtain ⟨hv, hf3, hx3_0, hx3_1, hx3_2⟩ := hp
          rw [hv]
          have hF3 := FR.tr hF1 hf3
          have hL3 : LY h3_ B := FR.ly hF3 hL
          have hS3_52 : hI h3_ (B + 52) = hI h (B + 52) := hF3.2.2.2.2 _ (by unfold Aq; omega)
          clear hv
          show AW V 0 0 h3_ 163 [(7, .int (odS (hI h (B + 52)) b (nI i))), (0, .ref (B + 51)), (1, .int (nI b)), (2, .long often), (4, .int way), (5, .int c), (6, .int (nI i))] []
          refine a_iinc (v := ((nI i) + 1)) (L' := [(6, .int ((nI i) + 1)), (7, .int (odS (hI h (B + 52)) b (nI i))), (0, .ref (B + 51)), (1, .int (nI b)), (2, .long often), (4, .int way), (5, .int c)]) hb dX12_ways_163 6 rfl rfl (by rw [hml]; decide) rfl ?_
          refine a_goto hb 94 dX12_ways_166 (by decide) ?_
          refine AW.sub (L' := [(0, .ref (B + 51)), (1, .int (nI b)), (2, .long often), (4, .int way), (5, .int c), (6, .int ((nI i) + 1))]) [2, 3, 4, 5, 6, 0] rfl ?_
          exact AW.eq (ih (i + 1) h3_ hF3 (⟨⟨nI i, hx3_0⟩, fun j a b => (hx3_1 j a b).trans ((congrFun hT1_51 j).trans (iv2 j a b)), by rw [hx3_2, hM, iv3]; simp only [wyF]; rw [if_pos c111', if_pos c138]⟩) (by omega)) rfl rfl (by first | (simp only [nI_1]; done) | (simp only [nI_1]; rfl)) rfl
  refine AW.sub (L' := [(0, .ref (B + 51)), (1, .int (nI b)), (2, .long often), (4, .int way), (5, .int c), (6, .int 0)]) [1, 2, 3, 4, 5, 0] rfl ?_
  exact AW.eq (loop 3 0 h FR.rf ⟨⟨_, (upd_i rfl).symm⟩, fun _ _ _ => rfl, rfl⟩ (by omega)) rfl rfl (rfl) rfl
set_option maxRecDepth 100000 in
theorem m_wy6 (g : GG) (h : AH) (B : Nat) (hL : LY h B) (P : PF) (hP : PcM g B h P) (h6 : ¬ hI h (B + 52) 6 = 0) (hl : Nat) (hhl : IX (hI h (B + 52) 8) hl) (lhl : hl < 5) (np : Nat) (hnp : IX (hI h (B + 52) 0) np) (lnp : np ≤ 8) (n : Nat) (hn : IX (hI h (B + 52) 1) n) (ln : n ≤ 5) (h7 : ¬ (hI h (B + 52) 7).toInt64 = 0) (c : Int32) (often : Int64) (way : Int32) (b : Nat) (hbk : b + 6 = np) (hd : ∀ j, b ≤ j → j < 8 → hI h (B + 56) j = 0) : AM g 15 0 0 mX12_ways [.ref (B + 51), .int (nI b), .long often, .int way, .int c] h (fun rv h' => rv = none ∧ FR (Aq B) h h' ∧ (hI h' (B + 56) = hI h (B + 56)) ∧ (∀ j, j ≠ 17 → j ≠ 18 → hI h' (B + 51) j = hI h (B + 51) j) ∧ (MW h' B = wyS (fun dl => fbW P (hI h (B + 52)) dl hl np n c) (hI h (B + 52)) 6 b (hI h (B + 56)) often way (MW h B))) := by
  refine AM.of [(0, .ref (B + 51)), (1, .int (nI b)), (2, .long often), (4, .int way), (5, .int c)] (by decide) (Nat.le_of_ble_eq_true rfl) rfl ?_
  intro V hV
  have hb : V.2.1.2.1 = cX12_ways := by subst hV; rfl
  have ow : V.2.1.1.cls = RX12 := by subst hV; rfl
  have hr : V.2.2.1 = aw_rm 15 0 0 := by subst hV; rfl
  have hz : V.2.2.2 = aw_Z V.1 (fun rv h' => rv = none ∧ FR (Aq B) h h' ∧ (hI h' (B + 56) = hI h (B + 56)) ∧ (∀ j, j ≠ 17 → j ≠ 18 → hI h' (B + 51) j = hI h (B + 51) j) ∧ (MW h' B = wyS (fun dl => fbW P (hI h (B + 52)) dl hl np n c) (hI h (B + 52)) 6 b (hI h (B + 56)) often way (MW h B))) V.2.2.1 := by subst hV; rfl
  have hg : V.1 = g := by subst hV; rfl
  have hret : V.2.1.2.2.2 = none := by subst hV; rfl
  have hml : V.2.1.2.2.1 = 8 := by subst hV; rfl
  clear hV
  refine a_iload_n hb dX12_ways_0 rfl 1 rfl ?_
  refine a_aload_n hb dX12_ways_1 rfl 0 rfl ?_
  refine a_getQ (q := (B + 52)) hb dX12_ways_2 (by rw [ow]; exact fl_RX12_9_12) (hL.1 51 (by decide)) (hL.2.1 (51, 1, 52) (by decide)) ?_
  refine a_iconst (v := 0) hb dX12_ways_5 (by decide) ?_
  refine b_iald (j := 0) hb dX12_ways_6 (hL.1 52 (by decide)) ⟨by decide, by decide⟩ (by decide) ?_
  refine a_icmp_ne hb 91 dX12_ways_7 (by decide) (fun c7 => ?_) (fun c7 => absurd c7 (by rw [hnp.eq.1]; exact fun e => absurd (nI_inj (by omega) (by omega) e) (by omega)))
  refine a_iconst (v := 0) hb dX12_ways_91 (by decide) ?_
  refine a_istore (L' := [(6, .int 0), (0, .ref (B + 51)), (1, .int (nI b)), (2, .long often), (4, .int way), (5, .int c)]) hb dX12_ways_92 (by rw [hml]; decide) rfl ?_
  have loop : ∀ (k i : Nat) (h1 : AH) (hF1 : FR (Aq B) h h1) (iv : (∃ v, hI h1 (B + 56) = upd (hI h (B + 56)) b v) ∧ (∀ j, j ≠ 17 → j ≠ 18 → hI h1 (B + 51) j = hI h (B + 51) j) ∧ MW h1 B = wyF (fun d W => if 0 < odS (hI h (B + 52)) b (nI d) then wyS (fun dl => fbW P (hI h (B + 52)) dl hl np n c) (hI h (B + 52)) 5 (b + 1) (upd (hI h (B + 56)) b (nI d)) (if hI h (B + 52) (162 + b) = 10 then often else often * (odS (hI h (B + 52)) b (nI d)).toInt64) (10 * way + nI d) W else W) i (MW h B)), i + k = 3 → AW V 0 0 h1 94 [(0, .ref (B + 51)), (1, .int (nI b)), (2, .long often), (4, .int way), (5, .int c), (6, .int (nI i))] [] := by
    intro k
    induction k with
    | zero =>
      intro i h1 hF1 iv hi
      have hL0_ : LY h1 B := FR.ly hF1 hL
      have hS0_52 : hI h1 (B + 52) = hI h (B + 52) := hF1.2.2.2.2 _ (by unfold Aq; omega)
      obtain ⟨⟨v0, hv0⟩, iv2, iv3⟩ := iv
      refine a_iload hb dX12_ways_94 5 rfl ?_
      refine a_iconst (v := 3) hb dX12_ways_96 (by decide) ?_
      refine a_icmp_ge hb 169 dX12_ways_97 (by decide) (fun c97 => ?_) (fun c97 => absurd (by exact nI_le (b := i) (a := 3) (by omega) (by omega)) c97)
      refine a_aload_n hb dX12_ways_169 rfl 0 rfl ?_
      refine a_getQ (q := (B + 56)) hb dX12_ways_170 (by rw [ow]; exact fl_RX12_25_12) (hL0_.1 51 (by decide)) (hL0_.2.1 (51, 11, 56) (by decide)) ?_
      refine a_iload_n hb dX12_ways_173 rfl 1 rfl ?_
      refine a_iconst (v := 0) hb dX12_ways_174 (by decide) ?_
      refine b_iast (j := b) hb dX12_ways_175 (hL0_.1 56 (by decide)) (IX.n (by omega)) (by omega) ?_
      exact a_return hb hz dX12_ways_176 hret (by rw [hr]; exact Nat.le_of_ble_eq_true rfl) (by rw [hr]; exact Nat.le_of_ble_eq_true rfl) (⟨rfl, (FR.I hF1 (by unfold Aq; omega)), by rw [hI_setI_s, hv0, upd_u]; exact upd_i (hd b (by omega) (by omega)), fun j a b => by rw [hI_setI_n (by omega)]; exact iv2 j a b, (show MW _ B = MW h1 B by unfold MW; rw [hI_setI_n (by omega)]; rfl).trans (by rw [iv3, show i = 3 by omega]; rfl)⟩)
    | succ k ih =>
      intro i h1 hF1 iv hi
      have hL0_ : LY h1 B := FR.ly hF1 hL
      have hS0_52 : hI h1 (B + 52) = hI h (B + 52) := hF1.2.2.2.2 _ (by unfold Aq; omega)
      obtain ⟨⟨v0, hv0⟩, iv2, iv3⟩ := iv
      refine a_iload hb dX12_ways_94 5 rfl ?_
      refine a_iconst (v := 3) hb dX12_ways_96 (by decide) ?_
      refine a_icmp_ge hb 169 dX12_ways_97 (by decide) (fun c97 => absurd c97 (by exact nI_ge (b := 3) (a := i) (by omega) (by omega))) (fun c97 => ?_)
      refine a_aload_n hb dX12_ways_100 rfl 0 rfl ?_
      refine a_iload_n hb dX12_ways_101 rfl 1 rfl ?_
      refine a_iload hb dX12_ways_102 5 rfl ?_
      refine a_callV hb dX12_ways_104 (by rw [hg]; have h0 := m_oddsOf g h1 B hL0_ b (by omega) (nI i); rw [hS0_52] at h0; exact h0) (by rw [ow]; exact clv_RX12_211) (hL0_.1 51 (by decide)) (by decide) rfl rfl rfl (Nat.le_of_ble_eq_true rfl) (by rw [hr]; exact ⟨by decide, by decide⟩) (by rw [hr]; exact ⟨Nat.le_of_ble_eq_true rfl, Nat.le_of_ble_eq_true rfl⟩) ?_
      intro rv h' hp
      rw [hp.1, hp.2]
      show AW V 0 0 h1 107 [(0, .ref (B + 51)), (1, .int (nI b)), (2, .long often), (4, .int way), (5, .int c), (6, .int (nI i))] [.int (odS (hI h (B + 52)) b (nI i))]
      refine a_istore (L' := [(7, .int (odS (hI h (B + 52)) b (nI i))), (0, .ref (B + 51)), (1, .int (nI b)), (2, .long often), (4, .int way), (5, .int c), (6, .int (nI i))]) hb dX12_ways_107 (by rw [hml]; decide) rfl ?_
      refine a_iload hb dX12_ways_109 0 rfl ?_
      refine a_if_le hb 163 dX12_ways_111 (by decide) (fun c111 => ?_) (fun c111 => ?_)
      · have c111' := Int32.not_lt.mpr c111
        refine a_iinc (v := ((nI i) + 1)) (L' := [(6, .int ((nI i) + 1)), (7, .int (odS (hI h (B + 52)) b (nI i))), (0, .ref (B + 51)), (1, .int (nI b)), (2, .long often), (4, .int way), (5, .int c)]) hb dX12_ways_163 6 rfl rfl (by rw [hml]; decide) rfl ?_
        refine a_goto hb 94 dX12_ways_166 (by decide) ?_
        refine AW.sub (L' := [(0, .ref (B + 51)), (1, .int (nI b)), (2, .long often), (4, .int way), (5, .int c), (6, .int ((nI i) + 1))]) [2, 3, 4, 5, 6, 0] rfl ?_
        exact AW.eq (ih (i + 1) h1 hF1 (⟨⟨v0, hv0⟩, iv2, by rw [iv3]; simp only [wyF]; rw [if_neg c111']⟩) (by omega)) rfl rfl (by first | (simp only [nI_1]; done) | (simp only [nI_1]; rfl)) rfl
      · have c111' := Int32.not_le.mp c111
        refine a_aload_n hb dX12_ways_114 rfl 1 rfl ?_
        refine a_getQ (q := (B + 56)) hb dX12_ways_115 (by rw [ow]; exact fl_RX12_25_12) (hL0_.1 51 (by decide)) (hL0_.2.1 (51, 11, 56) (by decide)) ?_
        refine a_iload_n hb dX12_ways_118 rfl 2 rfl ?_
        refine a_iload hb dX12_ways_119 6 rfl ?_
        refine b_iast (j := b) hb dX12_ways_121 (hL0_.1 56 (by decide)) (IX.n (by omega)) (by omega) ?_
        generalize eh1 : (setI h1 (B + 56) b (nI i)) = h1_
        have hF1 : FR (Aq B) h h1_ := by rw [← eh1]; exact (FR.I hF1 (by unfold Aq; omega))
        have hL1 : LY h1_ B := FR.ly hF1 hL
        have hW1 : hI h1_ (B + 56) = upd (hI h1 (B + 56)) b (nI i) := by rw [← eh1]; exact hI_setI_s
        have hS1_52 : hI h1_ (B + 52) = hI h (B + 52) := hF1.2.2.2.2 _ (by unfold Aq; omega)
        have hT1_51 : hI h1_ (B + 51) = hI h1 (B + 51) := by rw [← eh1]; exact hI_setI_n (by omega)
        have hJW1 : hJ h1_ = hJ h1 := by rw [← eh1]; rfl
        clear eh1
        have hR : hI h1_ (B + 56) = upd (hI h (B + 56)) b (nI i) := by rw [hW1, hv0, upd_u]
        have hM : MW h1_ B = MW h1 B := by unfold MW; rw [hJW1, hT1_51]
        refine a_aload_n hb dX12_ways_122 rfl 1 rfl ?_
        refine a_iload_n hb dX12_ways_123 rfl 2 rfl ?_
        refine a_iconst (v := 1) hb dX12_ways_124 (by decide) ?_
        refine a_iadd hb dX12_ways_125 ?_
        refine a_aload_n hb dX12_ways_126 rfl 1 rfl ?_
        refine a_getQ (q := (B + 52)) hb dX12_ways_127 (by rw [ow]; exact fl_RX12_9_12) (hL1.1 51 (by decide)) (hL1.2.1 (51, 1, 52) (by decide)) ?_
        refine a_sipush (v := 162) hb dX12_ways_130 (by decide) ?_
        refine a_iload_n hb dX12_ways_133 rfl 2 rfl ?_
        refine a_iadd hb dX12_ways_134 ?_
        refine b_iald (j := (162 + b)) hb dX12_ways_135 (hL1.1 52 (by decide)) (IX.add ⟨by decide, by decide⟩ (IX.n (by omega)) (by omega)) (by omega) ?_
        rw [hS1_52]
        refine a_bipush (v := 10) hb dX12_ways_136 (by decide) ?_
        refine a_icmp_ne hb 145 dX12_ways_138 (by decide) (fun c138 => ?_) (fun c138 => ?_)
        · refine a_lload_n hb dX12_ways_145 rfl 3 rfl ?_
          refine a_iload hb dX12_ways_146 0 rfl ?_
          refine a_i2l hb dX12_ways_148 rfl ?_
          refine a_lmul hb dX12_ways_149 ?_
          refine a_bipush (v := 10) hb dX12_ways_150 (by decide) ?_
          refine a_iload hb dX12_ways_152 4 rfl ?_
          refine a_imul hb dX12_ways_154 ?_
          refine a_iload hb dX12_ways_155 6 rfl ?_
          refine a_iadd hb dX12_ways_157 ?_
          refine a_iload hb dX12_ways_158 5 rfl ?_
          refine a_callV hb dX12_ways_160 (by rw [hg]; have h0 := m_wy5 g h1_ B hL1 P (hP.mv (FR.mo (A := Aq B) (A' := Ax B) hF1 (by intro a; unfold Aq Ax; omega))) (by rw [hS1_52]; exact h6) hl (by rw [hS1_52]; exact hhl) lhl np (by rw [hS1_52]; exact hnp) lnp n (by rw [hS1_52]; exact hn) ln (by rw [hS1_52]; exact h7) c (often * ((odS (hI h (B + 52)) b (nI i)).toInt64)) ((10 * way) + (nI i)) (b + 1) (by omega) (by intro j a e; rw [hR, upd_n (by omega)]; exact hd j (by omega) e); (try rw [hS1_52] at h0); (try rw [hR] at h0); rw [show nI (b + 1) = nI b + 1 from by rw [nI_1]] at h0; exact h0) (by rw [ow]; exact clv_RX12_214) (hL1.1 51 (by decide)) (by decide) rfl rfl rfl (Nat.le_of_ble_eq_true rfl) (by rw [hr]; exact ⟨by decide, by decide⟩) (by rw [hr]; exact ⟨Nat.le_of_ble_eq_true rfl, Nat.le_of_ble_eq_true rfl⟩) ?_
          intro rv h2_ hp
          obtain ⟨hv, hf2, hx2_0, hx2_1, hx2_2⟩ := hp
          rw [hv]
          have hF2 := FR.tr hF1 hf2
          have hL2 : LY h2_ B := FR.ly hF2 hL
          have hS2_52 : hI h2_ (B + 52) = hI h (B + 52) := hF2.2.2.2.2 _ (by unfold Aq; omega)
          clear hv
          show AW V 0 0 h2_ 163 [(7, .int (odS (hI h (B + 52)) b (nI i))), (0, .ref (B + 51)), (1, .int (nI b)), (2, .long often), (4, .int way), (5, .int c), (6, .int (nI i))] []
          refine a_iinc (v := ((nI i) + 1)) (L' := [(6, .int ((nI i) + 1)), (7, .int (odS (hI h (B + 52)) b (nI i))), (0, .ref (B + 51)), (1, .int (nI b)), (2, .long often), (4, .int way), (5, .int c)]) hb dX12_ways_163 6 rfl rfl (by rw [hml]; decide) rfl ?_
          refine a_goto hb 94 dX12_ways_166 (by decide) ?_
          refine AW.sub (L' := [(0, .ref (B + 51)), (1, .int (nI b)), (2, .long often), (4, .int way), (5, .int c), (6, .int ((nI i) + 1))]) [2, 3, 4, 5, 6, 0] rfl ?_
          exact AW.eq (ih (i + 1) h2_ hF2 (⟨⟨nI i, hx2_0⟩, fun j a b => (hx2_1 j a b).trans ((congrFun hT1_51 j).trans (iv2 j a b)), by rw [hx2_2, hM, iv3]; simp only [wyF]; rw [if_pos c111', if_neg c138]⟩) (by omega)) rfl rfl (by first | (simp only [nI_1]; done) | (simp only [nI_1]; rfl)) rfl
        · refine a_lload_n hb dX12_ways_141 rfl 3 rfl ?_
          refine a_goto hb 150 dX12_ways_142 (by decide) ?_
          refine a_bipush (v := 10) hb dX12_ways_150 (by decide) ?_
          refine a_iload hb dX12_ways_152 4 rfl ?_
          refine a_imul hb dX12_ways_154 ?_
          refine a_iload hb dX12_ways_155 6 rfl ?_
          refine a_iadd hb dX12_ways_157 ?_
          refine a_iload hb dX12_ways_158 5 rfl ?_
          refine a_callV hb dX12_ways_160 (by rw [hg]; have h0 := m_wy5 g h1_ B hL1 P (hP.mv (FR.mo (A := Aq B) (A' := Ax B) hF1 (by intro a; unfold Aq Ax; omega))) (by rw [hS1_52]; exact h6) hl (by rw [hS1_52]; exact hhl) lhl np (by rw [hS1_52]; exact hnp) lnp n (by rw [hS1_52]; exact hn) ln (by rw [hS1_52]; exact h7) c often ((10 * way) + (nI i)) (b + 1) (by omega) (by intro j a e; rw [hR, upd_n (by omega)]; exact hd j (by omega) e); (try rw [hS1_52] at h0); (try rw [hR] at h0); rw [show nI (b + 1) = nI b + 1 from by rw [nI_1]] at h0; exact h0) (by rw [ow]; exact clv_RX12_214) (hL1.1 51 (by decide)) (by decide) rfl rfl rfl (Nat.le_of_ble_eq_true rfl) (by rw [hr]; exact ⟨by decide, by decide⟩) (by rw [hr]; exact ⟨Nat.le_of_ble_eq_true rfl, Nat.le_of_ble_eq_true rfl⟩) ?_
          intro rv h3_ hp
          obtain ⟨hv, hf3, hx3_0, hx3_1, hx3_2⟩ := hp
          rw [hv]
          have hF3 := FR.tr hF1 hf3
          have hL3 : LY h3_ B := FR.ly hF3 hL
          have hS3_52 : hI h3_ (B + 52) = hI h (B + 52) := hF3.2.2.2.2 _ (by unfold Aq; omega)
          clear hv
          show AW V 0 0 h3_ 163 [(7, .int (odS (hI h (B + 52)) b (nI i))), (0, .ref (B + 51)), (1, .int (nI b)), (2, .long often), (4, .int way), (5, .int c), (6, .int (nI i))] []
          refine a_iinc (v := ((nI i) + 1)) (L' := [(6, .int ((nI i) + 1)), (7, .int (odS (hI h (B + 52)) b (nI i))), (0, .ref (B + 51)), (1, .int (nI b)), (2, .long often), (4, .int way), (5, .int c)]) hb dX12_ways_163 6 rfl rfl (by rw [hml]; decide) rfl ?_
          refine a_goto hb 94 dX12_ways_166 (by decide) ?_
          refine AW.sub (L' := [(0, .ref (B + 51)), (1, .int (nI b)), (2, .long often), (4, .int way), (5, .int c), (6, .int ((nI i) + 1))]) [2, 3, 4, 5, 6, 0] rfl ?_
          exact AW.eq (ih (i + 1) h3_ hF3 (⟨⟨nI i, hx3_0⟩, fun j a b => (hx3_1 j a b).trans ((congrFun hT1_51 j).trans (iv2 j a b)), by rw [hx3_2, hM, iv3]; simp only [wyF]; rw [if_pos c111', if_pos c138]⟩) (by omega)) rfl rfl (by first | (simp only [nI_1]; done) | (simp only [nI_1]; rfl)) rfl
  refine AW.sub (L' := [(0, .ref (B + 51)), (1, .int (nI b)), (2, .long often), (4, .int way), (5, .int c), (6, .int 0)]) [1, 2, 3, 4, 5, 0] rfl ?_
  exact AW.eq (loop 3 0 h FR.rf ⟨⟨_, (upd_i rfl).symm⟩, fun _ _ _ => rfl, rfl⟩ (by omega)) rfl rfl (rfl) rfl
set_option maxRecDepth 100000 in
theorem m_wy7 (g : GG) (h : AH) (B : Nat) (hL : LY h B) (P : PF) (hP : PcM g B h P) (h6 : ¬ hI h (B + 52) 6 = 0) (hl : Nat) (hhl : IX (hI h (B + 52) 8) hl) (lhl : hl < 5) (np : Nat) (hnp : IX (hI h (B + 52) 0) np) (lnp : np ≤ 8) (n : Nat) (hn : IX (hI h (B + 52) 1) n) (ln : n ≤ 5) (h7 : ¬ (hI h (B + 52) 7).toInt64 = 0) (c : Int32) (often : Int64) (way : Int32) (b : Nat) (hbk : b + 7 = np) (hd : ∀ j, b ≤ j → j < 8 → hI h (B + 56) j = 0) : AM g 16 0 0 mX12_ways [.ref (B + 51), .int (nI b), .long often, .int way, .int c] h (fun rv h' => rv = none ∧ FR (Aq B) h h' ∧ (hI h' (B + 56) = hI h (B + 56)) ∧ (∀ j, j ≠ 17 → j ≠ 18 → hI h' (B + 51) j = hI h (B + 51) j) ∧ (MW h' B = wyS (fun dl => fbW P (hI h (B + 52)) dl hl np n c) (hI h (B + 52)) 7 b (hI h (B + 56)) often way (MW h B))) := by
  refine AM.of [(0, .ref (B + 51)), (1, .int (nI b)), (2, .long often), (4, .int way), (5, .int c)] (by decide) (Nat.le_of_ble_eq_true rfl) rfl ?_
  intro V hV
  have hb : V.2.1.2.1 = cX12_ways := by subst hV; rfl
  have ow : V.2.1.1.cls = RX12 := by subst hV; rfl
  have hr : V.2.2.1 = aw_rm 16 0 0 := by subst hV; rfl
  have hz : V.2.2.2 = aw_Z V.1 (fun rv h' => rv = none ∧ FR (Aq B) h h' ∧ (hI h' (B + 56) = hI h (B + 56)) ∧ (∀ j, j ≠ 17 → j ≠ 18 → hI h' (B + 51) j = hI h (B + 51) j) ∧ (MW h' B = wyS (fun dl => fbW P (hI h (B + 52)) dl hl np n c) (hI h (B + 52)) 7 b (hI h (B + 56)) often way (MW h B))) V.2.2.1 := by subst hV; rfl
  have hg : V.1 = g := by subst hV; rfl
  have hret : V.2.1.2.2.2 = none := by subst hV; rfl
  have hml : V.2.1.2.2.1 = 8 := by subst hV; rfl
  clear hV
  refine a_iload_n hb dX12_ways_0 rfl 1 rfl ?_
  refine a_aload_n hb dX12_ways_1 rfl 0 rfl ?_
  refine a_getQ (q := (B + 52)) hb dX12_ways_2 (by rw [ow]; exact fl_RX12_9_12) (hL.1 51 (by decide)) (hL.2.1 (51, 1, 52) (by decide)) ?_
  refine a_iconst (v := 0) hb dX12_ways_5 (by decide) ?_
  refine b_iald (j := 0) hb dX12_ways_6 (hL.1 52 (by decide)) ⟨by decide, by decide⟩ (by decide) ?_
  refine a_icmp_ne hb 91 dX12_ways_7 (by decide) (fun c7 => ?_) (fun c7 => absurd c7 (by rw [hnp.eq.1]; exact fun e => absurd (nI_inj (by omega) (by omega) e) (by omega)))
  refine a_iconst (v := 0) hb dX12_ways_91 (by decide) ?_
  refine a_istore (L' := [(6, .int 0), (0, .ref (B + 51)), (1, .int (nI b)), (2, .long often), (4, .int way), (5, .int c)]) hb dX12_ways_92 (by rw [hml]; decide) rfl ?_
  have loop : ∀ (k i : Nat) (h1 : AH) (hF1 : FR (Aq B) h h1) (iv : (∃ v, hI h1 (B + 56) = upd (hI h (B + 56)) b v) ∧ (∀ j, j ≠ 17 → j ≠ 18 → hI h1 (B + 51) j = hI h (B + 51) j) ∧ MW h1 B = wyF (fun d W => if 0 < odS (hI h (B + 52)) b (nI d) then wyS (fun dl => fbW P (hI h (B + 52)) dl hl np n c) (hI h (B + 52)) 6 (b + 1) (upd (hI h (B + 56)) b (nI d)) (if hI h (B + 52) (162 + b) = 10 then often else often * (odS (hI h (B + 52)) b (nI d)).toInt64) (10 * way + nI d) W else W) i (MW h B)), i + k = 3 → AW V 0 0 h1 94 [(0, .ref (B + 51)), (1, .int (nI b)), (2, .long often), (4, .int way), (5, .int c), (6, .int (nI i))] [] := by
    intro k
    induction k with
    | zero =>
      intro i h1 hF1 iv hi
      have hL0_ : LY h1 B := FR.ly hF1 hL
      have hS0_52 : hI h1 (B + 52) = hI h (B + 52) := hF1.2.2.2.2 _ (by unfold Aq; omega)
      obtain ⟨⟨v0, hv0⟩, iv2, iv3⟩ := iv
      refine a_iload hb dX12_ways_94 5 rfl ?_
      refine a_iconst (v := 3) hb dX12_ways_96 (by decide) ?_
      refine a_icmp_ge hb 169 dX12_ways_97 (by decide) (fun c97 => ?_) (fun c97 => absurd (by exact nI_le (b := i) (a := 3) (by omega) (by omega)) c97)
      refine a_aload_n hb dX12_ways_169 rfl 0 rfl ?_
      refine a_getQ (q := (B + 56)) hb dX12_ways_170 (by rw [ow]; exact fl_RX12_25_12) (hL0_.1 51 (by decide)) (hL0_.2.1 (51, 11, 56) (by decide)) ?_
      refine a_iload_n hb dX12_ways_173 rfl 1 rfl ?_
      refine a_iconst (v := 0) hb dX12_ways_174 (by decide) ?_
      refine b_iast (j := b) hb dX12_ways_175 (hL0_.1 56 (by decide)) (IX.n (by omega)) (by omega) ?_
      exact a_return hb hz dX12_ways_176 hret (by rw [hr]; exact Nat.le_of_ble_eq_true rfl) (by rw [hr]; exact Nat.le_of_ble_eq_true rfl) (⟨rfl, (FR.I hF1 (by unfold Aq; omega)), by rw [hI_setI_s, hv0, upd_u]; exact upd_i (hd b (by omega) (by omega)), fun j a b => by rw [hI_setI_n (by omega)]; exact iv2 j a b, (show MW _ B = MW h1 B by unfold MW; rw [hI_setI_n (by omega)]; rfl).trans (by rw [iv3, show i = 3 by omega]; rfl)⟩)
    | succ k ih =>
      intro i h1 hF1 iv hi
      have hL0_ : LY h1 B := FR.ly hF1 hL
      have hS0_52 : hI h1 (B + 52) = hI h (B + 52) := hF1.2.2.2.2 _ (by unfold Aq; omega)
      obtain ⟨⟨v0, hv0⟩, iv2, iv3⟩ := iv
      refine a_iload hb dX12_ways_94 5 rfl ?_
      refine a_iconst (v := 3) hb dX12_ways_96 (by decide) ?_
      refine a_icmp_ge hb 169 dX12_ways_97 (by decide) (fun c97 => absurd c97 (by exact nI_ge (b := 3) (a := i) (by omega) (by omega))) (fun c97 => ?_)
      refine a_aload_n hb dX12_ways_100 rfl 0 rfl ?_
      refine a_iload_n hb dX12_ways_101 rfl 1 rfl ?_
      refine a_iload hb dX12_ways_102 5 rfl ?_
      refine a_callV hb dX12_ways_104 (by rw [hg]; have h0 := m_oddsOf g h1 B hL0_ b (by omega) (nI i); rw [hS0_52] at h0; exact h0) (by rw [ow]; exact clv_RX12_211) (hL0_.1 51 (by decide)) (by decide) rfl rfl rfl (Nat.le_of_ble_eq_true rfl) (by rw [hr]; exact ⟨by decide, by decide⟩) (by rw [hr]; exact ⟨Nat.le_of_ble_eq_true rfl, Nat.le_of_ble_eq_true rfl⟩) ?_
      intro rv h' hp
      rw [hp.1, hp.2]
      show AW V 0 0 h1 107 [(0, .ref (B + 51)), (1, .int (nI b)), (2, .long often), (4, .int way), (5, .int c), (6, .int (nI i))] [.int (odS (hI h (B + 52)) b (nI i))]
      refine a_istore (L' := [(7, .int (odS (hI h (B + 52)) b (nI i))), (0, .ref (B + 51)), (1, .int (nI b)), (2, .long often), (4, .int way), (5, .int c), (6, .int (nI i))]) hb dX12_ways_107 (by rw [hml]; decide) rfl ?_
      refine a_iload hb dX12_ways_109 0 rfl ?_
      refine a_if_le hb 163 dX12_ways_111 (by decide) (fun c111 => ?_) (fun c111 => ?_)
      · have c111' := Int32.not_lt.mpr c111
        refine a_iinc (v := ((nI i) + 1)) (L' := [(6, .int ((nI i) + 1)), (7, .int (odS (hI h (B + 52)) b (nI i))), (0, .ref (B + 51)), (1, .int (nI b)), (2, .long often), (4, .int way), (5, .int c)]) hb dX12_ways_163 6 rfl rfl (by rw [hml]; decide) rfl ?_
        refine a_goto hb 94 dX12_ways_166 (by decide) ?_
        refine AW.sub (L' := [(0, .ref (B + 51)), (1, .int (nI b)), (2, .long often), (4, .int way), (5, .int c), (6, .int ((nI i) + 1))]) [2, 3, 4, 5, 6, 0] rfl ?_
        exact AW.eq (ih (i + 1) h1 hF1 (⟨⟨v0, hv0⟩, iv2, by rw [iv3]; simp only [wyF]; rw [if_neg c111']⟩) (by omega)) rfl rfl (by first | (simp only [nI_1]; done) | (simp only [nI_1]; rfl)) rfl
      · have c111' := Int32.not_le.mp c111
        refine a_aload_n hb dX12_ways_114 rfl 1 rfl ?_
        refine a_getQ (q := (B + 56)) hb dX12_ways_115 (by rw [ow]; exact fl_RX12_25_12) (hL0_.1 51 (by decide)) (hL0_.2.1 (51, 11, 56) (by decide)) ?_
        refine a_iload_n hb dX12_ways_118 rfl 2 rfl ?_
        refine a_iload hb dX12_ways_119 6 rfl ?_
        refine b_iast (j := b) hb dX12_ways_121 (hL0_.1 56 (by decide)) (IX.n (by omega)) (by omega) ?_
        generalize eh1 : (setI h1 (B + 56) b (nI i)) = h1_
        have hF1 : FR (Aq B) h h1_ := by rw [← eh1]; exact (FR.I hF1 (by unfold Aq; omega))
        have hL1 : LY h1_ B := FR.ly hF1 hL
        have hW1 : hI h1_ (B + 56) = upd (hI h1 (B + 56)) b (nI i) := by rw [← eh1]; exact hI_setI_s
        have hS1_52 : hI h1_ (B + 52) = hI h (B + 52) := hF1.2.2.2.2 _ (by unfold Aq; omega)
        have hT1_51 : hI h1_ (B + 51) = hI h1 (B + 51) := by rw [← eh1]; exact hI_setI_n (by omega)
        have hJW1 : hJ h1_ = hJ h1 := by rw [← eh1]; rfl
        clear eh1
        have hR : hI h1_ (B + 56) = upd (hI h (B + 56)) b (nI i) := by rw [hW1, hv0, upd_u]
        have hM : MW h1_ B = MW h1 B := by unfold MW; rw [hJW1, hT1_51]
        refine a_aload_n hb dX12_ways_122 rfl 1 rfl ?_
        refine a_iload_n hb dX12_ways_123 rfl 2 rfl ?_
        refine a_iconst (v := 1) hb dX12_ways_124 (by decide) ?_
        refine a_iadd hb dX12_ways_125 ?_
        refine a_aload_n hb dX12_ways_126 rfl 1 rfl ?_
        refine a_getQ (q := (B + 52)) hb dX12_ways_127 (by rw [ow]; exact fl_RX12_9_12) (hL1.1 51 (by decide)) (hL1.2.1 (51, 1, 52) (by decide)) ?_
        refine a_sipush (v := 162) hb dX12_ways_130 (by decide) ?_
        refine a_iload_n hb dX12_ways_133 rfl 2 rfl ?_
        refine a_iadd hb dX12_ways_134 ?_
        refine b_iald (j := (162 + b)) hb dX12_ways_135 (hL1.1 52 (by decide)) (IX.add ⟨by decide, by decide⟩ (IX.n (by omega)) (by omega)) (by omega) ?_
        rw [hS1_52]
        refine a_bipush (v := 10) hb dX12_ways_136 (by decide) ?_
        refine a_icmp_ne hb 145 dX12_ways_138 (by decide) (fun c138 => ?_) (fun c138 => ?_)
        · refine a_lload_n hb dX12_ways_145 rfl 3 rfl ?_
          refine a_iload hb dX12_ways_146 0 rfl ?_
          refine a_i2l hb dX12_ways_148 rfl ?_
          refine a_lmul hb dX12_ways_149 ?_
          refine a_bipush (v := 10) hb dX12_ways_150 (by decide) ?_
          refine a_iload hb dX12_ways_152 4 rfl ?_
          refine a_imul hb dX12_ways_154 ?_
          refine a_iload hb dX12_ways_155 6 rfl ?_
          refine a_iadd hb dX12_ways_157 ?_
          refine a_iload hb dX12_ways_158 5 rfl ?_
          refine a_callV hb dX12_ways_160 (by rw [hg]; have h0 := m_wy6 g h1_ B hL1 P (hP.mv (FR.mo (A := Aq B) (A' := Ax B) hF1 (by intro a; unfold Aq Ax; omega))) (by rw [hS1_52]; exact h6) hl (by rw [hS1_52]; exact hhl) lhl np (by rw [hS1_52]; exact hnp) lnp n (by rw [hS1_52]; exact hn) ln (by rw [hS1_52]; exact h7) c (often * ((odS (hI h (B + 52)) b (nI i)).toInt64)) ((10 * way) + (nI i)) (b + 1) (by omega) (by intro j a e; rw [hR, upd_n (by omega)]; exact hd j (by omega) e); (try rw [hS1_52] at h0); (try rw [hR] at h0); rw [show nI (b + 1) = nI b + 1 from by rw [nI_1]] at h0; exact h0) (by rw [ow]; exact clv_RX12_214) (hL1.1 51 (by decide)) (by decide) rfl rfl rfl (Nat.le_of_ble_eq_true rfl) (by rw [hr]; exact ⟨by decide, by decide⟩) (by rw [hr]; exact ⟨Nat.le_of_ble_eq_true rfl, Nat.le_of_ble_eq_true rfl⟩) ?_
          intro rv h2_ hp
          obtain ⟨hv, hf2, hx2_0, hx2_1, hx2_2⟩ := hp
          rw [hv]
          have hF2 := FR.tr hF1 hf2
          have hL2 : LY h2_ B := FR.ly hF2 hL
          have hS2_52 : hI h2_ (B + 52) = hI h (B + 52) := hF2.2.2.2.2 _ (by unfold Aq; omega)
          clear hv
          show AW V 0 0 h2_ 163 [(7, .int (odS (hI h (B + 52)) b (nI i))), (0, .ref (B + 51)), (1, .int (nI b)), (2, .long often), (4, .int way), (5, .int c), (6, .int (nI i))] []
          refine a_iinc (v := ((nI i) + 1)) (L' := [(6, .int ((nI i) + 1)), (7, .int (odS (hI h (B + 52)) b (nI i))), (0, .ref (B + 51)), (1, .int (nI b)), (2, .long often), (4, .int way), (5, .int c)]) hb dX12_ways_163 6 rfl rfl (by rw [hml]; decide) rfl ?_
          refine a_goto hb 94 dX12_ways_166 (by decide) ?_
          refine AW.sub (L' := [(0, .ref (B + 51)), (1, .int (nI b)), (2, .long often), (4, .int way), (5, .int c), (6, .int ((nI i) + 1))]) [2, 3, 4, 5, 6, 0] rfl ?_
          exact AW.eq (ih (i + 1) h2_ hF2 (⟨⟨nI i, hx2_0⟩, fun j a b => (hx2_1 j a b).trans ((congrFun hT1_51 j).trans (iv2 j a b)), by rw [hx2_2, hM, iv3]; simp only [wyF]; rw [if_pos c111', if_neg c138]⟩) (by omega)) rfl rfl (by first | (simp only [nI_1]; done) | (simp only [nI_1]; rfl)) rfl
        · refine a_lload_n hb dX12_ways_141 rfl 3 rfl ?_
          refine a_goto hb 150 dX12_ways_142 (by decide) ?_
          refine a_bipush (v := 10) hb dX12_ways_150 (by decide) ?_
          refine a_iload hb dX12_ways_152 4 rfl ?_
          refine a_imul hb dX12_ways_154 ?_
          refine a_iload hb dX12_ways_155 6 rfl ?_
          refine a_iadd hb dX12_ways_157 ?_
          refine a_iload hb dX12_ways_158 5 rfl ?_
          refine a_callV hb dX12_ways_160 (by rw [hg]; have h0 := m_wy6 g h1_ B hL1 P (hP.mv (FR.mo (A := Aq B) (A' := Ax B) hF1 (by intro a; unfold Aq Ax; omega))) (by rw [hS1_52]; exact h6) hl (by rw [hS1_52]; exact hhl) lhl np (by rw [hS1_52]; exact hnp) lnp n (by rw [hS1_52]; exact hn) ln (by rw [hS1_52]; exact h7) c often ((10 * way) + (nI i)) (b + 1) (by omega) (by intro j a e; rw [hR, upd_n (by omega)]; exact hd j (by omega) e); (try rw [hS1_52] at h0); (try rw [hR] at h0); rw [show nI (b + 1) = nI b + 1 from by rw [nI_1]] at h0; exact h0) (by rw [ow]; exact clv_RX12_214) (hL1.1 51 (by decide)) (by decide) rfl rfl rfl (Nat.le_of_ble_eq_true rfl) (by rw [hr]; exact ⟨by decide, by decide⟩) (by rw [hr]; exact ⟨Nat.le_of_ble_eq_true rfl, Nat.le_of_ble_eq_true rfl⟩) ?_
          intro rv h3_ hp
          obtain ⟨hv, hf3, hx3_0, hx3_1, hx3_2⟩ := hp
          rw [hv]
          have hF3 := FR.tr hF1 hf3
          have hL3 : LY h3_ B := FR.ly hF3 hL
          have hS3_52 : hI h3_ (B + 52) = hI h (B + 52) := hF3.2.2.2.2 _ (by unfold Aq; omega)
          clear hv
          show AW V 0 0 h3_ 163 [(7, .int (odS (hI h (B + 52)) b (nI i))), (0, .ref (B + 51)), (1, .int (nI b)), (2, .long often), (4, .int way), (5, .int c), (6, .int (nI i))] []
          refine a_iinc (v := ((nI i) + 1)) (L' := [(6, .int ((nI i) + 1)), (7, .int (odS (hI h (B + 52)) b (nI i))), (0, .ref (B + 51)), (1, .int (nI b)), (2, .long often), (4, .int way), (5, .int c)]) hb dX12_ways_163 6 rfl rfl (by rw [hml]; decide) rfl ?_
          refine a_goto hb 94 dX12_ways_166 (by decide) ?_
          refine AW.sub (L' := [(0, .ref (B + 51)), (1, .int (nI b)), (2, .long often), (4, .int way), (5, .int c), (6, .int ((nI i) + 1))]) [2, 3, 4, 5, 6, 0] rfl ?_
          exact AW.eq (ih (i + 1) h3_ hF3 (⟨⟨nI i, hx3_0⟩, fun j a b => (hx3_1 j a b).trans ((congrFun hT1_51 j).trans (iv2 j a b)), by rw [hx3_2, hM, iv3]; simp only [wyF]; rw [if_pos c111', if_pos c138]⟩) (by omega)) rfl rfl (by first | (simp only [nI_1]; done) | (simp only [nI_1]; rfl)) rfl
  refine AW.sub (L' := [(0, .ref (B + 51)), (1, .int (nI b)), (2, .long often), (4, .int way), (5, .int c), (6, .int 0)]) [1, 2, 3, 4, 5, 0] rfl ?_
  exact AW.eq (loop 3 0 h FR.rf ⟨⟨_, (upd_i rfl).symm⟩, fun _ _ _ => rfl, rfl⟩ (by omega)) rfl rfl (rfl) rfl
set_option maxRecDepth 100000 in
theorem m_wy8 (g : GG) (h : AH) (B : Nat) (hL : LY h B) (P : PF) (hP : PcM g B h P) (h6 : ¬ hI h (B + 52) 6 = 0) (hl : Nat) (hhl : IX (hI h (B + 52) 8) hl) (lhl : hl < 5) (np : Nat) (hnp : IX (hI h (B + 52) 0) np) (lnp : np ≤ 8) (n : Nat) (hn : IX (hI h (B + 52) 1) n) (ln : n ≤ 5) (h7 : ¬ (hI h (B + 52) 7).toInt64 = 0) (c : Int32) (often : Int64) (way : Int32) (b : Nat) (hbk : b + 8 = np) (hd : ∀ j, b ≤ j → j < 8 → hI h (B + 56) j = 0) : AM g 17 0 0 mX12_ways [.ref (B + 51), .int (nI b), .long often, .int way, .int c] h (fun rv h' => rv = none ∧ FR (Aq B) h h' ∧ (hI h' (B + 56) = hI h (B + 56)) ∧ (∀ j, j ≠ 17 → j ≠ 18 → hI h' (B + 51) j = hI h (B + 51) j) ∧ (MW h' B = wyS (fun dl => fbW P (hI h (B + 52)) dl hl np n c) (hI h (B + 52)) 8 b (hI h (B + 56)) often way (MW h B))) := by
  refine AM.of [(0, .ref (B + 51)), (1, .int (nI b)), (2, .long often), (4, .int way), (5, .int c)] (by decide) (Nat.le_of_ble_eq_true rfl) rfl ?_
  intro V hV
  have hb : V.2.1.2.1 = cX12_ways := by subst hV; rfl
  have ow : V.2.1.1.cls = RX12 := by subst hV; rfl
  have hr : V.2.2.1 = aw_rm 17 0 0 := by subst hV; rfl
  have hz : V.2.2.2 = aw_Z V.1 (fun rv h' => rv = none ∧ FR (Aq B) h h' ∧ (hI h' (B + 56) = hI h (B + 56)) ∧ (∀ j, j ≠ 17 → j ≠ 18 → hI h' (B + 51) j = hI h (B + 51) j) ∧ (MW h' B = wyS (fun dl => fbW P (hI h (B + 52)) dl hl np n c) (hI h (B + 52)) 8 b (hI h (B + 56)) often way (MW h B))) V.2.2.1 := by subst hV; rfl
  have hg : V.1 = g := by subst hV; rfl
  have hret : V.2.1.2.2.2 = none := by subst hV; rfl
  have hml : V.2.1.2.2.1 = 8 := by subst hV; rfl
  clear hV
  refine a_iload_n hb dX12_ways_0 rfl 1 rfl ?_
  refine a_aload_n hb dX12_ways_1 rfl 0 rfl ?_
  refine a_getQ (q := (B + 52)) hb dX12_ways_2 (by rw [ow]; exact fl_RX12_9_12) (hL.1 51 (by decide)) (hL.2.1 (51, 1, 52) (by decide)) ?_
  refine a_iconst (v := 0) hb dX12_ways_5 (by decide) ?_
  refine b_iald (j := 0) hb dX12_ways_6 (hL.1 52 (by decide)) ⟨by decide, by decide⟩ (by decide) ?_
  refine a_icmp_ne hb 91 dX12_ways_7 (by decide) (fun c7 => ?_) (fun c7 => absurd c7 (by rw [hnp.eq.1]; exact fun e => absurd (nI_inj (by omega) (by omega) e) (by omega)))
  refine a_iconst (v := 0) hb dX12_ways_91 (by decide) ?_
  refine a_istore (L' := [(6, .int 0), (0, .ref (B + 51)), (1, .int (nI b)), (2, .long often), (4, .int way), (5, .int c)]) hb dX12_ways_92 (by rw [hml]; decide) rfl ?_
  have loop : ∀ (k i : Nat) (h1 : AH) (hF1 : FR (Aq B) h h1) (iv : (∃ v, hI h1 (B + 56) = upd (hI h (B + 56)) b v) ∧ (∀ j, j ≠ 17 → j ≠ 18 → hI h1 (B + 51) j = hI h (B + 51) j) ∧ MW h1 B = wyF (fun d W => if 0 < odS (hI h (B + 52)) b (nI d) then wyS (fun dl => fbW P (hI h (B + 52)) dl hl np n c) (hI h (B + 52)) 7 (b + 1) (upd (hI h (B + 56)) b (nI d)) (if hI h (B + 52) (162 + b) = 10 then often else often * (odS (hI h (B + 52)) b (nI d)).toInt64) (10 * way + nI d) W else W) i (MW h B)), i + k = 3 → AW V 0 0 h1 94 [(0, .ref (B + 51)), (1, .int (nI b)), (2, .long often), (4, .int way), (5, .int c), (6, .int (nI i))] [] := by
    intro k
    induction k with
    | zero =>
      intro i h1 hF1 iv hi
      have hL0_ : LY h1 B := FR.ly hF1 hL
      have hS0_52 : hI h1 (B + 52) = hI h (B + 52) := hF1.2.2.2.2 _ (by unfold Aq; omega)
      obtain ⟨⟨v0, hv0⟩, iv2, iv3⟩ := iv
      refine a_iload hb dX12_ways_94 5 rfl ?_
      refine a_iconst (v := 3) hb dX12_ways_96 (by decide) ?_
      refine a_icmp_ge hb 169 dX12_ways_97 (by decide) (fun c97 => ?_) (fun c97 => absurd (by exact nI_le (b := i) (a := 3) (by omega) (by omega)) c97)
      refine a_aload_n hb dX12_ways_169 rfl 0 rfl ?_
      refine a_getQ (q := (B + 56)) hb dX12_ways_170 (by rw [ow]; exact fl_RX12_25_12) (hL0_.1 51 (by decide)) (hL0_.2.1 (51, 11, 56) (by decide)) ?_
      refine a_iload_n hb dX12_ways_173 rfl 1 rfl ?_
      refine a_iconst (v := 0) hb dX12_ways_174 (by decide) ?_
      refine b_iast (j := b) hb dX12_ways_175 (hL0_.1 56 (by decide)) (IX.n (by omega)) (by omega) ?_
      exact a_return hb hz dX12_ways_176 hret (by rw [hr]; exact Nat.le_of_ble_eq_true rfl) (by rw [hr]; exact Nat.le_of_ble_eq_true rfl) (⟨rfl, (FR.I hF1 (by unfold Aq; omega)), by rw [hI_setI_s, hv0, upd_u]; exact upd_i (hd b (by omega) (by omega)), fun j a b => by rw [hI_setI_n (by omega)]; exact iv2 j a b, (show MW _ B = MW h1 B by unfold MW; rw [hI_setI_n (by omega)]; rfl).trans (by rw [iv3, show i = 3 by omega]; rfl)⟩)
    | succ k ih =>
      intro i h1 hF1 iv hi
      have hL0_ : LY h1 B := FR.ly hF1 hL
      have hS0_52 : hI h1 (B + 52) = hI h (B + 52) := hF1.2.2.2.2 _ (by unfold Aq; omega)
      obtain ⟨⟨v0, hv0⟩, iv2, iv3⟩ := iv
      refine a_iload hb dX12_ways_94 5 rfl ?_
      refine a_iconst (v := 3) hb dX12_ways_96 (by decide) ?_
      refine a_icmp_ge hb 169 dX12_ways_97 (by decide) (fun c97 => absurd c97 (by exact nI_ge (b := 3) (a := i) (by omega) (by omega))) (fun c97 => ?_)
      refine a_aload_n hb dX12_ways_100 rfl 0 rfl ?_
      refine a_iload_n hb dX12_ways_101 rfl 1 rfl ?_
      refine a_iload hb dX12_ways_102 5 rfl ?_
      refine a_callV hb dX12_ways_104 (by rw [hg]; have h0 := m_oddsOf g h1 B hL0_ b (by omega) (nI i); rw [hS0_52] at h0; exact h0) (by rw [ow]; exact clv_RX12_211) (hL0_.1 51 (by decide)) (by decide) rfl rfl rfl (Nat.le_of_ble_eq_true rfl) (by rw [hr]; exact ⟨by decide, by decide⟩) (by rw [hr]; exact ⟨Nat.le_of_ble_eq_true rfl, Nat.le_of_ble_eq_true rfl⟩) ?_
      intro rv h' hp
      rw [hp.1, hp.2]
      show AW V 0 0 h1 107 [(0, .ref (B + 51)), (1, .int (nI b)), (2, .long often), (4, .int way), (5, .int c), (6, .int (nI i))] [.int (odS (hI h (B + 52)) b (nI i))]
      refine a_istore (L' := [(7, .int (odS (hI h (B + 52)) b (nI i))), (0, .ref (B + 51)), (1, .int (nI b)), (2, .long often), (4, .int way), (5, .int c), (6, .int (nI i))]) hb dX12_ways_107 (by rw [hml]; decide) rfl ?_
      refine a_iload hb dX12_ways_109 0 rfl ?_
      refine a_if_le hb 163 dX12_ways_111 (by decide) (fun c111 => ?_) (fun c111 => ?_)
      · have c111' := Int32.not_lt.mpr c111
        refine a_iinc (v := ((nI i) + 1)) (L' := [(6, .int ((nI i) + 1)), (7, .int (odS (hI h (B + 52)) b (nI i))), (0, .ref (B + 51)), (1, .int (nI b)), (2, .long often), (4, .int way), (5, .int c)]) hb dX12_ways_163 6 rfl rfl (by rw [hml]; decide) rfl ?_
        refine a_goto hb 94 dX12_ways_166 (by decide) ?_
        refine AW.sub (L' := [(0, .ref (B + 51)), (1, .int (nI b)), (2, .long often), (4, .int way), (5, .int c), (6, .int ((nI i) + 1))]) [2, 3, 4, 5, 6, 0] rfl ?_
        exact AW.eq (ih (i + 1) h1 hF1 (⟨⟨v0, hv0⟩, iv2, by rw [iv3]; simp only [wyF]; rw [if_neg c111']⟩) (by omega)) rfl rfl (by first | (simp only [nI_1]; done) | (simp only [nI_1]; rfl)) rfl
      · have c111' := Int32.not_le.mp c111
        refine a_aload_n hb dX12_ways_114 rfl 1 rfl ?_
        refine a_getQ (q := (B + 56)) hb dX12_ways_115 (by rw [ow]; exact fl_RX12_25_12) (hL0_.1 51 (by decide)) (hL0_.2.1 (51, 11, 56) (by decide)) ?_
        refine a_iload_n hb dX12_ways_118 rfl 2 rfl ?_
        refine a_iload hb dX12_ways_119 6 rfl ?_
        refine b_iast (j := b) hb dX12_ways_121 (hL0_.1 56 (by decide)) (IX.n (by omega)) (by omega) ?_
        generalize eh1 : (setI h1 (B + 56) b (nI i)) = h1_
        have hF1 : FR (Aq B) h h1_ := by rw [← eh1]; exact (FR.I hF1 (by unfold Aq; omega))
        have hL1 : LY h1_ B := FR.ly hF1 hL
        have hW1 : hI h1_ (B + 56) = upd (hI h1 (B + 56)) b (nI i) := by rw [← eh1]; exact hI_setI_s
        have hS1_52 : hI h1_ (B + 52) = hI h (B + 52) := hF1.2.2.2.2 _ (by unfold Aq; omega)
        have hT1_51 : hI h1_ (B + 51) = hI h1 (B + 51) := by rw [← eh1]; exact hI_setI_n (by omega)
        have hJW1 : hJ h1_ = hJ h1 := by rw [← eh1]; rfl
        clear eh1
        have hR : hI h1_ (B + 56) = upd (hI h (B + 56)) b (nI i) := by rw [hW1, hv0, upd_u]
        have hM : MW h1_ B = MW h1 B := by unfold MW; rw [hJW1, hT1_51]
        refine a_aload_n hb dX12_ways_122 rfl 1 rfl ?_
        refine a_iload_n hb dX12_ways_123 rfl 2 rfl ?_
        refine a_iconst (v := 1) hb dX12_ways_124 (by decide) ?_
        refine a_iadd hb dX12_ways_125 ?_
        refine a_aload_n hb dX12_ways_126 rfl 1 rfl ?_
        refine a_getQ (q := (B + 52)) hb dX12_ways_127 (by rw [ow]; exact fl_RX12_9_12) (hL1.1 51 (by decide)) (hL1.2.1 (51, 1, 52) (by decide)) ?_
        refine a_sipush (v := 162) hb dX12_ways_130 (by decide) ?_
        refine a_iload_n hb dX12_ways_133 rfl 2 rfl ?_
        refine a_iadd hb dX12_ways_134 ?_
        refine b_iald (j := (162 + b)) hb dX12_ways_135 (hL1.1 52 (by decide)) (IX.add ⟨by decide, by decide⟩ (IX.n (by omega)) (by omega)) (by omega) ?_
        rw [hS1_52]
        refine a_bipush (v := 10) hb dX12_ways_136 (by decide) ?_
        refine a_icmp_ne hb 145 dX12_ways_138 (by decide) (fun c138 => ?_) (fun c138 => ?_)
        · refine a_lload_n hb dX12_ways_145 rfl 3 rfl ?_
          refine a_iload hb dX12_ways_146 0 rfl ?_
          refine a_i2l hb dX12_ways_148 rfl ?_
          refine a_lmul hb dX12_ways_149 ?_
          refine a_bipush (v := 10) hb dX12_ways_150 (by decide) ?_
          refine a_iload hb dX12_ways_152 4 rfl ?_
          refine a_imul hb dX12_ways_154 ?_
          refine a_iload hb dX12_ways_155 6 rfl ?_
          refine a_iadd hb dX12_ways_157 ?_
          refine a_iload hb dX12_ways_158 5 rfl ?_
          refine a_callV hb dX12_ways_160 (by rw [hg]; have h0 := m_wy7 g h1_ B hL1 P (hP.mv (FR.mo (A := Aq B) (A' := Ax B) hF1 (by intro a; unfold Aq Ax; omega))) (by rw [hS1_52]; exact h6) hl (by rw [hS1_52]; exact hhl) lhl np (by rw [hS1_52]; exact hnp) lnp n (by rw [hS1_52]; exact hn) ln (by rw [hS1_52]; exact h7) c (often * ((odS (hI h (B + 52)) b (nI i)).toInt64)) ((10 * way) + (nI i)) (b + 1) (by omega) (by intro j a e; rw [hR, upd_n (by omega)]; exact hd j (by omega) e); (try rw [hS1_52] at h0); (try rw [hR] at h0); rw [show nI (b + 1) = nI b + 1 from by rw [nI_1]] at h0; exact h0) (by rw [ow]; exact clv_RX12_214) (hL1.1 51 (by decide)) (by decide) rfl rfl rfl (Nat.le_of_ble_eq_true rfl) (by rw [hr]; exact ⟨by decide, by decide⟩) (by rw [hr]; exact ⟨Nat.le_of_ble_eq_true rfl, Nat.le_of_ble_eq_true rfl⟩) ?_
          intro rv h2_ hp
          obtain ⟨hv, hf2, hx2_0, hx2_1, hx2_2⟩ := hp
          rw [hv]
          have hF2 := FR.tr hF1 hf2
          have hL2 : LY h2_ B := FR.ly hF2 hL
          have hS2_52 : hI h2_ (B + 52) = hI h (B + 52) := hF2.2.2.2.2 _ (by unfold Aq; omega)
          clear hv
          show AW V 0 0 h2_ 163 [(7, .int (odS (hI h (B + 52)) b (nI i))), (0, .ref (B + 51)), (1, .int (nI b)), (2, .long often), (4, .int way), (5, .int c), (6, .int (nI i))] []
          refine a_iinc (v := ((nI i) + 1)) (L' := [(6, .int ((nI i) + 1)), (7, .int (odS (hI h (B + 52)) b (nI i))), (0, .ref (B + 51)), (1, .int (nI b)), (2, .long often), (4, .int way), (5, .int c)]) hb dX12_ways_163 6 rfl rfl (by rw [hml]; decide) rfl ?_
          refine a_goto hb 94 dX12_ways_166 (by decide) ?_
          refine AW.sub (L' := [(0, .ref (B + 51)), (1, .int (nI b)), (2, .long often), (4, .int way), (5, .int c), (6, .int ((nI i) + 1))]) [2, 3, 4, 5, 6, 0] rfl ?_
          exact AW.eq (ih (i + 1) h2_ hF2 (⟨⟨nI i, hx2_0⟩, fun j a b => (hx2_1 j a b).trans ((congrFun hT1_51 j).trans (iv2 j a b)), by rw [hx2_2, hM, iv3]; simp only [wyF]; rw [if_pos c111', if_neg c138]⟩) (by omega)) rfl rfl (by first | (simp only [nI_1]; done) | (simp only [nI_1]; rfl)) rfl
        · refine a_lload_n hb dX12_ways_141 rfl 3 rfl ?_
          refine a_goto hb 150 dX12_ways_142 (by decide) ?_
          refine a_bipush (v := 10) hb dX12_ways_150 (by decide) ?_
          refine a_iload hb dX12_ways_152 4 rfl ?_
          refine a_imul hb dX12_ways_154 ?_
          refine a_iload hb dX12_ways_155 6 rfl ?_
          refine a_iadd hb dX12_ways_157 ?_
          refine a_iload hb dX12_ways_158 5 rfl ?_
          refine a_callV hb dX12_ways_160 (by rw [hg]; have h0 := m_wy7 g h1_ B hL1 P (hP.mv (FR.mo (A := Aq B) (A' := Ax B) hF1 (by intro a; unfold Aq Ax; omega))) (by rw [hS1_52]; exact h6) hl (by rw [hS1_52]; exact hhl) lhl np (by rw [hS1_52]; exact hnp) lnp n (by rw [hS1_52]; exact hn) ln (by rw [hS1_52]; exact h7) c often ((10 * way) + (nI i)) (b + 1) (by omega) (by intro j a e; rw [hR, upd_n (by omega)]; exact hd j (by omega) e); (try rw [hS1_52] at h0); (try rw [hR] at h0); rw [show nI (b + 1) = nI b + 1 from by rw [nI_1]] at h0; exact h0) (by rw [ow]; exact clv_RX12_214) (hL1.1 51 (by decide)) (by decide) rfl rfl rfl (Nat.le_of_ble_eq_true rfl) (by rw [hr]; exact ⟨by decide, by decide⟩) (by rw [hr]; exact ⟨Nat.le_of_ble_eq_true rfl, Nat.le_of_ble_eq_true rfl⟩) ?_
          intro rv h3_ hp
          obtain ⟨hv, hf3, hx3_0, hx3_1, hx3_2⟩ := hp
          rw [hv]
          have hF3 := FR.tr hF1 hf3
          have hL3 : LY h3_ B := FR.ly hF3 hL
          have hS3_52 : hI h3_ (B + 52) = hI h (B + 52) := hF3.2.2.2.2 _ (by unfold Aq; omega)
          clear hv
          show AW V 0 0 h3_ 163 [(7, .int (odS (hI h (B + 52)) b (nI i))), (0, .ref (B + 51)), (1, .int (nI b)), (2, .long often), (4, .int way), (5, .int c), (6, .int (nI i))] []
          refine a_iinc (v := ((nI i) + 1)) (L' := [(6, .int ((nI i) + 1)), (7, .int (odS (hI h (B + 52)) b (nI i))), (0, .ref (B + 51)), (1, .int (nI b)), (2, .long often), (4, .int way), (5, .int c)]) hb dX12_ways_163 6 rfl rfl (by rw [hml]; decide) rfl ?_
          refine a_goto hb 94 dX12_ways_166 (by decide) ?_
          refine AW.sub (L' := [(0, .ref (B + 51)), (1, .int (nI b)), (2, .long often), (4, .int way), (5, .int c), (6, .int ((nI i) + 1))]) [2, 3, 4, 5, 6, 0] rfl ?_
          exact AW.eq (ih (i + 1) h3_ hF3 (⟨⟨nI i, hx3_0⟩, fun j a b => (hx3_1 j a b).trans ((congrFun hT1_51 j).trans (iv2 j a b)), by rw [hx3_2, hM, iv3]; simp only [wyF]; rw [if_pos c111', if_pos c138]⟩) (by omega)) rfl rfl (by first | (simp only [nI_1]; done) | (simp only [nI_1]; rfl)) rfl
  refine AW.sub (L' := [(0, .ref (B + 51)), (1, .int (nI b)), (2, .long often), (4, .int way), (5, .int c), (6, .int 0)]) [1, 2, 3, 4, 5, 0] rfl ?_
  exact AW.eq (loop 3 0 h FR.rf ⟨⟨_, (upd_i rfl).symm⟩, fun _ _ _ => rfl, rfl⟩ (by omega)) rfl rfl (rfl) rfl
