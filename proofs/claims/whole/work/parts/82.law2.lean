/-! ===== the class reckons a law ===== -/
def encC : List CLA → List Int32
  | [] => []
  | c :: cs => c.2.2.map encX ++ encC cs
def wgC (c : CLA) : Int32 := if c.1 = true then -nI c.2.1 else nI c.2.1
def enC : Nat → List CLA → List Int32
  | _, [] => []
  | f, c :: cs => nI (f + c.2.2.length) :: enC (f + c.2.2.length) cs
/-- a law's object: its rows -/
def LB (h : AH) (lq vq cq wq eq cl : Nat) (cs : List CLA) : Prop := hT h lq = (1, 0) ∧ (hQ h lq 9 = some vq ∧ hQ h lq 7 = some cq ∧ hQ h lq 4 = some wq ∧ hQ h lq 5 = some eq) ∧ (hT h vq = (14, 5) ∧ hT h cq = (14, cl) ∧ hT h wq = (14, 8) ∧ hT h eq = (14, 8)) ∧ (cq ≠ vq ∧ wq ≠ vq ∧ eq ≠ vq) ∧ hI h lq 6 = nI cs.length ∧ RD (hI h cq) 0 (encC cs) ∧ RD (hI h wq) 0 (cs.map wgC) ∧ RD (hI h eq) 0 (enC 0 cs)
theorem RD.app {f : Nat → Int32} : ∀ (a b : List Int32) (k : Nat), RD f k (a ++ b) → RD f k a ∧ RD f (k + a.length) b
  | [], b, k, h => ⟨fun j hj => absurd hj (Nat.not_lt_zero j), h⟩
  | x :: a, b, k, h => by
    have t := RD.app a b (k + 1) h.tl
    refine ⟨fun j hj => ?_, by rw [List.length_cons, show k + (a.length + 1) = k + 1 + a.length by omega]; exact t.2⟩
    match j, hj with
    | 0, _ => exact h.hd
    | j + 1, hj =>
      have := t.1 j (by simpa using hj)
      rw [show k + (j + 1) = k + 1 + j by omega, this]; simp
theorem encX_t {s : St} (e : s.1 = 0) : encX s = nI ((s.2.1 * 3 + s.2.2.1) * 1000 + s.2.2.2) := by unfold encX; rw [if_pos e]
theorem encX_1 {s : St} (e : s.1 = 1) : encX s = -3 := by unfold encX; rw [if_neg (by omega), if_pos e]
theorem encX_2 {s : St} (e : s.1 = 2) : encX s = -1 := by unfold encX; rw [if_neg (by omega), if_neg (by omega), if_pos e]
theorem encX_3 {s : St} (e : s.1 = 3) : encX s = -2 := by unfold encX; rw [if_neg (by omega), if_neg (by omega), if_neg (by omega)]
set_option maxRecDepth 100000 in
theorem l_test (g : GG) (h : AH) (lq vq cq wq eq cl : Nat) (cs : List CLA) (hb1 : LB h lq vq cq wq eq cl cs) (a b n : Nat) (ha : a < 5) (hb_ : b < 3) (hn : n ≤ 999) : AM g 1 0 0 mX1_testHolds [.ref lq, .int (nI ((a * 3 + b) * 1000 + n))] h (fun rv h' => rv = some (.int (b2i (tsT (hI h vq) (0, a, b, n)))) ∧ h' = h) := by
  refine AM.of [(0, .ref lq), (1, .int (nI ((a * 3 + b) * 1000 + n)))] (by decide) (Nat.le_of_ble_eq_true rfl) rfl ?_
  intro V hV
  have hb : V.2.1.2.1 = cX1_testHolds := by subst hV; rfl
  have ow : V.2.1.1.cls = RX1 := by subst hV; rfl
  have hr : V.2.2.1 = aw_rm 1 0 0 := by subst hV; rfl
  have hz : V.2.2.2 = aw_Z V.1 (fun rv h' => rv = some (.int (b2i (tsT (hI h vq) (0, a, b, n)))) ∧ h' = h) V.2.2.1 := by subst hV; rfl
  have hg : V.1 = g := by subst hV; rfl
  have hret : V.2.1.2.2.2 = (some .boolean) := by subst hV; rfl
  have hml : V.2.1.2.2.1 = 4 := by subst hV; rfl
  clear hV
  refine a_aload_n hb dX1_testHolds_0 rfl 0 rfl ?_
  refine a_getQ (q := vq) hb dX1_testHolds_1 (by rw [ow]; exact fl_RX1_29_1) hb1.1 hb1.2.1.1 ?_
  refine a_iload_n hb dX1_testHolds_4 rfl 1 rfl ?_
  refine a_sipush (v := 3000) hb dX1_testHolds_5 (by decide) ?_
  refine a_idiv hb dX1_testHolds_8 (by decide) ?_
  rw [tx_a ha hb_ hn]
  show AW V 0 0 h 9 [(0, .ref lq), (1, .int (nI ((a * 3 + b) * 1000 + n)))] [.int (nI a), .ref vq]
  refine b_iald (j := a) hb dX1_testHolds_9 hb1.2.2.1.1 (IX.n (by omega)) (by omega) ?_
  refine a_istore_n (L' := [(2, .int (hI h vq a)), (0, .ref lq), (1, .int (nI ((a * 3 + b) * 1000 + n)))]) hb dX1_testHolds_10 rfl (by rw [hml]; decide) rfl ?_
  refine a_iload_n hb dX1_testHolds_11 rfl 2 rfl ?_
  refine a_sipush (v := 1000) hb dX1_testHolds_12 (by decide) ?_
  refine a_irem hb dX1_testHolds_15 (by decide) ?_
  rw [tx_n ha hb_ hn]
  show AW V 0 0 h 16 [(2, .int (hI h vq a)), (0, .ref lq), (1, .int (nI ((a * 3 + b) * 1000 + n)))] [.int (nI n)]
  refine a_istore_n (L' := [(3, .int (nI n)), (2, .int (hI h vq a)), (0, .ref lq), (1, .int (nI ((a * 3 + b) * 1000 + n)))]) hb dX1_testHolds_16 rfl (by rw [hml]; decide) rfl ?_
  refine a_iload_n hb dX1_testHolds_17 rfl 3 rfl ?_
  refine a_sipush (v := 1000) hb dX1_testHolds_18 (by decide) ?_
  refine a_idiv hb dX1_testHolds_21 (by decide) ?_
  refine a_iconst (v := 3) hb dX1_testHolds_22 (by decide) ?_
  refine a_irem hb dX1_testHolds_23 (by decide) ?_
  rw [tx_b ha hb_ hn]
  show AW V 0 0 h 24 [(3, .int (nI n)), (2, .int (hI h vq a)), (0, .ref lq), (1, .int (nI ((a * 3 + b) * 1000 + n)))] [.int (nI b)]
  by_cases q24_0 : (nI b) = 0
  · refine a_lookup (off := 28) hb 52 dX1_testHolds_24 (by decide) (by rw [q24_0]; decide) (by decide) ?_
    refine a_iload_n hb dX1_testHolds_52 rfl 1 rfl ?_
    refine a_iload_n hb dX1_testHolds_53 rfl 0 rfl ?_
    refine a_icmp_ge hb 61 dX1_testHolds_54 (by decide) (fun c54 => ?_) (fun c54 => ?_)
    · refine a_iconst (v := 0) hb dX1_testHolds_61 (by decide) ?_
      exact a_ireturn (ty := .boolean) hb hz dX1_testHolds_62 hret (by first | rfl | (simp only [narrow]; done) | exact aw_nb _) (by rw [hr]; exact Nat.le_of_ble_eq_true rfl) (by rw [hr]; exact Nat.le_of_ble_eq_true rfl) (⟨by have g0 : b = 0 := (nI_eq (a := b) (b := 0) (by omega) (by decide)).mp q24_0; rw [tsT, if_pos g0]; rw [decide_eq_false (show _ from Int32.not_lt.mpr c54)]; rfl, rfl⟩)
    · refine a_iconst (v := 1) hb dX1_testHolds_57 (by decide) ?_
      refine a_goto hb 62 dX1_testHolds_58 (by decide) ?_
      exact a_ireturn (ty := .boolean) hb hz dX1_testHolds_62 hret (by first | rfl | (simp only [narrow]; done) | exact aw_nb _) (by rw [hr]; exact Nat.le_of_ble_eq_true rfl) (by rw [hr]; exact Nat.le_of_ble_eq_true rfl) (⟨by have g0 : b = 0 := (nI_eq (a := b) (b := 0) (by omega) (by decide)).mp q24_0; rw [tsT, if_pos g0]; rw [decide_eq_true (show _ from Int32.not_le.mp c54)]; rfl, rfl⟩)
  by_cases q24_1 : (nI b) = 1
  · refine a_lookup (off := 39) hb 63 dX1_testHolds_24 (by decide) (by rw [q24_1]; decide) (by decide) ?_
    refine a_iload_n hb dX1_testHolds_63 rfl 1 rfl ?_
    refine a_iload_n hb dX1_testHolds_64 rfl 0 rfl ?_
    refine a_icmp_ne hb 72 dX1_testHolds_65 (by decide) (fun c65 => ?_) (fun c65 => ?_)
    · refine a_iconst (v := 0) hb dX1_testHolds_72 (by decide) ?_
      exact a_ireturn (ty := .boolean) hb hz dX1_testHolds_73 hret (by first | rfl | (simp only [narrow]; done) | exact aw_nb _) (by rw [hr]; exact Nat.le_of_ble_eq_true rfl) (by rw [hr]; exact Nat.le_of_ble_eq_true rfl) (⟨by have g0 : b = 1 := (nI_eq (a := b) (b := 1) (by omega) (by decide)).mp q24_1; rw [tsT, if_neg (by show ¬ b = 0; omega), if_pos g0]; rw [decide_eq_false (show _ from c65)]; rfl, rfl⟩)
    · refine a_iconst (v := 1) hb dX1_testHolds_68 (by decide) ?_
      refine a_goto hb 73 dX1_testHolds_69 (by decide) ?_
      exact a_ireturn (ty := .boolean) hb hz dX1_testHolds_73 hret (by first | rfl | (simp only [narrow]; done) | exact aw_nb _) (by rw [hr]; exact Nat.le_of_ble_eq_true rfl) (by rw [hr]; exact Nat.le_of_ble_eq_true rfl) (⟨by have g0 : b = 1 := (nI_eq (a := b) (b := 1) (by omega) (by decide)).mp q24_1; rw [tsT, if_neg (by show ¬ b = 0; omega), if_pos g0]; rw [decide_eq_true (show _ from c65)]; rfl, rfl⟩)
  refine a_lookup (off := 50) hb 74 dX1_testHolds_24 (by decide) (by have z0 := lv_neT (k := 0) (a := 0) q24_0 (by decide); have z1 := lv_neT (k := 1) (a := 1) q24_1 (by decide); simp [Op.lookupswitch.offset]; omega) (by decide) ?_
  refine a_iload_n hb dX1_testHolds_74 rfl 1 rfl ?_
  refine a_iload_n hb dX1_testHolds_75 rfl 0 rfl ?_
  refine a_icmp_le hb 83 dX1_testHolds_76 (by decide) (fun c76 => ?_) (fun c76 => ?_)
  · refine a_iconst (v := 0) hb dX1_testHolds_83 (by decide) ?_
    exact a_ireturn (ty := .boolean) hb hz dX1_testHolds_84 hret (by first | rfl | (simp only [narrow]; done) | exact aw_nb _) (by rw [hr]; exact Nat.le_of_ble_eq_true rfl) (by rw [hr]; exact Nat.le_of_ble_eq_true rfl) (⟨by have g0 : ¬ b = 0 ∧ ¬ b = 1 := ⟨fun q => q24_0 (by rw [q]; rfl), fun q => q24_1 (by rw [q]; rfl)⟩; rw [tsT, if_neg g0.1, if_neg g0.2]; rw [decide_eq_false (show _ from Int32.not_lt.mpr c76)]; rfl, rfl⟩)
  · refine a_iconst (v := 1) hb dX1_testHolds_79 (by decide) ?_
    refine a_goto hb 84 dX1_testHolds_80 (by decide) ?_
    exact a_ireturn (ty := .boolean) hb hz dX1_testHolds_84 hret (by first | rfl | (simp only [narrow]; done) | exact aw_nb _) (by rw [hr]; exact Nat.le_of_ble_eq_true rfl) (by rw [hr]; exact Nat.le_of_ble_eq_true rfl) (⟨by have g0 : ¬ b = 0 ∧ ¬ b = 1 := ⟨fun q => q24_0 (by rw [q]; rfl), fun q => q24_1 (by rw [q]; rfl)⟩; rw [tsT, if_neg g0.1, if_neg g0.2]; rw [decide_eq_true (show _ from Int32.not_le.mp c76)]; rfl, rfl⟩)
set_option maxRecDepth 100000 in
theorem l_code (g : GG) (h : AH) (lq vq cq wq eq cl : Nat) (cs : List CLA) (hb1 : LB h lq vq cq wq eq cl cs) (f e : Nat) (he : e ≤ cl) (hcl : cl ≤ 200) (ss : List St) (v : Bool) (hrd : RD (hI h cq) f (ss.map encX)) (hfe : f + ss.length = e) (hok : ∀ s ∈ ss, okS s) (hev : Ev (hI h vq) ss [] = some [v]) : AM g 2 0 0 mX1_codeHolds [.ref lq, .int (nI f), .int (nI e)] h (fun rv h' => rv = some (.int (b2i v)) ∧ h' = h) := by
  refine AM.of [(0, .ref lq), (1, .int (nI f)), (2, .int (nI e))] (by decide) (Nat.le_of_ble_eq_true rfl) rfl ?_
  intro V hV
  have hb : V.2.1.2.1 = cX1_codeHolds := by subst hV; rfl
  have ow : V.2.1.1.cls = RX1 := by subst hV; rfl
  have hr : V.2.2.1 = aw_rm 2 0 0 := by subst hV; rfl
  have hz : V.2.2.2 = aw_Z V.1 (fun rv h' => rv = some (.int (b2i v)) ∧ h' = h) V.2.2.1 := by subst hV; rfl
  have hg : V.1 = g := by subst hV; rfl
  have hret : V.2.1.2.2.2 = (some .boolean) := by subst hV; rfl
  have hml : V.2.1.2.2.1 = 7 := by subst hV; rfl
  clear hV
  have loop : ∀ (ss : List St) (st : List Bool) (i : Nat), RD (hI h cq) i (ss.map encX) → i + ss.length = e → (∀ s ∈ ss, okS s) → Ev (hI h vq) ss st = some [v] → st.length ≤ 14 → AW V 0 0 h 5 [(0, .ref lq), (1, .int (nI f)), (2, .int (nI e)), (3, .int (nI (vb st))), (4, .int (nI i))] [] := by
    intro ss
    induction ss with
    | nil =>
      intro st i hr1 hi1 ho1 he1 hs1
      obtain rfl : st = [v] := by simpa [Ev] using he1
      have hie : i = e := by have q : i + 0 = e := hi1; omega
      show AW V 0 0 h 5 [(0, .ref lq), (1, .int (nI f)), (2, .int (nI e)), (3, .int (nI (vb [v]))), (4, .int (nI i))] []
      refine a_iload hb dX1_codeHolds_5 4 rfl ?_
      refine a_iload_n hb dX1_codeHolds_7 rfl 2 rfl ?_
      refine a_icmp_ge hb 122 dX1_codeHolds_8 (by decide) (fun c8 => ?_) (fun c8 => absurd (nI_le (by omega) (by omega)) c8)
      refine a_iload_n hb dX1_codeHolds_122 rfl 3 rfl ?_
      refine a_iconst (v := 1) hb dX1_codeHolds_123 (by decide) ?_
      refine a_iand hb dX1_codeHolds_124 ?_
      rw [vb_top]
      show AW V 0 0 h 125 [(0, .ref lq), (1, .int (nI f)), (2, .int (nI e)), (3, .int (nI (vb [v]))), (4, .int (nI i))] [.int (b2i v)]
      refine a_iconst (v := 1) hb dX1_codeHolds_125 (by decide) ?_
      refine a_icmp_ne hb 133 dX1_codeHolds_126 (by decide) (fun c126 => ?_) (fun c126 => ?_)
      · simp [b2i_1] at c126
        refine a_iconst (v := 0) hb dX1_codeHolds_133 (by decide) ?_
        exact a_ireturn (ty := .boolean) hb hz dX1_codeHolds_134 hret (by first | rfl | (simp only [narrow]; done) | exact aw_nb _) (by rw [hr]; exact Nat.le_of_ble_eq_true rfl) (by rw [hr]; exact Nat.le_of_ble_eq_true rfl) (⟨by rw [c126]; rfl, rfl⟩)
      · simp [b2i_1] at c126
        refine a_iconst (v := 1) hb dX1_codeHolds_129 (by decide) ?_
        refine a_goto hb 134 dX1_codeHolds_130 (by decide) ?_
        exact a_ireturn (ty := .boolean) hb hz dX1_codeHolds_134 hret (by first | rfl | (simp only [narrow]; done) | exact aw_nb _) (by rw [hr]; exact Nat.le_of_ble_eq_true rfl) (by rw [hr]; exact Nat.le_of_ble_eq_true rfl) (⟨by rw [c126]; rfl, rfl⟩)
    | cons s ss ih =>
      intro st i hr1 hi1 ho1 he1 hs1
      have hlt : i + ss.length + 1 = e := by have q : i + (s :: ss).length = e := hi1; rw [List.length_cons] at q; omega
      have hc0 := RD.hd (x := encX s) (l := ss.map encX) hr1
      have htl := RD.tl (x := encX s) (l := ss.map encX) hr1
      have hok4 : ∀ s ∈ ss, okS s := fun q hq => ho1 q (List.mem_cons_of_mem _ hq)
      have hks := ho1 s List.mem_cons_self
      have hk4 : s.1 = 0 ∨ s.1 = 1 ∨ s.1 = 2 ∨ s.1 = 3 := by have := hks.1; omega
      rcases hk4 with e0 | e0 | e0 | e0
      · rw [encX_t e0] at hc0
        obtain ⟨l14, hev2⟩ := ev_c0 e0 he1
        obtain ⟨s1, s2, s3⟩ := hks.2 e0
        show AW V 0 0 h 5 [(0, .ref lq), (1, .int (nI f)), (2, .int (nI e)), (3, .int (nI (vb st))), (4, .int (nI i))] []
        refine a_iload hb dX1_codeHolds_5 4 rfl ?_
        refine a_iload_n hb dX1_codeHolds_7 rfl 2 rfl ?_
        refine a_icmp_ge hb 122 dX1_codeHolds_8 (by decide) (fun c8 => absurd c8 (nI_ge (by omega) (by omega))) (fun c8 => ?_)
        refine a_iload_n hb dX1_codeHolds_11 rfl 3 rfl ?_
        refine a_iconst (v := 1) hb dX1_codeHolds_12 (by decide) ?_
        refine a_iand hb dX1_codeHolds_13 ?_
        refine a_istore (L' := [(5, .int ((nI (vb st)) &&& 1)), (0, .ref lq), (1, .int (nI f)), (2, .int (nI e)), (3, .int (nI (vb st))), (4, .int (nI i))]) hb dX1_codeHolds_14 (by rw [hml]; decide) rfl ?_
        refine a_iload_n hb dX1_codeHolds_16 rfl 4 rfl ?_
        refine a_iconst (v := 1) hb dX1_codeHolds_17 (by decide) ?_
        refine a_ishr hb dX1_codeHolds_18 ?_
        refine a_istore (L' := [(6, .int ((nI (vb st)) >>> (1 &&& 31))), (5, .int ((nI (vb st)) &&& 1)), (0, .ref lq), (1, .int (nI f)), (2, .int (nI e)), (3, .int (nI (vb st))), (4, .int (nI i))]) hb dX1_codeHolds_19 (by rw [hml]; decide) rfl ?_
        refine a_aload_n hb dX1_codeHolds_21 rfl 2 rfl ?_
        refine a_getQ (q := cq) hb dX1_codeHolds_22 (by rw [ow]; exact fl_RX1_36_1) hb1.1 hb1.2.1.2.1 ?_
        refine a_iload hb dX1_codeHolds_25 6 rfl ?_
        refine b_iald (j := i) hb dX1_codeHolds_27 hb1.2.2.1.2.1 (IX.n (by omega)) (by omega) ?_
        rw [hc0]
        show AW V 0 0 h 28 [(6, .int ((nI (vb st)) >>> (1 &&& 31))), (5, .int ((nI (vb st)) &&& 1)), (0, .ref lq), (1, .int (nI f)), (2, .int (nI e)), (3, .int (nI (vb st))), (4, .int (nI i))] [.int (nI ((s.2.1 * 3 + s.2.2.1) * 1000 + s.2.2.2))]
        have nsw903 : ¬ (nI ((s.2.1 * 3 + s.2.2.1) * 1000 + s.2.2.2)) = (-3) := (fun q => nI_pos (n := (s.2.1 * 3 + s.2.2.1) * 1000 + s.2.2.2) (by omega) (by rw [q]; decide))
        have nsw902 : ¬ (nI ((s.2.1 * 3 + s.2.2.1) * 1000 + s.2.2.2)) = (-2) := (fun q => nI_pos (n := (s.2.1 * 3 + s.2.2.1) * 1000 + s.2.2.2) (by omega) (by rw [q]; decide))
        have nsw901 : ¬ (nI ((s.2.1 * 3 + s.2.2.1) * 1000 + s.2.2.2)) = (-1) := (fun q => nI_pos (n := (s.2.1 * 3 + s.2.2.1) * 1000 + s.2.2.2) (by omega) (by rw [q]; decide))
        refine a_tableOut hb 92 dX1_codeHolds_28 (by have z903 := lv_neT (k := (-3)) (a := -3) nsw903 (by decide); have z902 := lv_neT (k := (-2)) (a := -2) nsw902 (by decide); have z901 := lv_neT (k := (-1)) (a := -1) nsw901 (by decide); omega) (by decide) ?_
        refine a_iload_n hb dX1_codeHolds_92 rfl 5 rfl ?_
        refine a_iconst (v := 1) hb dX1_codeHolds_93 (by decide) ?_
        refine a_ishl hb dX1_codeHolds_94 ?_
        refine a_aload_n hb dX1_codeHolds_95 rfl 2 rfl ?_
        refine a_aload_n hb dX1_codeHolds_96 rfl 2 rfl ?_
        refine a_getQ (q := cq) hb dX1_codeHolds_97 (by rw [ow]; exact fl_RX1_36_1) hb1.1 hb1.2.1.2.1 ?_
        refine a_iload hb dX1_codeHolds_100 6 rfl ?_
        refine b_iald (j := i) hb dX1_codeHolds_102 hb1.2.2.1.2.1 (IX.n (by omega)) (by omega) ?_
        rw [hc0]
        show AW V 0 0 h 103 [(6, .int ((nI (vb st)) >>> (1 &&& 31))), (5, .int ((nI (vb st)) &&& 1)), (0, .ref lq), (1, .int (nI f)), (2, .int (nI e)), (3, .int (nI (vb st))), (4, .int (nI i))] [.int (nI ((s.2.1 * 3 + s.2.2.1) * 1000 + s.2.2.2)), .ref lq, .int ((nI (vb st)) <<< (1 &&& 31))]
        refine a_callV hb dX1_codeHolds_103 (by rw [hg]; exact l_test g h lq vq cq wq eq cl cs hb1 s.2.1 s.2.2.1 s.2.2.2 s1 s2 s3) (by rw [ow]; exact clv_RX1_61) hb1.1 (by decide) rfl rfl rfl (Nat.le_of_ble_eq_true rfl) (by rw [hr]; exact ⟨by decide, by decide⟩) (by rw [hr]; exact ⟨Nat.le_of_ble_eq_true rfl, Nat.le_of_ble_eq_true rfl⟩) ?_
        intro rv h' hq_
        rw [hq_.1, hq_.2]
        show AW V 0 0 h 106 [(6, .int ((nI (vb st)) >>> (1 &&& 31))), (5, .int ((nI (vb st)) &&& 1)), (0, .ref lq), (1, .int (nI f)), (2, .int (nI e)), (3, .int (nI (vb st))), (4, .int (nI i))] [.int (b2i (tsT (hI h vq) (0, s.2.1, s.2.2.1, s.2.2.2))), .int ((nI (vb st)) <<< (1 &&& 31))]
        refine a_if_eq hb 113 dX1_codeHolds_106 (by decide) (fun c106 => ?_) (fun c106 => ?_)
        · simp [b2i_0] at c106
          refine a_iconst (v := 0) hb dX1_codeHolds_113 (by decide) ?_
          refine a_ior hb dX1_codeHolds_114 ?_
          have ht_ : tsT (hI h vq) s = false := by rw [show tsT (hI h vq) s = tsT (hI h vq) (0, s.2.1, s.2.2.1, s.2.2.2) from rfl]; simpa using c106
          rw [show nI (vb st) <<< ((1 : Int32) &&& 31) ||| 0 = nI (vb (tsT (hI h vq) s :: st)) from by rw [← vb_shl (by omega), ht_]; rfl]
          show AW V 0 0 h 115 [(6, .int ((nI (vb st)) >>> (1 &&& 31))), (5, .int ((nI (vb st)) &&& 1)), (0, .ref lq), (1, .int (nI f)), (2, .int (nI e)), (3, .int (nI (vb st))), (4, .int (nI i))] [.int (nI (vb (tsT (hI h vq) s :: st)))]
          refine a_istore_n (L' := [(3, .int (nI (vb (tsT (hI h vq) s :: st)))), (6, .int ((nI (vb st)) >>> (1 &&& 31))), (5, .int ((nI (vb st)) &&& 1)), (0, .ref lq), (1, .int (nI f)), (2, .int (nI e)), (4, .int (nI i))]) hb dX1_codeHolds_115 rfl (by rw [hml]; decide) rfl ?_
          refine a_iinc (v := ((nI i) + 1)) (L' := [(4, .int ((nI i) + 1)), (3, .int (nI (vb (tsT (hI h vq) s :: st)))), (6, .int ((nI (vb st)) >>> (1 &&& 31))), (5, .int ((nI (vb st)) &&& 1)), (0, .ref lq), (1, .int (nI f)), (2, .int (nI e))]) hb dX1_codeHolds_116 6 rfl rfl (by rw [hml]; decide) rfl ?_
          refine a_goto hb 5 dX1_codeHolds_119 (by decide) ?_
          refine AW.sub (L' := [(0, .ref lq), (1, .int (nI f)), (2, .int (nI e)), (3, .int (nI (vb (tsT (hI h vq) s :: st)))), (4, .int ((nI i) + 1))]) [4, 5, 6, 1, 0] rfl ?_
          exact AW.eq (ih (tsT (hI h vq) s :: st) (i + 1) htl (by omega) hok4 hev2 (by simp at hs1 ⊢; omega)) rfl rfl (by rw [nI_1]) rfl
        · simp [b2i_0] at c106
          refine a_iconst (v := 1) hb dX1_codeHolds_109 (by decide) ?_
          refine a_goto hb 114 dX1_codeHolds_110 (by decide) ?_
          refine a_ior hb dX1_codeHolds_114 ?_
          have ht_ : tsT (hI h vq) s = true := by rw [show tsT (hI h vq) s = tsT (hI h vq) (0, s.2.1, s.2.2.1, s.2.2.2) from rfl]; simpa using c106
          rw [show nI (vb st) <<< ((1 : Int32) &&& 31) ||| 1 = nI (vb (tsT (hI h vq) s :: st)) from by rw [← vb_shl (by omega), ht_]; rfl]
          show AW V 0 0 h 115 [(6, .int ((nI (vb st)) >>> (1 &&& 31))), (5, .int ((nI (vb st)) &&& 1)), (0, .ref lq), (1, .int (nI f)), (2, .int (nI e)), (3, .int (nI (vb st))), (4, .int (nI i))] [.int (nI (vb (tsT (hI h vq) s :: st)))]
          refine a_istore_n (L' := [(3, .int (nI (vb (tsT (hI h vq) s :: st)))), (6, .int ((nI (vb st)) >>> (1 &&& 31))), (5, .int ((nI (vb st)) &&& 1)), (0, .ref lq), (1, .int (nI f)), (2, .int (nI e)), (4, .int (nI i))]) hb dX1_codeHolds_115 rfl (by rw [hml]; decide) rfl ?_
          refine a_iinc (v := ((nI i) + 1)) (L' := [(4, .int ((nI i) + 1)), (3, .int (nI (vb (tsT (hI h vq) s :: st)))), (6, .int ((nI (vb st)) >>> (1 &&& 31))), (5, .int ((nI (vb st)) &&& 1)), (0, .ref lq), (1, .int (nI f)), (2, .int (nI e))]) hb dX1_codeHolds_116 6 rfl rfl (by rw [hml]; decide) rfl ?_
          refine a_goto hb 5 dX1_codeHolds_119 (by decide) ?_
          refine AW.sub (L' := [(0, .ref lq), (1, .int (nI f)), (2, .int (nI e)), (3, .int (nI (vb (tsT (hI h vq) s :: st)))), (4, .int ((nI i) + 1))]) [4, 5, 6, 1, 0] rfl ?_
          exact AW.eq (ih (tsT (hI h vq) s :: st) (i + 1) htl (by omega) hok4 hev2 (by simp at hs1 ⊢; omega)) rfl rfl (by rw [nI_1]) rfl
      · rw [encX_1 e0] at hc0
        obtain ⟨b, r, rfl, hev2⟩ := ev_c1 e0 he1
        have hl15 : (b :: r).length ≤ 15 := by omega
        show AW V 0 0 h 5 [(0, .ref lq), (1, .int (nI f)), (2, .int (nI e)), (3, .int (nI (vb (b :: r)))), (4, .int (nI i))] []
        refine a_iload hb dX1_codeHolds_5 4 rfl ?_
        refine a_iload_n hb dX1_codeHolds_7 rfl 2 rfl ?_
        refine a_icmp_ge hb 122 dX1_codeHolds_8 (by decide) (fun c8 => absurd c8 (nI_ge (by omega) (by omega))) (fun c8 => ?_)
        refine a_iload_n hb dX1_codeHolds_11 rfl 3 rfl ?_
        refine a_iconst (v := 1) hb dX1_codeHolds_12 (by decide) ?_
        refine a_iand hb dX1_codeHolds_13 ?_
        rw [vb_top]
        show AW V 0 0 h 14 [(0, .ref lq), (1, .int (nI f)), (2, .int (nI e)), (3, .int (nI (vb (b :: r)))), (4, .int (nI i))] [.int (b2i b)]
        refine a_istore (L' := [(5, .int (b2i b)), (0, .ref lq), (1, .int (nI f)), (2, .int (nI e)), (3, .int (nI (vb (b :: r)))), (4, .int (nI i))]) hb dX1_codeHolds_14 (by rw [hml]; decide) rfl ?_
        refine a_iload_n hb dX1_codeHolds_16 rfl 4 rfl ?_
        refine a_iconst (v := 1) hb dX1_codeHolds_17 (by decide) ?_
        refine a_ishr hb dX1_codeHolds_18 ?_
        rw [vb_bel hl15]
        show AW V 0 0 h 19 [(5, .int (b2i b)), (0, .ref lq), (1, .int (nI f)), (2, .int (nI e)), (3, .int (nI (vb (b :: r)))), (4, .int (nI i))] [.int (nI (vb r))]
        refine a_istore (L' := [(6, .int (nI (vb r))), (5, .int (b2i b)), (0, .ref lq), (1, .int (nI f)), (2, .int (nI e)), (3, .int (nI (vb (b :: r)))), (4, .int (nI i))]) hb dX1_codeHolds_19 (by rw [hml]; decide) rfl ?_
        refine a_aload_n hb dX1_codeHolds_21 rfl 2 rfl ?_
        refine a_getQ (q := cq) hb dX1_codeHolds_22 (by rw [ow]; exact fl_RX1_36_1) hb1.1 hb1.2.1.2.1 ?_
        refine a_iload hb dX1_codeHolds_25 6 rfl ?_
        refine b_iald (j := i) hb dX1_codeHolds_27 hb1.2.2.1.2.1 (IX.n (by omega)) (by omega) ?_
        rw [hc0]
        show AW V 0 0 h 28 [(6, .int (nI (vb r))), (5, .int (b2i b)), (0, .ref lq), (1, .int (nI f)), (2, .int (nI e)), (3, .int (nI (vb (b :: r)))), (4, .int (nI i))] [.int (-3)]
        refine a_tableIn (off := 28) hb 56 dX1_codeHolds_28 (by decide) (by decide) (by decide) (by decide) ?_
        refine a_iload_n hb dX1_codeHolds_56 rfl 5 rfl ?_
        refine a_iconst (v := 1) hb dX1_codeHolds_57 (by decide) ?_
        refine a_ixor hb dX1_codeHolds_58 ?_
        rw [vb_not]
        show AW V 0 0 h 59 [(6, .int (nI (vb r))), (5, .int (b2i b)), (0, .ref lq), (1, .int (nI f)), (2, .int (nI e)), (3, .int (nI (vb (b :: r)))), (4, .int (nI i))] [.int (nI (vb ((!b) :: r)))]
        refine a_istore_n (L' := [(3, .int (nI (vb ((!b) :: r)))), (6, .int (nI (vb r))), (5, .int (b2i b)), (0, .ref lq), (1, .int (nI f)), (2, .int (nI e)), (4, .int (nI i))]) hb dX1_codeHolds_59 rfl (by rw [hml]; decide) rfl ?_
        refine a_goto hb 116 dX1_codeHolds_60 (by decide) ?_
        refine a_iinc (v := ((nI i) + 1)) (L' := [(4, .int ((nI i) + 1)), (3, .int (nI (vb ((!b) :: r)))), (6, .int (nI (vb r))), (5, .int (b2i b)), (0, .ref lq), (1, .int (nI f)), (2, .int (nI e))]) hb dX1_codeHolds_116 6 rfl rfl (by rw [hml]; decide) rfl ?_
        refine a_goto hb 5 dX1_codeHolds_119 (by decide) ?_
        refine AW.sub (L' := [(0, .ref lq), (1, .int (nI f)), (2, .int (nI e)), (3, .int (nI (vb ((!b) :: r)))), (4, .int ((nI i) + 1))]) [4, 5, 6, 1, 0] rfl ?_
        exact AW.eq (ih ((!b) :: r) (i + 1) htl (by omega) hok4 hev2 (by simp at hs1 ⊢; omega)) rfl rfl (by rw [nI_1]) rfl
      · rw [encX_2 e0] at hc0
        obtain ⟨b, b0, r, rfl, hev2⟩ := ev_c2 e0 he1
        have hl15 : (b :: b0 :: r).length ≤ 15 := by omega
        show AW V 0 0 h 5 [(0, .ref lq), (1, .int (nI f)), (2, .int (nI e)), (3, .int (nI (vb (b :: b0 :: r)))), (4, .int (nI i))] []
        refine a_iload hb dX1_codeHolds_5 4 rfl ?_
        refine a_iload_n hb dX1_codeHolds_7 rfl 2 rfl ?_
        refine a_icmp_ge hb 122 dX1_codeHolds_8 (by decide) (fun c8 => absurd c8 (nI_ge (by omega) (by omega))) (fun c8 => ?_)
        refine a_iload_n hb dX1_codeHolds_11 rfl 3 rfl ?_
        refine a_iconst (v := 1) hb dX1_codeHolds_12 (by decide) ?_
        refine a_iand hb dX1_codeHolds_13 ?_
        rw [vb_top]
        show AW V 0 0 h 14 [(0, .ref lq), (1, .int (nI f)), (2, .int (nI e)), (3, .int (nI (vb (b :: b0 :: r)))), (4, .int (nI i))] [.int (b2i b)]
        refine a_istore (L' := [(5, .int (b2i b)), (0, .ref lq), (1, .int (nI f)), (2, .int (nI e)), (3, .int (nI (vb (b :: b0 :: r)))), (4, .int (nI i))]) hb dX1_codeHolds_14 (by rw [hml]; decide) rfl ?_
        refine a_iload_n hb dX1_codeHolds_16 rfl 4 rfl ?_
        refine a_iconst (v := 1) hb dX1_codeHolds_17 (by decide) ?_
        refine a_ishr hb dX1_codeHolds_18 ?_
        rw [vb_bel hl15]
        show AW V 0 0 h 19 [(5, .int (b2i b)), (0, .ref lq), (1, .int (nI f)), (2, .int (nI e)), (3, .int (nI (vb (b :: b0 :: r)))), (4, .int (nI i))] [.int (nI (vb (b0 :: r)))]
        refine a_istore (L' := [(6, .int (nI (vb (b0 :: r)))), (5, .int (b2i b)), (0, .ref lq), (1, .int (nI f)), (2, .int (nI e)), (3, .int (nI (vb (b :: b0 :: r)))), (4, .int (nI i))]) hb dX1_codeHolds_19 (by rw [hml]; decide) rfl ?_
        refine a_aload_n hb dX1_codeHolds_21 rfl 2 rfl ?_
        refine a_getQ (q := cq) hb dX1_codeHolds_22 (by rw [ow]; exact fl_RX1_36_1) hb1.1 hb1.2.1.2.1 ?_
        refine a_iload hb dX1_codeHolds_25 6 rfl ?_
        refine b_iald (j := i) hb dX1_codeHolds_27 hb1.2.2.1.2.1 (IX.n (by omega)) (by omega) ?_
        rw [hc0]
        show AW V 0 0 h 28 [(6, .int (nI (vb (b0 :: r)))), (5, .int (b2i b)), (0, .ref lq), (1, .int (nI f)), (2, .int (nI e)), (3, .int (nI (vb (b :: b0 :: r)))), (4, .int (nI i))] [.int (-1)]
        refine a_tableIn (off := 35) hb 63 dX1_codeHolds_28 (by decide) (by decide) (by decide) (by decide) ?_
        refine a_iload hb dX1_codeHolds_63 1 rfl ?_
        refine a_iconst (v := 1) hb dX1_codeHolds_65 (by decide) ?_
        refine a_icmp_ne hb 74 dX1_codeHolds_66 (by decide) (fun c66 => ?_) (fun c66 => ?_)
        · simp [b2i_1] at c66
          refine a_iload hb dX1_codeHolds_74 0 rfl ?_
          refine a_bipush (v := (-2)) hb dX1_codeHolds_76 (by decide) ?_
          refine a_iand hb dX1_codeHolds_78 ?_
          rw [vb_and]
          show AW V 0 0 h 79 [(6, .int (nI (vb (b0 :: r)))), (5, .int (b2i b)), (0, .ref lq), (1, .int (nI f)), (2, .int (nI e)), (3, .int (nI (vb (b :: b0 :: r)))), (4, .int (nI i))] [.int (nI (vb (false :: r)))]
          refine a_istore_n (L' := [(3, .int (nI (vb (false :: r)))), (6, .int (nI (vb (b0 :: r)))), (5, .int (b2i b)), (0, .ref lq), (1, .int (nI f)), (2, .int (nI e)), (4, .int (nI i))]) hb dX1_codeHolds_79 rfl (by rw [hml]; decide) rfl ?_
          refine a_goto hb 116 dX1_codeHolds_80 (by decide) ?_
          refine a_iinc (v := ((nI i) + 1)) (L' := [(4, .int ((nI i) + 1)), (3, .int (nI (vb (false :: r)))), (6, .int (nI (vb (b0 :: r)))), (5, .int (b2i b)), (0, .ref lq), (1, .int (nI f)), (2, .int (nI e))]) hb dX1_codeHolds_116 6 rfl rfl (by rw [hml]; decide) rfl ?_
          refine a_goto hb 5 dX1_codeHolds_119 (by decide) ?_
          refine AW.sub (L' := [(0, .ref lq), (1, .int (nI f)), (2, .int (nI e)), (3, .int (nI (vb (false :: r)))), (4, .int ((nI i) + 1))]) [4, 5, 6, 1, 0] rfl ?_
          exact AW.eq (ih ((b0 && b) :: r) (i + 1) htl (by omega) hok4 hev2 (by simp at hs1 ⊢; omega)) rfl rfl (by rw [c66, Bool.and_false, nI_1]) rfl
        · simp [b2i_1] at c66
          refine a_iload hb dX1_codeHolds_69 0 rfl ?_
          refine a_goto hb 79 dX1_codeHolds_71 (by decide) ?_
          refine a_istore_n (L' := [(3, .int (nI (vb (b0 :: r)))), (6, .int (nI (vb (b0 :: r)))), (5, .int (b2i b)), (0, .ref lq), (1, .int (nI f)), (2, .int (nI e)), (4, .int (nI i))]) hb dX1_codeHolds_79 rfl (by rw [hml]; decide) rfl ?_
          refine a_goto hb 116 dX1_codeHolds_80 (by decide) ?_
          refine a_iinc (v := ((nI i) + 1)) (L' := [(4, .int ((nI i) + 1)), (3, .int (nI (vb (b0 :: r)))), (6, .int (nI (vb (b0 :: r)))), (5, .int (b2i b)), (0, .ref lq), (1, .int (nI f)), (2, .int (nI e))]) hb dX1_codeHolds_116 6 rfl rfl (by rw [hml]; decide) rfl ?_
          refine a_goto hb 5 dX1_codeHolds_119 (by decide) ?_
          refine AW.sub (L' := [(0, .ref lq), (1, .int (nI f)), (2, .int (nI e)), (3, .int (nI (vb (b0 :: r)))), (4, .int ((nI i) + 1))]) [4, 5, 6, 1, 0] rfl ?_
          exact AW.eq (ih ((b0 && b) :: r) (i + 1) htl (by omega) hok4 hev2 (by simp at hs1 ⊢; omega)) rfl rfl (by rw [c66, Bool.and_true, nI_1]) rfl
      · rw [encX_3 e0] at hc0
        obtain ⟨b, b0, r, rfl, hev2⟩ := ev_c3 e0 he1
        have hl15 : (b :: b0 :: r).length ≤ 15 := by omega
        show AW V 0 0 h 5 [(0, .ref lq), (1, .int (nI f)), (2, .int (nI e)), (3, .int (nI (vb (b :: b0 :: r)))), (4, .int (nI i))] []
        refine a_iload hb dX1_codeHolds_5 4 rfl ?_
        refine a_iload_n hb dX1_codeHolds_7 rfl 2 rfl ?_
        refine a_icmp_ge hb 122 dX1_codeHolds_8 (by decide) (fun c8 => absurd c8 (nI_ge (by omega) (by omega))) (fun c8 => ?_)
        refine a_iload_n hb dX1_codeHolds_11 rfl 3 rfl ?_
        refine a_iconst (v := 1) hb dX1_codeHolds_12 (by decide) ?_
        refine a_iand hb dX1_codeHolds_13 ?_
        rw [vb_top]
        show AW V 0 0 h 14 [(0, .ref lq), (1, .int (nI f)), (2, .int (nI e)), (3, .int (nI (vb (b :: b0 :: r)))), (4, .int (nI i))] [.int (b2i b)]
        refine a_istore (L' := [(5, .int (b2i b)), (0, .ref lq), (1, .int (nI f)), (2, .int (nI e)), (3, .int (nI (vb (b :: b0 :: r)))), (4, .int (nI i))]) hb dX1_codeHolds_14 (by rw [hml]; decide) rfl ?_
        refine a_iload_n hb dX1_codeHolds_16 rfl 4 rfl ?_
        refine a_iconst (v := 1) hb dX1_codeHolds_17 (by decide) ?_
        refine a_ishr hb dX1_codeHolds_18 ?_
        rw [vb_bel hl15]
        show AW V 0 0 h 19 [(5, .int (b2i b)), (0, .ref lq), (1, .int (nI f)), (2, .int (nI e)), (3, .int (nI (vb (b :: b0 :: r)))), (4, .int (nI i))] [.int (nI (vb (b0 :: r)))]
        refine a_istore (L' := [(6, .int (nI (vb (b0 :: r)))), (5, .int (b2i b)), (0, .ref lq), (1, .int (nI f)), (2, .int (nI e)), (3, .int (nI (vb (b :: b0 :: r)))), (4, .int (nI i))]) hb dX1_codeHolds_19 (by rw [hml]; decide) rfl ?_
        refine a_aload_n hb dX1_codeHolds_21 rfl 2 rfl ?_
        refine a_getQ (q := cq) hb dX1_codeHolds_22 (by rw [ow]; exact fl_RX1_36_1) hb1.1 hb1.2.1.2.1 ?_
        refine a_iload hb dX1_codeHolds_25 6 rfl ?_
        refine b_iald (j := i) hb dX1_codeHolds_27 hb1.2.2.1.2.1 (IX.n (by omega)) (by omega) ?_
        rw [hc0]
        show AW V 0 0 h 28 [(6, .int (nI (vb (b0 :: r)))), (5, .int (b2i b)), (0, .ref lq), (1, .int (nI f)), (2, .int (nI e)), (3, .int (nI (vb (b :: b0 :: r)))), (4, .int (nI i))] [.int (-2)]
        refine a_tableIn (off := 55) hb 83 dX1_codeHolds_28 (by decide) (by decide) (by decide) (by decide) ?_
        refine a_iload hb dX1_codeHolds_83 0 rfl ?_
        refine a_iload hb dX1_codeHolds_85 1 rfl ?_
        refine a_ior hb dX1_codeHolds_87 ?_
        rw [vb_or]
        show AW V 0 0 h 88 [(6, .int (nI (vb (b0 :: r)))), (5, .int (b2i b)), (0, .ref lq), (1, .int (nI f)), (2, .int (nI e)), (3, .int (nI (vb (b :: b0 :: r)))), (4, .int (nI i))] [.int (nI (vb ((b0 || b) :: r)))]
        refine a_istore_n (L' := [(3, .int (nI (vb ((b0 || b) :: r)))), (6, .int (nI (vb (b0 :: r)))), (5, .int (b2i b)), (0, .ref lq), (1, .int (nI f)), (2, .int (nI e)), (4, .int (nI i))]) hb dX1_codeHolds_88 rfl (by rw [hml]; decide) rfl ?_
        refine a_goto hb 116 dX1_codeHolds_89 (by decide) ?_
        refine a_iinc (v := ((nI i) + 1)) (L' := [(4, .int ((nI i) + 1)), (3, .int (nI (vb ((b0 || b) :: r)))), (6, .int (nI (vb (b0 :: r)))), (5, .int (b2i b)), (0, .ref lq), (1, .int (nI f)), (2, .int (nI e))]) hb dX1_codeHolds_116 6 rfl rfl (by rw [hml]; decide) rfl ?_
        refine a_goto hb 5 dX1_codeHolds_119 (by decide) ?_
        refine AW.sub (L' := [(0, .ref lq), (1, .int (nI f)), (2, .int (nI e)), (3, .int (nI (vb ((b0 || b) :: r)))), (4, .int ((nI i) + 1))]) [4, 5, 6, 1, 0] rfl ?_
        exact AW.eq (ih ((b0 || b) :: r) (i + 1) htl (by omega) hok4 hev2 (by simp at hs1 ⊢; omega)) rfl rfl (by rw [nI_1]) rfl
  refine a_iconst (v := 0) hb dX1_codeHolds_0 (by decide) ?_
  refine a_istore_n (L' := [(3, .int 0), (0, .ref lq), (1, .int (nI f)), (2, .int (nI e))]) hb dX1_codeHolds_1 rfl (by rw [hml]; decide) rfl ?_
  refine a_iload_n hb dX1_codeHolds_2 rfl 2 rfl ?_
  refine a_istore (L' := [(4, .int (nI f)), (3, .int 0), (0, .ref lq), (1, .int (nI f)), (2, .int (nI e))]) hb dX1_codeHolds_3 (by rw [hml]; decide) rfl ?_
  refine AW.sub (L' := [(0, .ref lq), (1, .int (nI f)), (2, .int (nI e)), (3, .int 0), (4, .int (nI f))]) [2, 3, 4, 1, 0] rfl ?_
  exact AW.eq (loop ss [] f hrd hfe hok hev (by decide)) rfl rfl rfl rfl
