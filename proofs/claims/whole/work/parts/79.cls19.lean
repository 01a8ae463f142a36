/-! ===== the class: trace, as ===== -/
theorem c_in {m n : Nat} (h : m < n) (hn : n ≤ 1000) : oO (nI m) 0 (nI n - 1) = false := by
  rw [show nI n - 1 = nI (n - 1) from by have := pk_sub (a := n) (b := 1) (by omega); rw [← this]; rfl]
  exact oO_n0 (by omega) (by omega)
theorem c_ge {x : Int32} {n : Nat} (hn : n ≤ 20) (h : nI n ≤ x) : oO x 0 (nI n - 1) = true := by
  by_cases e : oO x 0 (nI n - 1) = true
  · exact e
  · obtain ⟨m, e1, e2⟩ := c_lt hn (show oO x 0 (nI n - 1) = false by simpa using e)
    subst e1
    exact absurd ((nI_leI (by omega) (by omega)).mp h) (by omega)
set_option maxRecDepth 100000 in
theorem x_trace (g : GG) (h : AH) (B : Nat) (S : Nat → Int32) (N : NN) (hX : XN h B S N) (rn : Nat) (hrn : hI h (B + 19) 1 = nI rn) (lrn : rn ≤ 20) (x : Int32) : AM g 1 0 0 mX11_trace [.ref B, .int x] h (fun rv h' => rv = some (.int (if oO x 0 (nI rn - 1) then -1 else hI h (B + 20) x.toNatClampNeg)) ∧ h' = h) := by
  refine AM.of [(0, .ref B), (1, .int x)] (by decide) (Nat.le_of_ble_eq_true rfl) rfl ?_
  intro V hV
  have hb : V.2.1.2.1 = cX11_trace := by subst hV; rfl
  have ow : V.2.1.1.cls = RX11 := by subst hV; rfl
  have hr : V.2.2.1 = aw_rm 1 0 0 := by subst hV; rfl
  have hz : V.2.2.2 = aw_Z V.1 (fun rv h' => rv = some (.int (if oO x 0 (nI rn - 1) then -1 else hI h (B + 20) x.toNatClampNeg)) ∧ h' = h) V.2.2.1 := by subst hV; rfl
  have hg : V.1 = g := by subst hV; rfl
  have hret : V.2.1.2.2.2 = (some .int) := by subst hV; rfl
  have hml : V.2.1.2.2.1 = 2 := by subst hV; rfl
  clear hV
  have hnp := hX.np
  have hnw := hX.nw
  refine a_iload_n hb dX11_trace_0 rfl 1 rfl ?_
  refine a_if_lt hb 27 dX11_trace_1 (by decide) (fun c1 => ?_) (fun c1 => ?_)
  · refine a_iconst (v := (-1)) hb dX11_trace_27 (by decide) ?_
    refine a_goto hb 40 dX11_trace_28 (by decide) ?_
    exact a_ireturn (ty := .int) hb hz dX11_trace_40 hret rfl (by rw [hr]; exact Nat.le_of_ble_eq_true rfl) (by rw [hr]; exact Nat.le_of_ble_eq_true rfl) (⟨by rw [if_pos (by simp [oO, c1])], rfl⟩)
  · refine a_iload_n hb dX11_trace_4 rfl 1 rfl ?_
    refine a_aload_n hb dX11_trace_5 rfl 0 rfl ?_
    refine a_getQ (q := (B + 19)) hb dX11_trace_6 (by rw [ow]; exact fl_RX11_28_11) (hX.1.1 0 (by decide)) (hX.1.2.1 (0, 3, 19) (by decide)) ?_
    refine a_getI hb dX11_trace_9 (by rw [ow]; exact fl_RX11_267_8) (hX.1.1 19 (by decide)) ?_
    rw [hrn]
    show AW V 0 0 h 12 [(0, .ref B), (1, .int x)] [.int (nI rn), .int x]
    refine a_icmp_ge hb 27 dX11_trace_12 (by decide) (fun c12 => ?_) (fun c12 => ?_)
    · refine a_iconst (v := (-1)) hb dX11_trace_27 (by decide) ?_
      refine a_goto hb 40 dX11_trace_28 (by decide) ?_
      exact a_ireturn (ty := .int) hb hz dX11_trace_40 hret rfl (by rw [hr]; exact Nat.le_of_ble_eq_true rfl) (by rw [hr]; exact Nat.le_of_ble_eq_true rfl) (⟨by rw [if_pos (c_ge lrn c12)], rfl⟩)
    · obtain ⟨m, hm, rfl⟩ := nI_of c1
      have lm : m < rn := Nat.lt_of_not_le (fun z => c12 (nI_le z (by omega)))
      refine a_iload_n hb dX11_trace_15 rfl 1 rfl ?_
      refine a_aload_n hb dX11_trace_16 rfl 0 rfl ?_
      refine a_getQ (q := (B + 19)) hb dX11_trace_17 (by rw [ow]; exact fl_RX11_28_11) (hX.1.1 0 (by decide)) (hX.1.2.1 (0, 3, 19) (by decide)) ?_
      refine a_getQ (q := (B + 20)) hb dX11_trace_20 (by rw [ow]; exact fl_RX11_280_8) (hX.1.1 19 (by decide)) (hX.1.2.1 (19, 0, 20) (by decide)) ?_
      refine a_alenI (v := 20) hb dX11_trace_23 (hX.1.1 20 (by decide)) (by decide) rfl ?_
      refine a_icmp_lt hb 31 dX11_trace_24 (by decide) (fun c24 => ?_) (fun c24 => absurd ((nI_ltI (a := m) (b := 20) (by omega) (by decide)).mpr (by omega)) c24)
      refine a_aload_n hb dX11_trace_31 rfl 0 rfl ?_
      refine a_getQ (q := (B + 19)) hb dX11_trace_32 (by rw [ow]; exact fl_RX11_28_11) (hX.1.1 0 (by decide)) (hX.1.2.1 (0, 3, 19) (by decide)) ?_
      refine a_getQ (q := (B + 20)) hb dX11_trace_35 (by rw [ow]; exact fl_RX11_280_8) (hX.1.1 19 (by decide)) (hX.1.2.1 (19, 0, 20) (by decide)) ?_
      refine a_iload_n hb dX11_trace_38 rfl 1 rfl ?_
      refine b_iald (j := m) hb dX11_trace_39 (hX.1.1 20 (by decide)) (IX.n (by omega)) (by omega) ?_
      exact a_ireturn (ty := .int) hb hz dX11_trace_40 hret rfl (by rw [hr]; exact Nat.le_of_ble_eq_true rfl) (by rw [hr]; exact Nat.le_of_ble_eq_true rfl) (⟨by rw [if_neg (by rw [c_in lm (by omega)]; decide), nI_clamp (by omega)], rfl⟩)
set_option maxRecDepth 100000 in
theorem x_iok0 (g : GG) (h : AH) (q : Nat) (ht : hT h q = (2, 0)) (kk : Int32) (hkk : oO kk 0 6 = false) : AM g 1 0 0 mX11_isOfKind [.ref q, .int kk] h (fun rv h' => rv = some (.int (b2i (spUnder 0 kk))) ∧ h' = h) := by
  refine AM.of [(0, .ref q), (1, .int kk)] (by decide) (Nat.le_of_ble_eq_true rfl) rfl ?_
  intro V hV
  have hb : V.2.1.2.1 = cX11_isOfKind := by subst hV; rfl
  have ow : V.2.1.1.cls = RX11 := by subst hV; rfl
  have hr : V.2.2.1 = aw_rm 1 0 0 := by subst hV; rfl
  have hz : V.2.2.2 = aw_Z V.1 (fun rv h' => rv = some (.int (b2i (spUnder 0 kk))) ∧ h' = h) V.2.2.1 := by subst hV; rfl
  have hg : V.1 = g := by subst hV; rfl
  have hret : V.2.1.2.2.2 = (some .boolean) := by subst hV; rfl
  have hml : V.2.1.2.2.1 = 2 := by subst hV; rfl
  clear hV
  refine a_iload_n hb dX11_isOfKind_0 rfl 1 rfl ?_
  by_cases q1_1 : kk = 1
  · refine a_tableIn (off := 39) hb 40 dX11_isOfKind_1 (by rw [q1_1]; decide) (by rw [q1_1]; decide) (by rw [q1_1]; decide) (by decide) ?_
    refine a_aload_n hb dX11_isOfKind_40 rfl 0 rfl ?_
    refine a_instNo (Cn := "KettleBeats$Pause") (nm := "KettleBeats$Whistle") hb dX11_isOfKind_41 ht (by decide) rfl (by rw [ow]; exact kw_238) (by decide) ?_
    exact a_ireturn (ty := .boolean) hb hz dX11_isOfKind_44 hret (by first | rfl | (simp only [narrow]; done) | exact aw_nb _) (by rw [hr]; exact Nat.le_of_ble_eq_true rfl) (by rw [hr]; exact Nat.le_of_ble_eq_true rfl) (⟨by rw [q1_1]; rfl, rfl⟩)
  by_cases q1_2 : kk = 2
  · refine a_tableIn (off := 44) hb 45 dX11_isOfKind_1 (by rw [q1_2]; decide) (by rw [q1_2]; decide) (by rw [q1_2]; decide) (by decide) ?_
    refine a_aload_n hb dX11_isOfKind_45 rfl 0 rfl ?_
    refine a_instNo (Cn := "KettleBeats$Pause") (nm := "KettleBeats$Late") hb dX11_isOfKind_46 ht (by decide) rfl (by rw [ow]; exact kw_297) (by decide) ?_
    exact a_ireturn (ty := .boolean) hb hz dX11_isOfKind_49 hret (by first | rfl | (simp only [narrow]; done) | exact aw_nb _) (by rw [hr]; exact Nat.le_of_ble_eq_true rfl) (by rw [hr]; exact Nat.le_of_ble_eq_true rfl) (⟨by rw [q1_2]; rfl, rfl⟩)
  by_cases q1_3 : kk = 3
  · refine a_tableIn (off := 49) hb 50 dX11_isOfKind_1 (by rw [q1_3]; decide) (by rw [q1_3]; decide) (by rw [q1_3]; decide) (by decide) ?_
    refine a_aload_n hb dX11_isOfKind_50 rfl 0 rfl ?_
    refine a_instNo (Cn := "KettleBeats$Pause") (nm := "KettleBeats$Serial") hb dX11_isOfKind_51 ht (by decide) rfl (by rw [ow]; exact kw_309) (by decide) ?_
    exact a_ireturn (ty := .boolean) hb hz dX11_isOfKind_54 hret (by first | rfl | (simp only [narrow]; done) | exact aw_nb _) (by rw [hr]; exact Nat.le_of_ble_eq_true rfl) (by rw [hr]; exact Nat.le_of_ble_eq_true rfl) (⟨by rw [q1_3]; rfl, rfl⟩)
  by_cases q1_4 : kk = 4
  · refine a_tableIn (off := 54) hb 55 dX11_isOfKind_1 (by rw [q1_4]; decide) (by rw [q1_4]; decide) (by rw [q1_4]; decide) (by decide) ?_
    refine a_aload_n hb dX11_isOfKind_55 rfl 0 rfl ?_
    refine a_instNo (Cn := "KettleBeats$Pause") (nm := "KettleBeats$Silent") hb dX11_isOfKind_56 ht (by decide) rfl (by rw [ow]; exact kw_321) (by decide) ?_
    exact a_ireturn (ty := .boolean) hb hz dX11_isOfKind_59 hret (by first | rfl | (simp only [narrow]; done) | exact aw_nb _) (by rw [hr]; exact Nat.le_of_ble_eq_true rfl) (by rw [hr]; exact Nat.le_of_ble_eq_true rfl) (⟨by rw [q1_4]; rfl, rfl⟩)
  by_cases q1_5 : kk = 5
  · refine a_tableIn (off := 59) hb 60 dX11_isOfKind_1 (by rw [q1_5]; decide) (by rw [q1_5]; decide) (by rw [q1_5]; decide) (by decide) ?_
    refine a_aload_n hb dX11_isOfKind_60 rfl 0 rfl ?_
    refine a_instNo (Cn := "KettleBeats$Pause") (nm := "KettleBeats$Sky") hb dX11_isOfKind_61 ht (by decide) rfl (by rw [ow]; exact kw_333) (by decide) ?_
    exact a_ireturn (ty := .boolean) hb hz dX11_isOfKind_64 hret (by first | rfl | (simp only [narrow]; done) | exact aw_nb _) (by rw [hr]; exact Nat.le_of_ble_eq_true rfl) (by rw [hr]; exact Nat.le_of_ble_eq_true rfl) (⟨by rw [q1_5]; rfl, rfl⟩)
  by_cases q1_6 : kk = 6
  · refine a_tableIn (off := 64) hb 65 dX11_isOfKind_1 (by rw [q1_6]; decide) (by rw [q1_6]; decide) (by rw [q1_6]; decide) (by decide) ?_
    refine a_aload_n hb dX11_isOfKind_65 rfl 0 rfl ?_
    refine a_instNo (Cn := "KettleBeats$Pause") (nm := "KettleBeats$Spread") hb dX11_isOfKind_66 ht (by decide) rfl (by rw [ow]; exact kw_345) (by decide) ?_
    exact a_ireturn (ty := .boolean) hb hz dX11_isOfKind_69 hret (by first | rfl | (simp only [narrow]; done) | exact aw_nb _) (by rw [hr]; exact Nat.le_of_ble_eq_true rfl) (by rw [hr]; exact Nat.le_of_ble_eq_true rfl) (⟨by rw [q1_6]; rfl, rfl⟩)
  refine a_tableOut hb 70 dX11_isOfKind_1 (by have z1 := lv_neT (k := 1) (a := 1) q1_1 (by decide); have z2 := lv_neT (k := 2) (a := 2) q1_2 (by decide); have z3 := lv_neT (k := 3) (a := 3) q1_3 (by decide); have z4 := lv_neT (k := 4) (a := 4) q1_4 (by decide); have z5 := lv_neT (k := 5) (a := 5) q1_5 (by decide); have z6 := lv_neT (k := 6) (a := 6) q1_6 (by decide); omega) (by decide) ?_
  refine a_iconst (v := 1) hb dX11_isOfKind_70 (by decide) ?_
  exact a_ireturn (ty := .boolean) hb hz dX11_isOfKind_71 hret (by first | rfl | (simp only [narrow]; done) | exact aw_nb _) (by rw [hr]; exact Nat.le_of_ble_eq_true rfl) (by rw [hr]; exact Nat.le_of_ble_eq_true rfl) (⟨by rw [show kk = 0 by rcases kd_c hkk with e | e | e | e | e | e | e; exact e; exact absurd e q1_1; exact absurd e q1_2; exact absurd e q1_3; exact absurd e q1_4; exact absurd e q1_5; exact absurd e q1_6]; rfl, rfl⟩)
set_option maxRecDepth 100000 in
theorem x_iok1 (g : GG) (h : AH) (q : Nat) (ht : hT h q = (9, 0)) (kk : Int32) (hkk : oO kk 0 6 = false) : AM g 1 0 0 mX11_isOfKind [.ref q, .int kk] h (fun rv h' => rv = some (.int (b2i (spUnder 1 kk))) ∧ h' = h) := by
  refine AM.of [(0, .ref q), (1, .int kk)] (by decide) (Nat.le_of_ble_eq_true rfl) rfl ?_
  intro V hV
  have hb : V.2.1.2.1 = cX11_isOfKind := by subst hV; rfl
  have ow : V.2.1.1.cls = RX11 := by subst hV; rfl
  have hr : V.2.2.1 = aw_rm 1 0 0 := by subst hV; rfl
  have hz : V.2.2.2 = aw_Z V.1 (fun rv h' => rv = some (.int (b2i (spUnder 1 kk))) ∧ h' = h) V.2.2.1 := by subst hV; rfl
  have hg : V.1 = g := by subst hV; rfl
  have hret : V.2.1.2.2.2 = (some .boolean) := by subst hV; rfl
  have hml : V.2.1.2.2.1 = 2 := by subst hV; rfl
  clear hV
  refine a_iload_n hb dX11_isOfKind_0 rfl 1 rfl ?_
  by_cases q1_1 : kk = 1
  · refine a_tableIn (off := 39) hb 40 dX11_isOfKind_1 (by rw [q1_1]; decide) (by rw [q1_1]; decide) (by rw [q1_1]; decide) (by decide) ?_
    refine a_aload_n hb dX11_isOfKind_40 rfl 0 rfl ?_
    refine a_instY (Cn := "KettleBeats$Whistle") (nm := "KettleBeats$Whistle") hb dX11_isOfKind_41 ht (by decide) rfl (by rw [ow]; exact kw_238) (Or.inl rfl) ?_
    exact a_ireturn (ty := .boolean) hb hz dX11_isOfKind_44 hret (by first | rfl | (simp only [narrow]; done) | exact aw_nb _) (by rw [hr]; exact Nat.le_of_ble_eq_true rfl) (by rw [hr]; exact Nat.le_of_ble_eq_true rfl) (⟨by rw [q1_1]; rfl, rfl⟩)
  by_cases q1_2 : kk = 2
  · refine a_tableIn (off := 44) hb 45 dX11_isOfKind_1 (by rw [q1_2]; decide) (by rw [q1_2]; decide) (by rw [q1_2]; decide) (by decide) ?_
    refine a_aload_n hb dX11_isOfKind_45 rfl 0 rfl ?_
    refine a_instNo (Cn := "KettleBeats$Whistle") (nm := "KettleBeats$Late") hb dX11_isOfKind_46 ht (by decide) rfl (by rw [ow]; exact kw_297) (by decide) ?_
    exact a_ireturn (ty := .boolean) hb hz dX11_isOfKind_49 hret (by first | rfl | (simp only [narrow]; done) | exact aw_nb _) (by rw [hr]; exact Nat.le_of_ble_eq_true rfl) (by rw [hr]; exact Nat.le_of_ble_eq_true rfl) (⟨by rw [q1_2]; rfl, rfl⟩)
  by_cases q1_3 : kk = 3
  · refine a_tableIn (off := 49) hb 50 dX11_isOfKind_1 (by rw [q1_3]; decide) (by rw [q1_3]; decide) (by rw [q1_3]; decide) (by decide) ?_
    refine a_aload_n hb dX11_isOfKind_50 rfl 0 rfl ?_
    refine a_instNo (Cn := "KettleBeats$Whistle") (nm := "KettleBeats$Serial") hb dX11_isOfKind_51 ht (by decide) rfl (by rw [ow]; exact kw_309) (by decide) ?_
    exact a_ireturn (ty := .boolean) hb hz dX11_isOfKind_54 hret (by first | rfl | (simp only [narrow]; done) | exact aw_nb _) (by rw [hr]; exact Nat.le_of_ble_eq_true rfl) (by rw [hr]; exact Nat.le_of_ble_eq_true rfl) (⟨by rw [q1_3]; rfl, rfl⟩)
  by_cases q1_4 : kk = 4
  · refine a_tableIn (off := 54) hb 55 dX11_isOfKind_1 (by rw [q1_4]; decide) (by rw [q1_4]; decide) (by rw [q1_4]; decide) (by decide) ?_
    refine a_aload_n hb dX11_isOfKind_55 rfl 0 rfl ?_
    refine a_instNo (Cn := "KettleBeats$Whistle") (nm := "KettleBeats$Silent") hb dX11_isOfKind_56 ht (by decide) rfl (by rw [ow]; exact kw_321) (by decide) ?_
    exact a_ireturn (ty := .boolean) hb hz dX11_isOfKind_59 hret (by first | rfl | (simp only [narrow]; done) | exact aw_nb _) (by rw [hr]; exact Nat.le_of_ble_eq_true rfl) (by rw [hr]; exact Nat.le_of_ble_eq_true rfl) (⟨by rw [q1_4]; rfl, rfl⟩)
  by_cases q1_5 : kk = 5
  · refine a_tableIn (off := 59) hb 60 dX11_isOfKind_1 (by rw [q1_5]; decide) (by rw [q1_5]; decide) (by rw [q1_5]; decide) (by decide) ?_
    refine a_aload_n hb dX11_isOfKind_60 rfl 0 rfl ?_
    refine a_instNo (Cn := "KettleBeats$Whistle") (nm := "KettleBeats$Sky") hb dX11_isOfKind_61 ht (by decide) rfl (by rw [ow]; exact kw_333) (by decide) ?_
    exact a_ireturn (ty := .boolean) hb hz dX11_isOfKind_64 hret (by first | rfl | (simp only [narrow]; done) | exact aw_nb _) (by rw [hr]; exact Nat.le_of_ble_eq_true rfl) (by rw [hr]; exact Nat.le_of_ble_eq_true rfl) (⟨by rw [q1_5]; rfl, rfl⟩)
  by_cases q1_6 : kk = 6
  · refine a_tableIn (off := 64) hb 65 dX11_isOfKind_1 (by rw [q1_6]; decide) (by rw [q1_6]; decide) (by rw [q1_6]; decide) (by decide) ?_
    refine a_aload_n hb dX11_isOfKind_65 rfl 0 rfl ?_
    refine a_instNo (Cn := "KettleBeats$Whistle") (nm := "KettleBeats$Spread") hb dX11_isOfKind_66 ht (by decide) rfl (by rw [ow]; exact kw_345) (by decide) ?_
    exact a_ireturn (ty := .boolean) hb hz dX11_isOfKind_69 hret (by first | rfl | (simp only [narrow]; done) | exact aw_nb _) (by rw [hr]; exact Nat.le_of_ble_eq_true rfl) (by rw [hr]; exact Nat.le_of_ble_eq_true rfl) (⟨by rw [q1_6]; rfl, rfl⟩)
  refine a_tableOut hb 70 dX11_isOfKind_1 (by have z1 := lv_neT (k := 1) (a := 1) q1_1 (by decide); have z2 := lv_neT (k := 2) (a := 2) q1_2 (by decide); have z3 := lv_neT (k := 3) (a := 3) q1_3 (by decide); have z4 := lv_neT (k := 4) (a := 4) q1_4 (by decide); have z5 := lv_neT (k := 5) (a := 5) q1_5 (by decide); have z6 := lv_neT (k := 6) (a := 6) q1_6 (by decide); omega) (by decide) ?_
  refine a_iconst (v := 1) hb dX11_isOfKind_70 (by decide) ?_
  exact a_ireturn (ty := .boolean) hb hz dX11_isOfKind_71 hret (by first | rfl | (simp only [narrow]; done) | exact aw_nb _) (by rw [hr]; exact Nat.le_of_ble_eq_true rfl) (by rw [hr]; exact Nat.le_of_ble_eq_true rfl) (⟨by rw [show kk = 0 by rcases kd_c hkk with e | e | e | e | e | e | e; exact e; exact absurd e q1_1; exact absurd e q1_2; exact absurd e q1_3; exact absurd e q1_4; exact absurd e q1_5; exact absurd e q1_6]; rfl, rfl⟩)
set_option maxRecDepth 100000 in
theorem x_iok2 (g : GG) (h : AH) (q : Nat) (ht : hT h q = (0, 0)) (kk : Int32) (hkk : oO kk 0 6 = false) : AM g 1 0 0 mX11_isOfKind [.ref q, .int kk] h (fun rv h' => rv = some (.int (b2i (spUnder 2 kk))) ∧ h' = h) := by
  refine AM.of [(0, .ref q), (1, .int kk)] (by decide) (Nat.le_of_ble_eq_true rfl) rfl ?_
  intro V hV
  have hb : V.2.1.2.1 = cX11_isOfKind := by subst hV; rfl
  have ow : V.2.1.1.cls = RX11 := by subst hV; rfl
  have hr : V.2.2.1 = aw_rm 1 0 0 := by subst hV; rfl
  have hz : V.2.2.2 = aw_Z V.1 (fun rv h' => rv = some (.int (b2i (spUnder 2 kk))) ∧ h' = h) V.2.2.1 := by subst hV; rfl
  have hg : V.1 = g := by subst hV; rfl
  have hret : V.2.1.2.2.2 = (some .boolean) := by subst hV; rfl
  have hml : V.2.1.2.2.1 = 2 := by subst hV; rfl
  clear hV
  refine a_iload_n hb dX11_isOfKind_0 rfl 1 rfl ?_
  by_cases q1_1 : kk = 1
  · refine a_tableIn (off := 39) hb 40 dX11_isOfKind_1 (by rw [q1_1]; decide) (by rw [q1_1]; decide) (by rw [q1_1]; decide) (by decide) ?_
    refine a_aload_n hb dX11_isOfKind_40 rfl 0 rfl ?_
    refine a_instY (Cn := "KettleBeats$Late") (nm := "KettleBeats$Whistle") hb dX11_isOfKind_41 ht (by decide) rfl (by rw [ow]; exact kw_238) (Or.inr (by decide)) ?_
    exact a_ireturn (ty := .boolean) hb hz dX11_isOfKind_44 hret (by first | rfl | (simp only [narrow]; done) | exact aw_nb _) (by rw [hr]; exact Nat.le_of_ble_eq_true rfl) (by rw [hr]; exact Nat.le_of_ble_eq_true rfl) (⟨by rw [q1_1]; rfl, rfl⟩)
  by_cases q1_2 : kk = 2
  · refine a_tableIn (off := 44) hb 45 dX11_isOfKind_1 (by rw [q1_2]; decide) (by rw [q1_2]; decide) (by rw [q1_2]; decide) (by decide) ?_
    refine a_aload_n hb dX11_isOfKind_45 rfl 0 rfl ?_
    refine a_instY (Cn := "KettleBeats$Late") (nm := "KettleBeats$Late") hb dX11_isOfKind_46 ht (by decide) rfl (by rw [ow]; exact kw_297) (Or.inl rfl) ?_
    exact a_ireturn (ty := .boolean) hb hz dX11_isOfKind_49 hret (by first | rfl | (simp only [narrow]; done) | exact aw_nb _) (by rw [hr]; exact Nat.le_of_ble_eq_true rfl) (by rw [hr]; exact Nat.le_of_ble_eq_true rfl) (⟨by rw [q1_2]; rfl, rfl⟩)
  by_cases q1_3 : kk = 3
  · refine a_tableIn (off := 49) hb 50 dX11_isOfKind_1 (by rw [q1_3]; decide) (by rw [q1_3]; decide) (by rw [q1_3]; decide) (by decide) ?_
    refine a_aload_n hb dX11_isOfKind_50 rfl 0 rfl ?_
    refine a_instNo (Cn := "KettleBeats$Late") (nm := "KettleBeats$Serial") hb dX11_isOfKind_51 ht (by decide) rfl (by rw [ow]; exact kw_309) (by decide) ?_
    exact a_ireturn (ty := .boolean) hb hz dX11_isOfKind_54 hret (by first | rfl | (simp only [narrow]; done) | exact aw_nb _) (by rw [hr]; exact Nat.le_of_ble_eq_true rfl) (by rw [hr]; exact Nat.le_of_ble_eq_true rfl) (⟨by rw [q1_3]; rfl, rfl⟩)
  by_cases q1_4 : kk = 4
  · refine a_tableIn (off := 54) hb 55 dX11_isOfKind_1 (by rw [q1_4]; decide) (by rw [q1_4]; decide) (by rw [q1_4]; decide) (by decide) ?_
    refine a_aload_n hb dX11_isOfKind_55 rfl 0 rfl ?_
    refine a_instNo (Cn := "KettleBeats$Late") (nm := "KettleBeats$Silent") hb dX11_isOfKind_56 ht (by decide) rfl (by rw [ow]; exact kw_321) (by decide) ?_
    exact a_ireturn (ty := .boolean) hb hz dX11_isOfKind_59 hret (by first | rfl | (simp only [narrow]; done) | exact aw_nb _) (by rw [hr]; exact Nat.le_of_ble_eq_true rfl) (by rw [hr]; exact Nat.le_of_ble_eq_true rfl) (⟨by rw [q1_4]; rfl, rfl⟩)
  by_cases q1_5 : kk = 5
  · refine a_tableIn (off := 59) hb 60 dX11_isOfKind_1 (by rw [q1_5]; decide) (by rw [q1_5]; decide) (by rw [q1_5]; decide) (by decide) ?_
    refine a_aload_n hb dX11_isOfKind_60 rfl 0 rfl ?_
    refine a_instNo (Cn := "KettleBeats$Late") (nm := "KettleBeats$Sky") hb dX11_isOfKind_61 ht (by decide) rfl (by rw [ow]; exact kw_333) (by decide) ?_
    exact a_ireturn (ty := .boolean) hb hz dX11_isOfKind_64 hret (by first | rfl | (simp only [narrow]; done) | exact aw_nb _) (by rw [hr]; exact Nat.le_of_ble_eq_true rfl) (by rw [hr]; exact Nat.le_of_ble_eq_true rfl) (⟨by rw [q1_5]; rfl, rfl⟩)
  by_cases q1_6 : kk = 6
  · refine a_tableIn (off := 64) hb 65 dX11_isOfKind_1 (by rw [q1_6]; decide) (by rw [q1_6]; decide) (by rw [q1_6]; decide) (by decide) ?_
    refine a_aload_n hb dX11_isOfKind_65 rfl 0 rfl ?_
    refine a_instNo (Cn := "KettleBeats$Late") (nm := "KettleBeats$Spread") hb dX11_isOfKind_66 ht (by decide) rfl (by rw [ow]; exact kw_345) (by decide) ?_
    exact a_ireturn (ty := .boolean) hb hz dX11_isOfKind_69 hret (by first | rfl | (simp only [narrow]; done) | exact aw_nb _) (by rw [hr]; exact Nat.le_of_ble_eq_true rfl) (by rw [hr]; exact Nat.le_of_ble_eq_true rfl) (⟨by rw [q1_6]; rfl, rfl⟩)
  refine a_tableOut hb 70 dX11_isOfKind_1 (by have z1 := lv_neT (k := 1) (a := 1) q1_1 (by decide); have z2 := lv_neT (k := 2) (a := 2) q1_2 (by decide); have z3 := lv_neT (k := 3) (a := 3) q1_3 (by decide); have z4 := lv_neT (k := 4) (a := 4) q1_4 (by decide); have z5 := lv_neT (k := 5) (a := 5) q1_5 (by decide); have z6 := lv_neT (k := 6) (a := 6) q1_6 (by decide); omega) (by decide) ?_
  refine a_iconst (v := 1) hb dX11_isOfKind_70 (by decide) ?_
  exact a_ireturn (ty := .boolean) hb hz dX11_isOfKind_71 hret (by first | rfl | (simp only [narrow]; done) | exact aw_nb _) (by rw [hr]; exact Nat.le_of_ble_eq_true rfl) (by rw [hr]; exact Nat.le_of_ble_eq_true rfl) (⟨by rw [show kk = 0 by rcases kd_c hkk with e | e | e | e | e | e | e; exact e; exact absurd e q1_1; exact absurd e q1_2; exact absurd e q1_3; exact absurd e q1_4; exact absurd e q1_5; exact absurd e q1_6]; rfl, rfl⟩)
set_option maxRecDepth 100000 in
theorem x_iok3 (g : GG) (h : AH) (q : Nat) (ht : hT h q = (3, 0)) (kk : Int32) (hkk : oO kk 0 6 = false) : AM g 1 0 0 mX11_isOfKind [.ref q, .int kk] h (fun rv h' => rv = some (.int (b2i (spUnder 3 kk))) ∧ h' = h) := by
  refine AM.of [(0, .ref q), (1, .int kk)] (by decide) (Nat.le_of_ble_eq_true rfl) rfl ?_
  intro V hV
  have hb : V.2.1.2.1 = cX11_isOfKind := by subst hV; rfl
  have ow : V.2.1.1.cls = RX11 := by subst hV; rfl
  have hr : V.2.2.1 = aw_rm 1 0 0 := by subst hV; rfl
  have hz : V.2.2.2 = aw_Z V.1 (fun rv h' => rv = some (.int (b2i (spUnder 3 kk))) ∧ h' = h) V.2.2.1 := by subst hV; rfl
  have hg : V.1 = g := by subst hV; rfl
  have hret : V.2.1.2.2.2 = (some .boolean) := by subst hV; rfl
  have hml : V.2.1.2.2.1 = 2 := by subst hV; rfl
  clear hV
  refine a_iload_n hb dX11_isOfKind_0 rfl 1 rfl ?_
  by_cases q1_1 : kk = 1
  · refine a_tableIn (off := 39) hb 40 dX11_isOfKind_1 (by rw [q1_1]; decide) (by rw [q1_1]; decide) (by rw [q1_1]; decide) (by decide) ?_
    refine a_aload_n hb dX11_isOfKind_40 rfl 0 rfl ?_
    refine a_instNo (Cn := "KettleBeats$Serial") (nm := "KettleBeats$Whistle") hb dX11_isOfKind_41 ht (by decide) rfl (by rw [ow]; exact kw_238) (by decide) ?_
    exact a_ireturn (ty := .boolean) hb hz dX11_isOfKind_44 hret (by first | rfl | (simp only [narrow]; done) | exact aw_nb _) (by rw [hr]; exact Nat.le_of_ble_eq_true rfl) (by rw [hr]; exact Nat.le_of_ble_eq_true rfl) (⟨by rw [q1_1]; rfl, rfl⟩)
  by_cases q1_2 : kk = 2
  · refine a_tableIn (off := 44) hb 45 dX11_isOfKind_1 (by rw [q1_2]; decide) (by rw [q1_2]; decide) (by rw [q1_2]; decide) (by decide) ?_
    refine a_aload_n hb dX11_isOfKind_45 rfl 0 rfl ?_
    refine a_instNo (Cn := "KettleBeats$Serial") (nm := "KettleBeats$Late") hb dX11_isOfKind_46 ht (by decide) rfl (by rw [ow]; exact kw_297) (by decide) ?_
    exact a_ireturn (ty := .boolean) hb hz dX11_isOfKind_49 hret (by first | rfl | (simp only [narrow]; done) | exact aw_nb _) (by rw [hr]; exact Nat.le_of_ble_eq_true rfl) (by rw [hr]; exact Nat.le_of_ble_eq_true rfl) (⟨by rw [q1_2]; rfl, rfl⟩)
  by_cases q1_3 : kk = 3
  · refine a_tableIn (off := 49) hb 50 dX11_isOfKind_1 (by rw [q1_3]; decide) (by rw [q1_3]; decide) (by rw [q1_3]; decide) (by decide) ?_
    refine a_aload_n hb dX11_isOfKind_50 rfl 0 rfl ?_
    refine a_instY (Cn := "KettleBeats$Serial") (nm := "KettleBeats$Serial") hb dX11_isOfKind_51 ht (by decide) rfl (by rw [ow]; exact kw_309) (Or.inl rfl) ?_
    exact a_ireturn (ty := .boolean) hb hz dX11_isOfKind_54 hret (by first | rfl | (simp only [narrow]; done) | exact aw_nb _) (by rw [hr]; exact Nat.le_of_ble_eq_true rfl) (by rw [hr]; exact Nat.le_of_ble_eq_true rfl) (⟨by rw [q1_3]; rfl, rfl⟩)
  by_cases q1_4 : kk = 4
  · refine a_tableIn (off := 54) hb 55 dX11_isOfKind_1 (by rw [q1_4]; decide) (by rw [q1_4]; decide) (by rw [q1_4]; decide) (by decide) ?_
    refine a_aload_n hb dX11_isOfKind_55 rfl 0 rfl ?_
    refine a_instNo (Cn := "KettleBeats$Serial") (nm := "KettleBeats$Silent") hb dX11_isOfKind_56 ht (by decide) rfl (by rw [ow]; exact kw_321) (by decide) ?_
    exact a_ireturn (ty := .boolean) hb hz dX11_isOfKind_59 hret (by first | rfl | (simp only [narrow]; done) | exact aw_nb _) (by rw [hr]; exact Nat.le_of_ble_eq_true rfl) (by rw [hr]; exact Nat.le_of_ble_eq_true rfl) (⟨by rw [q1_4]; rfl, rfl⟩)
  by_cases q1_5 : kk = 5
  · refine a_tableIn (off := 59) hb 60 dX11_isOfKind_1 (by rw [q1_5]; decide) (by rw [q1_5]; decide) (by rw [q1_5]; decide) (by decide) ?_
    refine a_aload_n hb dX11_isOfKind_60 rfl 0 rfl ?_
    refine a_instNo (Cn := "KettleBeats$Serial") (nm := "KettleBeats$Sky") hb dX11_isOfKind_61 ht (by decide) rfl (by rw [ow]; exact kw_333) (by decide) ?_
    exact a_ireturn (ty := .boolean) hb hz dX11_isOfKind_64 hret (by first | rfl | (simp only [narrow]; done) | exact aw_nb _) (by rw [hr]; exact Nat.le_of_ble_eq_true rfl) (by rw [hr]; exact Nat.le_of_ble_eq_true rfl) (⟨by rw [q1_5]; rfl, rfl⟩)
  by_cases q1_6 : kk = 6
  · refine a_tableIn (off := 64) hb 65 dX11_isOfKind_1 (by rw [q1_6]; decide) (by rw [q1_6]; decide) (by rw [q1_6]; decide) (by decide) ?_
    refine a_aload_n hb dX11_isOfKind_65 rfl 0 rfl ?_
    refine a_instNo (Cn := "KettleBeats$Serial") (nm := "KettleBeats$Spread") hb dX11_isOfKind_66 ht (by decide) rfl (by rw [ow]; exact kw_345) (by decide) ?_
    exact a_ireturn (ty := .boolean) hb hz dX11_isOfKind_69 hret (by first | rfl | (simp only [narrow]; done) | exact aw_nb _) (by rw [hr]; exact Nat.le_of_ble_eq_true rfl) (by rw [hr]; exact Nat.le_of_ble_eq_true rfl) (⟨by rw [q1_6]; rfl, rfl⟩)
  refine a_tableOut hb 70 dX11_isOfKind_1 (by have z1 := lv_neT (k := 1) (a := 1) q1_1 (by decide); have z2 := lv_neT (k := 2) (a := 2) q1_2 (by decide); have z3 := lv_neT (k := 3) (a := 3) q1_3 (by decide); have z4 := lv_neT (k := 4) (a := 4) q1_4 (by decide); have z5 := lv_neT (k := 5) (a := 5) q1_5 (by decide); have z6 := lv_neT (k := 6) (a := 6) q1_6 (by decide); omega) (by decide) ?_
  refine a_iconst (v := 1) hb dX11_isOfKind_70 (by decide) ?_
  exact a_ireturn (ty := .boolean) hb hz dX11_isOfKind_71 hret (by first | rfl | (simp only [narrow]; done) | exact aw_nb _) (by rw [hr]; exact Nat.le_of_ble_eq_true rfl) (by rw [hr]; exact Nat.le_of_ble_eq_true rfl) (⟨by rw [show kk = 0 by rcases kd_c hkk with e | e | e | e | e | e | e; exact e; exact absurd e q1_1; exact absurd e q1_2; exact absurd e q1_3; exact absurd e q1_4; exact absurd e q1_5; exact absurd e q1_6]; rfl, rfl⟩)
set_option maxRecDepth 100000 in
theorem x_iok4 (g : GG) (h : AH) (q : Nat) (ht : hT h q = (4, 0)) (kk : Int32) (hkk : oO kk 0 6 = false) : AM g 1 0 0 mX11_isOfKind [.ref q, .int kk] h (fun rv h' => rv = some (.int (b2i (spUnder 4 kk))) ∧ h' = h) := by
  refine AM.of [(0, .ref q), (1, .int kk)] (by decide) (Nat.le_of_ble_eq_true rfl) rfl ?_
  intro V hV
  have hb : V.2.1.2.1 = cX11_isOfKind := by subst hV; rfl
  have ow : V.2.1.1.cls = RX11 := by subst hV; rfl
  have hr : V.2.2.1 = aw_rm 1 0 0 := by subst hV; rfl
  have hz : V.2.2.2 = aw_Z V.1 (fun rv h' => rv = some (.int (b2i (spUnder 4 kk))) ∧ h' = h) V.2.2.1 := by subst hV; rfl
  have hg : V.1 = g := by subst hV; rfl
  have hret : V.2.1.2.2.2 = (some .boolean) := by subst hV; rfl
  have hml : V.2.1.2.2.1 = 2 := by subst hV; rfl
  clear hV
  refine a_iload_n hb dX11_isOfKind_0 rfl 1 rfl ?_
  by_cases q1_1 : kk = 1
  · refine a_tableIn (off := 39) hb 40 dX11_isOfKind_1 (by rw [q1_1]; decide) (by rw [q1_1]; decide) (by rw [q1_1]; decide) (by decide) ?_
    refine a_aload_n hb dX11_isOfKind_40 rfl 0 rfl ?_
    refine a_instNo (Cn := "KettleBeats$Silent") (nm := "KettleBeats$Whistle") hb dX11_isOfKind_41 ht (by decide) rfl (by rw [ow]; exact kw_238) (by decide) ?_
    exact a_ireturn (ty := .boolean) hb hz dX11_isOfKind_44 hret (by first | rfl | (simp only [narrow]; done) | exact aw_nb _) (by rw [hr]; exact Nat.le_of_ble_eq_true rfl) (by rw [hr]; exact Nat.le_of_ble_eq_true rfl) (⟨by rw [q1_1]; rfl, rfl⟩)
  by_cases q1_2 : kk = 2
  · refine a_tableIn (off := 44) hb 45 dX11_isOfKind_1 (by rw [q1_2]; decide) (by rw [q1_2]; decide) (by rw [q1_2]; decide) (by decide) ?_
    refine a_aload_n hb dX11_isOfKind_45 rfl 0 rfl ?_
    refine a_instNo (Cn := "KettleBeats$Silent") (nm := "KettleBeats$Late") hb dX11_isOfKind_46 ht (by decide) rfl (by rw [ow]; exact kw_297) (by decide) ?_
    exact a_ireturn (ty := .boolean) hb hz dX11_isOfKind_49 hret (by first | rfl | (simp only [narrow]; done) | exact aw_nb _) (by rw [hr]; exact Nat.le_of_ble_eq_true rfl) (by rw [hr]; exact Nat.le_of_ble_eq_true rfl) (⟨by rw [q1_2]; rfl, rfl⟩)
  by_cases q1_3 : kk = 3
  · refine a_tableIn (off := 49) hb 50 dX11_isOfKind_1 (by rw [q1_3]; decide) (by rw [q1_3]; decide) (by rw [q1_3]; decide) (by decide) ?_
    refine a_aload_n hb dX11_isOfKind_50 rfl 0 rfl ?_
    refine a_instNo (Cn := "KettleBeats$Silent") (nm := "KettleBeats$Serial") hb dX11_isOfKind_51 ht (by decide) rfl (by rw [ow]; exact kw_309) (by decide) ?_
    exact a_ireturn (ty := .boolean) hb hz dX11_isOfKind_54 hret (by first | rfl | (simp only [narrow]; done) | exact aw_nb _) (by rw [hr]; exact Nat.le_of_ble_eq_true rfl) (by rw [hr]; exact Nat.le_of_ble_eq_true rfl) (⟨by rw [q1_3]; rfl, rfl⟩)
  by_cases q1_4 : kk = 4
  · refine a_tableIn (off := 54) hb 55 dX11_isOfKind_1 (by rw [q1_4]; decide) (by rw [q1_4]; decide) (by rw [q1_4]; decide) (by decide) ?_
    refine a_aload_n hb dX11_isOfKind_55 rfl 0 rfl ?_
    refine a_instY (Cn := "KettleBeats$Silent") (nm := "KettleBeats$Silent") hb dX11_isOfKind_56 ht (by decide) rfl (by rw [ow]; exact kw_321) (Or.inl rfl) ?_
    exact a_ireturn (ty := .boolean) hb hz dX11_isOfKind_59 hret (by first | rfl | (simp only [narrow]; done) | exact aw_nb _) (by rw [hr]; exact Nat.le_of_ble_eq_true rfl) (by rw [hr]; exact Nat.le_of_ble_eq_true rfl) (⟨by rw [q1_4]; rfl, rfl⟩)
  by_cases q1_5 : kk = 5
  · refine a_tableIn (off := 59) hb 60 dX11_isOfKind_1 (by rw [q1_5]; decide) (by rw [q1_5]; decide) (by rw [q1_5]; decide) (by decide) ?_
    refine a_aload_n hb dX11_isOfKind_60 rfl 0 rfl ?_
    refine a_instNo (Cn := "KettleBeats$Silent") (nm := "KettleBeats$Sky") hb dX11_isOfKind_61 ht (by decide) rfl (by rw [ow]; exact kw_333) (by decide) ?_
    exact a_ireturn (ty := .boolean) hb hz dX11_isOfKind_64 hret (by first | rfl | (simp only [narrow]; done) | exact aw_nb _) (by rw [hr]; exact Nat.le_of_ble_eq_true rfl) (by rw [hr]; exact Nat.le_of_ble_eq_true rfl) (⟨by rw [q1_5]; rfl, rfl⟩)
  by_cases q1_6 : kk = 6
  · refine a_tableIn (off := 64) hb 65 dX11_isOfKind_1 (by rw [q1_6]; decide) (by rw [q1_6]; decide) (by rw [q1_6]; decide) (by decide) ?_
    refine a_aload_n hb dX11_isOfKind_65 rfl 0 rfl ?_
    refine a_instNo (Cn := "KettleBeats$Silent") (nm := "KettleBeats$Spread") hb dX11_isOfKind_66 ht (by decide) rfl (by rw [ow]; exact kw_345) (by decide) ?_
    exact a_ireturn (ty := .boolean) hb hz dX11_isOfKind_69 hret (by first | rfl | (simp only [narrow]; done) | exact aw_nb _) (by rw [hr]; exact Nat.le_of_ble_eq_true rfl) (by rw [hr]; exact Nat.le_of_ble_eq_true rfl) (⟨by rw [q1_6]; rfl, rfl⟩)
  refine a_tableOut hb 70 dX11_isOfKind_1 (by have z1 := lv_neT (k := 1) (a := 1) q1_1 (by decide); have z2 := lv_neT (k := 2) (a := 2) q1_2 (by decide); have z3 := lv_neT (k := 3) (a := 3) q1_3 (by decide); have z4 := lv_neT (k := 4) (a := 4) q1_4 (by decide); have z5 := lv_neT (k := 5) (a := 5) q1_5 (by decide); have z6 := lv_neT (k := 6) (a := 6) q1_6 (by decide); omega) (by decide) ?_
  refine a_iconst (v := 1) hb dX11_isOfKind_70 (by decide) ?_
  exact a_ireturn (ty := .boolean) hb hz dX11_isOfKind_71 hret (by first | rfl | (simp only [narrow]; done) | exact aw_nb _) (by rw [hr]; exact Nat.le_of_ble_eq_true rfl) (by rw [hr]; exact Nat.le_of_ble_eq_true rfl) (⟨by rw [show kk = 0 by rcases kd_c hkk with e | e | e | e | e | e | e; exact e; exact absurd e q1_1; exact absurd e q1_2; exact absurd e q1_3; exact absurd e q1_4; exact absurd e q1_5; exact absurd e q1_6]; rfl, rfl⟩)
set_option maxRecDepth 100000 in
theorem x_iok5 (g : GG) (h : AH) (q : Nat) (ht : hT h q = (5, 0)) (kk : Int32) (hkk : oO kk 0 6 = false) : AM g 1 0 0 mX11_isOfKind [.ref q, .int kk] h (fun rv h' => rv = some (.int (b2i (spUnder 5 kk))) ∧ h' = h) := by
  refine AM.of [(0, .ref q), (1, .int kk)] (by decide) (Nat.le_of_ble_eq_true rfl) rfl ?_
  intro V hV
  have hb : V.2.1.2.1 = cX11_isOfKind := by subst hV; rfl
  have ow : V.2.1.1.cls = RX11 := by subst hV; rfl
  have hr : V.2.2.1 = aw_rm 1 0 0 := by subst hV; rfl
  have hz : V.2.2.2 = aw_Z V.1 (fun rv h' => rv = some (.int (b2i (spUnder 5 kk))) ∧ h' = h) V.2.2.1 := by subst hV; rfl
  have hg : V.1 = g := by subst hV; rfl
  have hret : V.2.1.2.2.2 = (some .boolean) := by subst hV; rfl
  have hml : V.2.1.2.2.1 = 2 := by subst hV; rfl
  clear hV
  refine a_iload_n hb dX11_isOfKind_0 rfl 1 rfl ?_
  by_cases q1_1 : kk = 1
  · refine a_tableIn (off := 39) hb 40 dX11_isOfKind_1 (by rw [q1_1]; decide) (by rw [q1_1]; decide) (by rw [q1_1]; decide) (by decide) ?_
    refine a_aload_n hb dX11_isOfKind_40 rfl 0 rfl ?_
    refine a_instNo (Cn := "KettleBeats$Sky") (nm := "KettleBeats$Whistle") hb dX11_isOfKind_41 ht (by decide) rfl (by rw [ow]; exact kw_238) (by decide) ?_
    exact a_ireturn (ty := .boolean) hb hz dX11_isOfKind_44 hret (by first | rfl | (simp only [narrow]; done) | exact aw_nb _) (by rw [hr]; exact Nat.le_of_ble_eq_true rfl) (by rw [hr]; exact Nat.le_of_ble_eq_true rfl) (⟨by rw [q1_1]; rfl, rfl⟩)
  by_cases q1_2 : kk = 2
  · refine a_tableIn (off := 44) hb 45 dX11_isOfKind_1 (by rw [q1_2]; decide) (by rw [q1_2]; decide) (by rw [q1_2]; decide) (by decide) ?_
    refine a_aload_n hb dX11_isOfKind_45 rfl 0 rfl ?_
    refine a_instNo (Cn := "KettleBeats$Sky") (nm := "KettleBeats$Late") hb dX11_isOfKind_46 ht (by decide) rfl (by rw [ow]; exact kw_297) (by decide) ?_
    exact a_ireturn (ty := .boolean) hb hz dX11_isOfKind_49 hret (by first | rfl | (simp only [narrow]; done) | exact aw_nb _) (by rw [hr]; exact Nat.le_of_ble_eq_true rfl) (by rw [hr]; exact Nat.le_of_ble_eq_true rfl) (⟨by rw [q1_2]; rfl, rfl⟩)
  by_cases q1_3 : kk = 3
  · refine a_tableIn (off := 49) hb 50 dX11_isOfKind_1 (by rw [q1_3]; decide) (by rw [q1_3]; decide) (by rw [q1_3]; decide) (by decide) ?_
    refine a_aload_n hb dX11_isOfKind_50 rfl 0 rfl ?_
    refine a_instNo (Cn := "KettleBeats$Sky") (nm := "KettleBeats$Serial") hb dX11_isOfKind_51 ht (by decide) rfl (by rw [ow]; exact kw_309) (by decide) ?_
    exact a_ireturn (ty := .boolean) hb hz dX11_isOfKind_54 hret (by first | rfl | (simp only [narrow]; done) | exact aw_nb _) (by rw [hr]; exact Nat.le_of_ble_eq_true rfl) (by rw [hr]; exact Nat.le_of_ble_eq_true rfl) (⟨by rw [q1_3]; rfl, rfl⟩)
  by_cases q1_4 : kk = 4
  · refine a_tableIn (off := 54) hb 55 dX11_isOfKind_1 (by rw [q1_4]; decide) (by rw [q1_4]; decide) (by rw [q1_4]; decide) (by decide) ?_
    refine a_aload_n hb dX11_isOfKind_55 rfl 0 rfl ?_
    refine a_instY (Cn := "KettleBeats$Sky") (nm := "KettleBeats$Silent") hb dX11_isOfKind_56 ht (by decide) rfl (by rw [ow]; exact kw_321) (Or.inr (by decide)) ?_
    exact a_ireturn (ty := .boolean) hb hz dX11_isOfKind_59 hret (by first | rfl | (simp only [narrow]; done) | exact aw_nb _) (by rw [hr]; exact Nat.le_of_ble_eq_true rfl) (by rw [hr]; exact Nat.le_of_ble_eq_true rfl) (⟨by rw [q1_4]; rfl, rfl⟩)
  by_cases q1_5 : kk = 5
  · refine a_tableIn (off := 59) hb 60 dX11_isOfKind_1 (by rw [q1_5]; decide) (by rw [q1_5]; decide) (by rw [q1_5]; decide) (by decide) ?_
    refine a_aload_n hb dX11_isOfKind_60 rfl 0 rfl ?_
    refine a_instY (Cn := "KettleBeats$Sky") (nm := "KettleBeats$Sky") hb dX11_isOfKind_61 ht (by decide) rfl (by rw [ow]; exact kw_333) (Or.inl rfl) ?_
    exact a_ireturn (ty := .boolean) hb hz dX11_isOfKind_64 hret (by first | rfl | (simp only [narrow]; done) | exact aw_nb _) (by rw [hr]; exact Nat.le_of_ble_eq_true rfl) (by rw [hr]; exact Nat.le_of_ble_eq_true rfl) (⟨by rw [q1_5]; rfl, rfl⟩)
  by_cases q1_6 : kk = 6
  · refine a_tableIn (off := 64) hb 65 dX11_isOfKind_1 (by rw [q1_6]; decide) (by rw [q1_6]; decide) (by rw [q1_6]; decide) (by decide) ?_
    refine a_aload_n hb dX11_isOfKind_65 rfl 0 rfl ?_
    refine a_instNo (Cn := "KettleBeats$Sky") (nm := "KettleBeats$Spread") hb dX11_isOfKind_66 ht (by decide) rfl (by rw [ow]; exact kw_345) (by decide) ?_
    exact a_ireturn (ty := .boolean) hb hz dX11_isOfKind_69 hret (by first | rfl | (simp only [narrow]; done) | exact aw_nb _) (by rw [hr]; exact Nat.le_of_ble_eq_true rfl) (by rw [hr]; exact Nat.le_of_ble_eq_true rfl) (⟨by rw [q1_6]; rfl, rfl⟩)
  refine a_tableOut hb 70 dX11_isOfKind_1 (by have z1 := lv_neT (k := 1) (a := 1) q1_1 (by decide); have z2 := lv_neT (k := 2) (a := 2) q1_2 (by decide); have z3 := lv_neT (k := 3) (a := 3) q1_3 (by decide); have z4 := lv_neT (k := 4) (a := 4) q1_4 (by decide); have z5 := lv_neT (k := 5) (a := 5) q1_5 (by decide); have z6 := lv_neT (k := 6) (a := 6) q1_6 (by decide); omega) (by decide) ?_
  refine a_iconst (v := 1) hb dX11_isOfKind_70 (by decide) ?_
  exact a_ireturn (ty := .boolean) hb hz dX11_isOfKind_71 hret (by first | rfl | (simp only [narrow]; done) | exact aw_nb _) (by rw [hr]; exact Nat.le_of_ble_eq_true rfl) (by rw [hr]; exact Nat.le_of_ble_eq_true rfl) (⟨by rw [show kk = 0 by rcases kd_c hkk with e | e | e | e | e | e | e; exact e; exact absurd e q1_1; exact absurd e q1_2; exact absurd e q1_3; exact absurd e q1_4; exact absurd e q1_5; exact absurd e q1_6]; rfl, rfl⟩)
set_option maxRecDepth 100000 in
theorem x_iok6 (g : GG) (h : AH) (q : Nat) (ht : hT h q = (6, 0)) (kk : Int32) (hkk : oO kk 0 6 = false) : AM g 1 0 0 mX11_isOfKind [.ref q, .int kk] h (fun rv h' => rv = some (.int (b2i (spUnder 6 kk))) ∧ h' = h) := by
  refine AM.of [(0, .ref q), (1, .int kk)] (by decide) (Nat.le_of_ble_eq_true rfl) rfl ?_
  intro V hV
  have hb : V.2.1.2.1 = cX11_isOfKind := by subst hV; rfl
  have ow : V.2.1.1.cls = RX11 := by subst hV; rfl
  have hr : V.2.2.1 = aw_rm 1 0 0 := by subst hV; rfl
  have hz : V.2.2.2 = aw_Z V.1 (fun rv h' => rv = some (.int (b2i (spUnder 6 kk))) ∧ h' = h) V.2.2.1 := by subst hV; rfl
  have hg : V.1 = g := by subst hV; rfl
  have hret : V.2.1.2.2.2 = (some .boolean) := by subst hV; rfl
  have hml : V.2.1.2.2.1 = 2 := by subst hV; rfl
  clear hV
  refine a_iload_n hb dX11_isOfKind_0 rfl 1 rfl ?_
  by_cases q1_1 : kk = 1
  · refine a_tableIn (off := 39) hb 40 dX11_isOfKind_1 (by rw [q1_1]; decide) (by rw [q1_1]; decide) (by rw [q1_1]; decide) (by decide) ?_
    refine a_aload_n hb dX11_isOfKind_40 rfl 0 rfl ?_
    refine a_instY (Cn := "KettleBeats$Spread") (nm := "KettleBeats$Whistle") hb dX11_isOfKind_41 ht (by decide) rfl (by rw [ow]; exact kw_238) (Or.inr (by decide)) ?_
    exact a_ireturn (ty := .boolean) hb hz dX11_isOfKind_44 hret (by first | rfl | (simp only [narrow]; done) | exact aw_nb _) (by rw [hr]; exact Nat.le_of_ble_eq_true rfl) (by rw [hr]; exact Nat.le_of_ble_eq_true rfl) (⟨by rw [q1_1]; rfl, rfl⟩)
  by_cases q1_2 : kk = 2
  · refine a_tableIn (off := 44) hb 45 dX11_isOfKind_1 (by rw [q1_2]; decide) (by rw [q1_2]; decide) (by rw [q1_2]; decide) (by decide) ?_
    refine a_aload_n hb dX11_isOfKind_45 rfl 0 rfl ?_
    refine a_instNo (Cn := "KettleBeats$Spread") (nm := "KettleBeats$Late") hb dX11_isOfKind_46 ht (by decide) rfl (by rw [ow]; exact kw_297) (by decide) ?_
    exact a_ireturn (ty := .boolean) hb hz dX11_isOfKind_49 hret (by first | rfl | (simp only [narrow]; done) | exact aw_nb _) (by rw [hr]; exact Nat.le_of_ble_eq_true rfl) (by rw [hr]; exact Nat.le_of_ble_eq_true rfl) (⟨by rw [q1_2]; rfl, rfl⟩)
  by_cases q1_3 : kk = 3
  · refine a_tableIn (off := 49) hb 50 dX11_isOfKind_1 (by rw [q1_3]; decide) (by rw [q1_3]; decide) (by rw [q1_3]; decide) (by decide) ?_
    refine a_aload_n hb dX11_isOfKind_50 rfl 0 rfl ?_
    refine a_instNo (Cn := "KettleBeats$Spread") (nm := "KettleBeats$Serial") hb dX11_isOfKind_51 ht (by decide) rfl (by rw [ow]; exact kw_309) (by decide) ?_
    exact a_ireturn (ty := .boolean) hb hz dX11_isOfKind_54 hret (by first | rfl | (simp only [narrow]; done) | exact aw_nb _) (by rw [hr]; exact Nat.le_of_ble_eq_true rfl) (by rw [hr]; exact Nat.le_of_ble_eq_true rfl) (⟨by rw [q1_3]; rfl, rfl⟩)
  by_cases q1_4 : kk = 4
  · refine a_tableIn (off := 54) hb 55 dX11_isOfKind_1 (by rw [q1_4]; decide) (by rw [q1_4]; decide) (by rw [q1_4]; decide) (by decide) ?_
    refine a_aload_n hb dX11_isOfKind_55 rfl 0 rfl ?_
    refine a_instNo (Cn := "KettleBeats$Spread") (nm := "KettleBeats$Silent") hb dX11_isOfKind_56 ht (by decide) rfl (by rw [ow]; exact kw_321) (by decide) ?_
    exact a_ireturn (ty := .boolean) hb hz dX11_isOfKind_59 hret (by first | rfl | (simp only [narrow]; done) | exact aw_nb _) (by rw [hr]; exact Nat.le_of_ble_eq_true rfl) (by rw [hr]; exact Nat.le_of_ble_eq_true rfl) (⟨by rw [q1_4]; rfl, rfl⟩)
  by_cases q1_5 : kk = 5
  · refine a_tableIn (off := 59) hb 60 dX11_isOfKind_1 (by rw [q1_5]; decide) (by rw [q1_5]; decide) (by rw [q1_5]; decide) (by decide) ?_
    refine a_aload_n hb dX11_isOfKind_60 rfl 0 rfl ?_
    refine a_instNo (Cn := "KettleBeats$Spread") (nm := "KettleBeats$Sky") hb dX11_isOfKind_61 ht (by decide) rfl (by rw [ow]; exact kw_333) (by decide) ?_
    exact a_ireturn (ty := .boolean) hb hz dX11_isOfKind_64 hret (by first | rfl | (simp only [narrow]; done) | exact aw_nb _) (by rw [hr]; exact Nat.le_of_ble_eq_true rfl) (by rw [hr]; exact Nat.le_of_ble_eq_true rfl) (⟨by rw [q1_5]; rfl, rfl⟩)
  by_cases q1_6 : kk = 6
  · refine a_tableIn (off := 64) hb 65 dX11_isOfKind_1 (by rw [q1_6]; decide) (by rw [q1_6]; decide) (by rw [q1_6]; decide) (by decide) ?_
    refine a_aload_n hb dX11_isOfKind_65 rfl 0 rfl ?_
    refine a_instY (Cn := "KettleBeats$Spread") (nm := "KettleBeats$Spread") hb dX11_isOfKind_66 ht (by decide) rfl (by rw [ow]; exact kw_345) (Or.inl rfl) ?_
    exact a_ireturn (ty := .boolean) hb hz dX11_isOfKind_69 hret (by first | rfl | (simp only [narrow]; done) | exact aw_nb _) (by rw [hr]; exact Nat.le_of_ble_eq_true rfl) (by rw [hr]; exact Nat.le_of_ble_eq_true rfl) (⟨by rw [q1_6]; rfl, rfl⟩)
  refine a_tableOut hb 70 dX11_isOfKind_1 (by have z1 := lv_neT (k := 1) (a := 1) q1_1 (by decide); have z2 := lv_neT (k := 2) (a := 2) q1_2 (by decide); have z3 := lv_neT (k := 3) (a := 3) q1_3 (by decide); have z4 := lv_neT (k := 4) (a := 4) q1_4 (by decide); have z5 := lv_neT (k := 5) (a := 5) q1_5 (by decide); have z6 := lv_neT (k := 6) (a := 6) q1_6 (by decide); omega) (by decide) ?_
  refine a_iconst (v := 1) hb dX11_isOfKind_70 (by decide) ?_
  exact a_ireturn (ty := .boolean) hb hz dX11_isOfKind_71 hret (by first | rfl | (simp only [narrow]; done) | exact aw_nb _) (by rw [hr]; exact Nat.le_of_ble_eq_true rfl) (by rw [hr]; exact Nat.le_of_ble_eq_true rfl) (⟨by rw [show kk = 0 by rcases kd_c hkk with e | e | e | e | e | e | e; exact e; exact absurd e q1_1; exact absurd e q1_2; exact absurd e q1_3; exact absurd e q1_4; exact absurd e q1_5; exact absurd e q1_6]; rfl, rfl⟩)
theorem x_isOf (g : GG) (h : AH) (B : Nat) (S : Nat → Int32) (p q : Nat) (hk : oO (S (130 + p)) 0 6 = false) (po : PO h B S p q) (kk : Int32) (hkk : oO kk 0 6 = false) : AM g 1 0 0 mX11_isOfKind [.ref q, .int kk] h (fun rv h' => rv = some (.int (b2i (spUnder (S (130 + p)) kk))) ∧ h' = h) := by
  have ht := po.2.1
  rcases kd_c hk with e | e | e | e | e | e | e <;> rw [e] at ht ⊢
  · exact x_iok0 g h q ht kk hkk
  · exact x_iok1 g h q ht kk hkk
  · exact x_iok2 g h q ht kk hkk
  · exact x_iok3 g h q ht kk hkk
  · exact x_iok4 g h q ht kk hkk
  · exact x_iok5 g h q ht kk hkk
  · exact x_iok6 g h q ht kk hkk
set_option maxRecDepth 100000 in
theorem x_as (g : GG) (h : AH) (B : Nat) (S : Nat → Int32) (N : NN) (hX : XN h B S N) (p k : Int32) : AM g 3 0 0 mX11_as [.ref B, .int p, .int k] h (fun rv h' => rv = some (.int (spAs S p k)) ∧ h' = h) := by
  refine AM.of [(0, .ref B), (1, .int p), (2, .int k)] (by decide) (Nat.le_of_ble_eq_true rfl) rfl ?_
  intro V hV
  have hb : V.2.1.2.1 = cX11_as := by subst hV; rfl
  have ow : V.2.1.1.cls = RX11 := by subst hV; rfl
  have hr : V.2.2.1 = aw_rm 3 0 0 := by subst hV; rfl
  have hz : V.2.2.2 = aw_Z V.1 (fun rv h' => rv = some (.int (spAs S p k)) ∧ h' = h) V.2.2.1 := by subst hV; rfl
  have hg : V.1 = g := by subst hV; rfl
  have hret : V.2.1.2.2.2 = (some .int) := by subst hV; rfl
  have hml : V.2.1.2.2.1 = 4 := by subst hV; rfl
  clear hV
  have hnp := hX.np
  have hnw := hX.nw
  have e0 : S 0 = nI N.1 := hX.2.2.1.1
  refine a_aload_n hb dX11_as_0 rfl 0 rfl ?_
  refine a_iload_n hb dX11_as_1 rfl 1 rfl ?_
  refine a_callV hb dX11_as_2 (by rw [hg]; exact x_noPause g h B S N hX p) (by rw [ow]; exact clv_RX11_79) (hX.1.1 0 (by decide)) (by decide) rfl rfl rfl (Nat.le_of_ble_eq_true rfl) (by rw [hr]; exact ⟨by decide, by decide⟩) (by rw [hr]; exact ⟨Nat.le_of_ble_eq_true rfl, Nat.le_of_ble_eq_true rfl⟩) ?_
  intro rv h' hq_
  rw [hq_.1, hq_.2]
  show AW V 0 0 h 5 [(0, .ref B), (1, .int p), (2, .int k)] [.int (b2i (oO p 0 (nI N.1 - 1)))]
  refine a_if_ne hb 18 dX11_as_5 (by decide) (fun c5 => ?_) (fun c5 => ?_)
  · simp [b2i_0] at c5
    refine a_iconst (v := (-1)) hb dX11_as_18 (by decide) ?_
    exact a_ireturn (ty := .int) hb hz dX11_as_19 hret rfl (by rw [hr]; exact Nat.le_of_ble_eq_true rfl) (by rw [hr]; exact Nat.le_of_ble_eq_true rfl) (⟨by rw [spAs, e0, if_pos (by simpa using c5)], rfl⟩)
  · simp [b2i_0] at c5
    obtain ⟨p_, rfl, lp⟩ := c_lt (n := N.1) (by omega) (by simpa using c5)
    refine a_iload_n hb dX11_as_8 rfl 2 rfl ?_
    refine a_iconst (v := 0) hb dX11_as_9 (by decide) ?_
    refine a_bipush (v := 6) hb dX11_as_10 (by decide) ?_
    refine a_callS hb dX11_as_12 (by rw [hg]; exact w_outside g h k 0 6) (by rw [ow]; exact cls_RX11_53) rfl rfl (Nat.le_of_ble_eq_true rfl) (by rw [hr]; exact ⟨by decide, by decide⟩) (by rw [hr]; exact ⟨Nat.le_of_ble_eq_true rfl, Nat.le_of_ble_eq_true rfl⟩) ?_
    intro rv h' hq_
    rw [hq_.1, hq_.2]
    show AW V 0 0 h 15 [(0, .ref B), (1, .int (nI p_)), (2, .int k)] [.int (b2i (oO k 0 6))]
    refine a_if_eq hb 20 dX11_as_15 (by decide) (fun c15 => ?_) (fun c15 => ?_)
    · simp [b2i_0] at c15
      refine a_aload_n hb dX11_as_20 rfl 0 rfl ?_
      refine a_getQ (q := (B + 1)) hb dX11_as_21 (by rw [ow]; exact fl_RX11_12_11) (hX.1.1 0 (by decide)) (hX.1.2.1 (0, 0, 1) (by decide)) ?_
      refine a_getQ (q := (B + 2)) hb dX11_as_24 (by rw [ow]; exact fl_RX11_65_7) (hX.1.1 1 (by decide)) (hX.1.2.1 (1, 0, 2) (by decide)) ?_
      refine a_iload_n hb dX11_as_27 rfl 1 rfl ?_
      obtain ⟨q1, hq1, po1⟩ := hX.ps (p := p_) (by omega)
      refine b_aaldS (j := p_) (q := q1) hb dX11_as_28 (hX.1.1 2 (by decide)) (by decide) (by decide) (IX.n (by omega)) (by omega) hq1 ?_
      refine a_astore_n (L' := [(3, .ref q1), (0, .ref B), (1, .int (nI p_)), (2, .int k)]) hb dX11_as_29 rfl (by rw [hml]; decide) rfl ?_
      refine a_aload_n hb dX11_as_30 rfl 0 rfl ?_
      refine a_iload_n hb dX11_as_31 rfl 3 rfl ?_
      refine a_callS hb dX11_as_32 (by rw [hg]; exact x_isOf g h B S p_ q1 (hX.rp (by omega)).1 po1 k (by simpa using c15)) (by rw [ow]; exact cls_RX11_283) rfl rfl (Nat.le_of_ble_eq_true rfl) (by rw [hr]; exact ⟨by decide, by decide⟩) (by rw [hr]; exact ⟨Nat.le_of_ble_eq_true rfl, Nat.le_of_ble_eq_true rfl⟩) ?_
      intro rv h' hq_
      rw [hq_.1, hq_.2]
      show AW V 0 0 h 35 [(3, .ref q1), (0, .ref B), (1, .int (nI p_)), (2, .int k)] [.int (b2i (spUnder (S (130 + p_)) k))]
      refine a_if_eq hb 45 dX11_as_35 (by decide) (fun c35 => ?_) (fun c35 => ?_)
      · simp [b2i_0] at c35
        refine a_bipush (v := (-6)) hb dX11_as_45 (by decide) ?_
        exact a_ireturn (ty := .int) hb hz dX11_as_47 hret rfl (by rw [hr]; exact Nat.le_of_ble_eq_true rfl) (by rw [hr]; exact Nat.le_of_ble_eq_true rfl) (⟨by rw [spAs, e0, if_neg (by simp [c5]), if_neg (by simp [c15]), nI_clamp (by omega), if_neg (by simp [c35])], rfl⟩)
      · simp [b2i_0] at c35
        refine a_aload_n hb dX11_as_38 rfl 0 rfl ?_
        have kf2 : AW V 0 0 h 42 [(3, .ref q1), (0, .ref B), (1, .int (nI p_)), (2, .int k)] [.int (S (154 + p_))] := by
          refine a_goto hb 47 dX11_as_42 (by decide) ?_
          exact a_ireturn (ty := .int) hb hz dX11_as_47 hret rfl (by rw [hr]; exact Nat.le_of_ble_eq_true rfl) (by rw [hr]; exact Nat.le_of_ble_eq_true rfl) (⟨by rw [spAs, e0, if_neg (by simp [c5]), if_neg (by simp [c15]), nI_clamp (by omega), if_pos (by simpa using c35)], rfl⟩)
        rcases kd_c (hX.rp (p := p_) (by omega)).1 with ek0 | ek1 | ek2 | ek3 | ek4 | ek5 | ek6
        · refine a_getI (kd := 2) (len := 0) hb dX11_as_39 (by rw [ow]; exact fl_RX11_93_2) (by have z := po1.2.1; rw [ek0] at z; exact z) ?_
          rw [po1.2.2.2.2.2.2]; exact kf2
        · refine a_getI (kd := 9) (len := 0) hb dX11_as_39 (by rw [ow]; exact fl_RX11_93_9) (by have z := po1.2.1; rw [ek1] at z; exact z) ?_
          rw [po1.2.2.2.2.2.2]; exact kf2
        · refine a_getI (kd := 0) (len := 0) hb dX11_as_39 (by rw [ow]; exact fl_RX11_93_0) (by have z := po1.2.1; rw [ek2] at z; exact z) ?_
          rw [po1.2.2.2.2.2.2]; exact kf2
        · refine a_getI (kd := 3) (len := 0) hb dX11_as_39 (by rw [ow]; exact fl_RX11_93_3) (by have z := po1.2.1; rw [ek3] at z; exact z) ?_
          rw [po1.2.2.2.2.2.2]; exact kf2
        · refine a_getI (kd := 4) (len := 0) hb dX11_as_39 (by rw [ow]; exact fl_RX11_93_4) (by have z := po1.2.1; rw [ek4] at z; exact z) ?_
          rw [po1.2.2.2.2.2.2]; exact kf2
        · refine a_getI (kd := 5) (len := 0) hb dX11_as_39 (by rw [ow]; exact fl_RX11_93_5) (by have z := po1.2.1; rw [ek5] at z; exact z) ?_
          rw [po1.2.2.2.2.2.2]; exact kf2
        · refine a_getI (kd := 6) (len := 0) hb dX11_as_39 (by rw [ow]; exact fl_RX11_93_6) (by have z := po1.2.1; rw [ek6] at z; exact z) ?_
          rw [po1.2.2.2.2.2.2]; exact kf2
    · simp [b2i_0] at c15
      refine a_iconst (v := (-1)) hb dX11_as_18 (by decide) ?_
      exact a_ireturn (ty := .int) hb hz dX11_as_19 hret rfl (by rw [hr]; exact Nat.le_of_ble_eq_true rfl) (by rw [hr]; exact Nat.le_of_ble_eq_true rfl) (⟨by rw [spAs, e0, if_neg (by simp [c5]), if_pos (by simpa using c15)], rfl⟩)
