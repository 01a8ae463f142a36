/-! ===== the model's reads ===== -/
def spUnder (kind k : Int32) : Bool := decide (k = 0) || decide (k = kind) || (decide (k = 1) && (decide (kind = 2) || decide (kind = 6))) || (decide (k = 4) && decide (kind = 5))
def spAs (S : Nat → Int32) (p k : Int32) : Int32 := if oO p 0 (S 0 - 1) then -1 else if oO k 0 6 then -1 else if spUnder (S (130 + p.toNatClampNeg)) k then S (154 + p.toNatClampNeg) else -6
def spCall (S : Nat → Int32) (w t n : Int32) : Int32 × (Nat → Int32) :=
  if oO w 0 (S 1 - 1) then (-1, S) else if oO t 0 39 || oO n 0 40 then (-2, S)
  else (gv (upd (upd S (198 + w.toNatClampNeg) t) (203 + w.toNatClampNeg) n) w.toNatClampNeg * S (193 + w.toNatClampNeg), upd (upd S (198 + w.toNatClampNeg) t) (203 + w.toNatClampNeg) n)
set_option maxRecDepth 100000 in
theorem m_of (g : GG) (h : AH) (B : Nat) (hL : LY h B) (np : Nat) (hnp : IX (hI h (B + 52) 0) np) (lnp : np ≤ 8) (p w : Int32) : AM g 3 0 0 mX12_of [.ref (B + 51), .int p, .int w] h (fun rv h' => rv = some (.int (spOf (hI h (B + 52)) p w)) ∧ h' = h) := by
  refine AM.of [(0, .ref (B + 51)), (1, .int p), (2, .int w)] (by decide) (Nat.le_of_ble_eq_true rfl) rfl ?_
  intro V hV
  have hb : V.2.1.2.1 = cX12_of := by subst hV; rfl
  have ow : V.2.1.1.cls = RX12 := by subst hV; rfl
  have hr : V.2.2.1 = aw_rm 3 0 0 := by subst hV; rfl
  have hz : V.2.2.2 = aw_Z V.1 (fun rv h' => rv = some (.int (spOf (hI h (B + 52)) p w)) ∧ h' = h) V.2.2.1 := by subst hV; rfl
  have hg : V.1 = g := by subst hV; rfl
  have hret : V.2.1.2.2.2 = (some .int) := by subst hV; rfl
  have hml : V.2.1.2.2.1 = 3 := by subst hV; rfl
  clear hV
  refine a_aload_n hb dX12_of_0 rfl 0 rfl ?_
  refine a_iload_n hb dX12_of_1 rfl 1 rfl ?_
  refine a_callV hb dX12_of_2 (by rw [hg]; exact w_isBreak g h B hL p) (by rw [ow]; exact clv_RX12_56) (hL.1 51 (by decide)) (by decide) rfl rfl rfl (Nat.le_of_ble_eq_true rfl) (by rw [hr]; exact ⟨by decide, by decide⟩) (by rw [hr]; exact ⟨Nat.le_of_ble_eq_true rfl, Nat.le_of_ble_eq_true rfl⟩) ?_
  intro rv h' hp
  rw [hp.1, hp.2]
  show AW V 0 0 h 5 [(0, .ref (B + 51)), (1, .int p), (2, .int w)] [.int (b2i (!oO p 0 (hI h (B + 52) 0 - 1)))]
  refine a_if_eq hb 35 dX12_of_5 (by decide) (fun c5 => ?_) (fun c5 => ?_)
  · simp [b2i_0] at c5
    refine a_iconst (v := (-1)) hb dX12_of_35 (by decide) ?_
    exact a_ireturn (ty := .int) hb hz dX12_of_36 hret rfl (by rw [hr]; exact Nat.le_of_ble_eq_true rfl) (by rw [hr]; exact Nat.le_of_ble_eq_true rfl) (⟨by simp [spOf, *], rfl⟩)
  · simp [b2i_0] at c5
    obtain ⟨ix_p, lt_p⟩ : IX p p.toNatClampNeg ∧ p.toNatClampNeg < np := oO_lt hnp c5
    refine a_iload_n hb dX12_of_8 rfl 2 rfl ?_
    refine a_iconst (v := 0) hb dX12_of_9 (by decide) ?_
    refine a_iconst (v := 3) hb dX12_of_10 (by decide) ?_
    refine a_callS hb dX12_of_11 (by rw [hg]; exact w_in g h w 0 3) (by rw [ow]; exact cls_RX12_48) rfl rfl (Nat.le_of_ble_eq_true rfl) (by rw [hr]; exact ⟨by decide, by decide⟩) (by rw [hr]; exact ⟨Nat.le_of_ble_eq_true rfl, Nat.le_of_ble_eq_true rfl⟩) ?_
    intro rv h' hp
    rw [hp.1, hp.2]
    show AW V 0 0 h 14 [(0, .ref (B + 51)), (1, .int p), (2, .int w)] [.int (b2i (!oO w 0 3))]
    refine a_if_eq hb 35 dX12_of_14 (by decide) (fun c14 => ?_) (fun c14 => ?_)
    · simp [b2i_0] at c14
      refine a_iconst (v := (-1)) hb dX12_of_35 (by decide) ?_
      exact a_ireturn (ty := .int) hb hz dX12_of_36 hret rfl (by rw [hr]; exact Nat.le_of_ble_eq_true rfl) (by rw [hr]; exact Nat.le_of_ble_eq_true rfl) (⟨by simp [spOf, *], rfl⟩)
    · simp [b2i_0] at c14
      obtain ⟨ix_w, le_w⟩ : IX w w.toNatClampNeg ∧ w.toNatClampNeg ≤ 3 := oO_le (by decide) c14
      refine a_aload_n hb dX12_of_17 rfl 0 rfl ?_
      refine a_getQ (q := (B + 52)) hb dX12_of_18 (by rw [ow]; exact fl_RX12_9_12) (hL.1 51 (by decide)) (hL.2.1 (51, 1, 52) (by decide)) ?_
      refine a_sipush (v := 130) hb dX12_of_21 (by decide) ?_
      refine a_bipush (v := 8) hb dX12_of_24 (by decide) ?_
      refine a_iload_n hb dX12_of_26 rfl 2 rfl ?_
      refine a_imul hb dX12_of_27 ?_
      refine a_iadd hb dX12_of_28 ?_
      refine a_iload_n hb dX12_of_29 rfl 1 rfl ?_
      refine a_iadd hb dX12_of_30 ?_
      refine b_iald (j := ((130 + (8 * w.toNatClampNeg)) + p.toNatClampNeg)) hb dX12_of_31 (hL.1 52 (by decide)) (IX.add (IX.add ⟨by decide, by decide⟩ (IX.mul ⟨by decide, by decide⟩ ix_w (by omega)) (by omega)) ix_p (by omega)) (by omega) ?_
      refine a_goto hb 36 dX12_of_32 (by decide) ?_
      exact a_ireturn (ty := .int) hb hz dX12_of_36 hret rfl (by rw [hr]; exact Nat.le_of_ble_eq_true rfl) (by rw [hr]; exact Nat.le_of_ble_eq_true rfl) (⟨by simp [spOf, *], rfl⟩)
set_option maxRecDepth 100000 in
theorem m_isUnder (g : GG) (h : AH) (a k : Int32) : AM g 1 0 0 mX12_isUnder [.int a, .int k] h (fun rv h' => rv = some (.int (b2i (spUnder a k))) ∧ h' = h) := by
  refine AM.of [(0, .int a), (1, .int k)] (by decide) (Nat.le_of_ble_eq_true rfl) rfl ?_
  intro V hV
  have hb : V.2.1.2.1 = cX12_isUnder := by subst hV; rfl
  have ow : V.2.1.1.cls = RX12 := by subst hV; rfl
  have hr : V.2.2.1 = aw_rm 1 0 0 := by subst hV; rfl
  have hz : V.2.2.2 = aw_Z V.1 (fun rv h' => rv = some (.int (b2i (spUnder a k))) ∧ h' = h) V.2.2.1 := by subst hV; rfl
  have hg : V.1 = g := by subst hV; rfl
  have hret : V.2.1.2.2.2 = (some .boolean) := by subst hV; rfl
  have hml : V.2.1.2.2.1 = 2 := by subst hV; rfl
  clear hV
  refine a_iload_n hb dX12_isUnder_0 rfl 1 rfl ?_
  refine a_if_eq hb 35 dX12_isUnder_1 (by decide) (fun c1 => ?_) (fun c1 => ?_)
  · refine a_iconst (v := 1) hb dX12_isUnder_35 (by decide) ?_
    refine a_goto hb 40 dX12_isUnder_36 (by decide) ?_
    exact a_ireturn (ty := .boolean) hb hz dX12_isUnder_40 hret (by first | rfl | (simp only [narrow]; done) | exact aw_nb _) (by rw [hr]; exact Nat.le_of_ble_eq_true rfl) (by rw [hr]; exact Nat.le_of_ble_eq_true rfl) (⟨congrArg (fun x => some (Value.int x)) (by clear hz hb ow hr hg hret hml; simp_all [spUnder, b2i]), rfl⟩)
  · refine a_iload_n hb dX12_isUnder_4 rfl 1 rfl ?_
    refine a_iload_n hb dX12_isUnder_5 rfl 0 rfl ?_
    refine a_icmp_eq hb 35 dX12_isUnder_6 (by decide) (fun c6 => ?_) (fun c6 => ?_)
    · refine a_iconst (v := 1) hb dX12_isUnder_35 (by decide) ?_
      refine a_goto hb 40 dX12_isUnder_36 (by decide) ?_
      exact a_ireturn (ty := .boolean) hb hz dX12_isUnder_40 hret (by first | rfl | (simp only [narrow]; done) | exact aw_nb _) (by rw [hr]; exact Nat.le_of_ble_eq_true rfl) (by rw [hr]; exact Nat.le_of_ble_eq_true rfl) (⟨congrArg (fun x => some (Value.int x)) (by clear hz hb ow hr hg hret hml; simp_all [spUnder, b2i]), rfl⟩)
    · refine a_iload_n hb dX12_isUnder_9 rfl 1 rfl ?_
      refine a_iconst (v := 1) hb dX12_isUnder_10 (by decide) ?_
      refine a_icmp_ne hb 25 dX12_isUnder_11 (by decide) (fun c11 => ?_) (fun c11 => ?_)
      · refine a_iload_n hb dX12_isUnder_25 rfl 1 rfl ?_
        refine a_iconst (v := 4) hb dX12_isUnder_26 (by decide) ?_
        refine a_icmp_ne hb 39 dX12_isUnder_27 (by decide) (fun c27 => ?_) (fun c27 => ?_)
        · refine a_iconst (v := 0) hb dX12_isUnder_39 (by decide) ?_
          exact a_ireturn (ty := .boolean) hb hz dX12_isUnder_40 hret (by first | rfl | (simp only [narrow]; done) | exact aw_nb _) (by rw [hr]; exact Nat.le_of_ble_eq_true rfl) (by rw [hr]; exact Nat.le_of_ble_eq_true rfl) (⟨congrArg (fun x => some (Value.int x)) (by clear hz hb ow hr hg hret hml; simp_all [spUnder, b2i]), rfl⟩)
        · refine a_iload_n hb dX12_isUnder_30 rfl 0 rfl ?_
          refine a_iconst (v := 5) hb dX12_isUnder_31 (by decide) ?_
          refine a_icmp_ne hb 39 dX12_isUnder_32 (by decide) (fun c32 => ?_) (fun c32 => ?_)
          · refine a_iconst (v := 0) hb dX12_isUnder_39 (by decide) ?_
            exact a_ireturn (ty := .boolean) hb hz dX12_isUnder_40 hret (by first | rfl | (simp only [narrow]; done) | exact aw_nb _) (by rw [hr]; exact Nat.le_of_ble_eq_true rfl) (by rw [hr]; exact Nat.le_of_ble_eq_true rfl) (⟨congrArg (fun x => some (Value.int x)) (by clear hz hb ow hr hg hret hml; simp_all [spUnder, b2i]), rfl⟩)
          · refine a_iconst (v := 1) hb dX12_isUnder_35 (by decide) ?_
            refine a_goto hb 40 dX12_isUnder_36 (by decide) ?_
            exact a_ireturn (ty := .boolean) hb hz dX12_isUnder_40 hret (by first | rfl | (simp only [narrow]; done) | exact aw_nb _) (by rw [hr]; exact Nat.le_of_ble_eq_true rfl) (by rw [hr]; exact Nat.le_of_ble_eq_true rfl) (⟨congrArg (fun x => some (Value.int x)) (by clear hz hb ow hr hg hret hml; simp_all [spUnder, b2i]), rfl⟩)
      · refine a_iload_n hb dX12_isUnder_14 rfl 0 rfl ?_
        refine a_iconst (v := 2) hb dX12_isUnder_15 (by decide) ?_
        refine a_icmp_eq hb 35 dX12_isUnder_16 (by decide) (fun c16 => ?_) (fun c16 => ?_)
        · refine a_iconst (v := 1) hb dX12_isUnder_35 (by decide) ?_
          refine a_goto hb 40 dX12_isUnder_36 (by decide) ?_
          exact a_ireturn (ty := .boolean) hb hz dX12_isUnder_40 hret (by first | rfl | (simp only [narrow]; done) | exact aw_nb _) (by rw [hr]; exact Nat.le_of_ble_eq_true rfl) (by rw [hr]; exact Nat.le_of_ble_eq_true rfl) (⟨congrArg (fun x => some (Value.int x)) (by clear hz hb ow hr hg hret hml; simp_all [spUnder, b2i]), rfl⟩)
        · refine a_iload_n hb dX12_isUnder_19 rfl 0 rfl ?_
          refine a_bipush (v := 6) hb dX12_isUnder_20 (by decide) ?_
          refine a_icmp_eq hb 35 dX12_isUnder_22 (by decide) (fun c22 => ?_) (fun c22 => ?_)
          · refine a_iconst (v := 1) hb dX12_isUnder_35 (by decide) ?_
            refine a_goto hb 40 dX12_isUnder_36 (by decide) ?_
            exact a_ireturn (ty := .boolean) hb hz dX12_isUnder_40 hret (by first | rfl | (simp only [narrow]; done) | exact aw_nb _) (by rw [hr]; exact Nat.le_of_ble_eq_true rfl) (by rw [hr]; exact Nat.le_of_ble_eq_true rfl) (⟨congrArg (fun x => some (Value.int x)) (by clear hz hb ow hr hg hret hml; simp_all [spUnder, b2i]), rfl⟩)
          · refine a_iload_n hb dX12_isUnder_25 rfl 1 rfl ?_
            refine a_iconst (v := 4) hb dX12_isUnder_26 (by decide) ?_
            refine a_icmp_ne hb 39 dX12_isUnder_27 (by decide) (fun c27 => ?_) (fun c27 => ?_)
            · refine a_iconst (v := 0) hb dX12_isUnder_39 (by decide) ?_
              exact a_ireturn (ty := .boolean) hb hz dX12_isUnder_40 hret (by first | rfl | (simp only [narrow]; done) | exact aw_nb _) (by rw [hr]; exact Nat.le_of_ble_eq_true rfl) (by rw [hr]; exact Nat.le_of_ble_eq_true rfl) (⟨congrArg (fun x => some (Value.int x)) (by clear hz hb ow hr hg hret hml; simp_all [spUnder, b2i]), rfl⟩)
            · refine a_iload_n hb dX12_isUnder_30 rfl 0 rfl ?_
              refine a_iconst (v := 5) hb dX12_isUnder_31 (by decide) ?_
              refine a_icmp_ne hb 39 dX12_isUnder_32 (by decide) (fun c32 => ?_) (fun c32 => ?_)
              · refine a_iconst (v := 0) hb dX12_isUnder_39 (by decide) ?_
                exact a_ireturn (ty := .boolean) hb hz dX12_isUnder_40 hret (by first | rfl | (simp only [narrow]; done) | exact aw_nb _) (by rw [hr]; exact Nat.le_of_ble_eq_true rfl) (by rw [hr]; exact Nat.le_of_ble_eq_true rfl) (⟨congrArg (fun x => some (Value.int x)) (by clear hz hb ow hr hg hret hml; simp_all [spUnder, b2i]), rfl⟩)
              · refine a_iconst (v := 1) hb dX12_isUnder_35 (by decide) ?_
                refine a_goto hb 40 dX12_isUnder_36 (by decide) ?_
                exact a_ireturn (ty := .boolean) hb hz dX12_isUnder_40 hret (by first | rfl | (simp only [narrow]; done) | exact aw_nb _) (by rw [hr]; exact Nat.le_of_ble_eq_true rfl) (by rw [hr]; exact Nat.le_of_ble_eq_true rfl) (⟨congrArg (fun x => some (Value.int x)) (by clear hz hb ow hr hg hret hml; simp_all [spUnder, b2i]), rfl⟩)
set_option maxRecDepth 100000 in
theorem m_as (g : GG) (h : AH) (B : Nat) (hL : LY h B) (np : Nat) (hnp : IX (hI h (B + 52) 0) np) (lnp : np ≤ 8) (p k : Int32) : AM g 3 0 0 mX12_as [.ref (B + 51), .int p, .int k] h (fun rv h' => rv = some (.int (spAs (hI h (B + 52)) p k)) ∧ h' = h) := by
  refine AM.of [(0, .ref (B + 51)), (1, .int p), (2, .int k)] (by decide) (Nat.le_of_ble_eq_true rfl) rfl ?_
  intro V hV
  have hb : V.2.1.2.1 = cX12_as := by subst hV; rfl
  have ow : V.2.1.1.cls = RX12 := by subst hV; rfl
  have hr : V.2.2.1 = aw_rm 3 0 0 := by subst hV; rfl
  have hz : V.2.2.2 = aw_Z V.1 (fun rv h' => rv = some (.int (spAs (hI h (B + 52)) p k)) ∧ h' = h) V.2.2.1 := by subst hV; rfl
  have hg : V.1 = g := by subst hV; rfl
  have hret : V.2.1.2.2.2 = (some .int) := by subst hV; rfl
  have hml : V.2.1.2.2.1 = 3 := by subst hV; rfl
  clear hV
  refine a_aload_n hb dX12_as_0 rfl 0 rfl ?_
  refine a_iload_n hb dX12_as_1 rfl 1 rfl ?_
  refine a_callV hb dX12_as_2 (by rw [hg]; exact w_isBreak g h B hL p) (by rw [ow]; exact clv_RX12_56) (hL.1 51 (by decide)) (by decide) rfl rfl rfl (Nat.le_of_ble_eq_true rfl) (by rw [hr]; exact ⟨by decide, by decide⟩) (by rw [hr]; exact ⟨Nat.le_of_ble_eq_true rfl, Nat.le_of_ble_eq_true rfl⟩) ?_
  intro rv h' hp
  rw [hp.1, hp.2]
  show AW V 0 0 h 5 [(0, .ref (B + 51)), (1, .int p), (2, .int k)] [.int (b2i (!oO p 0 (hI h (B + 52) 0 - 1)))]
  refine a_if_eq hb 18 dX12_as_5 (by decide) (fun c5 => ?_) (fun c5 => ?_)
  · simp [b2i_0] at c5
    refine a_iconst (v := (-1)) hb dX12_as_18 (by decide) ?_
    exact a_ireturn (ty := .int) hb hz dX12_as_19 hret rfl (by rw [hr]; exact Nat.le_of_ble_eq_true rfl) (by rw [hr]; exact Nat.le_of_ble_eq_true rfl) (⟨by simp [spAs, *], rfl⟩)
  · simp [b2i_0] at c5
    obtain ⟨ix_p, lt_p⟩ : IX p p.toNatClampNeg ∧ p.toNatClampNeg < np := oO_lt hnp c5
    refine a_iload_n hb dX12_as_8 rfl 2 rfl ?_
    refine a_iconst (v := 0) hb dX12_as_9 (by decide) ?_
    refine a_bipush (v := 6) hb dX12_as_10 (by decide) ?_
    refine a_callS hb dX12_as_12 (by rw [hg]; exact w_in g h k 0 6) (by rw [ow]; exact cls_RX12_48) rfl rfl (Nat.le_of_ble_eq_true rfl) (by rw [hr]; exact ⟨by decide, by decide⟩) (by rw [hr]; exact ⟨Nat.le_of_ble_eq_true rfl, Nat.le_of_ble_eq_true rfl⟩) ?_
    intro rv h' hp
    rw [hp.1, hp.2]
    show AW V 0 0 h 15 [(0, .ref (B + 51)), (1, .int p), (2, .int k)] [.int (b2i (!oO k 0 6))]
    refine a_if_ne hb 20 dX12_as_15 (by decide) (fun c15 => ?_) (fun c15 => ?_)
    · simp [b2i_0] at c15
      refine a_aload_n hb dX12_as_20 rfl 0 rfl ?_
      refine a_getQ (q := (B + 52)) hb dX12_as_21 (by rw [ow]; exact fl_RX12_9_12) (hL.1 51 (by decide)) (hL.2.1 (51, 1, 52) (by decide)) ?_
      refine a_sipush (v := 130) hb dX12_as_24 (by decide) ?_
      refine a_iload_n hb dX12_as_27 rfl 1 rfl ?_
      refine a_iadd hb dX12_as_28 ?_
      refine b_iald (j := (130 + p.toNatClampNeg)) hb dX12_as_29 (hL.1 52 (by decide)) (IX.add ⟨by decide, by decide⟩ ix_p (by omega)) (by omega) ?_
      refine a_iload_n hb dX12_as_30 rfl 2 rfl ?_
      refine a_callS hb dX12_as_31 (by rw [hg]; exact m_isUnder g h (hI h (B + 52) (130 + p.toNatClampNeg)) k) (by rw [ow]; exact cls_RX12_249) rfl rfl (Nat.le_of_ble_eq_true rfl) (by rw [hr]; exact ⟨by decide, by decide⟩) (by rw [hr]; exact ⟨Nat.le_of_ble_eq_true rfl, Nat.le_of_ble_eq_true rfl⟩) ?_
      intro rv h' hp
      rw [hp.1, hp.2]
      show AW V 0 0 h 34 [(0, .ref (B + 51)), (1, .int p), (2, .int k)] [.int (b2i (spUnder (hI h (B + 52) (130 + p.toNatClampNeg)) k))]
      refine a_if_eq hb 50 dX12_as_34 (by decide) (fun c34 => ?_) (fun c34 => ?_)
      · simp [b2i_0] at c34
        refine a_bipush (v := (-6)) hb dX12_as_50 (by decide) ?_
        exact a_ireturn (ty := .int) hb hz dX12_as_52 hret rfl (by rw [hr]; exact Nat.le_of_ble_eq_true rfl) (by rw [hr]; exact Nat.le_of_ble_eq_true rfl) (⟨by simp [spAs, *], rfl⟩)
      · simp [b2i_0] at c34
        refine a_aload_n hb dX12_as_37 rfl 0 rfl ?_
        refine a_getQ (q := (B + 52)) hb dX12_as_38 (by rw [ow]; exact fl_RX12_9_12) (hL.1 51 (by decide)) (hL.2.1 (51, 1, 52) (by decide)) ?_
        refine a_sipush (v := 154) hb dX12_as_41 (by decide) ?_
        refine a_iload_n hb dX12_as_44 rfl 1 rfl ?_
        refine a_iadd hb dX12_as_45 ?_
        refine b_iald (j := (154 + p.toNatClampNeg)) hb dX12_as_46 (hL.1 52 (by decide)) (IX.add ⟨by decide, by decide⟩ ix_p (by omega)) (by omega) ?_
        refine a_goto hb 52 dX12_as_47 (by decide) ?_
        exact a_ireturn (ty := .int) hb hz dX12_as_52 hret rfl (by rw [hr]; exact Nat.le_of_ble_eq_true rfl) (by rw [hr]; exact Nat.le_of_ble_eq_true rfl) (⟨by simp [spAs, *], rfl⟩)
    · simp [b2i_0] at c15
      refine a_iconst (v := (-1)) hb dX12_as_18 (by decide) ?_
      exact a_ireturn (ty := .int) hb hz dX12_as_19 hret rfl (by rw [hr]; exact Nat.le_of_ble_eq_true rfl) (by rw [hr]; exact Nat.le_of_ble_eq_true rfl) (⟨by simp [spAs, *], rfl⟩)
set_option maxRecDepth 100000 in
theorem m_call (g : GG) (h : AH) (B : Nat) (hL : LY h B) (nw : Nat) (hn : IX (hI h (B + 52) 1) nw) (ln : nw ≤ 5) (w t n : Int32) : AM g 3 0 0 mX12_call [.ref (B + 51), .int w, .int t, .int n] h (fun rv h' => rv = some (.int (spCall (hI h (B + 52)) w t n).1) ∧ h' = setR h (B + 52) (spCall (hI h (B + 52)) w t n).2) := by
  refine AM.of [(0, .ref (B + 51)), (1, .int w), (2, .int t), (3, .int n)] (by decide) (Nat.le_of_ble_eq_true rfl) rfl ?_
  intro V hV
  have hb : V.2.1.2.1 = cX12_call := by subst hV; rfl
  have ow : V.2.1.1.cls = RX12 := by subst hV; rfl
  have hr : V.2.2.1 = aw_rm 3 0 0 := by subst hV; rfl
  have hz : V.2.2.2 = aw_Z V.1 (fun rv h' => rv = some (.int (spCall (hI h (B + 52)) w t n).1) ∧ h' = setR h (B + 52) (spCall (hI h (B + 52)) w t n).2) V.2.2.1 := by subst hV; rfl
  have hg : V.1 = g := by subst hV; rfl
  have hret : V.2.1.2.2.2 = (some .int) := by subst hV; rfl
  have hml : V.2.1.2.2.1 = 4 := by subst hV; rfl
  clear hV
  have e198 : ∀ x : Nat, x < 5 → ¬ (193 + x = 198 + x) := by omega
  have e203 : ∀ x : Nat, x < 5 → ¬ (193 + x = 203 + x) := by omega
  refine a_aload_n hb dX12_call_0 rfl 0 rfl ?_
  refine a_iload_n hb dX12_call_1 rfl 1 rfl ?_
  refine a_callV hb dX12_call_2 (by rw [hg]; exact w_isWork g h B hL w) (by rw [ow]; exact clv_RX12_160) (hL.1 51 (by decide)) (by decide) rfl rfl rfl (Nat.le_of_ble_eq_true rfl) (by rw [hr]; exact ⟨by decide, by decide⟩) (by rw [hr]; exact ⟨Nat.le_of_ble_eq_true rfl, Nat.le_of_ble_eq_true rfl⟩) ?_
  intro rv h' hp
  rw [hp.1, hp.2]
  show AW V 0 0 h 5 [(0, .ref (B + 51)), (1, .int w), (2, .int t), (3, .int n)] [.int (b2i (!oO w 0 (hI h (B + 52) 1 - 1)))]
  refine a_if_ne hb 10 dX12_call_5 (by decide) (fun c5 => ?_) (fun c5 => ?_)
  · simp [b2i_0] at c5
    obtain ⟨ix_w, lt_w⟩ : IX w w.toNatClampNeg ∧ w.toNatClampNeg < nw := oO_lt hn c5
    refine a_iload_n hb dX12_call_10 rfl 2 rfl ?_
    refine a_callS hb dX12_call_11 (by rw [hg]; exact w_isTick g h t) (by rw [ow]; exact cls_RX12_52) rfl rfl (Nat.le_of_ble_eq_true rfl) (by rw [hr]; exact ⟨by decide, by decide⟩) (by rw [hr]; exact ⟨Nat.le_of_ble_eq_true rfl, Nat.le_of_ble_eq_true rfl⟩) ?_
    intro rv h' hp
    rw [hp.1, hp.2]
    show AW V 0 0 h 14 [(0, .ref (B + 51)), (1, .int w), (2, .int t), (3, .int n)] [.int (b2i (!oO t 0 39))]
    refine a_if_eq hb 27 dX12_call_14 (by decide) (fun c14 => ?_) (fun c14 => ?_)
    · simp [b2i_0] at c14
      refine a_bipush (v := (-2)) hb dX12_call_27 (by decide) ?_
      exact a_ireturn (ty := .int) hb hz dX12_call_29 hret rfl (by rw [hr]; exact Nat.le_of_ble_eq_true rfl) (by rw [hr]; exact Nat.le_of_ble_eq_true rfl) (⟨by simp [spCall, SM, setI_R, hI_R, setR_R, setR_id, upd, *], by simp [spCall, SM, setI_R, hI_R, setR_R, setR_id, *]⟩)
    · simp [b2i_0] at c14
      refine a_iload_n hb dX12_call_17 rfl 3 rfl ?_
      refine a_iconst (v := 0) hb dX12_call_18 (by decide) ?_
      refine a_bipush (v := 40) hb dX12_call_19 (by decide) ?_
      refine a_callS hb dX12_call_21 (by rw [hg]; exact w_in g h n 0 40) (by rw [ow]; exact cls_RX12_48) rfl rfl (Nat.le_of_ble_eq_true rfl) (by rw [hr]; exact ⟨by decide, by decide⟩) (by rw [hr]; exact ⟨Nat.le_of_ble_eq_true rfl, Nat.le_of_ble_eq_true rfl⟩) ?_
      intro rv h' hp
      rw [hp.1, hp.2]
      show AW V 0 0 h 24 [(0, .ref (B + 51)), (1, .int w), (2, .int t), (3, .int n)] [.int (b2i (!oO n 0 40))]
      refine a_if_ne hb 30 dX12_call_24 (by decide) (fun c24 => ?_) (fun c24 => ?_)
      · simp [b2i_0] at c24
        refine a_aload_n hb dX12_call_30 rfl 0 rfl ?_
        refine a_getQ (q := (B + 52)) hb dX12_call_31 (by rw [ow]; exact fl_RX12_9_12) (hL.1 51 (by decide)) (hL.2.1 (51, 1, 52) (by decide)) ?_
        refine a_sipush (v := 198) hb dX12_call_34 (by decide) ?_
        refine a_iload_n hb dX12_call_37 rfl 1 rfl ?_
        refine a_iadd hb dX12_call_38 ?_
        refine a_iload_n hb dX12_call_39 rfl 2 rfl ?_
        refine b_iast (j := (198 + w.toNatClampNeg)) hb dX12_call_40 (hL.1 52 (by decide)) (IX.add ⟨by decide, by decide⟩ ix_w (by omega)) (by omega) ?_
        refine a_aload_n hb dX12_call_41 rfl 0 rfl ?_
        refine a_getQ (q := (B + 52)) hb dX12_call_42 (by rw [ow]; exact fl_RX12_9_12) (hL.1 51 (by decide)) (hL.2.1 (51, 1, 52) (by decide)) ?_
        refine a_sipush (v := 203) hb dX12_call_45 (by decide) ?_
        refine a_iload_n hb dX12_call_48 rfl 1 rfl ?_
        refine a_iadd hb dX12_call_49 ?_
        refine a_iload_n hb dX12_call_50 rfl 3 rfl ?_
        refine b_iast (j := (203 + w.toNatClampNeg)) hb dX12_call_51 (hL.1 52 (by decide)) (IX.add ⟨by decide, by decide⟩ ix_w (by omega)) (by omega) ?_
        refine a_aload_n hb dX12_call_52 rfl 0 rfl ?_
        refine a_iload_n hb dX12_call_53 rfl 1 rfl ?_
        refine a_callV hb dX12_call_54 (by rw [hg]; exact ((by have h0 := m_givesFor g (setI (setI h (B + 52) (198 + w.toNatClampNeg) t) (B + 52) (203 + w.toNatClampNeg) n) B hL w.toNatClampNeg (by omega); rw [← ix_w.eq.1] at h0; exact h0) : AM g 1 0 0 mX12_givesFor [.ref (B + 51), .int w] (setI (setI h (B + 52) (198 + w.toNatClampNeg) t) (B + 52) (203 + w.toNatClampNeg) n) (fun rv h' => rv = some (.int (gv (hI (setI (setI h (B + 52) (198 + w.toNatClampNeg) t) (B + 52) (203 + w.toNatClampNeg) n) (B + 52)) w.toNatClampNeg)) ∧ h' = (setI (setI h (B + 52) (198 + w.toNatClampNeg) t) (B + 52) (203 + w.toNatClampNeg) n)))) (by rw [ow]; exact clv_RX12_163) (hL.1 51 (by decide)) (by decide) rfl rfl rfl (Nat.le_of_ble_eq_true rfl) (by rw [hr]; exact ⟨by decide, by decide⟩) (by rw [hr]; exact ⟨Nat.le_of_ble_eq_true rfl, Nat.le_of_ble_eq_true rfl⟩) ?_
        intro rv h' hp
        rw [hp.1, hp.2]
        show AW V 0 0 (setI (setI h (B + 52) (198 + w.toNatClampNeg) t) (B + 52) (203 + w.toNatClampNeg) n) 57 [(0, .ref (B + 51)), (1, .int w), (2, .int t), (3, .int n)] [.int (gv (hI (setI (setI h (B + 52) (198 + w.toNatClampNeg) t) (B + 52) (203 + w.toNatClampNeg) n) (B + 52)) w.toNatClampNeg)]
        refine a_aload_n hb dX12_call_57 rfl 0 rfl ?_
        refine a_getQ (q := (B + 52)) hb dX12_call_58 (by rw [ow]; exact fl_RX12_9_12) (hL.1 51 (by decide)) (hL.2.1 (51, 1, 52) (by decide)) ?_
        refine a_sipush (v := 193) hb dX12_call_61 (by decide) ?_
        refine a_iload_n hb dX12_call_64 rfl 1 rfl ?_
        refine a_iadd hb dX12_call_65 ?_
        refine b_iald (j := (193 + w.toNatClampNeg)) hb dX12_call_66 (hL.1 52 (by decide)) (IX.add ⟨by decide, by decide⟩ ix_w (by omega)) (by omega) ?_
        refine a_imul hb dX12_call_67 ?_
        exact a_ireturn (ty := .int) hb hz dX12_call_68 hret rfl (by rw [hr]; exact Nat.le_of_ble_eq_true rfl) (by rw [hr]; exact Nat.le_of_ble_eq_true rfl) (⟨by simp [spCall, SM, setI_R, hI_R, setR_R, setR_id, upd, *], by simp [spCall, SM, setI_R, hI_R, setR_R, setR_id, *]⟩)
      · simp [b2i_0] at c24
        refine a_bipush (v := (-2)) hb dX12_call_27 (by decide) ?_
        exact a_ireturn (ty := .int) hb hz dX12_call_29 hret rfl (by rw [hr]; exact Nat.le_of_ble_eq_true rfl) (by rw [hr]; exact Nat.le_of_ble_eq_true rfl) (⟨by simp [spCall, SM, setI_R, hI_R, setR_R, setR_id, upd, *], by simp [spCall, SM, setI_R, hI_R, setR_R, setR_id, *]⟩)
  · simp [b2i_0] at c5
    refine a_iconst (v := (-1)) hb dX12_call_8 (by decide) ?_
    exact a_ireturn (ty := .int) hb hz dX12_call_9 hret rfl (by rw [hr]; exact Nat.le_of_ble_eq_true rfl) (by rw [hr]; exact Nat.le_of_ble_eq_true rfl) (⟨by simp [spCall, SM, setI_R, hI_R, setR_R, setR_id, upd, *], by simp [spCall, SM, setI_R, hI_R, setR_R, setR_id, *]⟩)
