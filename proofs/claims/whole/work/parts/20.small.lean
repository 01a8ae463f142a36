/-! ===== the layout; small facts ===== -/
def lyT : Nat → Nat × Nat := fun i => match i with
  | 0 => (11, 0)
  | 1 => (7, 0)
  | 2 => (18, 8)
  | 3 => (14, 8)
  | 4 => (14, 8)
  | 5 => (17, 5)
  | 6 => (19, 5)
  | 7 => (13, 120)
  | 8 => (14, 20)
  | 9 => (14, 3)
  | 10 => (7, 0)
  | 11 => (18, 8)
  | 12 => (14, 8)
  | 13 => (14, 8)
  | 14 => (17, 5)
  | 15 => (19, 5)
  | 16 => (13, 120)
  | 17 => (14, 20)
  | 18 => (14, 3)
  | 19 => (8, 0)
  | 20 => (14, 20)
  | 21 => (14, 40)
  | 22 => (14, 40)
  | 23 => (14, 40)
  | 24 => (14, 40)
  | 25 => (20, 24)
  | 26 => (14, 40)
  | 27 => (14, 40)
  | 28 => (14, 40)
  | 29 => (14, 40)
  | 30 => (14, 40)
  | 31 => (14, 40)
  | 32 => (14, 40)
  | 33 => (14, 40)
  | 34 => (14, 40)
  | 35 => (14, 40)
  | 36 => (14, 40)
  | 37 => (14, 40)
  | 38 => (14, 40)
  | 39 => (14, 40)
  | 40 => (14, 40)
  | 41 => (14, 40)
  | 42 => (14, 40)
  | 43 => (14, 40)
  | 44 => (14, 40)
  | 45 => (14, 40)
  | 46 => (14, 40)
  | 47 => (14, 40)
  | 48 => (14, 40)
  | 49 => (14, 40)
  | 50 => (14, 8)
  | 51 => (12, 0)
  | 52 => (14, 938)
  | 53 => (14, 938)
  | 54 => (14, 5)
  | 55 => (16, 64)
  | 56 => (14, 8)
  | 57 => (14, 40)
  | 58 => (14, 40)
  | 59 => (15, 40)
  | 60 => (16, 80)
  | 61 => (14, 20)
  | _ => (99, 0)
def lyQ : List (Nat × Nat × Nat) := [(0, 0, 1), (0, 1, 10), (0, 3, 19), (0, 4, 21), (0, 5, 22), (0, 6, 23), (0, 7, 24), (0, 8, 25), (0, 9, 50), (19, 0, 20), (51, 1, 52), (51, 2, 53), (51, 9, 54), (51, 10, 55), (51, 11, 56), (51, 12, 57), (51, 13, 58), (51, 14, 59), (51, 19, 60), (51, 20, 61), (1, 0, 2), (1, 1, 3), (1, 2, 4), (1, 4, 5), (1, 6, 6), (1, 8, 7), (1, 10, 8), (1, 12, 9), (10, 0, 11), (10, 1, 12), (10, 2, 13), (10, 4, 14), (10, 6, 15), (10, 8, 16), (10, 10, 17), (10, 12, 18), (25, 0, 26), (25, 1, 27), (25, 2, 28), (25, 3, 29), (25, 4, 30), (25, 5, 31), (25, 6, 32), (25, 7, 33), (25, 8, 34), (25, 9, 35), (25, 10, 36), (25, 11, 37), (25, 12, 38), (25, 13, 39), (25, 14, 40), (25, 15, 41), (25, 16, 42), (25, 17, 43), (25, 18, 44), (25, 19, 45), (25, 20, 46), (25, 21, 47), (25, 22, 48), (25, 23, 49)]
/-- where the fixed objects lie, B the first address: x and its rows, then m and its rows -/
def LY (h : AH) (B : Nat) : Prop := (∀ i, i < 62 → hT h (B + i) = lyT i) ∧ (∀ q ∈ lyQ, hQ h (B + q.1) q.2.1 = some (B + q.2.2)) ∧ B + 62 ≤ hN h
def b2i (p : Bool) : Int32 := if p then 1 else 0
def oO (n a b : Int32) : Bool := decide (n < a) || decide (b < n)
theorem b2i_nb (p : Bool) : narrow .boolean (.int (b2i p)) = .int (b2i p) := by cases p <;> rfl
theorem b2i_0 (p : Bool) : b2i p = 0 ↔ p = false := by cases p <;> decide
theorem b2i_1 (p : Bool) : b2i p = 1 ↔ p = true := by cases p <;> decide
set_option maxRecDepth 100000 in
theorem w_outside (g : GG) (h : AH) (n a b : Int32) : AM g 1 0 0 mX11_outside [.int n, .int a, .int b] h (fun v h' => v = some (.int (b2i (oO n a b))) ∧ h' = h) := by
  refine AM.of [(0, .int n), (1, .int a), (2, .int b)] (by decide) (Nat.le_of_ble_eq_true rfl) rfl ?_
  intro V hV
  have hb : V.2.1.2.1 = cX11_outside := by subst hV; rfl
  have ow : V.2.1.1.cls = RX11 := by subst hV; rfl
  have hr : V.2.2.1 = aw_rm 1 0 0 := by subst hV; rfl
  have hz : V.2.2.2 = aw_Z V.1 (fun v h' => v = some (.int (b2i (oO n a b))) ∧ h' = h) V.2.2.1 := by subst hV; rfl
  have hg : V.1 = g := by subst hV; rfl
  have hret : V.2.1.2.2.2 = (some .boolean) := by subst hV; rfl
  have hml : V.2.1.2.2.1 = 3 := by subst hV; rfl
  clear hV
  refine a_iload_n hb dX11_outside_0 rfl 0 rfl ?_
  refine a_iload_n hb dX11_outside_1 rfl 1 rfl ?_
  refine a_icmp_lt hb 10 dX11_outside_2 (by decide) (fun c2 => ?_) (fun c2 => ?_)
  · have c2' := Int32.not_le.mpr c2
    refine a_iconst (v := 1) hb dX11_outside_10 (by decide) ?_
    refine a_goto hb 15 dX11_outside_11 (by decide) ?_
    exact a_ireturn (ty := .boolean) hb hz dX11_outside_15 hret (by first | rfl | (simp only [narrow]; done) | exact aw_nb _) (by rw [hr]; exact Nat.le_of_ble_eq_true rfl) (by rw [hr]; exact Nat.le_of_ble_eq_true rfl) (⟨by simp [b2i, oO, *], rfl⟩)
  · have c2' := Int32.not_lt.mp c2
    refine a_iload_n hb dX11_outside_5 rfl 0 rfl ?_
    refine a_iload_n hb dX11_outside_6 rfl 2 rfl ?_
    refine a_icmp_le hb 14 dX11_outside_7 (by decide) (fun c7 => ?_) (fun c7 => ?_)
    · have c7' := Int32.not_lt.mpr c7
      refine a_iconst (v := 0) hb dX11_outside_14 (by decide) ?_
      exact a_ireturn (ty := .boolean) hb hz dX11_outside_15 hret (by first | rfl | (simp only [narrow]; done) | exact aw_nb _) (by rw [hr]; exact Nat.le_of_ble_eq_true rfl) (by rw [hr]; exact Nat.le_of_ble_eq_true rfl) (⟨by simp [b2i, oO, *], rfl⟩)
    · have c7' := Int32.not_le.mp c7
      refine a_iconst (v := 1) hb dX11_outside_10 (by decide) ?_
      refine a_goto hb 15 dX11_outside_11 (by decide) ?_
      exact a_ireturn (ty := .boolean) hb hz dX11_outside_15 hret (by first | rfl | (simp only [narrow]; done) | exact aw_nb _) (by rw [hr]; exact Nat.le_of_ble_eq_true rfl) (by rw [hr]; exact Nat.le_of_ble_eq_true rfl) (⟨by simp [b2i, oO, *], rfl⟩)
set_option maxRecDepth 100000 in
theorem w_in (g : GG) (h : AH) (n a b : Int32) : AM g 1 0 0 mX12_in [.int n, .int a, .int b] h (fun v h' => v = some (.int (b2i (!oO n a b))) ∧ h' = h) := by
  refine AM.of [(0, .int n), (1, .int a), (2, .int b)] (by decide) (Nat.le_of_ble_eq_true rfl) rfl ?_
  intro V hV
  have hb : V.2.1.2.1 = cX12_in := by subst hV; rfl
  have ow : V.2.1.1.cls = RX12 := by subst hV; rfl
  have hr : V.2.2.1 = aw_rm 1 0 0 := by subst hV; rfl
  have hz : V.2.2.2 = aw_Z V.1 (fun v h' => v = some (.int (b2i (!oO n a b))) ∧ h' = h) V.2.2.1 := by subst hV; rfl
  have hg : V.1 = g := by subst hV; rfl
  have hret : V.2.1.2.2.2 = (some .boolean) := by subst hV; rfl
  have hml : V.2.1.2.2.1 = 3 := by subst hV; rfl
  clear hV
  refine a_iload_n hb dX12_in_0 rfl 0 rfl ?_
  refine a_iload_n hb dX12_in_1 rfl 1 rfl ?_
  refine a_icmp_lt hb 14 dX12_in_2 (by decide) (fun c2 => ?_) (fun c2 => ?_)
  · have c2' := Int32.not_le.mpr c2
    refine a_iconst (v := 0) hb dX12_in_14 (by decide) ?_
    exact a_ireturn (ty := .boolean) hb hz dX12_in_15 hret (by first | rfl | (simp only [narrow]; done) | exact aw_nb _) (by rw [hr]; exact Nat.le_of_ble_eq_true rfl) (by rw [hr]; exact Nat.le_of_ble_eq_true rfl) (⟨by simp [b2i, oO, *], rfl⟩)
  · have c2' := Int32.not_lt.mp c2
    refine a_iload_n hb dX12_in_5 rfl 0 rfl ?_
    refine a_iload_n hb dX12_in_6 rfl 2 rfl ?_
    refine a_icmp_gt hb 14 dX12_in_7 (by decide) (fun c7 => ?_) (fun c7 => ?_)
    · have c7' := Int32.not_le.mpr c7
      refine a_iconst (v := 0) hb dX12_in_14 (by decide) ?_
      exact a_ireturn (ty := .boolean) hb hz dX12_in_15 hret (by first | rfl | (simp only [narrow]; done) | exact aw_nb _) (by rw [hr]; exact Nat.le_of_ble_eq_true rfl) (by rw [hr]; exact Nat.le_of_ble_eq_true rfl) (⟨by simp [b2i, oO, *], rfl⟩)
    · have c7' := Int32.not_lt.mp c7
      refine a_iconst (v := 1) hb dX12_in_10 (by decide) ?_
      refine a_goto hb 15 dX12_in_11 (by decide) ?_
      exact a_ireturn (ty := .boolean) hb hz dX12_in_15 hret (by first | rfl | (simp only [narrow]; done) | exact aw_nb _) (by rw [hr]; exact Nat.le_of_ble_eq_true rfl) (by rw [hr]; exact Nat.le_of_ble_eq_true rfl) (⟨by simp [b2i, oO, *], rfl⟩)
set_option maxRecDepth 100000 in
theorem w_noTick (g : GG) (h : AH) (n : Int32) : AM g 2 0 0 mX11_noTick [.int n] h (fun v h' => v = some (.int (b2i (oO n 0 39))) ∧ h' = h) := by
  refine AM.of [(0, .int n)] (by decide) (Nat.le_of_ble_eq_true rfl) rfl ?_
  intro V hV
  have hb : V.2.1.2.1 = cX11_noTick := by subst hV; rfl
  have ow : V.2.1.1.cls = RX11 := by subst hV; rfl
  have hr : V.2.2.1 = aw_rm 2 0 0 := by subst hV; rfl
  have hz : V.2.2.2 = aw_Z V.1 (fun v h' => v = some (.int (b2i (oO n 0 39))) ∧ h' = h) V.2.2.1 := by subst hV; rfl
  have hg : V.1 = g := by subst hV; rfl
  have hret : V.2.1.2.2.2 = (some .boolean) := by subst hV; rfl
  have hml : V.2.1.2.2.1 = 1 := by subst hV; rfl
  clear hV
  refine a_iload_n hb dX11_noTick_0 rfl 0 rfl ?_
  refine a_iconst (v := 0) hb dX11_noTick_1 (by decide) ?_
  refine a_bipush (v := 39) hb dX11_noTick_2 (by decide) ?_
  refine a_callS hb dX11_noTick_4 (by rw [hg]; exact w_outside g h n 0 39) (by rw [ow]; exact cls_RX11_53) rfl rfl (Nat.le_of_ble_eq_true rfl) (by rw [hr]; exact ⟨by decide, by decide⟩) (by rw [hr]; exact ⟨Nat.le_of_ble_eq_true rfl, Nat.le_of_ble_eq_true rfl⟩) ?_
  intro rv h' hp
  rw [hp.1, hp.2]
  show AW V 0 0 h 7 [(0, .int n)] [.int (b2i (oO n 0 39))]
  exact a_ireturn (ty := .boolean) hb hz dX11_noTick_7 hret (b2i_nb _) (by rw [hr]; exact Nat.le_of_ble_eq_true rfl) (by rw [hr]; exact Nat.le_of_ble_eq_true rfl) (⟨rfl, rfl⟩)
set_option maxRecDepth 100000 in
theorem w_noBound (g : GG) (h : AH) (n : Int32) : AM g 2 0 0 mX11_noBound [.int n] h (fun v h' => v = some (.int (b2i (oO n 0 999))) ∧ h' = h) := by
  refine AM.of [(0, .int n)] (by decide) (Nat.le_of_ble_eq_true rfl) rfl ?_
  intro V hV
  have hb : V.2.1.2.1 = cX11_noBound := by subst hV; rfl
  have ow : V.2.1.1.cls = RX11 := by subst hV; rfl
  have hr : V.2.2.1 = aw_rm 2 0 0 := by subst hV; rfl
  have hz : V.2.2.2 = aw_Z V.1 (fun v h' => v = some (.int (b2i (oO n 0 999))) ∧ h' = h) V.2.2.1 := by subst hV; rfl
  have hg : V.1 = g := by subst hV; rfl
  have hret : V.2.1.2.2.2 = (some .boolean) := by subst hV; rfl
  have hml : V.2.1.2.2.1 = 1 := by subst hV; rfl
  clear hV
  refine a_iload_n hb dX11_noBound_0 rfl 0 rfl ?_
  refine a_iconst (v := 0) hb dX11_noBound_1 (by decide) ?_
  refine a_sipush (v := 999) hb dX11_noBound_2 (by decide) ?_
  refine a_callS hb dX11_noBound_5 (by rw [hg]; exact w_outside g h n 0 999) (by rw [ow]; exact cls_RX11_53) rfl rfl (Nat.le_of_ble_eq_true rfl) (by rw [hr]; exact ⟨by decide, by decide⟩) (by rw [hr]; exact ⟨Nat.le_of_ble_eq_true rfl, Nat.le_of_ble_eq_true rfl⟩) ?_
  intro rv h' hp
  rw [hp.1, hp.2]
  show AW V 0 0 h 8 [(0, .int n)] [.int (b2i (oO n 0 999))]
  exact a_ireturn (ty := .boolean) hb hz dX11_noBound_8 hret (b2i_nb _) (by rw [hr]; exact Nat.le_of_ble_eq_true rfl) (by rw [hr]; exact Nat.le_of_ble_eq_true rfl) (⟨rfl, rfl⟩)
set_option maxRecDepth 100000 in
theorem w_noPause (g : GG) (h : AH) (B : Nat) (hL : LY h B) (n : Int32) : AM g 2 0 0 mX11_noPause [.ref B, .int n] h (fun v h' => v = some (.int (b2i (oO n 0 (hI h (B + 1) 3 - 1)))) ∧ h' = h) := by
  refine AM.of [(0, .ref B), (1, .int n)] (by decide) (Nat.le_of_ble_eq_true rfl) rfl ?_
  intro V hV
  have hb : V.2.1.2.1 = cX11_noPause := by subst hV; rfl
  have ow : V.2.1.1.cls = RX11 := by subst hV; rfl
  have hr : V.2.2.1 = aw_rm 2 0 0 := by subst hV; rfl
  have hz : V.2.2.2 = aw_Z V.1 (fun v h' => v = some (.int (b2i (oO n 0 (hI h (B + 1) 3 - 1)))) ∧ h' = h) V.2.2.1 := by subst hV; rfl
  have hg : V.1 = g := by subst hV; rfl
  have hret : V.2.1.2.2.2 = (some .boolean) := by subst hV; rfl
  have hml : V.2.1.2.2.1 = 2 := by subst hV; rfl
  clear hV
  refine a_iload_n hb dX11_noPause_0 rfl 1 rfl ?_
  refine a_iconst (v := 0) hb dX11_noPause_1 (by decide) ?_
  refine a_aload_n hb dX11_noPause_2 rfl 0 rfl ?_
  refine a_getQ (q := (B + 1)) hb dX11_noPause_3 (by rw [ow]; exact fl_RX11_12_11) (hL.1 0 (by decide)) (hL.2.1 (0, 0, 1) (by decide)) ?_
  refine a_getI hb dX11_noPause_6 (by rw [ow]; exact fl_RX11_61_7) (hL.1 1 (by decide)) ?_
  refine a_iconst (v := 1) hb dX11_noPause_9 (by decide) ?_
  refine a_isub hb dX11_noPause_10 ?_
  refine a_callS hb dX11_noPause_11 (by rw [hg]; exact w_outside g h n 0 ((hI h (B + 1) 3) - 1)) (by rw [ow]; exact cls_RX11_53) rfl rfl (Nat.le_of_ble_eq_true rfl) (by rw [hr]; exact ⟨by decide, by decide⟩) (by rw [hr]; exact ⟨Nat.le_of_ble_eq_true rfl, Nat.le_of_ble_eq_true rfl⟩) ?_
  intro rv h' hp
  rw [hp.1, hp.2]
  show AW V 0 0 h 14 [(0, .ref B), (1, .int n)] [.int (b2i (oO n 0 ((hI h (B + 1) 3) - 1)))]
  exact a_ireturn (ty := .boolean) hb hz dX11_noPause_14 hret (b2i_nb _) (by rw [hr]; exact Nat.le_of_ble_eq_true rfl) (by rw [hr]; exact Nat.le_of_ble_eq_true rfl) (⟨rfl, rfl⟩)
set_option maxRecDepth 100000 in
theorem w_noWork (g : GG) (h : AH) (B : Nat) (hL : LY h B) (n : Int32) : AM g 2 0 0 mX11_noWork [.ref B, .int n] h (fun v h' => v = some (.int (b2i (oO n 0 (hI h (B + 1) 7 - 1)))) ∧ h' = h) := by
  refine AM.of [(0, .ref B), (1, .int n)] (by decide) (Nat.le_of_ble_eq_true rfl) rfl ?_
  intro V hV
  have hb : V.2.1.2.1 = cX11_noWork := by subst hV; rfl
  have ow : V.2.1.1.cls = RX11 := by subst hV; rfl
  have hr : V.2.2.1 = aw_rm 2 0 0 := by subst hV; rfl
  have hz : V.2.2.2 = aw_Z V.1 (fun v h' => v = some (.int (b2i (oO n 0 (hI h (B + 1) 7 - 1)))) ∧ h' = h) V.2.2.1 := by subst hV; rfl
  have hg : V.1 = g := by subst hV; rfl
  have hret : V.2.1.2.2.2 = (some .boolean) := by subst hV; rfl
  have hml : V.2.1.2.2.1 = 2 := by subst hV; rfl
  clear hV
  refine a_iload_n hb dX11_noWork_0 rfl 1 rfl ?_
  refine a_iconst (v := 0) hb dX11_noWork_1 (by decide) ?_
  refine a_aload_n hb dX11_noWork_2 rfl 0 rfl ?_
  refine a_getQ (q := (B + 1)) hb dX11_noWork_3 (by rw [ow]; exact fl_RX11_12_11) (hL.1 0 (by decide)) (hL.2.1 (0, 0, 1) (by decide)) ?_
  refine a_getI hb dX11_noWork_6 (by rw [ow]; exact fl_RX11_152_7) (hL.1 1 (by decide)) ?_
  refine a_iconst (v := 1) hb dX11_noWork_9 (by decide) ?_
  refine a_isub hb dX11_noWork_10 ?_
  refine a_callS hb dX11_noWork_11 (by rw [hg]; exact w_outside g h n 0 ((hI h (B + 1) 7) - 1)) (by rw [ow]; exact cls_RX11_53) rfl rfl (Nat.le_of_ble_eq_true rfl) (by rw [hr]; exact ⟨by decide, by decide⟩) (by rw [hr]; exact ⟨Nat.le_of_ble_eq_true rfl, Nat.le_of_ble_eq_true rfl⟩) ?_
  intro rv h' hp
  rw [hp.1, hp.2]
  show AW V 0 0 h 14 [(0, .ref B), (1, .int n)] [.int (b2i (oO n 0 ((hI h (B + 1) 7) - 1)))]
  exact a_ireturn (ty := .boolean) hb hz dX11_noWork_14 hret (b2i_nb _) (by rw [hr]; exact Nat.le_of_ble_eq_true rfl) (by rw [hr]; exact Nat.le_of_ble_eq_true rfl) (⟨rfl, rfl⟩)
set_option maxRecDepth 100000 in
theorem w_noLaw (g : GG) (h : AH) (B : Nat) (hL : LY h B) : AM g 2 0 0 mX11_noLaw [.ref B] h (fun v h' => v = some (.int (b2i (decide (hI h (B + 1) 5 = 0)))) ∧ h' = h) := by
  refine AM.of [(0, .ref B)] (by decide) (Nat.le_of_ble_eq_true rfl) rfl ?_
  intro V hV
  have hb : V.2.1.2.1 = cX11_noLaw := by subst hV; rfl
  have ow : V.2.1.1.cls = RX11 := by subst hV; rfl
  have hr : V.2.2.1 = aw_rm 2 0 0 := by subst hV; rfl
  have hz : V.2.2.2 = aw_Z V.1 (fun v h' => v = some (.int (b2i (decide (hI h (B + 1) 5 = 0)))) ∧ h' = h) V.2.2.1 := by subst hV; rfl
  have hg : V.1 = g := by subst hV; rfl
  have hret : V.2.1.2.2.2 = (some .boolean) := by subst hV; rfl
  have hml : V.2.1.2.2.1 = 1 := by subst hV; rfl
  clear hV
  refine a_aload_n hb dX11_noLaw_0 rfl 0 rfl ?_
  refine a_getQ (q := (B + 1)) hb dX11_noLaw_1 (by rw [ow]; exact fl_RX11_12_11) (hL.1 0 (by decide)) (hL.2.1 (0, 0, 1) (by decide)) ?_
  refine a_getI hb dX11_noLaw_4 (by rw [ow]; exact fl_RX11_112_7) (hL.1 1 (by decide)) ?_
  refine a_if_ne hb 14 dX11_noLaw_7 (by decide) (fun c7 => ?_) (fun c7 => ?_)
  · refine a_iconst (v := 0) hb dX11_noLaw_14 (by decide) ?_
    exact a_ireturn (ty := .boolean) hb hz dX11_noLaw_15 hret (by first | rfl | (simp only [narrow]; done) | exact aw_nb _) (by rw [hr]; exact Nat.le_of_ble_eq_true rfl) (by rw [hr]; exact Nat.le_of_ble_eq_true rfl) (⟨by simp [b2i, *], rfl⟩)
  · refine a_iconst (v := 1) hb dX11_noLaw_10 (by decide) ?_
    refine a_goto hb 15 dX11_noLaw_11 (by decide) ?_
    exact a_ireturn (ty := .boolean) hb hz dX11_noLaw_15 hret (by first | rfl | (simp only [narrow]; done) | exact aw_nb _) (by rw [hr]; exact Nat.le_of_ble_eq_true rfl) (by rw [hr]; exact Nat.le_of_ble_eq_true rfl) (⟨by simp [b2i, *], rfl⟩)
set_option maxRecDepth 100000 in
theorem w_isTick (g : GG) (h : AH) (n : Int32) : AM g 2 0 0 mX12_isTick [.int n] h (fun v h' => v = some (.int (b2i (!oO n 0 39))) ∧ h' = h) := by
  refine AM.of [(0, .int n)] (by decide) (Nat.le_of_ble_eq_true rfl) rfl ?_
  intro V hV
  have hb : V.2.1.2.1 = cX12_isTick := by subst hV; rfl
  have ow : V.2.1.1.cls = RX12 := by subst hV; rfl
  have hr : V.2.2.1 = aw_rm 2 0 0 := by subst hV; rfl
  have hz : V.2.2.2 = aw_Z V.1 (fun v h' => v = some (.int (b2i (!oO n 0 39))) ∧ h' = h) V.2.2.1 := by subst hV; rfl
  have hg : V.1 = g := by subst hV; rfl
  have hret : V.2.1.2.2.2 = (some .boolean) := by subst hV; rfl
  have hml : V.2.1.2.2.1 = 1 := by subst hV; rfl
  clear hV
  refine a_iload_n hb dX12_isTick_0 rfl 0 rfl ?_
  refine a_iconst (v := 0) hb dX12_isTick_1 (by decide) ?_
  refine a_bipush (v := 39) hb dX12_isTick_2 (by decide) ?_
  refine a_callS hb dX12_isTick_4 (by rw [hg]; exact w_in g h n 0 39) (by rw [ow]; exact cls_RX12_48) rfl rfl (Nat.le_of_ble_eq_true rfl) (by rw [hr]; exact ⟨by decide, by decide⟩) (by rw [hr]; exact ⟨Nat.le_of_ble_eq_true rfl, Nat.le_of_ble_eq_true rfl⟩) ?_
  intro rv h' hp
  rw [hp.1, hp.2]
  show AW V 0 0 h 7 [(0, .int n)] [.int (b2i (!oO n 0 39))]
  exact a_ireturn (ty := .boolean) hb hz dX12_isTick_7 hret (b2i_nb _) (by rw [hr]; exact Nat.le_of_ble_eq_true rfl) (by rw [hr]; exact Nat.le_of_ble_eq_true rfl) (⟨rfl, rfl⟩)
set_option maxRecDepth 100000 in
theorem w_isBound (g : GG) (h : AH) (n : Int32) : AM g 2 0 0 mX12_isBound [.int n] h (fun v h' => v = some (.int (b2i (!oO n 0 999))) ∧ h' = h) := by
  refine AM.of [(0, .int n)] (by decide) (Nat.le_of_ble_eq_true rfl) rfl ?_
  intro V hV
  have hb : V.2.1.2.1 = cX12_isBound := by subst hV; rfl
  have ow : V.2.1.1.cls = RX12 := by subst hV; rfl
  have hr : V.2.2.1 = aw_rm 2 0 0 := by subst hV; rfl
  have hz : V.2.2.2 = aw_Z V.1 (fun v h' => v = some (.int (b2i (!oO n 0 999))) ∧ h' = h) V.2.2.1 := by subst hV; rfl
  have hg : V.1 = g := by subst hV; rfl
  have hret : V.2.1.2.2.2 = (some .boolean) := by subst hV; rfl
  have hml : V.2.1.2.2.1 = 1 := by subst hV; rfl
  clear hV
  refine a_iload_n hb dX12_isBound_0 rfl 0 rfl ?_
  refine a_iconst (v := 0) hb dX12_isBound_1 (by decide) ?_
  refine a_sipush (v := 999) hb dX12_isBound_2 (by decide) ?_
  refine a_callS hb dX12_isBound_5 (by rw [hg]; exact w_in g h n 0 999) (by rw [ow]; exact cls_RX12_48) rfl rfl (Nat.le_of_ble_eq_true rfl) (by rw [hr]; exact ⟨by decide, by decide⟩) (by rw [hr]; exact ⟨Nat.le_of_ble_eq_true rfl, Nat.le_of_ble_eq_true rfl⟩) ?_
  intro rv h' hp
  rw [hp.1, hp.2]
  show AW V 0 0 h 8 [(0, .int n)] [.int (b2i (!oO n 0 999))]
  exact a_ireturn (ty := .boolean) hb hz dX12_isBound_8 hret (b2i_nb _) (by rw [hr]; exact Nat.le_of_ble_eq_true rfl) (by rw [hr]; exact Nat.le_of_ble_eq_true rfl) (⟨rfl, rfl⟩)
set_option maxRecDepth 100000 in
theorem w_isBreak (g : GG) (h : AH) (B : Nat) (hL : LY h B) (n : Int32) : AM g 2 0 0 mX12_isBreak [.ref (B + 51), .int n] h (fun v h' => v = some (.int (b2i (!oO n 0 (hI h (B + 52) 0 - 1)))) ∧ h' = h) := by
  refine AM.of [(0, .ref (B + 51)), (1, .int n)] (by decide) (Nat.le_of_ble_eq_true rfl) rfl ?_
  intro V hV
  have hb : V.2.1.2.1 = cX12_isBreak := by subst hV; rfl
  have ow : V.2.1.1.cls = RX12 := by subst hV; rfl
  have hr : V.2.2.1 = aw_rm 2 0 0 := by subst hV; rfl
  have hz : V.2.2.2 = aw_Z V.1 (fun v h' => v = some (.int (b2i (!oO n 0 (hI h (B + 52) 0 - 1)))) ∧ h' = h) V.2.2.1 := by subst hV; rfl
  have hg : V.1 = g := by subst hV; rfl
  have hret : V.2.1.2.2.2 = (some .boolean) := by subst hV; rfl
  have hml : V.2.1.2.2.1 = 2 := by subst hV; rfl
  clear hV
  refine a_iload_n hb dX12_isBreak_0 rfl 1 rfl ?_
  refine a_iconst (v := 0) hb dX12_isBreak_1 (by decide) ?_
  refine a_aload_n hb dX12_isBreak_2 rfl 0 rfl ?_
  refine a_getQ (q := (B + 52)) hb dX12_isBreak_3 (by rw [ow]; exact fl_RX12_9_12) (hL.1 51 (by decide)) (hL.2.1 (51, 1, 52) (by decide)) ?_
  refine a_iconst (v := 0) hb dX12_isBreak_6 (by decide) ?_
  refine b_iald (j := 0) hb dX12_isBreak_7 (hL.1 52 (by decide)) ⟨by decide, by decide⟩ (by decide) ?_
  refine a_iconst (v := 1) hb dX12_isBreak_8 (by decide) ?_
  refine a_isub hb dX12_isBreak_9 ?_
  refine a_callS hb dX12_isBreak_10 (by rw [hg]; exact w_in g h n 0 ((hI h (B + 52) 0) - 1)) (by rw [ow]; exact cls_RX12_48) rfl rfl (Nat.le_of_ble_eq_true rfl) (by rw [hr]; exact ⟨by decide, by decide⟩) (by rw [hr]; exact ⟨Nat.le_of_ble_eq_true rfl, Nat.le_of_ble_eq_true rfl⟩) ?_
  intro rv h' hp
  rw [hp.1, hp.2]
  show AW V 0 0 h 13 [(0, .ref (B + 51)), (1, .int n)] [.int (b2i (!oO n 0 ((hI h (B + 52) 0) - 1)))]
  exact a_ireturn (ty := .boolean) hb hz dX12_isBreak_13 hret (b2i_nb _) (by rw [hr]; exact Nat.le_of_ble_eq_true rfl) (by rw [hr]; exact Nat.le_of_ble_eq_true rfl) (⟨rfl, rfl⟩)
set_option maxRecDepth 100000 in
theorem w_isWork (g : GG) (h : AH) (B : Nat) (hL : LY h B) (n : Int32) : AM g 2 0 0 mX12_isWork [.ref (B + 51), .int n] h (fun v h' => v = some (.int (b2i (!oO n 0 (hI h (B + 52) 1 - 1)))) ∧ h' = h) := by
  refine AM.of [(0, .ref (B + 51)), (1, .int n)] (by decide) (Nat.le_of_ble_eq_true rfl) rfl ?_
  intro V hV
  have hb : V.2.1.2.1 = cX12_isWork := by subst hV; rfl
  have ow : V.2.1.1.cls = RX12 := by subst hV; rfl
  have hr : V.2.2.1 = aw_rm 2 0 0 := by subst hV; rfl
  have hz : V.2.2.2 = aw_Z V.1 (fun v h' => v = some (.int (b2i (!oO n 0 (hI h (B + 52) 1 - 1)))) ∧ h' = h) V.2.2.1 := by subst hV; rfl
  have hg : V.1 = g := by subst hV; rfl
  have hret : V.2.1.2.2.2 = (some .boolean) := by subst hV; rfl
  have hml : V.2.1.2.2.1 = 2 := by subst hV; rfl
  clear hV
  refine a_iload_n hb dX12_isWork_0 rfl 1 rfl ?_
  refine a_iconst (v := 0) hb dX12_isWork_1 (by decide) ?_
  refine a_aload_n hb dX12_isWork_2 rfl 0 rfl ?_
  refine a_getQ (q := (B + 52)) hb dX12_isWork_3 (by rw [ow]; exact fl_RX12_9_12) (hL.1 51 (by decide)) (hL.2.1 (51, 1, 52) (by decide)) ?_
  refine a_iconst (v := 1) hb dX12_isWork_6 (by decide) ?_
  refine b_iald (j := 1) hb dX12_isWork_7 (hL.1 52 (by decide)) ⟨by decide, by decide⟩ (by decide) ?_
  refine a_iconst (v := 1) hb dX12_isWork_8 (by decide) ?_
  refine a_isub hb dX12_isWork_9 ?_
  refine a_callS hb dX12_isWork_10 (by rw [hg]; exact w_in g h n 0 ((hI h (B + 52) 1) - 1)) (by rw [ow]; exact cls_RX12_48) rfl rfl (Nat.le_of_ble_eq_true rfl) (by rw [hr]; exact ⟨by decide, by decide⟩) (by rw [hr]; exact ⟨Nat.le_of_ble_eq_true rfl, Nat.le_of_ble_eq_true rfl⟩) ?_
  intro rv h' hp
  rw [hp.1, hp.2]
  show AW V 0 0 h 13 [(0, .ref (B + 51)), (1, .int n)] [.int (b2i (!oO n 0 ((hI h (B + 52) 1) - 1)))]
  exact a_ireturn (ty := .boolean) hb hz dX12_isWork_13 hret (b2i_nb _) (by rw [hr]; exact Nat.le_of_ble_eq_true rfl) (by rw [hr]; exact Nat.le_of_ble_eq_true rfl) (⟨rfl, rfl⟩)
set_option maxRecDepth 100000 in
theorem w_isLaw (g : GG) (h : AH) (B : Nat) (hL : LY h B) : AM g 2 0 0 mX12_isLaw [.ref (B + 51)] h (fun v h' => v = some (.int (b2i (!decide (hI h (B + 52) 8 = -1)))) ∧ h' = h) := by
  refine AM.of [(0, .ref (B + 51))] (by decide) (Nat.le_of_ble_eq_true rfl) rfl ?_
  intro V hV
  have hb : V.2.1.2.1 = cX12_isLaw := by subst hV; rfl
  have ow : V.2.1.1.cls = RX12 := by subst hV; rfl
  have hr : V.2.2.1 = aw_rm 2 0 0 := by subst hV; rfl
  have hz : V.2.2.2 = aw_Z V.1 (fun v h' => v = some (.int (b2i (!decide (hI h (B + 52) 8 = -1)))) ∧ h' = h) V.2.2.1 := by subst hV; rfl
  have hg : V.1 = g := by subst hV; rfl
  have hret : V.2.1.2.2.2 = (some .boolean) := by subst hV; rfl
  have hml : V.2.1.2.2.1 = 1 := by subst hV; rfl
  clear hV
  refine a_aload_n hb dX12_isLaw_0 rfl 0 rfl ?_
  refine a_getQ (q := (B + 52)) hb dX12_isLaw_1 (by rw [ow]; exact fl_RX12_9_12) (hL.1 51 (by decide)) (hL.2.1 (51, 1, 52) (by decide)) ?_
  refine a_bipush (v := 8) hb dX12_isLaw_4 (by decide) ?_
  refine b_iald (j := 8) hb dX12_isLaw_6 (hL.1 52 (by decide)) ⟨by decide, by decide⟩ (by decide) ?_
  refine a_iconst (v := (-1)) hb dX12_isLaw_7 (by decide) ?_
  refine a_icmp_eq hb 15 dX12_isLaw_8 (by decide) (fun c8 => ?_) (fun c8 => ?_)
  · refine a_iconst (v := 0) hb dX12_isLaw_15 (by decide) ?_
    exact a_ireturn (ty := .boolean) hb hz dX12_isLaw_16 hret (by first | rfl | (simp only [narrow]; done) | exact aw_nb _) (by rw [hr]; exact Nat.le_of_ble_eq_true rfl) (by rw [hr]; exact Nat.le_of_ble_eq_true rfl) (⟨by simp [b2i, *], rfl⟩)
  · refine a_iconst (v := 1) hb dX12_isLaw_11 (by decide) ?_
    refine a_goto hb 16 dX12_isLaw_12 (by decide) ?_
    exact a_ireturn (ty := .boolean) hb hz dX12_isLaw_16 hret (by first | rfl | (simp only [narrow]; done) | exact aw_nb _) (by rw [hr]; exact Nat.le_of_ble_eq_true rfl) (by rw [hr]; exact Nat.le_of_ble_eq_true rfl) (⟨by simp [b2i, *], rfl⟩)
