/-! ===== the class: what a break draws ===== -/
theorem in_sub1 {v : Int32} (h : oO v 0 9 = false) : (v - 1).toInt = v.toInt - 1 := by
  simp only [oO, Bool.or_eq_false_iff, decide_eq_false_iff_not, Int32.not_lt] at h
  have a1 := Int32.le_iff_toInt_le.mp h.1
  have a2 := Int32.le_iff_toInt_le.mp h.2
  rw [show (0 : Int32).toInt = 0 from by decide] at a1
  rw [show (9 : Int32).toInt = 9 from by decide] at a2
  rw [Int32.toInt_sub, show (1 : Int32).toInt = 1 from by decide]
  exact Int.bmod_eq_of_le (by omega) (by omega)
theorem in_v0 {a v : Int32} (h : a < 0) : oO a 0 (v - 1) = true := by simp [oO, h]
theorem in_v1 {a v : Int32} (h : oO v 0 9 = false) (h2 : v ≤ a) : oO a 0 (v - 1) = true := by
  have e : v - 1 < a := by
    rw [Int32.lt_iff_toInt_lt, in_sub1 h]
    have := Int32.le_iff_toInt_le.mp h2
    omega
  simp [oO, e]
theorem in_v2 {a v : Int32} (h : oO v 0 9 = false) (h1 : ¬ a < 0) (h2 : a < v) : oO a 0 (v - 1) = false := by
  have e : ¬ v - 1 < a := by
    rw [Int32.lt_iff_toInt_lt, in_sub1 h]
    have := Int32.lt_iff_toInt_lt.mp h2
    omega
  simp [oO, e, h1]
set_option maxRecDepth 100000 in
theorem x_ahead4 (g : GG) (h : AH) (B vq lq hl : Nat) (S : Nat → Int32) (N : NN) (P : PF) (hC : CX g h B vq lq hl S N P) (p q : Nat) (hp : p < N.1) (po : PO h B S p q) (hk : S (130 + p) = 4) : AM g 2 0 0 mX4_drawnAhead [.ref q, .ref (B + 1)] h (fun rv h' => rv = some (.int (-(S (146 + p) / S 6))) ∧ h' = h) := by
  refine AM.of [(0, .ref q), (1, .ref (B + 1))] (by decide) (Nat.le_of_ble_eq_true rfl) rfl ?_
  intro V hV
  have hb : V.2.1.2.1 = cX4_drawnAhead := by subst hV; rfl
  have ow : V.2.1.1.cls = RX4 := by subst hV; rfl
  have hr : V.2.2.1 = aw_rm 2 0 0 := by subst hV; rfl
  have hz : V.2.2.2 = aw_Z V.1 (fun rv h' => rv = some (.int (-(S (146 + p) / S 6))) ∧ h' = h) V.2.2.1 := by subst hV; rfl
  have hg : V.1 = g := by subst hV; rfl
  have hret : V.2.1.2.2.2 = (some .int) := by subst hV; rfl
  have hml : V.2.1.2.2.1 = 2 := by subst hV; rfl
  clear hV
  have hvq : B + 62 ≤ vq := hC.2.1.2.2.2.2.2.1
  have hnp := hC.1.np
  have hnw := hC.1.nw
  have htpo : hT h q = (4, 0) := by have z := po.2.1; rw [hk] at z; exact z
  refine a_aload_n hb dX4_drawnAhead_0 rfl 1 rfl ?_
  refine a_aload_n hb dX4_drawnAhead_1 rfl 0 rfl ?_
  refine a_getI hb dX4_drawnAhead_2 (by rw [ow]; exact fl_RX4_17_4) htpo ?_
  rw [po.2.2.2.2.2.1]
  show AW V 0 0 h 5 [(0, .ref q), (1, .ref (B + 1))] [.int (S (146 + p)), .ref (B + 1)]
  refine a_callV hb dX4_drawnAhead_5 (by rw [hg]; exact x_heads g h B vq lq hl S N P hC (S (146 + p))) (by rw [ow]; exact clv_RX4_29) (hC.1.1.1 1 (by decide)) (by decide) rfl rfl rfl (Nat.le_of_ble_eq_true rfl) (by rw [hr]; exact ⟨by decide, by decide⟩) (by rw [hr]; exact ⟨Nat.le_of_ble_eq_true rfl, Nat.le_of_ble_eq_true rfl⟩) ?_
  intro rv h' hq_
  rw [hq_.1, hq_.2]
  show AW V 0 0 h 8 [(0, .ref q), (1, .ref (B + 1))] [.int ((S (146 + p)) / S 6)]
  refine a_ineg hb dX4_drawnAhead_8 ?_
  exact a_ireturn (ty := .int) hb hz dX4_drawnAhead_9 hret rfl (by rw [hr]; exact Nat.le_of_ble_eq_true rfl) (by rw [hr]; exact Nat.le_of_ble_eq_true rfl) (⟨rfl, rfl⟩)
set_option maxRecDepth 100000 in
theorem x_ahead5 (g : GG) (h : AH) (B vq lq hl : Nat) (S : Nat → Int32) (N : NN) (P : PF) (hC : CX g h B vq lq hl S N P) (p q : Nat) (hp : p < N.1) (po : PO h B S p q) (hk : S (130 + p) = 5) : AM g 2 0 0 mX5_drawnAhead [.ref q, .ref (B + 1)] h (fun rv h' => rv = some (.int (S (146 + p) / S 6)) ∧ h' = h) := by
  refine AM.of [(0, .ref q), (1, .ref (B + 1))] (by decide) (Nat.le_of_ble_eq_true rfl) rfl ?_
  intro V hV
  have hb : V.2.1.2.1 = cX5_drawnAhead := by subst hV; rfl
  have ow : V.2.1.1.cls = RX5 := by subst hV; rfl
  have hr : V.2.2.1 = aw_rm 2 0 0 := by subst hV; rfl
  have hz : V.2.2.2 = aw_Z V.1 (fun rv h' => rv = some (.int (S (146 + p) / S 6)) ∧ h' = h) V.2.2.1 := by subst hV; rfl
  have hg : V.1 = g := by subst hV; rfl
  have hret : V.2.1.2.2.2 = (some .int) := by subst hV; rfl
  have hml : V.2.1.2.2.1 = 2 := by subst hV; rfl
  clear hV
  have hvq : B + 62 ≤ vq := hC.2.1.2.2.2.2.2.1
  have hnp := hC.1.np
  have hnw := hC.1.nw
  have htpo : hT h q = (5, 0) := by have z := po.2.1; rw [hk] at z; exact z
  refine a_aload_n hb dX5_drawnAhead_0 rfl 1 rfl ?_
  refine a_aload_n hb dX5_drawnAhead_1 rfl 0 rfl ?_
  refine a_getI hb dX5_drawnAhead_2 (by rw [ow]; exact fl_RX5_7_5) htpo ?_
  rw [po.2.2.2.2.2.1]
  show AW V 0 0 h 5 [(0, .ref q), (1, .ref (B + 1))] [.int (S (146 + p)), .ref (B + 1)]
  refine a_callV hb dX5_drawnAhead_5 (by rw [hg]; exact x_heads g h B vq lq hl S N P hC (S (146 + p))) (by rw [ow]; exact clv_RX5_13) (hC.1.1.1 1 (by decide)) (by decide) rfl rfl rfl (Nat.le_of_ble_eq_true rfl) (by rw [hr]; exact ⟨by decide, by decide⟩) (by rw [hr]; exact ⟨Nat.le_of_ble_eq_true rfl, Nat.le_of_ble_eq_true rfl⟩) ?_
  intro rv h' hq_
  rw [hq_.1, hq_.2]
  show AW V 0 0 h 8 [(0, .ref q), (1, .ref (B + 1))] [.int ((S (146 + p)) / S 6)]
  exact a_ireturn (ty := .int) hb hz dX5_drawnAhead_8 hret rfl (by rw [hr]; exact Nat.le_of_ble_eq_true rfl) (by rw [hr]; exact Nat.le_of_ble_eq_true rfl) (⟨rfl, rfl⟩)
set_option maxRecDepth 100000 in
theorem x_dr0 (g : GG) (h : AH) (B vq lq hl : Nat) (S : Nat → Int32) (N : NN) (P : PF) (hC : CX g h B vq lq hl S N P) (p q : Nat) (hp : p < N.1) (po : PO h B S p q) (hk : S (130 + p) = 0) (a t : Int32) : AM g 5 0 0 mX2_drawnAt [.ref q, .ref (B + 1), .int a, .int t] h (fun rv h' => rv = some (.int (drS P S hl (S (130 + p)) (S (146 + p)) (S (154 + p)) a t)) ∧ FR (Xv B vq) h h') := by
  refine AM.of [(0, .ref q), (1, .ref (B + 1)), (2, .int a), (3, .int t)] (by decide) (Nat.le_of_ble_eq_true rfl) rfl ?_
  intro V hV
  have hb : V.2.1.2.1 = cX2_drawnAt := by subst hV; rfl
  have ow : V.2.1.1.cls = RX2 := by subst hV; rfl
  have hr : V.2.2.1 = aw_rm 5 0 0 := by subst hV; rfl
  have hz : V.2.2.2 = aw_Z V.1 (fun rv h' => rv = some (.int (drS P S hl (S (130 + p)) (S (146 + p)) (S (154 + p)) a t)) ∧ FR (Xv B vq) h h') V.2.2.1 := by subst hV; rfl
  have hg : V.1 = g := by subst hV; rfl
  have hret : V.2.1.2.2.2 = (some .int) := by subst hV; rfl
  have hml : V.2.1.2.2.1 = 4 := by subst hV; rfl
  clear hV
  have hvq : B + 62 ≤ vq := hC.2.1.2.2.2.2.2.1
  have hnp := hC.1.np
  have hnw := hC.1.nw
  have htpo : hT h q = (2, 0) := by have z := po.2.1; rw [hk] at z; exact z
  refine a_aload_n hb dX2_drawnAt_0 rfl 1 rfl ?_
  refine a_aload_n hb dX2_drawnAt_1 rfl 0 rfl ?_
  refine a_getI hb dX2_drawnAt_2 (by rw [ow]; exact fl_RX2_19_2) htpo ?_
  rw [po.2.2.2.2.2.1]
  show AW V 0 0 h 5 [(0, .ref q), (1, .ref (B + 1)), (2, .int a), (3, .int t)] [.int (S (146 + p)), .ref (B + 1)]
  refine a_aload_n hb dX2_drawnAt_5 rfl 0 rfl ?_
  refine a_getI hb dX2_drawnAt_6 (by rw [ow]; exact fl_RX2_13_2) htpo ?_
  rw [po.2.2.2.1]
  show AW V 0 0 h 9 [(0, .ref q), (1, .ref (B + 1)), (2, .int a), (3, .int t)] [.int (S (130 + p)), .int (S (146 + p)), .ref (B + 1)]
  refine a_iload_n hb dX2_drawnAt_9 rfl 2 rfl ?_
  refine a_iload_n hb dX2_drawnAt_10 rfl 3 rfl ?_
  refine a_callV hb dX2_drawnAt_11 (by rw [hg]; exact x_plain g h B vq lq hl S N P hC (S (146 + p)) (S (130 + p)) a t) (by rw [ow]; exact clv_RX2_25) (hC.1.1.1 1 (by decide)) (by decide) rfl rfl rfl (Nat.le_of_ble_eq_true rfl) (by rw [hr]; exact ⟨by decide, by decide⟩) (by rw [hr]; exact ⟨Nat.le_of_ble_eq_true rfl, Nat.le_of_ble_eq_true rfl⟩) ?_
  intro rv h1_ hp
  obtain ⟨hv, hf1⟩ := hp
  rw [hv]
  have hF1 := FR.tr FR.rf hf1
  have hC1 := hC.fr (FR.mo (A := Xv B vq) (A' := Ay B vq) hF1 (by intro a; unfold Xv Ay; omega))
  clear hv
  have po1_0 : PO h1_ B S p q := po.fr (FR.mo (A := Xv B vq) (A' := Ay B vq) hF1 (by intro a; unfold Xv Ay; omega)) hC.2.1.2.2.2.2.2.2
  have htpo1_0 : hT h1_ q = (2, 0) := by have z := po1_0.2.1; rw [hk] at z; exact z
  show AW V 0 0 h1_ 14 [(0, .ref q), (1, .ref (B + 1)), (2, .int a), (3, .int t)] [.int (plS P S hl (S (130 + p)) (S (146 + p)) a t)]
  exact a_ireturn (ty := .int) hb hz dX2_drawnAt_14 hret rfl (by rw [hr]; exact Nat.le_of_ble_eq_true rfl) (by rw [hr]; exact Nat.le_of_ble_eq_true rfl) (⟨by rw [hk]; simp [drS], hF1⟩)
set_option maxRecDepth 100000 in
theorem x_dr1 (g : GG) (h : AH) (B vq lq hl : Nat) (S : Nat → Int32) (N : NN) (P : PF) (hC : CX g h B vq lq hl S N P) (p q : Nat) (hp : p < N.1) (po : PO h B S p q) (hk : S (130 + p) = 1) (a t : Int32) : AM g 5 0 0 mX2_drawnAt [.ref q, .ref (B + 1), .int a, .int t] h (fun rv h' => rv = some (.int (drS P S hl (S (130 + p)) (S (146 + p)) (S (154 + p)) a t)) ∧ FR (Xv B vq) h h') := by
  refine AM.of [(0, .ref q), (1, .ref (B + 1)), (2, .int a), (3, .int t)] (by decide) (Nat.le_of_ble_eq_true rfl) rfl ?_
  intro V hV
  have hb : V.2.1.2.1 = cX2_drawnAt := by subst hV; rfl
  have ow : V.2.1.1.cls = RX2 := by subst hV; rfl
  have hr : V.2.2.1 = aw_rm 5 0 0 := by subst hV; rfl
  have hz : V.2.2.2 = aw_Z V.1 (fun rv h' => rv = some (.int (drS P S hl (S (130 + p)) (S (146 + p)) (S (154 + p)) a t)) ∧ FR (Xv B vq) h h') V.2.2.1 := by subst hV; rfl
  have hg : V.1 = g := by subst hV; rfl
  have hret : V.2.1.2.2.2 = (some .int) := by subst hV; rfl
  have hml : V.2.1.2.2.1 = 4 := by subst hV; rfl
  clear hV
  have hvq : B + 62 ≤ vq := hC.2.1.2.2.2.2.2.1
  have hnp := hC.1.np
  have hnw := hC.1.nw
  have htpo : hT h q = (9, 0) := by have z := po.2.1; rw [hk] at z; exact z
  refine a_aload_n hb dX2_drawnAt_0 rfl 1 rfl ?_
  refine a_aload_n hb dX2_drawnAt_1 rfl 0 rfl ?_
  refine a_getI hb dX2_drawnAt_2 (by rw [ow]; exact fl_RX2_19_9) htpo ?_
  rw [po.2.2.2.2.2.1]
  show AW V 0 0 h 5 [(0, .ref q), (1, .ref (B + 1)), (2, .int a), (3, .int t)] [.int (S (146 + p)), .ref (B + 1)]
  refine a_aload_n hb dX2_drawnAt_5 rfl 0 rfl ?_
  refine a_getI hb dX2_drawnAt_6 (by rw [ow]; exact fl_RX2_13_9) htpo ?_
  rw [po.2.2.2.1]
  show AW V 0 0 h 9 [(0, .ref q), (1, .ref (B + 1)), (2, .int a), (3, .int t)] [.int (S (130 + p)), .int (S (146 + p)), .ref (B + 1)]
  refine a_iload_n hb dX2_drawnAt_9 rfl 2 rfl ?_
  refine a_iload_n hb dX2_drawnAt_10 rfl 3 rfl ?_
  refine a_callV hb dX2_drawnAt_11 (by rw [hg]; exact x_plain g h B vq lq hl S N P hC (S (146 + p)) (S (130 + p)) a t) (by rw [ow]; exact clv_RX2_25) (hC.1.1.1 1 (by decide)) (by decide) rfl rfl rfl (Nat.le_of_ble_eq_true rfl) (by rw [hr]; exact ⟨by decide, by decide⟩) (by rw [hr]; exact ⟨Nat.le_of_ble_eq_true rfl, Nat.le_of_ble_eq_true rfl⟩) ?_
  intro rv h1_ hp
  obtain ⟨hv, hf1⟩ := hp
  rw [hv]
  have hF1 := FR.tr FR.rf hf1
  have hC1 := hC.fr (FR.mo (A := Xv B vq) (A' := Ay B vq) hF1 (by intro a; unfold Xv Ay; omega))
  clear hv
  have po1_0 : PO h1_ B S p q := po.fr (FR.mo (A := Xv B vq) (A' := Ay B vq) hF1 (by intro a; unfold Xv Ay; omega)) hC.2.1.2.2.2.2.2.2
  have htpo1_0 : hT h1_ q = (9, 0) := by have z := po1_0.2.1; rw [hk] at z; exact z
  show AW V 0 0 h1_ 14 [(0, .ref q), (1, .ref (B + 1)), (2, .int a), (3, .int t)] [.int (plS P S hl (S (130 + p)) (S (146 + p)) a t)]
  exact a_ireturn (ty := .int) hb hz dX2_drawnAt_14 hret rfl (by rw [hr]; exact Nat.le_of_ble_eq_true rfl) (by rw [hr]; exact Nat.le_of_ble_eq_true rfl) (⟨by rw [hk]; simp [drS], hF1⟩)
set_option maxRecDepth 100000 in
theorem x_dr2 (g : GG) (h : AH) (B vq lq hl : Nat) (S : Nat → Int32) (N : NN) (P : PF) (hC : CX g h B vq lq hl S N P) (p q : Nat) (hp : p < N.1) (po : PO h B S p q) (hk : S (130 + p) = 2) (a t : Int32) : AM g 5 0 0 mX0_drawnAt [.ref q, .ref (B + 1), .int a, .int t] h (fun rv h' => rv = some (.int (drS P S hl (S (130 + p)) (S (146 + p)) (S (154 + p)) a t)) ∧ FR (Xv B vq) h h') := by
  refine AM.of [(0, .ref q), (1, .ref (B + 1)), (2, .int a), (3, .int t)] (by decide) (Nat.le_of_ble_eq_true rfl) rfl ?_
  intro V hV
  have hb : V.2.1.2.1 = cX0_drawnAt := by subst hV; rfl
  have ow : V.2.1.1.cls = RX0 := by subst hV; rfl
  have hr : V.2.2.1 = aw_rm 5 0 0 := by subst hV; rfl
  have hz : V.2.2.2 = aw_Z V.1 (fun rv h' => rv = some (.int (drS P S hl (S (130 + p)) (S (146 + p)) (S (154 + p)) a t)) ∧ FR (Xv B vq) h h') V.2.2.1 := by subst hV; rfl
  have hg : V.1 = g := by subst hV; rfl
  have hret : V.2.1.2.2.2 = (some .int) := by subst hV; rfl
  have hml : V.2.1.2.2.1 = 4 := by subst hV; rfl
  clear hV
  have hvq : B + 62 ≤ vq := hC.2.1.2.2.2.2.2.1
  have hnp := hC.1.np
  have hnw := hC.1.nw
  have htpo : hT h q = (0, 0) := by have z := po.2.1; rw [hk] at z; exact z
  refine a_aload_n hb dX0_drawnAt_0 rfl 1 rfl ?_
  refine a_aload_n hb dX0_drawnAt_1 rfl 0 rfl ?_
  refine a_getI hb dX0_drawnAt_2 (by rw [ow]; exact fl_RX0_7_0) htpo ?_
  rw [po.2.2.2.2.2.1]
  show AW V 0 0 h 5 [(0, .ref q), (1, .ref (B + 1)), (2, .int a), (3, .int t)] [.int (S (146 + p)), .ref (B + 1)]
  refine a_aload_n hb dX0_drawnAt_5 rfl 0 rfl ?_
  refine a_getI hb dX0_drawnAt_6 (by rw [ow]; exact fl_RX0_13_0) htpo ?_
  rw [po.2.2.2.1]
  show AW V 0 0 h 9 [(0, .ref q), (1, .ref (B + 1)), (2, .int a), (3, .int t)] [.int (S (130 + p)), .int (S (146 + p)), .ref (B + 1)]
  refine a_iload_n hb dX0_drawnAt_9 rfl 2 rfl ?_
  refine a_aload_n hb dX0_drawnAt_10 rfl 0 rfl ?_
  refine a_getI hb dX0_drawnAt_11 (by rw [ow]; exact fl_RX0_16_0) htpo ?_
  rw [po.2.2.2.2.2.2]
  show AW V 0 0 h 14 [(0, .ref q), (1, .ref (B + 1)), (2, .int a), (3, .int t)] [.int (S (154 + p)), .int a, .int (S (130 + p)), .int (S (146 + p)), .ref (B + 1)]
  refine a_isub hb dX0_drawnAt_14 ?_
  refine a_iload_n hb dX0_drawnAt_15 rfl 3 rfl ?_
  refine a_callV hb dX0_drawnAt_16 (by rw [hg]; exact x_plain g h B vq lq hl S N P hC (S (146 + p)) (S (130 + p)) (a - (S (154 + p))) t) (by rw [ow]; exact clv_RX0_19) (hC.1.1.1 1 (by decide)) (by decide) rfl rfl rfl (Nat.le_of_ble_eq_true rfl) (by rw [hr]; exact ⟨by decide, by decide⟩) (by rw [hr]; exact ⟨Nat.le_of_ble_eq_true rfl, Nat.le_of_ble_eq_true rfl⟩) ?_
  intro rv h1_ hp
  obtain ⟨hv, hf1⟩ := hp
  rw [hv]
  have hF1 := FR.tr FR.rf hf1
  have hC1 := hC.fr (FR.mo (A := Xv B vq) (A' := Ay B vq) hF1 (by intro a; unfold Xv Ay; omega))
  clear hv
  have po1_0 : PO h1_ B S p q := po.fr (FR.mo (A := Xv B vq) (A' := Ay B vq) hF1 (by intro a; unfold Xv Ay; omega)) hC.2.1.2.2.2.2.2.2
  have htpo1_0 : hT h1_ q = (0, 0) := by have z := po1_0.2.1; rw [hk] at z; exact z
  show AW V 0 0 h1_ 19 [(0, .ref q), (1, .ref (B + 1)), (2, .int a), (3, .int t)] [.int (plS P S hl (S (130 + p)) (S (146 + p)) (a - (S (154 + p))) t)]
  exact a_ireturn (ty := .int) hb hz dX0_drawnAt_19 hret rfl (by rw [hr]; exact Nat.le_of_ble_eq_true rfl) (by rw [hr]; exact Nat.le_of_ble_eq_true rfl) (⟨by rw [hk]; simp [drS], hF1⟩)
set_option maxRecDepth 100000 in
theorem x_dr3 (g : GG) (h : AH) (B vq lq hl : Nat) (S : Nat → Int32) (N : NN) (P : PF) (hC : CX g h B vq lq hl S N P) (p q : Nat) (hp : p < N.1) (po : PO h B S p q) (hk : S (130 + p) = 3) (a t : Int32) : AM g 5 0 0 mX3_drawnAt [.ref q, .ref (B + 1), .int a, .int t] h (fun rv h' => rv = some (.int (drS P S hl (S (130 + p)) (S (146 + p)) (S (154 + p)) a t)) ∧ FR (Xv B vq) h h') := by
  refine AM.of [(0, .ref q), (1, .ref (B + 1)), (2, .int a), (3, .int t)] (by decide) (Nat.le_of_ble_eq_true rfl) rfl ?_
  intro V hV
  have hb : V.2.1.2.1 = cX3_drawnAt := by subst hV; rfl
  have ow : V.2.1.1.cls = RX3 := by subst hV; rfl
  have hr : V.2.2.1 = aw_rm 5 0 0 := by subst hV; rfl
  have hz : V.2.2.2 = aw_Z V.1 (fun rv h' => rv = some (.int (drS P S hl (S (130 + p)) (S (146 + p)) (S (154 + p)) a t)) ∧ FR (Xv B vq) h h') V.2.2.1 := by subst hV; rfl
  have hg : V.1 = g := by subst hV; rfl
  have hret : V.2.1.2.2.2 = (some .int) := by subst hV; rfl
  have hml : V.2.1.2.2.1 = 5 := by subst hV; rfl
  clear hV
  have hvq : B + 62 ≤ vq := hC.2.1.2.2.2.2.2.1
  have hnp := hC.1.np
  have hnw := hC.1.nw
  have htpo : hT h q = (3, 0) := by have z := po.2.1; rw [hk] at z; exact z
  refine a_iload_n hb dX3_drawnAt_0 rfl 2 rfl ?_
  refine a_if_lt hb 25 dX3_drawnAt_1 (by decide) (fun c1_0 => ?_) (fun c1_0 => ?_)
  · refine a_iconst (v := 0) hb dX3_drawnAt_25 (by decide) ?_
    refine a_istore (L' := [(4, .int 0), (0, .ref q), (1, .ref (B + 1)), (2, .int a), (3, .int t)]) hb dX3_drawnAt_26 (by rw [hml]; decide) rfl ?_
    refine a_aload_n hb dX3_drawnAt_28 rfl 2 rfl ?_
    refine a_aload_n hb dX3_drawnAt_29 rfl 1 rfl ?_
    refine a_getI hb dX3_drawnAt_30 (by rw [ow]; exact fl_RX3_7_3) htpo ?_
    rw [po.2.2.2.2.2.1]
    show AW V 0 0 h 33 [(4, .int 0), (0, .ref q), (1, .ref (B + 1)), (2, .int a), (3, .int t)] [.int (S (146 + p)), .ref (B + 1)]
    refine a_aload_n hb dX3_drawnAt_33 rfl 1 rfl ?_
    refine a_getI hb dX3_drawnAt_34 (by rw [ow]; exact fl_RX3_13_3) htpo ?_
    rw [po.2.2.2.1]
    show AW V 0 0 h 37 [(4, .int 0), (0, .ref q), (1, .ref (B + 1)), (2, .int a), (3, .int t)] [.int (S (130 + p)), .int (S (146 + p)), .ref (B + 1)]
    refine a_iload_n hb dX3_drawnAt_37 rfl 3 rfl ?_
    refine a_iload_n hb dX3_drawnAt_38 rfl 4 rfl ?_
    refine a_callV hb dX3_drawnAt_39 (by rw [hg]; exact x_plain g h B vq lq hl S N P hC (S (146 + p)) (S (130 + p)) a t) (by rw [ow]; exact clv_RX3_22) (hC.1.1.1 1 (by decide)) (by decide) rfl rfl rfl (Nat.le_of_ble_eq_true rfl) (by rw [hr]; exact ⟨by decide, by decide⟩) (by rw [hr]; exact ⟨Nat.le_of_ble_eq_true rfl, Nat.le_of_ble_eq_true rfl⟩) ?_
    intro rv h1_ hp
    obtain ⟨hv, hf1⟩ := hp
    rw [hv]
    have hF1 := FR.tr FR.rf hf1
    have hC1 := hC.fr (FR.mo (A := Xv B vq) (A' := Ay B vq) hF1 (by intro a; unfold Xv Ay; omega))
    clear hv
    have po1_0 : PO h1_ B S p q := po.fr (FR.mo (A := Xv B vq) (A' := Ay B vq) hF1 (by intro a; unfold Xv Ay; omega)) hC.2.1.2.2.2.2.2.2
    have htpo1_0 : hT h1_ q = (3, 0) := by have z := po1_0.2.1; rw [hk] at z; exact z
    show AW V 0 0 h1_ 42 [(4, .int 0), (0, .ref q), (1, .ref (B + 1)), (2, .int a), (3, .int t)] [.int (plS P S hl (S (130 + p)) (S (146 + p)) a t)]
    refine a_iload hb dX3_drawnAt_42 0 rfl ?_
    refine a_if_eq hb 54 dX3_drawnAt_44 (by decide) (fun c44_1 => ?_) (fun c44_1 => absurd (by decide) c44_1)
    refine a_iconst (v := 0) hb dX3_drawnAt_54 (by decide) ?_
    refine a_iadd hb dX3_drawnAt_55 ?_
    exact a_ireturn (ty := .int) hb hz dX3_drawnAt_56 hret rfl (by rw [hr]; exact Nat.le_of_ble_eq_true rfl) (by rw [hr]; exact Nat.le_of_ble_eq_true rfl) (⟨by rw [hk]; simp [drS, Int32.not_le.mpr c1_0], hF1⟩)
  · refine a_aload_n hb dX3_drawnAt_4 rfl 1 rfl ?_
    refine a_aload_n hb dX3_drawnAt_5 rfl 0 rfl ?_
    refine a_getI hb dX3_drawnAt_6 (by rw [ow]; exact fl_RX3_7_3) htpo ?_
    rw [po.2.2.2.2.2.1]
    show AW V 0 0 h 9 [(0, .ref q), (1, .ref (B + 1)), (2, .int a), (3, .int t)] [.int (S (146 + p)), .ref (B + 1)]
    refine a_aload_n hb dX3_drawnAt_9 rfl 0 rfl ?_
    refine a_getI hb dX3_drawnAt_10 (by rw [ow]; exact fl_RX3_13_3) htpo ?_
    rw [po.2.2.2.1]
    show AW V 0 0 h 13 [(0, .ref q), (1, .ref (B + 1)), (2, .int a), (3, .int t)] [.int (S (130 + p)), .int (S (146 + p)), .ref (B + 1)]
    refine a_iload_n hb dX3_drawnAt_13 rfl 2 rfl ?_
    refine a_iload_n hb dX3_drawnAt_14 rfl 3 rfl ?_
    refine a_callV hb dX3_drawnAt_15 (by rw [hg]; exact x_percent g h B vq lq hl S N P hC (S (146 + p)) (S (130 + p)) a t) (by rw [ow]; exact clv_RX3_16) (hC.1.1.1 1 (by decide)) (by decide) rfl rfl rfl (Nat.le_of_ble_eq_true rfl) (by rw [hr]; exact ⟨by decide, by decide⟩) (by rw [hr]; exact ⟨Nat.le_of_ble_eq_true rfl, Nat.le_of_ble_eq_true rfl⟩) ?_
    intro rv h2_ hp
    obtain ⟨hv, hf2⟩ := hp
    rw [hv]
    have hF2 := FR.tr FR.rf hf2
    have hC2 := hC.fr (FR.mo (A := Xv B vq) (A' := Ay B vq) hF2 (by intro a; unfold Xv Ay; omega))
    clear hv
    have po2_0 : PO h2_ B S p q := po.fr (FR.mo (A := Xv B vq) (A' := Ay B vq) hF2 (by intro a; unfold Xv Ay; omega)) hC.2.1.2.2.2.2.2.2
    have htpo2_0 : hT h2_ q = (3, 0) := by have z := po2_0.2.1; rw [hk] at z; exact z
    show AW V 0 0 h2_ 18 [(0, .ref q), (1, .ref (B + 1)), (2, .int a), (3, .int t)] [.int (P a (S 5) (S (146 + p)) (S (130 + p)) t)]
    refine a_if_le hb 25 dX3_drawnAt_18 (by decide) (fun c18_1 => ?_) (fun c18_1 => ?_)
    · refine a_iconst (v := 0) hb dX3_drawnAt_25 (by decide) ?_
      refine a_istore (L' := [(4, .int 0), (0, .ref q), (1, .ref (B + 1)), (2, .int a), (3, .int t)]) hb dX3_drawnAt_26 (by rw [hml]; decide) rfl ?_
      refine a_aload_n hb dX3_drawnAt_28 rfl 2 rfl ?_
      refine a_aload_n hb dX3_drawnAt_29 rfl 1 rfl ?_
      refine a_getI hb dX3_drawnAt_30 (by rw [ow]; exact fl_RX3_7_3) htpo2_0 ?_
      rw [po2_0.2.2.2.2.2.1]
      show AW V 0 0 h2_ 33 [(4, .int 0), (0, .ref q), (1, .ref (B + 1)), (2, .int a), (3, .int t)] [.int (S (146 + p)), .ref (B + 1)]
      refine a_aload_n hb dX3_drawnAt_33 rfl 1 rfl ?_
      refine a_getI hb dX3_drawnAt_34 (by rw [ow]; exact fl_RX3_13_3) htpo2_0 ?_
      rw [po2_0.2.2.2.1]
      show AW V 0 0 h2_ 37 [(4, .int 0), (0, .ref q), (1, .ref (B + 1)), (2, .int a), (3, .int t)] [.int (S (130 + p)), .int (S (146 + p)), .ref (B + 1)]
      refine a_iload_n hb dX3_drawnAt_37 rfl 3 rfl ?_
      refine a_iload_n hb dX3_drawnAt_38 rfl 4 rfl ?_
      refine a_callV hb dX3_drawnAt_39 (by rw [hg]; exact x_plain g h2_ B vq lq hl S N P hC2 (S (146 + p)) (S (130 + p)) a t) (by rw [ow]; exact clv_RX3_22) (hC2.1.1.1 1 (by decide)) (by decide) rfl rfl rfl (Nat.le_of_ble_eq_true rfl) (by rw [hr]; exact ⟨by decide, by decide⟩) (by rw [hr]; exact ⟨Nat.le_of_ble_eq_true rfl, Nat.le_of_ble_eq_true rfl⟩) ?_
      intro rv h3_ hp
      obtain ⟨hv, hf3⟩ := hp
      rw [hv]
      have hF3 := FR.tr hF2 hf3
      have hC3 := hC.fr (FR.mo (A := Xv B vq) (A' := Ay B vq) hF3 (by intro a; unfold Xv Ay; omega))
      clear hv
      have po3_0 : PO h3_ B S p q := po.fr (FR.mo (A := Xv B vq) (A' := Ay B vq) hF3 (by intro a; unfold Xv Ay; omega)) hC.2.1.2.2.2.2.2.2
      have htpo3_0 : hT h3_ q = (3, 0) := by have z := po3_0.2.1; rw [hk] at z; exact z
      show AW V 0 0 h3_ 42 [(4, .int 0), (0, .ref q), (1, .ref (B + 1)), (2, .int a), (3, .int t)] [.int (plS P S hl (S (130 + p)) (S (146 + p)) a t)]
      refine a_iload hb dX3_drawnAt_42 0 rfl ?_
      refine a_if_eq hb 54 dX3_drawnAt_44 (by decide) (fun c44_2 => ?_) (fun c44_2 => absurd (by decide) c44_2)
      refine a_iconst (v := 0) hb dX3_drawnAt_54 (by decide) ?_
      refine a_iadd hb dX3_drawnAt_55 ?_
      exact a_ireturn (ty := .int) hb hz dX3_drawnAt_56 hret rfl (by rw [hr]; exact Nat.le_of_ble_eq_true rfl) (by rw [hr]; exact Nat.le_of_ble_eq_true rfl) (⟨by rw [hk] at c18_1 ⊢; simp [drS, Int32.not_lt.mp c1_0, Int32.not_lt.mpr c18_1], hF3⟩)
    · refine a_iconst (v := 1) hb dX3_drawnAt_21 (by decide) ?_
      refine a_goto hb 26 dX3_drawnAt_22 (by decide) ?_
      refine a_istore (L' := [(4, .int 1), (0, .ref q), (1, .ref (B + 1)), (2, .int a), (3, .int t)]) hb dX3_drawnAt_26 (by rw [hml]; decide) rfl ?_
      refine a_aload_n hb dX3_drawnAt_28 rfl 2 rfl ?_
      refine a_aload_n hb dX3_drawnAt_29 rfl 1 rfl ?_
      refine a_getI hb dX3_drawnAt_30 (by rw [ow]; exact fl_RX3_7_3) htpo2_0 ?_
      rw [po2_0.2.2.2.2.2.1]
      show AW V 0 0 h2_ 33 [(4, .int 1), (0, .ref q), (1, .ref (B + 1)), (2, .int a), (3, .int t)] [.int (S (146 + p)), .ref (B + 1)]
      refine a_aload_n hb dX3_drawnAt_33 rfl 1 rfl ?_
      refine a_getI hb dX3_drawnAt_34 (by rw [ow]; exact fl_RX3_13_3) htpo2_0 ?_
      rw [po2_0.2.2.2.1]
      show AW V 0 0 h2_ 37 [(4, .int 1), (0, .ref q), (1, .ref (B + 1)), (2, .int a), (3, .int t)] [.int (S (130 + p)), .int (S (146 + p)), .ref (B + 1)]
      refine a_iload_n hb dX3_drawnAt_37 rfl 3 rfl ?_
      refine a_iload_n hb dX3_drawnAt_38 rfl 4 rfl ?_
      refine a_callV hb dX3_drawnAt_39 (by rw [hg]; exact x_plain g h2_ B vq lq hl S N P hC2 (S (146 + p)) (S (130 + p)) a t) (by rw [ow]; exact clv_RX3_22) (hC2.1.1.1 1 (by decide)) (by decide) rfl rfl rfl (Nat.le_of_ble_eq_true rfl) (by rw [hr]; exact ⟨by decide, by decide⟩) (by rw [hr]; exact ⟨Nat.le_of_ble_eq_true rfl, Nat.le_of_ble_eq_true rfl⟩) ?_
      intro rv h4_ hp
      obtain ⟨hv, hf4⟩ := hp
      rw [hv]
      have hF4 := FR.tr hF2 hf4
      have hC4 := hC.fr (FR.mo (A := Xv B vq) (A' := Ay B vq) hF4 (by intro a; unfold Xv Ay; omega))
      clear hv
      have po4_0 : PO h4_ B S p q := po.fr (FR.mo (A := Xv B vq) (A' := Ay B vq) hF4 (by intro a; unfold Xv Ay; omega)) hC.2.1.2.2.2.2.2.2
      have htpo4_0 : hT h4_ q = (3, 0) := by have z := po4_0.2.1; rw [hk] at z; exact z
      show AW V 0 0 h4_ 42 [(4, .int 1), (0, .ref q), (1, .ref (B + 1)), (2, .int a), (3, .int t)] [.int (plS P S hl (S (130 + p)) (S (146 + p)) a t)]
      refine a_iload hb dX3_drawnAt_42 0 rfl ?_
      refine a_if_eq hb 54 dX3_drawnAt_44 (by decide) (fun c44_2 => absurd c44_2 (by decide)) (fun c44_2 => ?_)
      refine a_aload_n hb dX3_drawnAt_47 rfl 1 rfl ?_
      refine a_getI hb dX3_drawnAt_48 (by rw [ow]; exact fl_RX3_25_3) htpo4_0 ?_
      rw [po4_0.2.2.2.2.2.2]
      show AW V 0 0 h4_ 51 [(4, .int 1), (0, .ref q), (1, .ref (B + 1)), (2, .int a), (3, .int t)] [.int (S (154 + p)), .int (plS P S hl (S (130 + p)) (S (146 + p)) a t)]
      refine a_goto hb 55 dX3_drawnAt_51 (by decide) ?_
      refine a_iadd hb dX3_drawnAt_55 ?_
      exact a_ireturn (ty := .int) hb hz dX3_drawnAt_56 hret rfl (by rw [hr]; exact Nat.le_of_ble_eq_true rfl) (by rw [hr]; exact Nat.le_of_ble_eq_true rfl) (⟨by rw [hk] at c18_1 ⊢; simp [drS, Int32.not_lt.mp c1_0, Int32.not_le.mp c18_1], hF4⟩)
set_option maxRecDepth 100000 in
theorem x_dr4 (g : GG) (h : AH) (B vq lq hl : Nat) (S : Nat → Int32) (N : NN) (P : PF) (hC : CX g h B vq lq hl S N P) (p q : Nat) (hp : p < N.1) (po : PO h B S p q) (hk : S (130 + p) = 4) (a t : Int32) : AM g 5 0 0 mX4_drawnAt [.ref q, .ref (B + 1), .int a, .int t] h (fun rv h' => rv = some (.int (drS P S hl (S (130 + p)) (S (146 + p)) (S (154 + p)) a t)) ∧ FR (Xv B vq) h h') := by
  refine AM.of [(0, .ref q), (1, .ref (B + 1)), (2, .int a), (3, .int t)] (by decide) (Nat.le_of_ble_eq_true rfl) rfl ?_
  intro V hV
  have hb : V.2.1.2.1 = cX4_drawnAt := by subst hV; rfl
  have ow : V.2.1.1.cls = RX4 := by subst hV; rfl
  have hr : V.2.2.1 = aw_rm 5 0 0 := by subst hV; rfl
  have hz : V.2.2.2 = aw_Z V.1 (fun rv h' => rv = some (.int (drS P S hl (S (130 + p)) (S (146 + p)) (S (154 + p)) a t)) ∧ FR (Xv B vq) h h') V.2.2.1 := by subst hV; rfl
  have hg : V.1 = g := by subst hV; rfl
  have hret : V.2.1.2.2.2 = (some .int) := by subst hV; rfl
  have hml : V.2.1.2.2.1 = 4 := by subst hV; rfl
  clear hV
  have hvq : B + 62 ≤ vq := hC.2.1.2.2.2.2.2.1
  have hnp := hC.1.np
  have hnw := hC.1.nw
  have htpo : hT h q = (4, 0) := by have z := po.2.1; rw [hk] at z; exact z
  have hv9 := (hC.1.rp hp).2.2.2.1
  refine a_iload_n hb dX4_drawnAt_0 rfl 2 rfl ?_
  refine a_if_lt hb 20 dX4_drawnAt_1 (by decide) (fun c1 => ?_) (fun c1 => ?_)
  · refine a_aload_n hb dX4_drawnAt_20 rfl 1 rfl ?_
    refine a_aload_n hb dX4_drawnAt_21 rfl 0 rfl ?_
    refine a_getI hb dX4_drawnAt_22 (by rw [ow]; exact fl_RX4_17_4) htpo ?_
    rw [po.2.2.2.2.2.1]
    show AW V 0 0 h 25 [(0, .ref q), (1, .ref (B + 1)), (2, .int a), (3, .int t)] [.int (S (146 + p)), .ref (B + 1)]
    refine a_aload_n hb dX4_drawnAt_25 rfl 0 rfl ?_
    refine a_getI hb dX4_drawnAt_26 (by rw [ow]; exact fl_RX4_20_4) htpo ?_
    rw [po.2.2.2.1]
    show AW V 0 0 h 29 [(0, .ref q), (1, .ref (B + 1)), (2, .int a), (3, .int t)] [.int (S (130 + p)), .int (S (146 + p)), .ref (B + 1)]
    refine a_iload_n hb dX4_drawnAt_29 rfl 2 rfl ?_
    refine a_aload_n hb dX4_drawnAt_30 rfl 0 rfl ?_
    refine a_getI hb dX4_drawnAt_31 (by rw [ow]; exact fl_RX4_7_4) htpo ?_
    rw [po.2.2.2.2.2.2]
    show AW V 0 0 h 34 [(0, .ref q), (1, .ref (B + 1)), (2, .int a), (3, .int t)] [.int (S (154 + p)), .int a, .int (S (130 + p)), .int (S (146 + p)), .ref (B + 1)]
    refine a_isub hb dX4_drawnAt_34 ?_
    refine a_iload_n hb dX4_drawnAt_35 rfl 3 rfl ?_
    refine a_callV hb dX4_drawnAt_36 (by rw [hg]; exact x_plain g h B vq lq hl S N P hC (S (146 + p)) (S (130 + p)) (a - (S (154 + p))) t) (by rw [ow]; exact clv_RX4_23) (hC.1.1.1 1 (by decide)) (by decide) rfl rfl rfl (Nat.le_of_ble_eq_true rfl) (by rw [hr]; exact ⟨by decide, by decide⟩) (by rw [hr]; exact ⟨Nat.le_of_ble_eq_true rfl, Nat.le_of_ble_eq_true rfl⟩) ?_
    intro rv h1_ hp
    obtain ⟨hv, hf1⟩ := hp
    rw [hv]
    have hF1 := FR.tr FR.rf hf1
    have hC1 := hC.fr (FR.mo (A := Xv B vq) (A' := Ay B vq) hF1 (by intro a; unfold Xv Ay; omega))
    clear hv
    have po1_0 : PO h1_ B S p q := po.fr (FR.mo (A := Xv B vq) (A' := Ay B vq) hF1 (by intro a; unfold Xv Ay; omega)) hC.2.1.2.2.2.2.2.2
    have htpo1_0 : hT h1_ q = (4, 0) := by have z := po1_0.2.1; rw [hk] at z; exact z
    show AW V 0 0 h1_ 39 [(0, .ref q), (1, .ref (B + 1)), (2, .int a), (3, .int t)] [.int (plS P S hl (S (130 + p)) (S (146 + p)) (a - (S (154 + p))) t)]
    exact a_ireturn (ty := .int) hb hz dX4_drawnAt_39 hret rfl (by rw [hr]; exact Nat.le_of_ble_eq_true rfl) (by rw [hr]; exact Nat.le_of_ble_eq_true rfl) (⟨by have z := in_v0 (v := S (154 + p)) c1; rw [hk]; simp [drS, z], hF1⟩)
  · refine a_iload_n hb dX4_drawnAt_4 rfl 2 rfl ?_
    refine a_aload_n hb dX4_drawnAt_5 rfl 0 rfl ?_
    refine a_getI hb dX4_drawnAt_6 (by rw [ow]; exact fl_RX4_7_4) htpo ?_
    rw [po.2.2.2.2.2.2]
    show AW V 0 0 h 9 [(0, .ref q), (1, .ref (B + 1)), (2, .int a), (3, .int t)] [.int (S (154 + p)), .int a]
    refine a_icmp_ge hb 20 dX4_drawnAt_9 (by decide) (fun c9 => ?_) (fun c9 => ?_)
    · refine a_aload_n hb dX4_drawnAt_20 rfl 1 rfl ?_
      refine a_aload_n hb dX4_drawnAt_21 rfl 0 rfl ?_
      refine a_getI hb dX4_drawnAt_22 (by rw [ow]; exact fl_RX4_17_4) htpo ?_
      rw [po.2.2.2.2.2.1]
      show AW V 0 0 h 25 [(0, .ref q), (1, .ref (B + 1)), (2, .int a), (3, .int t)] [.int (S (146 + p)), .ref (B + 1)]
      refine a_aload_n hb dX4_drawnAt_25 rfl 0 rfl ?_
      refine a_getI hb dX4_drawnAt_26 (by rw [ow]; exact fl_RX4_20_4) htpo ?_
      rw [po.2.2.2.1]
      show AW V 0 0 h 29 [(0, .ref q), (1, .ref (B + 1)), (2, .int a), (3, .int t)] [.int (S (130 + p)), .int (S (146 + p)), .ref (B + 1)]
      refine a_iload_n hb dX4_drawnAt_29 rfl 2 rfl ?_
      refine a_aload_n hb dX4_drawnAt_30 rfl 0 rfl ?_
      refine a_getI hb dX4_drawnAt_31 (by rw [ow]; exact fl_RX4_7_4) htpo ?_
      rw [po.2.2.2.2.2.2]
      show AW V 0 0 h 34 [(0, .ref q), (1, .ref (B + 1)), (2, .int a), (3, .int t)] [.int (S (154 + p)), .int a, .int (S (130 + p)), .int (S (146 + p)), .ref (B + 1)]
      refine a_isub hb dX4_drawnAt_34 ?_
      refine a_iload_n hb dX4_drawnAt_35 rfl 3 rfl ?_
      refine a_callV hb dX4_drawnAt_36 (by rw [hg]; exact x_plain g h B vq lq hl S N P hC (S (146 + p)) (S (130 + p)) (a - (S (154 + p))) t) (by rw [ow]; exact clv_RX4_23) (hC.1.1.1 1 (by decide)) (by decide) rfl rfl rfl (Nat.le_of_ble_eq_true rfl) (by rw [hr]; exact ⟨by decide, by decide⟩) (by rw [hr]; exact ⟨Nat.le_of_ble_eq_true rfl, Nat.le_of_ble_eq_true rfl⟩) ?_
      intro rv h2_ hp
      obtain ⟨hv, hf2⟩ := hp
      rw [hv]
      have hF2 := FR.tr FR.rf hf2
      have hC2 := hC.fr (FR.mo (A := Xv B vq) (A' := Ay B vq) hF2 (by intro a; unfold Xv Ay; omega))
      clear hv
      have po2_0 : PO h2_ B S p q := po.fr (FR.mo (A := Xv B vq) (A' := Ay B vq) hF2 (by intro a; unfold Xv Ay; omega)) hC.2.1.2.2.2.2.2.2
      have htpo2_0 : hT h2_ q = (4, 0) := by have z := po2_0.2.1; rw [hk] at z; exact z
      show AW V 0 0 h2_ 39 [(0, .ref q), (1, .ref (B + 1)), (2, .int a), (3, .int t)] [.int (plS P S hl (S (130 + p)) (S (146 + p)) (a - (S (154 + p))) t)]
      exact a_ireturn (ty := .int) hb hz dX4_drawnAt_39 hret rfl (by rw [hr]; exact Nat.le_of_ble_eq_true rfl) (by rw [hr]; exact Nat.le_of_ble_eq_true rfl) (⟨by have z := in_v1 hv9 c9; rw [hk]; simp [drS, z], hF2⟩)
    · refine a_aload_n hb dX4_drawnAt_12 rfl 0 rfl ?_
      refine a_aload_n hb dX4_drawnAt_13 rfl 1 rfl ?_
      refine a_callU hb dX4_drawnAt_14 (by rw [hg]; exact x_ahead4 g h B vq lq hl S N P hC p q hp po hk) (by rw [ow]; exact clu_RX4_13_4) htpo (by decide) rfl rfl rfl (Nat.le_of_ble_eq_true rfl) (by rw [hr]; exact ⟨by decide, by decide⟩) (by rw [hr]; exact ⟨Nat.le_of_ble_eq_true rfl, Nat.le_of_ble_eq_true rfl⟩) ?_
      intro rv h' hq_
      rw [hq_.1, hq_.2]
      show AW V 0 0 h 17 [(0, .ref q), (1, .ref (B + 1)), (2, .int a), (3, .int t)] [.int (-(S (146 + p) / S 6))]
      refine a_goto hb 39 dX4_drawnAt_17 (by decide) ?_
      exact a_ireturn (ty := .int) hb hz dX4_drawnAt_39 hret rfl (by rw [hr]; exact Nat.le_of_ble_eq_true rfl) (by rw [hr]; exact Nat.le_of_ble_eq_true rfl) (⟨by have z := in_v2 hv9 c1 (Int32.not_le.mp c9); rw [hk]; simp [drS, z], FR.rf⟩)
set_option maxRecDepth 100000 in
theorem x_dr5 (g : GG) (h : AH) (B vq lq hl : Nat) (S : Nat → Int32) (N : NN) (P : PF) (hC : CX g h B vq lq hl S N P) (p q : Nat) (hp : p < N.1) (po : PO h B S p q) (hk : S (130 + p) = 5) (a t : Int32) : AM g 5 0 0 mX4_drawnAt [.ref q, .ref (B + 1), .int a, .int t] h (fun rv h' => rv = some (.int (drS P S hl (S (130 + p)) (S (146 + p)) (S (154 + p)) a t)) ∧ FR (Xv B vq) h h') := by
  refine AM.of [(0, .ref q), (1, .ref (B + 1)), (2, .int a), (3, .int t)] (by decide) (Nat.le_of_ble_eq_true rfl) rfl ?_
  intro V hV
  have hb : V.2.1.2.1 = cX4_drawnAt := by subst hV; rfl
  have ow : V.2.1.1.cls = RX4 := by subst hV; rfl
  have hr : V.2.2.1 = aw_rm 5 0 0 := by subst hV; rfl
  have hz : V.2.2.2 = aw_Z V.1 (fun rv h' => rv = some (.int (drS P S hl (S (130 + p)) (S (146 + p)) (S (154 + p)) a t)) ∧ FR (Xv B vq) h h') V.2.2.1 := by subst hV; rfl
  have hg : V.1 = g := by subst hV; rfl
  have hret : V.2.1.2.2.2 = (some .int) := by subst hV; rfl
  have hml : V.2.1.2.2.1 = 4 := by subst hV; rfl
  clear hV
  have hvq : B + 62 ≤ vq := hC.2.1.2.2.2.2.2.1
  have hnp := hC.1.np
  have hnw := hC.1.nw
  have htpo : hT h q = (5, 0) := by have z := po.2.1; rw [hk] at z; exact z
  have hv9 := (hC.1.rp hp).2.2.2.1
  refine a_iload_n hb dX4_drawnAt_0 rfl 2 rfl ?_
  refine a_if_lt hb 20 dX4_drawnAt_1 (by decide) (fun c1 => ?_) (fun c1 => ?_)
  · refine a_aload_n hb dX4_drawnAt_20 rfl 1 rfl ?_
    refine a_aload_n hb dX4_drawnAt_21 rfl 0 rfl ?_
    refine a_getI hb dX4_drawnAt_22 (by rw [ow]; exact fl_RX4_17_5) htpo ?_
    rw [po.2.2.2.2.2.1]
    show AW V 0 0 h 25 [(0, .ref q), (1, .ref (B + 1)), (2, .int a), (3, .int t)] [.int (S (146 + p)), .ref (B + 1)]
    refine a_aload_n hb dX4_drawnAt_25 rfl 0 rfl ?_
    refine a_getI hb dX4_drawnAt_26 (by rw [ow]; exact fl_RX4_20_5) htpo ?_
    rw [po.2.2.2.1]
    show AW V 0 0 h 29 [(0, .ref q), (1, .ref (B + 1)), (2, .int a), (3, .int t)] [.int (S (130 + p)), .int (S (146 + p)), .ref (B + 1)]
    refine a_iload_n hb dX4_drawnAt_29 rfl 2 rfl ?_
    refine a_aload_n hb dX4_drawnAt_30 rfl 0 rfl ?_
    refine a_getI hb dX4_drawnAt_31 (by rw [ow]; exact fl_RX4_7_5) htpo ?_
    rw [po.2.2.2.2.2.2]
    show AW V 0 0 h 34 [(0, .ref q), (1, .ref (B + 1)), (2, .int a), (3, .int t)] [.int (S (154 + p)), .int a, .int (S (130 + p)), .int (S (146 + p)), .ref (B + 1)]
    refine a_isub hb dX4_drawnAt_34 ?_
    refine a_iload_n hb dX4_drawnAt_35 rfl 3 rfl ?_
    refine a_callV hb dX4_drawnAt_36 (by rw [hg]; exact x_plain g h B vq lq hl S N P hC (S (146 + p)) (S (130 + p)) (a - (S (154 + p))) t) (by rw [ow]; exact clv_RX4_23) (hC.1.1.1 1 (by decide)) (by decide) rfl rfl rfl (Nat.le_of_ble_eq_true rfl) (by rw [hr]; exact ⟨by decide, by decide⟩) (by rw [hr]; exact ⟨Nat.le_of_ble_eq_true rfl, Nat.le_of_ble_eq_true rfl⟩) ?_
    intro rv h1_ hp
    obtain ⟨hv, hf1⟩ := hp
    rw [hv]
    have hF1 := FR.tr FR.rf hf1
    have hC1 := hC.fr (FR.mo (A := Xv B vq) (A' := Ay B vq) hF1 (by intro a; unfold Xv Ay; omega))
    clear hv
    have po1_0 : PO h1_ B S p q := po.fr (FR.mo (A := Xv B vq) (A' := Ay B vq) hF1 (by intro a; unfold Xv Ay; omega)) hC.2.1.2.2.2.2.2.2
    have htpo1_0 : hT h1_ q = (5, 0) := by have z := po1_0.2.1; rw [hk] at z; exact z
    show AW V 0 0 h1_ 39 [(0, .ref q), (1, .ref (B + 1)), (2, .int a), (3, .int t)] [.int (plS P S hl (S (130 + p)) (S (146 + p)) (a - (S (154 + p))) t)]
    exact a_ireturn (ty := .int) hb hz dX4_drawnAt_39 hret rfl (by rw [hr]; exact Nat.le_of_ble_eq_true rfl) (by rw [hr]; exact Nat.le_of_ble_eq_true rfl) (⟨by have z := in_v0 (v := S (154 + p)) c1; rw [hk]; simp [drS, z], hF1⟩)
  · refine a_iload_n hb dX4_drawnAt_4 rfl 2 rfl ?_
    refine a_aload_n hb dX4_drawnAt_5 rfl 0 rfl ?_
    refine a_getI hb dX4_drawnAt_6 (by rw [ow]; exact fl_RX4_7_5) htpo ?_
    rw [po.2.2.2.2.2.2]
    show AW V 0 0 h 9 [(0, .ref q), (1, .ref (B + 1)), (2, .int a), (3, .int t)] [.int (S (154 + p)), .int a]
    refine a_icmp_ge hb 20 dX4_drawnAt_9 (by decide) (fun c9 => ?_) (fun c9 => ?_)
    · refine a_aload_n hb dX4_drawnAt_20 rfl 1 rfl ?_
      refine a_aload_n hb dX4_drawnAt_21 rfl 0 rfl ?_
      refine a_getI hb dX4_drawnAt_22 (by rw [ow]; exact fl_RX4_17_5) htpo ?_
      rw [po.2.2.2.2.2.1]
      show AW V 0 0 h 25 [(0, .ref q), (1, .ref (B + 1)), (2, .int a), (3, .int t)] [.int (S (146 + p)), .ref (B + 1)]
      refine a_aload_n hb dX4_drawnAt_25 rfl 0 rfl ?_
      refine a_getI hb dX4_drawnAt_26 (by rw [ow]; exact fl_RX4_20_5) htpo ?_
      rw [po.2.2.2.1]
      show AW V 0 0 h 29 [(0, .ref q), (1, .ref (B + 1)), (2, .int a), (3, .int t)] [.int (S (130 + p)), .int (S (146 + p)), .ref (B + 1)]
      refine a_iload_n hb dX4_drawnAt_29 rfl 2 rfl ?_
      refine a_aload_n hb dX4_drawnAt_30 rfl 0 rfl ?_
      refine a_getI hb dX4_drawnAt_31 (by rw [ow]; exact fl_RX4_7_5) htpo ?_
      rw [po.2.2.2.2.2.2]
      show AW V 0 0 h 34 [(0, .ref q), (1, .ref (B + 1)), (2, .int a), (3, .int t)] [.int (S (154 + p)), .int a, .int (S (130 + p)), .int (S (146 + p)), .ref (B + 1)]
      refine a_isub hb dX4_drawnAt_34 ?_
      refine a_iload_n hb dX4_drawnAt_35 rfl 3 rfl ?_
      refine a_callV hb dX4_drawnAt_36 (by rw [hg]; exact x_plain g h B vq lq hl S N P hC (S (146 + p)) (S (130 + p)) (a - (S (154 + p))) t) (by rw [ow]; exact clv_RX4_23) (hC.1.1.1 1 (by decide)) (by decide) rfl rfl rfl (Nat.le_of_ble_eq_true rfl) (by rw [hr]; exact ⟨by decide, by decide⟩) (by rw [hr]; exact ⟨Nat.le_of_ble_eq_true rfl, Nat.le_of_ble_eq_true rfl⟩) ?_
      intro rv h2_ hp
      obtain ⟨hv, hf2⟩ := hp
      rw [hv]
      have hF2 := FR.tr FR.rf hf2
      have hC2 := hC.fr (FR.mo (A := Xv B vq) (A' := Ay B vq) hF2 (by intro a; unfold Xv Ay; omega))
      clear hv
      have po2_0 : PO h2_ B S p q := po.fr (FR.mo (A := Xv B vq) (A' := Ay B vq) hF2 (by intro a; unfold Xv Ay; omega)) hC.2.1.2.2.2.2.2.2
      have htpo2_0 : hT h2_ q = (5, 0) := by have z := po2_0.2.1; rw [hk] at z; exact z
      show AW V 0 0 h2_ 39 [(0, .ref q), (1, .ref (B + 1)), (2, .int a), (3, .int t)] [.int (plS P S hl (S (130 + p)) (S (146 + p)) (a - (S (154 + p))) t)]
      exact a_ireturn (ty := .int) hb hz dX4_drawnAt_39 hret rfl (by rw [hr]; exact Nat.le_of_ble_eq_true rfl) (by rw [hr]; exact Nat.le_of_ble_eq_true rfl) (⟨by have z := in_v1 hv9 c9; rw [hk]; simp [drS, z], hF2⟩)
    · refine a_aload_n hb dX4_drawnAt_12 rfl 0 rfl ?_
      refine a_aload_n hb dX4_drawnAt_13 rfl 1 rfl ?_
      refine a_callU hb dX4_drawnAt_14 (by rw [hg]; exact x_ahead5 g h B vq lq hl S N P hC p q hp po hk) (by rw [ow]; exact clu_RX4_13_5) htpo (by decide) rfl rfl rfl (Nat.le_of_ble_eq_true rfl) (by rw [hr]; exact ⟨by decide, by decide⟩) (by rw [hr]; exact ⟨Nat.le_of_ble_eq_true rfl, Nat.le_of_ble_eq_true rfl⟩) ?_
      intro rv h' hq_
      rw [hq_.1, hq_.2]
      show AW V 0 0 h 17 [(0, .ref q), (1, .ref (B + 1)), (2, .int a), (3, .int t)] [.int (S (146 + p) / S 6)]
      refine a_goto hb 39 dX4_drawnAt_17 (by decide) ?_
      exact a_ireturn (ty := .int) hb hz dX4_drawnAt_39 hret rfl (by rw [hr]; exact Nat.le_of_ble_eq_true rfl) (by rw [hr]; exact Nat.le_of_ble_eq_true rfl) (⟨by have z := in_v2 hv9 c1 (Int32.not_le.mp c9); rw [hk]; simp [drS, z], FR.rf⟩)
set_option maxRecDepth 100000 in
theorem x_dr6 (g : GG) (h : AH) (B vq lq hl : Nat) (S : Nat → Int32) (N : NN) (P : PF) (hC : CX g h B vq lq hl S N P) (p q : Nat) (hp : p < N.1) (po : PO h B S p q) (hk : S (130 + p) = 6) (a t : Int32) : AM g 5 0 0 mX6_drawnAt [.ref q, .ref (B + 1), .int a, .int t] h (fun rv h' => rv = some (.int (drS P S hl (S (130 + p)) (S (146 + p)) (S (154 + p)) a t)) ∧ FR (Xv B vq) h h') := by
  refine AM.of [(0, .ref q), (1, .ref (B + 1)), (2, .int a), (3, .int t)] (by decide) (Nat.le_of_ble_eq_true rfl) rfl ?_
  intro V hV
  have hb : V.2.1.2.1 = cX6_drawnAt := by subst hV; rfl
  have ow : V.2.1.1.cls = RX6 := by subst hV; rfl
  have hr : V.2.2.1 = aw_rm 5 0 0 := by subst hV; rfl
  have hz : V.2.2.2 = aw_Z V.1 (fun rv h' => rv = some (.int (drS P S hl (S (130 + p)) (S (146 + p)) (S (154 + p)) a t)) ∧ FR (Xv B vq) h h') V.2.2.1 := by subst hV; rfl
  have hg : V.1 = g := by subst hV; rfl
  have hret : V.2.1.2.2.2 = (some .int) := by subst hV; rfl
  have hml : V.2.1.2.2.1 = 4 := by subst hV; rfl
  clear hV
  have hvq : B + 62 ≤ vq := hC.2.1.2.2.2.2.2.1
  have hnp := hC.1.np
  have hnw := hC.1.nw
  have htpo : hT h q = (6, 0) := by have z := po.2.1; rw [hk] at z; exact z
  refine a_aload_n hb dX6_drawnAt_0 rfl 1 rfl ?_
  refine a_aload_n hb dX6_drawnAt_1 rfl 0 rfl ?_
  refine a_getI hb dX6_drawnAt_2 (by rw [ow]; exact fl_RX6_7_6) htpo ?_
  rw [po.2.2.2.2.2.1]
  show AW V 0 0 h 5 [(0, .ref q), (1, .ref (B + 1)), (2, .int a), (3, .int t)] [.int (S (146 + p)), .ref (B + 1)]
  refine a_aload_n hb dX6_drawnAt_5 rfl 0 rfl ?_
  refine a_getI hb dX6_drawnAt_6 (by rw [ow]; exact fl_RX6_13_6) htpo ?_
  rw [po.2.2.2.1]
  show AW V 0 0 h 9 [(0, .ref q), (1, .ref (B + 1)), (2, .int a), (3, .int t)] [.int (S (130 + p)), .int (S (146 + p)), .ref (B + 1)]
  refine a_iload_n hb dX6_drawnAt_9 rfl 2 rfl ?_
  refine a_iload_n hb dX6_drawnAt_10 rfl 3 rfl ?_
  refine a_callV hb dX6_drawnAt_11 (by rw [hg]; exact x_plain g h B vq lq hl S N P hC (S (146 + p)) (S (130 + p)) a t) (by rw [ow]; exact clv_RX6_16) (hC.1.1.1 1 (by decide)) (by decide) rfl rfl rfl (Nat.le_of_ble_eq_true rfl) (by rw [hr]; exact ⟨by decide, by decide⟩) (by rw [hr]; exact ⟨Nat.le_of_ble_eq_true rfl, Nat.le_of_ble_eq_true rfl⟩) ?_
  intro rv h1_ hp
  obtain ⟨hv, hf1⟩ := hp
  rw [hv]
  have hF1 := FR.tr FR.rf hf1
  have hC1 := hC.fr (FR.mo (A := Xv B vq) (A' := Ay B vq) hF1 (by intro a; unfold Xv Ay; omega))
  clear hv
  have po1_0 : PO h1_ B S p q := po.fr (FR.mo (A := Xv B vq) (A' := Ay B vq) hF1 (by intro a; unfold Xv Ay; omega)) hC.2.1.2.2.2.2.2.2
  have htpo1_0 : hT h1_ q = (6, 0) := by have z := po1_0.2.1; rw [hk] at z; exact z
  show AW V 0 0 h1_ 14 [(0, .ref q), (1, .ref (B + 1)), (2, .int a), (3, .int t)] [.int (plS P S hl (S (130 + p)) (S (146 + p)) a t)]
  refine a_iconst (v := 2) hb dX6_drawnAt_14 (by decide) ?_
  refine a_idiv hb dX6_drawnAt_15 (by decide) ?_
  refine a_aload_n hb dX6_drawnAt_16 rfl 1 rfl ?_
  refine a_aload_n hb dX6_drawnAt_17 rfl 0 rfl ?_
  refine a_getI hb dX6_drawnAt_18 (by rw [ow]; exact fl_RX6_7_6) htpo1_0 ?_
  rw [po1_0.2.2.2.2.2.1]
  show AW V 0 0 h1_ 21 [(0, .ref q), (1, .ref (B + 1)), (2, .int a), (3, .int t)] [.int (S (146 + p)), .ref (B + 1), .int ((plS P S hl (S (130 + p)) (S (146 + p)) a t) / 2)]
  refine a_aload_n hb dX6_drawnAt_21 rfl 0 rfl ?_
  refine a_getI hb dX6_drawnAt_22 (by rw [ow]; exact fl_RX6_13_6) htpo1_0 ?_
  rw [po1_0.2.2.2.1]
  show AW V 0 0 h1_ 25 [(0, .ref q), (1, .ref (B + 1)), (2, .int a), (3, .int t)] [.int (S (130 + p)), .int (S (146 + p)), .ref (B + 1), .int ((plS P S hl (S (130 + p)) (S (146 + p)) a t) / 2)]
  refine a_iload_n hb dX6_drawnAt_25 rfl 2 rfl ?_
  refine a_aload_n hb dX6_drawnAt_26 rfl 0 rfl ?_
  refine a_getI hb dX6_drawnAt_27 (by rw [ow]; exact fl_RX6_22_6) htpo1_0 ?_
  rw [po1_0.2.2.2.2.2.2]
  show AW V 0 0 h1_ 30 [(0, .ref q), (1, .ref (B + 1)), (2, .int a), (3, .int t)] [.int (S (154 + p)), .int a, .int (S (130 + p)), .int (S (146 + p)), .ref (B + 1), .int ((plS P S hl (S (130 + p)) (S (146 + p)) a t) / 2)]
  refine a_isub hb dX6_drawnAt_30 ?_
  refine a_iload_n hb dX6_drawnAt_31 rfl 3 rfl ?_
  refine a_aload_n hb dX6_drawnAt_32 rfl 0 rfl ?_
  refine a_getI hb dX6_drawnAt_33 (by rw [ow]; exact fl_RX6_22_6) htpo1_0 ?_
  rw [po1_0.2.2.2.2.2.2]
  show AW V 0 0 h1_ 36 [(0, .ref q), (1, .ref (B + 1)), (2, .int a), (3, .int t)] [.int (S (154 + p)), .int t, .int (a - (S (154 + p))), .int (S (130 + p)), .int (S (146 + p)), .ref (B + 1), .int ((plS P S hl (S (130 + p)) (S (146 + p)) a t) / 2)]
  refine a_isub hb dX6_drawnAt_36 ?_
  refine a_callV hb dX6_drawnAt_37 (by rw [hg]; exact x_plain g h1_ B vq lq hl S N P hC1 (S (146 + p)) (S (130 + p)) (a - (S (154 + p))) (t - (S (154 + p)))) (by rw [ow]; exact clv_RX6_16) (hC1.1.1.1 1 (by decide)) (by decide) rfl rfl rfl (Nat.le_of_ble_eq_true rfl) (by rw [hr]; exact ⟨by decide, by decide⟩) (by rw [hr]; exact ⟨Nat.le_of_ble_eq_true rfl, Nat.le_of_ble_eq_true rfl⟩) ?_
  intro rv h2_ hp
  obtain ⟨hv, hf2⟩ := hp
  rw [hv]
  have hF2 := FR.tr hF1 hf2
  have hC2 := hC.fr (FR.mo (A := Xv B vq) (A' := Ay B vq) hF2 (by intro a; unfold Xv Ay; omega))
  clear hv
  have po2_0 : PO h2_ B S p q := po.fr (FR.mo (A := Xv B vq) (A' := Ay B vq) hF2 (by intro a; unfold Xv Ay; omega)) hC.2.1.2.2.2.2.2.2
  have htpo2_0 : hT h2_ q = (6, 0) := by have z := po2_0.2.1; rw [hk] at z; exact z
  show AW V 0 0 h2_ 40 [(0, .ref q), (1, .ref (B + 1)), (2, .int a), (3, .int t)] [.int (plS P S hl (S (130 + p)) (S (146 + p)) (a - (S (154 + p))) (t - (S (154 + p)))), .int ((plS P S hl (S (130 + p)) (S (146 + p)) a t) / 2)]
  refine a_iconst (v := 2) hb dX6_drawnAt_40 (by decide) ?_
  refine a_idiv hb dX6_drawnAt_41 (by decide) ?_
  refine a_iadd hb dX6_drawnAt_42 ?_
  exact a_ireturn (ty := .int) hb hz dX6_drawnAt_43 hret rfl (by rw [hr]; exact Nat.le_of_ble_eq_true rfl) (by rw [hr]; exact Nat.le_of_ble_eq_true rfl) (⟨by rw [hk]; simp [drS], hF2⟩)
set_option maxRecDepth 100000 in
theorem x_age0 (g : GG) (h : AH) (B vq lq hl : Nat) (S : Nat → Int32) (N : NN) (P : PF) (hC : CX g h B vq lq hl S N P) (p q : Nat) (hp : p < N.1) (po : PO h B S p q) (hk : S (130 + p) = 0) (a t : Int32) : AM g 1 0 0 mX2_ageAt [.ref q, .int a, .int t] h (fun rv h' => rv = some (.int (a - S (138 + p) - t)) ∧ h' = h) := by
  refine AM.of [(0, .ref q), (1, .int a), (2, .int t)] (by decide) (Nat.le_of_ble_eq_true rfl) rfl ?_
  intro V hV
  have hb : V.2.1.2.1 = cX2_ageAt := by subst hV; rfl
  have ow : V.2.1.1.cls = RX2 := by subst hV; rfl
  have hr : V.2.2.1 = aw_rm 1 0 0 := by subst hV; rfl
  have hz : V.2.2.2 = aw_Z V.1 (fun rv h' => rv = some (.int (a - S (138 + p) - t)) ∧ h' = h) V.2.2.1 := by subst hV; rfl
  have hg : V.1 = g := by subst hV; rfl
  have hret : V.2.1.2.2.2 = (some .int) := by subst hV; rfl
  have hml : V.2.1.2.2.1 = 3 := by subst hV; rfl
  clear hV
  have hvq : B + 62 ≤ vq := hC.2.1.2.2.2.2.2.1
  have hnp := hC.1.np
  have hnw := hC.1.nw
  have htpo : hT h q = (2, 0) := by have z := po.2.1; rw [hk] at z; exact z
  refine a_iload_n hb dX2_ageAt_0 rfl 1 rfl ?_
  refine a_aload_n hb dX2_ageAt_1 rfl 0 rfl ?_
  refine a_getI hb dX2_ageAt_2 (by rw [ow]; exact fl_RX2_16_2) htpo ?_
  rw [po.2.2.2.2.1]
  show AW V 0 0 h 5 [(0, .ref q), (1, .int a), (2, .int t)] [.int (S (138 + p)), .int a]
  refine a_isub hb dX2_ageAt_5 ?_
  refine a_iload_n hb dX2_ageAt_6 rfl 2 rfl ?_
  refine a_isub hb dX2_ageAt_7 ?_
  exact a_ireturn (ty := .int) hb hz dX2_ageAt_8 hret rfl (by rw [hr]; exact Nat.le_of_ble_eq_true rfl) (by rw [hr]; exact Nat.le_of_ble_eq_true rfl) (⟨rfl, rfl⟩)
set_option maxRecDepth 100000 in
theorem x_age1 (g : GG) (h : AH) (B vq lq hl : Nat) (S : Nat → Int32) (N : NN) (P : PF) (hC : CX g h B vq lq hl S N P) (p q : Nat) (hp : p < N.1) (po : PO h B S p q) (hk : S (130 + p) = 1) (a t : Int32) : AM g 1 0 0 mX2_ageAt [.ref q, .int a, .int t] h (fun rv h' => rv = some (.int (a - S (138 + p) - t)) ∧ h' = h) := by
  refine AM.of [(0, .ref q), (1, .int a), (2, .int t)] (by decide) (Nat.le_of_ble_eq_true rfl) rfl ?_
  intro V hV
  have hb : V.2.1.2.1 = cX2_ageAt := by subst hV; rfl
  have ow : V.2.1.1.cls = RX2 := by subst hV; rfl
  have hr : V.2.2.1 = aw_rm 1 0 0 := by subst hV; rfl
  have hz : V.2.2.2 = aw_Z V.1 (fun rv h' => rv = some (.int (a - S (138 + p) - t)) ∧ h' = h) V.2.2.1 := by subst hV; rfl
  have hg : V.1 = g := by subst hV; rfl
  have hret : V.2.1.2.2.2 = (some .int) := by subst hV; rfl
  have hml : V.2.1.2.2.1 = 3 := by subst hV; rfl
  clear hV
  have hvq : B + 62 ≤ vq := hC.2.1.2.2.2.2.2.1
  have hnp := hC.1.np
  have hnw := hC.1.nw
  have htpo : hT h q = (9, 0) := by have z := po.2.1; rw [hk] at z; exact z
  refine a_iload_n hb dX2_ageAt_0 rfl 1 rfl ?_
  refine a_aload_n hb dX2_ageAt_1 rfl 0 rfl ?_
  refine a_getI hb dX2_ageAt_2 (by rw [ow]; exact fl_RX2_16_9) htpo ?_
  rw [po.2.2.2.2.1]
  show AW V 0 0 h 5 [(0, .ref q), (1, .int a), (2, .int t)] [.int (S (138 + p)), .int a]
  refine a_isub hb dX2_ageAt_5 ?_
  refine a_iload_n hb dX2_ageAt_6 rfl 2 rfl ?_
  refine a_isub hb dX2_ageAt_7 ?_
  exact a_ireturn (ty := .int) hb hz dX2_ageAt_8 hret rfl (by rw [hr]; exact Nat.le_of_ble_eq_true rfl) (by rw [hr]; exact Nat.le_of_ble_eq_true rfl) (⟨rfl, rfl⟩)
set_option maxRecDepth 100000 in
theorem x_age2 (g : GG) (h : AH) (B vq lq hl : Nat) (S : Nat → Int32) (N : NN) (P : PF) (hC : CX g h B vq lq hl S N P) (p q : Nat) (hp : p < N.1) (po : PO h B S p q) (hk : S (130 + p) = 2) (a t : Int32) : AM g 1 0 0 mX2_ageAt [.ref q, .int a, .int t] h (fun rv h' => rv = some (.int (a - S (138 + p) - t)) ∧ h' = h) := by
  refine AM.of [(0, .ref q), (1, .int a), (2, .int t)] (by decide) (Nat.le_of_ble_eq_true rfl) rfl ?_
  intro V hV
  have hb : V.2.1.2.1 = cX2_ageAt := by subst hV; rfl
  have ow : V.2.1.1.cls = RX2 := by subst hV; rfl
  have hr : V.2.2.1 = aw_rm 1 0 0 := by subst hV; rfl
  have hz : V.2.2.2 = aw_Z V.1 (fun rv h' => rv = some (.int (a - S (138 + p) - t)) ∧ h' = h) V.2.2.1 := by subst hV; rfl
  have hg : V.1 = g := by subst hV; rfl
  have hret : V.2.1.2.2.2 = (some .int) := by subst hV; rfl
  have hml : V.2.1.2.2.1 = 3 := by subst hV; rfl
  clear hV
  have hvq : B + 62 ≤ vq := hC.2.1.2.2.2.2.2.1
  have hnp := hC.1.np
  have hnw := hC.1.nw
  have htpo : hT h q = (0, 0) := by have z := po.2.1; rw [hk] at z; exact z
  refine a_iload_n hb dX2_ageAt_0 rfl 1 rfl ?_
  refine a_aload_n hb dX2_ageAt_1 rfl 0 rfl ?_
  refine a_getI hb dX2_ageAt_2 (by rw [ow]; exact fl_RX2_16_0) htpo ?_
  rw [po.2.2.2.2.1]
  show AW V 0 0 h 5 [(0, .ref q), (1, .int a), (2, .int t)] [.int (S (138 + p)), .int a]
  refine a_isub hb dX2_ageAt_5 ?_
  refine a_iload_n hb dX2_ageAt_6 rfl 2 rfl ?_
  refine a_isub hb dX2_ageAt_7 ?_
  exact a_ireturn (ty := .int) hb hz dX2_ageAt_8 hret rfl (by rw [hr]; exact Nat.le_of_ble_eq_true rfl) (by rw [hr]; exact Nat.le_of_ble_eq_true rfl) (⟨rfl, rfl⟩)
set_option maxRecDepth 100000 in
theorem x_age3 (g : GG) (h : AH) (B vq lq hl : Nat) (S : Nat → Int32) (N : NN) (P : PF) (hC : CX g h B vq lq hl S N P) (p q : Nat) (hp : p < N.1) (po : PO h B S p q) (hk : S (130 + p) = 3) (a t : Int32) : AM g 1 0 0 mX2_ageAt [.ref q, .int a, .int t] h (fun rv h' => rv = some (.int (a - S (138 + p) - t)) ∧ h' = h) := by
  refine AM.of [(0, .ref q), (1, .int a), (2, .int t)] (by decide) (Nat.le_of_ble_eq_true rfl) rfl ?_
  intro V hV
  have hb : V.2.1.2.1 = cX2_ageAt := by subst hV; rfl
  have ow : V.2.1.1.cls = RX2 := by subst hV; rfl
  have hr : V.2.2.1 = aw_rm 1 0 0 := by subst hV; rfl
  have hz : V.2.2.2 = aw_Z V.1 (fun rv h' => rv = some (.int (a - S (138 + p) - t)) ∧ h' = h) V.2.2.1 := by subst hV; rfl
  have hg : V.1 = g := by subst hV; rfl
  have hret : V.2.1.2.2.2 = (some .int) := by subst hV; rfl
  have hml : V.2.1.2.2.1 = 3 := by subst hV; rfl
  clear hV
  have hvq : B + 62 ≤ vq := hC.2.1.2.2.2.2.2.1
  have hnp := hC.1.np
  have hnw := hC.1.nw
  have htpo : hT h q = (3, 0) := by have z := po.2.1; rw [hk] at z; exact z
  refine a_iload_n hb dX2_ageAt_0 rfl 1 rfl ?_
  refine a_aload_n hb dX2_ageAt_1 rfl 0 rfl ?_
  refine a_getI hb dX2_ageAt_2 (by rw [ow]; exact fl_RX2_16_3) htpo ?_
  rw [po.2.2.2.2.1]
  show AW V 0 0 h 5 [(0, .ref q), (1, .int a), (2, .int t)] [.int (S (138 + p)), .int a]
  refine a_isub hb dX2_ageAt_5 ?_
  refine a_iload_n hb dX2_ageAt_6 rfl 2 rfl ?_
  refine a_isub hb dX2_ageAt_7 ?_
  exact a_ireturn (ty := .int) hb hz dX2_ageAt_8 hret rfl (by rw [hr]; exact Nat.le_of_ble_eq_true rfl) (by rw [hr]; exact Nat.le_of_ble_eq_true rfl) (⟨rfl, rfl⟩)
set_option maxRecDepth 100000 in
theorem x_age4 (g : GG) (h : AH) (B vq lq hl : Nat) (S : Nat → Int32) (N : NN) (P : PF) (hC : CX g h B vq lq hl S N P) (p q : Nat) (hp : p < N.1) (po : PO h B S p q) (hk : S (130 + p) = 4) (a t : Int32) : AM g 1 0 0 mX2_ageAt [.ref q, .int a, .int t] h (fun rv h' => rv = some (.int (a - S (138 + p) - t)) ∧ h' = h) := by
  refine AM.of [(0, .ref q), (1, .int a), (2, .int t)] (by decide) (Nat.le_of_ble_eq_true rfl) rfl ?_
  intro V hV
  have hb : V.2.1.2.1 = cX2_ageAt := by subst hV; rfl
  have ow : V.2.1.1.cls = RX2 := by subst hV; rfl
  have hr : V.2.2.1 = aw_rm 1 0 0 := by subst hV; rfl
  have hz : V.2.2.2 = aw_Z V.1 (fun rv h' => rv = some (.int (a - S (138 + p) - t)) ∧ h' = h) V.2.2.1 := by subst hV; rfl
  have hg : V.1 = g := by subst hV; rfl
  have hret : V.2.1.2.2.2 = (some .int) := by subst hV; rfl
  have hml : V.2.1.2.2.1 = 3 := by subst hV; rfl
  clear hV
  have hvq : B + 62 ≤ vq := hC.2.1.2.2.2.2.2.1
  have hnp := hC.1.np
  have hnw := hC.1.nw
  have htpo : hT h q = (4, 0) := by have z := po.2.1; rw [hk] at z; exact z
  refine a_iload_n hb dX2_ageAt_0 rfl 1 rfl ?_
  refine a_aload_n hb dX2_ageAt_1 rfl 0 rfl ?_
  refine a_getI hb dX2_ageAt_2 (by rw [ow]; exact fl_RX2_16_4) htpo ?_
  rw [po.2.2.2.2.1]
  show AW V 0 0 h 5 [(0, .ref q), (1, .int a), (2, .int t)] [.int (S (138 + p)), .int a]
  refine a_isub hb dX2_ageAt_5 ?_
  refine a_iload_n hb dX2_ageAt_6 rfl 2 rfl ?_
  refine a_isub hb dX2_ageAt_7 ?_
  exact a_ireturn (ty := .int) hb hz dX2_ageAt_8 hret rfl (by rw [hr]; exact Nat.le_of_ble_eq_true rfl) (by rw [hr]; exact Nat.le_of_ble_eq_true rfl) (⟨rfl, rfl⟩)
set_option maxRecDepth 100000 in
theorem x_age5 (g : GG) (h : AH) (B vq lq hl : Nat) (S : Nat → Int32) (N : NN) (P : PF) (hC : CX g h B vq lq hl S N P) (p q : Nat) (hp : p < N.1) (po : PO h B S p q) (hk : S (130 + p) = 5) (a t : Int32) : AM g 1 0 0 mX2_ageAt [.ref q, .int a, .int t] h (fun rv h' => rv = some (.int (a - S (138 + p) - t)) ∧ h' = h) := by
  refine AM.of [(0, .ref q), (1, .int a), (2, .int t)] (by decide) (Nat.le_of_ble_eq_true rfl) rfl ?_
  intro V hV
  have hb : V.2.1.2.1 = cX2_ageAt := by subst hV; rfl
  have ow : V.2.1.1.cls = RX2 := by subst hV; rfl
  have hr : V.2.2.1 = aw_rm 1 0 0 := by subst hV; rfl
  have hz : V.2.2.2 = aw_Z V.1 (fun rv h' => rv = some (.int (a - S (138 + p) - t)) ∧ h' = h) V.2.2.1 := by subst hV; rfl
  have hg : V.1 = g := by subst hV; rfl
  have hret : V.2.1.2.2.2 = (some .int) := by subst hV; rfl
  have hml : V.2.1.2.2.1 = 3 := by subst hV; rfl
  clear hV
  have hvq : B + 62 ≤ vq := hC.2.1.2.2.2.2.2.1
  have hnp := hC.1.np
  have hnw := hC.1.nw
  have htpo : hT h q = (5, 0) := by have z := po.2.1; rw [hk] at z; exact z
  refine a_iload_n hb dX2_ageAt_0 rfl 1 rfl ?_
  refine a_aload_n hb dX2_ageAt_1 rfl 0 rfl ?_
  refine a_getI hb dX2_ageAt_2 (by rw [ow]; exact fl_RX2_16_5) htpo ?_
  rw [po.2.2.2.2.1]
  show AW V 0 0 h 5 [(0, .ref q), (1, .int a), (2, .int t)] [.int (S (138 + p)), .int a]
  refine a_isub hb dX2_ageAt_5 ?_
  refine a_iload_n hb dX2_ageAt_6 rfl 2 rfl ?_
  refine a_isub hb dX2_ageAt_7 ?_
  exact a_ireturn (ty := .int) hb hz dX2_ageAt_8 hret rfl (by rw [hr]; exact Nat.le_of_ble_eq_true rfl) (by rw [hr]; exact Nat.le_of_ble_eq_true rfl) (⟨rfl, rfl⟩)
set_option maxRecDepth 100000 in
theorem x_age6 (g : GG) (h : AH) (B vq lq hl : Nat) (S : Nat → Int32) (N : NN) (P : PF) (hC : CX g h B vq lq hl S N P) (p q : Nat) (hp : p < N.1) (po : PO h B S p q) (hk : S (130 + p) = 6) (a t : Int32) : AM g 1 0 0 mX2_ageAt [.ref q, .int a, .int t] h (fun rv h' => rv = some (.int (a - S (138 + p) - t)) ∧ h' = h) := by
  refine AM.of [(0, .ref q), (1, .int a), (2, .int t)] (by decide) (Nat.le_of_ble_eq_true rfl) rfl ?_
  intro V hV
  have hb : V.2.1.2.1 = cX2_ageAt := by subst hV; rfl
  have ow : V.2.1.1.cls = RX2 := by subst hV; rfl
  have hr : V.2.2.1 = aw_rm 1 0 0 := by subst hV; rfl
  have hz : V.2.2.2 = aw_Z V.1 (fun rv h' => rv = some (.int (a - S (138 + p) - t)) ∧ h' = h) V.2.2.1 := by subst hV; rfl
  have hg : V.1 = g := by subst hV; rfl
  have hret : V.2.1.2.2.2 = (some .int) := by subst hV; rfl
  have hml : V.2.1.2.2.1 = 3 := by subst hV; rfl
  clear hV
  have hvq : B + 62 ≤ vq := hC.2.1.2.2.2.2.2.1
  have hnp := hC.1.np
  have hnw := hC.1.nw
  have htpo : hT h q = (6, 0) := by have z := po.2.1; rw [hk] at z; exact z
  refine a_iload_n hb dX2_ageAt_0 rfl 1 rfl ?_
  refine a_aload_n hb dX2_ageAt_1 rfl 0 rfl ?_
  refine a_getI hb dX2_ageAt_2 (by rw [ow]; exact fl_RX2_16_6) htpo ?_
  rw [po.2.2.2.2.1]
  show AW V 0 0 h 5 [(0, .ref q), (1, .int a), (2, .int t)] [.int (S (138 + p)), .int a]
  refine a_isub hb dX2_ageAt_5 ?_
  refine a_iload_n hb dX2_ageAt_6 rfl 2 rfl ?_
  refine a_isub hb dX2_ageAt_7 ?_
  exact a_ireturn (ty := .int) hb hz dX2_ageAt_8 hret rfl (by rw [hr]; exact Nat.le_of_ble_eq_true rfl) (by rw [hr]; exact Nat.le_of_ble_eq_true rfl) (⟨rfl, rfl⟩)
