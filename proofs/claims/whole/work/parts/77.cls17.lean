/-! ===== the class: acts ===== -/
theorem kw_961 : (Jvm.Cond.sameMethod "KettleBeats$Silent" "KettleBeats$Pause" "rises" "(ILKettleBeats$Trace;)I") ∈ aw_wd := mw 961 (by decide +kernel) (by decide +kernel)
theorem kw_344 : (Jvm.Cond.superclass "KettleBeats$Sky" "KettleBeats$Silent") ∈ aw_wd := mw 344 (by decide +kernel) (by decide +kernel)
theorem kw_976 : (Jvm.Cond.sameMethod "KettleBeats$Whistle" "KettleBeats$Pause" "tells" "(ILKettleBeats$Trace;)I") ∈ aw_wd := mw 976 (by decide +kernel) (by decide +kernel)
theorem kw_308 : (Jvm.Cond.superclass "KettleBeats$Late" "KettleBeats$Whistle") ∈ aw_wd := mw 308 (by decide +kernel) (by decide +kernel)
theorem trH_k {R T f n : Nat} {h : AH} {l : List Int32} {q : Nat} {x : Nat × Nat} (ht : hT h q = x) : hT (trH R T f h n l) q = x := ht
theorem acDA_0 {N x : Int32} : acDA 0 N x = acD N x := rfl
theorem acDA_1 {N x : Int32} : acDA 1 N x = acW N x := rfl
theorem acDA_2 {N x : Int32} : acDA 2 N x = acW N x := rfl
theorem acDA_3 {N x : Int32} : acDA 3 N x = acD N x := rfl
theorem acDA_4 {N x : Int32} : acDA 4 N x = acD N x := rfl
theorem acDA_5 {N x : Int32} : acDA 5 N x = acD N x := rfl
theorem acDA_6 {N x : Int32} : acDA 6 N x = ((acW N x).1 ^^^ N, [51] ++ (acW N x).2) := rfl
theorem acRA_0 {N Q x : Int32} : acRA 0 N Q x = acR 0 N Q x := rfl
theorem acTA_0 {N Q x : Int32} : acTA 0 N Q x = acT 0 N Q x := rfl
theorem acRA_1 {N Q x : Int32} : acRA 1 N Q x = acR 1 N Q x := rfl
theorem acTA_1 {N Q x : Int32} : acTA 1 N Q x = acT 1 N Q x := rfl
theorem acRA_2 {N Q x : Int32} : acRA 2 N Q x = acR 2 N Q x := rfl
theorem acTA_2 {N Q x : Int32} : acTA 2 N Q x = ((acT 2 N Q (x - 1)).1 + (acDA 2 N 2).1, [41] ++ (acT 2 N Q (x - 1)).2 ++ (acDA 2 N 2).2) := rfl
theorem acRA_3 {N Q x : Int32} : acRA 3 N Q x = (-(acR 3 N Q x).1, [21] ++ (acR 3 N Q x).2) := rfl
theorem acTA_3 {N Q x : Int32} : acTA 3 N Q x = acT 3 N Q x := rfl
theorem acRA_4 {N Q x : Int32} : acRA 4 N Q x = acR 4 N Q x := rfl
theorem acTA_4 {N Q x : Int32} : acTA 4 N Q x = ((acT 4 N Q x).1 ^^^ 7, [31] ++ (acT 4 N Q x).2) := rfl
theorem acRA_5 {N Q x : Int32} : acRA 5 N Q x = ((acR 5 N Q x).1 + Q, [61] ++ (acR 5 N Q x).2) := rfl
theorem acTA_5 {N Q x : Int32} : acTA 5 N Q x = ((acT 5 N Q x).1 ^^^ 7, [31] ++ (acT 5 N Q x).2) := rfl
theorem acRA_6 {N Q x : Int32} : acRA 6 N Q x = acR 6 N Q x := rfl
theorem acTA_6 {N Q x : Int32} : acTA 6 N Q x = acT 6 N Q x := rfl
set_option maxRecDepth 100000 in
theorem x_note (g : GG) (h : AH) (B : Nat) (hL : LY h B) (rn : Nat) (hrn : hI h (B + 19) 1 = nI rn) (lrn : rn + 1 ≤ 20) (x : Int32) : AM g 1 0 0 mX8_note [.ref (B + 19), .int x] h (fun rv h' => rv = none ∧ h' = (trH (B + 20) (B + 19) 1 h rn ([x]))) := by
  refine AM.of [(0, .ref (B + 19)), (1, .int x)] (by decide) (Nat.le_of_ble_eq_true rfl) rfl ?_
  intro V hV
  have hb : V.2.1.2.1 = cX8_note := by subst hV; rfl
  have ow : V.2.1.1.cls = RX8 := by subst hV; rfl
  have hr : V.2.2.1 = aw_rm 1 0 0 := by subst hV; rfl
  have hz : V.2.2.2 = aw_Z V.1 (fun rv h' => rv = none ∧ h' = (trH (B + 20) (B + 19) 1 h rn ([x]))) V.2.2.1 := by subst hV; rfl
  have hg : V.1 = g := by subst hV; rfl
  have hret : V.2.1.2.2.2 = none := by subst hV; rfl
  have hml : V.2.1.2.2.1 = 2 := by subst hV; rfl
  clear hV
  refine a_aload_n hb dX8_note_0 rfl 0 rfl ?_
  refine a_getI hb dX8_note_1 (by rw [ow]; exact fl_RX8_13_8) (hL.1 19 (by decide)) ?_
  rw [hrn]
  show AW V 0 0 h 4 [(0, .ref (B + 19)), (1, .int x)] [.int (nI rn)]
  refine a_aload_n hb dX8_note_4 rfl 0 rfl ?_
  refine a_getQ (q := (B + 20)) hb dX8_note_5 (by rw [ow]; exact fl_RX8_7_8) (hL.1 19 (by decide)) (hL.2.1 (19, 0, 20) (by decide)) ?_
  refine a_alenI (v := 20) hb dX8_note_8 (hL.1 20 (by decide)) (by decide) rfl ?_
  refine a_icmp_ge hb 22 dX8_note_9 (by decide) (fun c9 => absurd c9 (nI_ge (b := 20) (a := rn) (by omega) (by omega))) (fun c9 => ?_)
  refine a_aload_n hb dX8_note_12 rfl 0 rfl ?_
  refine a_getQ (q := (B + 20)) hb dX8_note_13 (by rw [ow]; exact fl_RX8_7_8) (hL.1 19 (by decide)) (hL.2.1 (19, 0, 20) (by decide)) ?_
  refine a_aload_n hb dX8_note_16 rfl 0 rfl ?_
  refine a_getI hb dX8_note_17 (by rw [ow]; exact fl_RX8_13_8) (hL.1 19 (by decide)) ?_
  rw [hrn]
  show AW V 0 0 h 20 [(0, .ref (B + 19)), (1, .int x)] [.int (nI rn), .ref (B + 20)]
  refine a_iload_n hb dX8_note_20 rfl 1 rfl ?_
  refine b_iast (j := rn) hb dX8_note_21 (hL.1 20 (by decide)) (IX.n (by omega)) (by omega) ?_
  refine a_aload_n hb dX8_note_22 rfl 0 rfl ?_
  refine a_dup hb dX8_note_23 rfl ?_
  refine a_getI hb dX8_note_24 (by rw [ow]; exact fl_RX8_13_8) (hL.1 19 (by decide)) ?_
  rw [hI_setI_n (by omega), hrn]
  show AW V 0 0 (setI h (B + 20) rn x) 27 [(0, .ref (B + 19)), (1, .int x)] [.int (nI rn), .ref (B + 19)]
  refine a_iconst (v := 1) hb dX8_note_27 (by decide) ?_
  refine a_iadd hb dX8_note_28 ?_
  refine a_putI (fty := .int) hb dX8_note_29 (by rw [ow]; exact fp_RX8_13_8) (Or.inr (fun C T N hq => by cases hq; rfl)) (hL.1 19 (by decide)) rfl rfl ?_
  exact a_return hb hz dX8_note_32 hret (by rw [hr]; exact Nat.le_of_ble_eq_true rfl) (by rw [hr]; exact Nat.le_of_ble_eq_true rfl) (⟨rfl, trH_1⟩)
set_option maxRecDepth 100000 in
theorem xd0 (g : GG) (h : AH) (B : Nat) (hL : LY h B) (rn : Nat) (hrn : hI h (B + 19) 1 = nI rn) (lrn : rn + 3 ≤ 20) (q : Nat) (hq : B + 62 ≤ q) (ht : hT h q = (2, 0)) (N Q : Int32) (hN0 : hI h q 0 = N) (hV : hI h q 4 = Q) (x : Int32) : AM g 2 0 0 mX2_draws [.ref q, .int x, .ref (B + 19)] h (fun rv h' => rv = some (.int ((acDA 0 N x).1)) ∧ h' = (trH (B + 20) (B + 19) 1 h rn ((acDA 0 N x).2))) := by
  refine AM.of [(0, .ref q), (1, .int x), (2, .ref (B + 19))] (by decide) (Nat.le_of_ble_eq_true rfl) rfl ?_
  intro V hV
  have hb : V.2.1.2.1 = cX2_draws := by subst hV; rfl
  have ow : V.2.1.1.cls = RX2 := by subst hV; rfl
  have hr : V.2.2.1 = aw_rm 2 0 0 := by subst hV; rfl
  have hz : V.2.2.2 = aw_Z V.1 (fun rv h' => rv = some (.int ((acDA 0 N x).1)) ∧ h' = (trH (B + 20) (B + 19) 1 h rn ((acDA 0 N x).2))) V.2.2.1 := by subst hV; rfl
  have hg : V.1 = g := by subst hV; rfl
  have hret : V.2.1.2.2.2 = (some .int) := by subst hV; rfl
  have hml : V.2.1.2.2.1 = 3 := by subst hV; rfl
  clear hV
  refine a_aload_n hb dX2_draws_0 rfl 2 rfl ?_
  refine a_iconst (v := 1) hb dX2_draws_1 (by decide) ?_
  refine a_callV hb dX2_draws_2 (by rw [hg]; exact x_note g h B hL rn hrn (by omega) 1) (by rw [ow]; exact clv_RX2_31) (hL.1 19 (by decide)) (by decide) rfl rfl rfl (Nat.le_of_ble_eq_true rfl) (by rw [hr]; exact ⟨by decide, by decide⟩) (by rw [hr]; exact ⟨Nat.le_of_ble_eq_true rfl, Nat.le_of_ble_eq_true rfl⟩) ?_
  intro rv h' hp
  rw [hp.1, hp.2]
  show AW V 0 0 (trH (B + 20) (B + 19) 1 h rn ([1])) 5 [(0, .ref q), (1, .int x), (2, .ref (B + 19))] []
  refine a_iload_n hb dX2_draws_5 rfl 1 rfl ?_
  refine a_aload_n hb dX2_draws_6 rfl 0 rfl ?_
  refine a_getI hb dX2_draws_7 (by rw [ow]; exact fl_RX2_7_2) (trH_k ht : hT (trH (B + 20) (B + 19) 1 h rn ([1])) q = (2, 0)) ?_
  rw [trH_n (by omega) (by omega), hN0]
  show AW V 0 0 (trH (B + 20) (B + 19) 1 h rn ([1])) 10 [(0, .ref q), (1, .int x), (2, .ref (B + 19))] [.int N, .int x]
  refine a_iadd hb dX2_draws_10 ?_
  exact a_ireturn (ty := .int) hb hz dX2_draws_11 hret rfl (by rw [hr]; exact Nat.le_of_ble_eq_true rfl) (by rw [hr]; exact Nat.le_of_ble_eq_true rfl) (⟨by rw [acDA_0]; rfl, by rw [acDA_0]; rfl⟩)
set_option maxRecDepth 100000 in
theorem xr0 (g : GG) (h : AH) (B : Nat) (hL : LY h B) (rn : Nat) (hrn : hI h (B + 19) 1 = nI rn) (lrn : rn + 5 ≤ 20) (q : Nat) (hq : B + 62 ≤ q) (ht : hT h q = (2, 0)) (N Q : Int32) (hN0 : hI h q 0 = N) (hV : hI h q 4 = Q) (x : Int32) : AM g 5 0 0 mX2_rises [.ref q, .int x, .ref (B + 19)] h (fun rv h' => rv = some (.int ((acRA 0 N Q x).1)) ∧ h' = (trH (B + 20) (B + 19) 1 h rn ((acRA 0 N Q x).2))) := by
  refine AM.of [(0, .ref q), (1, .int x), (2, .ref (B + 19))] (by decide) (Nat.le_of_ble_eq_true rfl) rfl ?_
  intro V hV
  have hb : V.2.1.2.1 = cX2_rises := by subst hV; rfl
  have ow : V.2.1.1.cls = RX2 := by subst hV; rfl
  have hr : V.2.2.1 = aw_rm 5 0 0 := by subst hV; rfl
  have hz : V.2.2.2 = aw_Z V.1 (fun rv h' => rv = some (.int ((acRA 0 N Q x).1)) ∧ h' = (trH (B + 20) (B + 19) 1 h rn ((acRA 0 N Q x).2))) V.2.2.1 := by subst hV; rfl
  have hg : V.1 = g := by subst hV; rfl
  have hret : V.2.1.2.2.2 = (some .int) := by subst hV; rfl
  have hml : V.2.1.2.2.1 = 3 := by subst hV; rfl
  clear hV
  refine a_aload_n hb dX2_rises_0 rfl 2 rfl ?_
  refine a_iconst (v := 2) hb dX2_rises_1 (by decide) ?_
  refine a_callV hb dX2_rises_2 (by rw [hg]; exact x_note g h B hL rn hrn (by omega) 2) (by rw [ow]; exact clv_RX2_31) (hL.1 19 (by decide)) (by decide) rfl rfl rfl (Nat.le_of_ble_eq_true rfl) (by rw [hr]; exact ⟨by decide, by decide⟩) (by rw [hr]; exact ⟨Nat.le_of_ble_eq_true rfl, Nat.le_of_ble_eq_true rfl⟩) ?_
  intro rv h' hp
  rw [hp.1, hp.2]
  show AW V 0 0 (trH (B + 20) (B + 19) 1 h rn ([2])) 5 [(0, .ref q), (1, .int x), (2, .ref (B + 19))] []
  refine a_aload_n hb dX2_rises_5 rfl 0 rfl ?_
  refine a_iload_n hb dX2_rises_6 rfl 1 rfl ?_
  refine a_aload_n hb dX2_rises_7 rfl 2 rfl ?_
  refine a_callU hb dX2_rises_8 (by rw [hg]; exact xd0 g (trH (B + 20) (B + 19) 1 h rn ([2])) B (LY.tr hL) (rn + ([2]).length) (trH_g (by omega)) (by simp only [List.length_append, List.length_cons, List.length_nil]; (try have q1 := @acT_l 0 N Q (x - 1)); omega) q hq (trH_k ht) N Q ((congrFun (trH_n (by omega) (by omega)) 0).trans hN0) ((congrFun (trH_n (by omega) (by omega)) 4).trans hV) x) (by rw [ow]; exact clu_RX2_37_2) (trH_k ht : hT (trH (B + 20) (B + 19) 1 h rn ([2])) q = (2, 0)) (by decide) rfl rfl rfl (Nat.le_of_ble_eq_true rfl) (by rw [hr]; exact ⟨by decide, by decide⟩) (by rw [hr]; exact ⟨Nat.le_of_ble_eq_true rfl, Nat.le_of_ble_eq_true rfl⟩) ?_
  intro rv h' hp
  rw [hp.1, hp.2]
  rw [trH_tr (by omega)]
  show AW V 0 0 (trH (B + 20) (B + 19) 1 h rn ([2] ++ (acDA 0 N x).2)) 11 [(0, .ref q), (1, .int x), (2, .ref (B + 19))] [.int ((acDA 0 N x).1)]
  refine a_aload_n hb dX2_rises_11 rfl 0 rfl ?_
  refine a_getI hb dX2_rises_12 (by rw [ow]; exact fl_RX2_22_2) (trH_k ht : hT (trH (B + 20) (B + 19) 1 h rn ([2] ++ (acDA 0 N x).2)) q = (2, 0)) ?_
  rw [trH_n (by omega) (by omega), hV]
  show AW V 0 0 (trH (B + 20) (B + 19) 1 h rn ([2] ++ (acDA 0 N x).2)) 15 [(0, .ref q), (1, .int x), (2, .ref (B + 19))] [.int Q, .int ((acDA 0 N x).1)]
  refine a_isub hb dX2_rises_15 ?_
  exact a_ireturn (ty := .int) hb hz dX2_rises_16 hret rfl (by rw [hr]; exact Nat.le_of_ble_eq_true rfl) (by rw [hr]; exact Nat.le_of_ble_eq_true rfl) (⟨by rw [acRA_0]; rfl, by rw [acRA_0]; rfl⟩)
set_option maxRecDepth 100000 in
theorem xt0 (g : GG) (h : AH) (B : Nat) (hL : LY h B) (rn : Nat) (hrn : hI h (B + 19) 1 = nI rn) (lrn : rn + 10 ≤ 20) (q : Nat) (hq : B + 62 ≤ q) (ht : hT h q = (2, 0)) (N Q : Int32) (hN0 : hI h q 0 = N) (hV : hI h q 4 = Q) (x : Int32) : AM g 7 0 0 mX2_tells [.ref q, .int x, .ref (B + 19)] h (fun rv h' => rv = some (.int ((acTA 0 N Q x).1)) ∧ h' = (trH (B + 20) (B + 19) 1 h rn ((acTA 0 N Q x).2))) := by
  refine AM.of [(0, .ref q), (1, .int x), (2, .ref (B + 19))] (by decide) (Nat.le_of_ble_eq_true rfl) rfl ?_
  intro V hV
  have hb : V.2.1.2.1 = cX2_tells := by subst hV; rfl
  have ow : V.2.1.1.cls = RX2 := by subst hV; rfl
  have hr : V.2.2.1 = aw_rm 7 0 0 := by subst hV; rfl
  have hz : V.2.2.2 = aw_Z V.1 (fun rv h' => rv = some (.int ((acTA 0 N Q x).1)) ∧ h' = (trH (B + 20) (B + 19) 1 h rn ((acTA 0 N Q x).2))) V.2.2.1 := by subst hV; rfl
  have hg : V.1 = g := by subst hV; rfl
  have hret : V.2.1.2.2.2 = (some .int) := by subst hV; rfl
  have hml : V.2.1.2.2.1 = 3 := by subst hV; rfl
  clear hV
  refine a_aload_n hb dX2_tells_0 rfl 2 rfl ?_
  refine a_iconst (v := 3) hb dX2_tells_1 (by decide) ?_
  refine a_callV hb dX2_tells_2 (by rw [hg]; exact x_note g h B hL rn hrn (by omega) 3) (by rw [ow]; exact clv_RX2_31) (hL.1 19 (by decide)) (by decide) rfl rfl rfl (Nat.le_of_ble_eq_true rfl) (by rw [hr]; exact ⟨by decide, by decide⟩) (by rw [hr]; exact ⟨Nat.le_of_ble_eq_true rfl, Nat.le_of_ble_eq_true rfl⟩) ?_
  intro rv h' hp
  rw [hp.1, hp.2]
  show AW V 0 0 (trH (B + 20) (B + 19) 1 h rn ([3])) 5 [(0, .ref q), (1, .int x), (2, .ref (B + 19))] []
  refine a_aload_n hb dX2_tells_5 rfl 0 rfl ?_
  refine a_iload_n hb dX2_tells_6 rfl 1 rfl ?_
  refine a_aload_n hb dX2_tells_7 rfl 2 rfl ?_
  refine a_callU hb dX2_tells_8 (by rw [hg]; exact xr0 g (trH (B + 20) (B + 19) 1 h rn ([3])) B (LY.tr hL) (rn + ([3]).length) (trH_g (by omega)) (by simp only [List.length_append, List.length_cons, List.length_nil]; (try have q1 := @acT_l 0 N Q (x - 1)); omega) q hq (trH_k ht) N Q ((congrFun (trH_n (by omega) (by omega)) 0).trans hN0) ((congrFun (trH_n (by omega) (by omega)) 4).trans hV) x) (by rw [ow]; exact clu_RX2_41_2) (trH_k ht : hT (trH (B + 20) (B + 19) 1 h rn ([3])) q = (2, 0)) (by decide) rfl rfl rfl (Nat.le_of_ble_eq_true rfl) (by rw [hr]; exact ⟨by decide, by decide⟩) (by rw [hr]; exact ⟨Nat.le_of_ble_eq_true rfl, Nat.le_of_ble_eq_true rfl⟩) ?_
  intro rv h' hp
  rw [hp.1, hp.2]
  rw [trH_tr (by omega)]
  show AW V 0 0 (trH (B + 20) (B + 19) 1 h rn ([3] ++ (acRA 0 N Q x).2)) 11 [(0, .ref q), (1, .int x), (2, .ref (B + 19))] [.int ((acRA 0 N Q x).1)]
  refine a_iconst (v := 2) hb dX2_tells_11 (by decide) ?_
  refine a_imul hb dX2_tells_12 ?_
  exact a_ireturn (ty := .int) hb hz dX2_tells_13 hret rfl (by rw [hr]; exact Nat.le_of_ble_eq_true rfl) (by rw [hr]; exact Nat.le_of_ble_eq_true rfl) (⟨by rw [acTA_0]; rfl, by rw [acTA_0]; rfl⟩)
set_option maxRecDepth 100000 in
theorem xe1 (g : GG) (h : AH) (B : Nat) (hL : LY h B) (rn : Nat) (hrn : hI h (B + 19) 1 = nI rn) (lrn : rn + 1 ≤ 20) (q : Nat) (hq : B + 62 ≤ q) (ht : hT h q = (9, 0)) (N Q : Int32) (hN0 : hI h q 0 = N) (hV : hI h q 4 = Q) (x : Int32) : AM g 2 0 0 mX2_draws [.ref q, .int x, .ref (B + 19)] h (fun rv h' => rv = some (.int ((acD N x).1)) ∧ h' = (trH (B + 20) (B + 19) 1 h rn ((acD N x).2))) := by
  refine AM.of [(0, .ref q), (1, .int x), (2, .ref (B + 19))] (by decide) (Nat.le_of_ble_eq_true rfl) rfl ?_
  intro V hV
  have hb : V.2.1.2.1 = cX2_draws := by subst hV; rfl
  have ow : V.2.1.1.cls = RX2 := by subst hV; rfl
  have hr : V.2.2.1 = aw_rm 2 0 0 := by subst hV; rfl
  have hz : V.2.2.2 = aw_Z V.1 (fun rv h' => rv = some (.int ((acD N x).1)) ∧ h' = (trH (B + 20) (B + 19) 1 h rn ((acD N x).2))) V.2.2.1 := by subst hV; rfl
  have hg : V.1 = g := by subst hV; rfl
  have hret : V.2.1.2.2.2 = (some .int) := by subst hV; rfl
  have hml : V.2.1.2.2.1 = 3 := by subst hV; rfl
  clear hV
  refine a_aload_n hb dX2_draws_0 rfl 2 rfl ?_
  refine a_iconst (v := 1) hb dX2_draws_1 (by decide) ?_
  refine a_callV hb dX2_draws_2 (by rw [hg]; exact x_note g h B hL rn hrn (by omega) 1) (by rw [ow]; exact clv_RX2_31) (hL.1 19 (by decide)) (by decide) rfl rfl rfl (Nat.le_of_ble_eq_true rfl) (by rw [hr]; exact ⟨by decide, by decide⟩) (by rw [hr]; exact ⟨Nat.le_of_ble_eq_true rfl, Nat.le_of_ble_eq_true rfl⟩) ?_
  intro rv h' hp
  rw [hp.1, hp.2]
  show AW V 0 0 (trH (B + 20) (B + 19) 1 h rn ([1])) 5 [(0, .ref q), (1, .int x), (2, .ref (B + 19))] []
  refine a_iload_n hb dX2_draws_5 rfl 1 rfl ?_
  refine a_aload_n hb dX2_draws_6 rfl 0 rfl ?_
  refine a_getI hb dX2_draws_7 (by rw [ow]; exact fl_RX2_7_9) (trH_k ht : hT (trH (B + 20) (B + 19) 1 h rn ([1])) q = (9, 0)) ?_
  rw [trH_n (by omega) (by omega), hN0]
  show AW V 0 0 (trH (B + 20) (B + 19) 1 h rn ([1])) 10 [(0, .ref q), (1, .int x), (2, .ref (B + 19))] [.int N, .int x]
  refine a_iadd hb dX2_draws_10 ?_
  exact a_ireturn (ty := .int) hb hz dX2_draws_11 hret rfl (by rw [hr]; exact Nat.le_of_ble_eq_true rfl) (by rw [hr]; exact Nat.le_of_ble_eq_true rfl) (⟨rfl, rfl⟩)
set_option maxRecDepth 100000 in
theorem xd1 (g : GG) (h : AH) (B : Nat) (hL : LY h B) (rn : Nat) (hrn : hI h (B + 19) 1 = nI rn) (lrn : rn + 3 ≤ 20) (q : Nat) (hq : B + 62 ≤ q) (ht : hT h q = (9, 0)) (N Q : Int32) (hN0 : hI h q 0 = N) (hV : hI h q 4 = Q) (x : Int32) : AM g 3 0 0 mX9_draws [.ref q, .int x, .ref (B + 19)] h (fun rv h' => rv = some (.int ((acDA 1 N x).1)) ∧ h' = (trH (B + 20) (B + 19) 1 h rn ((acDA 1 N x).2))) := by
  refine AM.of [(0, .ref q), (1, .int x), (2, .ref (B + 19))] (by decide) (Nat.le_of_ble_eq_true rfl) rfl ?_
  intro V hV
  have hb : V.2.1.2.1 = cX9_draws := by subst hV; rfl
  have ow : V.2.1.1.cls = RX9 := by subst hV; rfl
  have hr : V.2.2.1 = aw_rm 3 0 0 := by subst hV; rfl
  have hz : V.2.2.2 = aw_Z V.1 (fun rv h' => rv = some (.int ((acDA 1 N x).1)) ∧ h' = (trH (B + 20) (B + 19) 1 h rn ((acDA 1 N x).2))) V.2.2.1 := by subst hV; rfl
  have hg : V.1 = g := by subst hV; rfl
  have hret : V.2.1.2.2.2 = (some .int) := by subst hV; rfl
  have hml : V.2.1.2.2.1 = 3 := by subst hV; rfl
  clear hV
  refine a_aload_n hb dX9_draws_0 rfl 2 rfl ?_
  refine a_bipush (v := 11) hb dX9_draws_1 (by decide) ?_
  refine a_callV hb dX9_draws_3 (by rw [hg]; exact x_note g h B hL rn hrn (by omega) 11) (by rw [ow]; exact clv_RX9_7) (hL.1 19 (by decide)) (by decide) rfl rfl rfl (Nat.le_of_ble_eq_true rfl) (by rw [hr]; exact ⟨by decide, by decide⟩) (by rw [hr]; exact ⟨Nat.le_of_ble_eq_true rfl, Nat.le_of_ble_eq_true rfl⟩) ?_
  intro rv h' hp
  rw [hp.1, hp.2]
  show AW V 0 0 (trH (B + 20) (B + 19) 1 h rn ([11])) 6 [(0, .ref q), (1, .int x), (2, .ref (B + 19))] []
  refine a_aload_n hb dX9_draws_6 rfl 0 rfl ?_
  refine a_iload_n hb dX9_draws_7 rfl 1 rfl ?_
  refine a_iconst (v := 3) hb dX9_draws_8 (by decide) ?_
  refine a_imul hb dX9_draws_9 ?_
  refine a_aload_n hb dX9_draws_10 rfl 2 rfl ?_
  refine a_callP hb dX9_draws_11 (by rw [hg]; exact xe1 g (trH (B + 20) (B + 19) 1 h rn ([11])) B (LY.tr hL) (rn + ([11]).length) (trH_g (by omega)) (by simp only [List.length_append, List.length_cons, List.length_nil]; (try have q1 := @acT_l 1 N Q (x - 1)); omega) q hq (trH_k ht) N Q ((congrFun (trH_n (by omega) (by omega)) 0).trans hN0) ((congrFun (trH_n (by omega) (by omega)) 4).trans hV) (x * 3)) (by rw [ow]; exact clp_RX9_13) (trH_k ht : hT (trH (B + 20) (B + 19) 1 h rn ([11])) q = (9, 0)) (by decide) rfl rfl rfl (Nat.le_of_ble_eq_true rfl) (by rw [hr]; exact ⟨by decide, by decide⟩) (by rw [hr]; exact ⟨Nat.le_of_ble_eq_true rfl, Nat.le_of_ble_eq_true rfl⟩) ?_
  intro rv h' hp
  rw [hp.1, hp.2]
  rw [trH_tr (by omega)]
  show AW V 0 0 (trH (B + 20) (B + 19) 1 h rn ([11] ++ (acD N (x * 3)).2)) 14 [(0, .ref q), (1, .int x), (2, .ref (B + 19))] [.int ((acD N (x * 3)).1)]
  exact a_ireturn (ty := .int) hb hz dX9_draws_14 hret rfl (by rw [hr]; exact Nat.le_of_ble_eq_true rfl) (by rw [hr]; exact Nat.le_of_ble_eq_true rfl) (⟨by rw [acDA_1]; rfl, by rw [acDA_1]; rfl⟩)
set_option maxRecDepth 100000 in
theorem xr1 (g : GG) (h : AH) (B : Nat) (hL : LY h B) (rn : Nat) (hrn : hI h (B + 19) 1 = nI rn) (lrn : rn + 5 ≤ 20) (q : Nat) (hq : B + 62 ≤ q) (ht : hT h q = (9, 0)) (N Q : Int32) (hN0 : hI h q 0 = N) (hV : hI h q 4 = Q) (x : Int32) : AM g 5 0 0 mX2_rises [.ref q, .int x, .ref (B + 19)] h (fun rv h' => rv = some (.int ((acRA 1 N Q x).1)) ∧ h' = (trH (B + 20) (B + 19) 1 h rn ((acRA 1 N Q x).2))) := by
  refine AM.of [(0, .ref q), (1, .int x), (2, .ref (B + 19))] (by decide) (Nat.le_of_ble_eq_true rfl) rfl ?_
  intro V hV
  have hb : V.2.1.2.1 = cX2_rises := by subst hV; rfl
  have ow : V.2.1.1.cls = RX2 := by subst hV; rfl
  have hr : V.2.2.1 = aw_rm 5 0 0 := by subst hV; rfl
  have hz : V.2.2.2 = aw_Z V.1 (fun rv h' => rv = some (.int ((acRA 1 N Q x).1)) ∧ h' = (trH (B + 20) (B + 19) 1 h rn ((acRA 1 N Q x).2))) V.2.2.1 := by subst hV; rfl
  have hg : V.1 = g := by subst hV; rfl
  have hret : V.2.1.2.2.2 = (some .int) := by subst hV; rfl
  have hml : V.2.1.2.2.1 = 3 := by subst hV; rfl
  clear hV
  refine a_aload_n hb dX2_rises_0 rfl 2 rfl ?_
  refine a_iconst (v := 2) hb dX2_rises_1 (by decide) ?_
  refine a_callV hb dX2_rises_2 (by rw [hg]; exact x_note g h B hL rn hrn (by omega) 2) (by rw [ow]; exact clv_RX2_31) (hL.1 19 (by decide)) (by decide) rfl rfl rfl (Nat.le_of_ble_eq_true rfl) (by rw [hr]; exact ⟨by decide, by decide⟩) (by rw [hr]; exact ⟨Nat.le_of_ble_eq_true rfl, Nat.le_of_ble_eq_true rfl⟩) ?_
  intro rv h' hp
  rw [hp.1, hp.2]
  show AW V 0 0 (trH (B + 20) (B + 19) 1 h rn ([2])) 5 [(0, .ref q), (1, .int x), (2, .ref (B + 19))] []
  refine a_aload_n hb dX2_rises_5 rfl 0 rfl ?_
  refine a_iload_n hb dX2_rises_6 rfl 1 rfl ?_
  refine a_aload_n hb dX2_rises_7 rfl 2 rfl ?_
  refine a_callU hb dX2_rises_8 (by rw [hg]; exact xd1 g (trH (B + 20) (B + 19) 1 h rn ([2])) B (LY.tr hL) (rn + ([2]).length) (trH_g (by omega)) (by simp only [List.length_append, List.length_cons, List.length_nil]; (try have q1 := @acT_l 1 N Q (x - 1)); omega) q hq (trH_k ht) N Q ((congrFun (trH_n (by omega) (by omega)) 0).trans hN0) ((congrFun (trH_n (by omega) (by omega)) 4).trans hV) x) (by rw [ow]; exact clu_RX2_37_9) (trH_k ht : hT (trH (B + 20) (B + 19) 1 h rn ([2])) q = (9, 0)) (by decide) rfl rfl rfl (Nat.le_of_ble_eq_true rfl) (by rw [hr]; exact ⟨by decide, by decide⟩) (by rw [hr]; exact ⟨Nat.le_of_ble_eq_true rfl, Nat.le_of_ble_eq_true rfl⟩) ?_
  intro rv h' hp
  rw [hp.1, hp.2]
  rw [trH_tr (by omega)]
  show AW V 0 0 (trH (B + 20) (B + 19) 1 h rn ([2] ++ (acDA 1 N x).2)) 11 [(0, .ref q), (1, .int x), (2, .ref (B + 19))] [.int ((acDA 1 N x).1)]
  refine a_aload_n hb dX2_rises_11 rfl 0 rfl ?_
  refine a_getI hb dX2_rises_12 (by rw [ow]; exact fl_RX2_22_9) (trH_k ht : hT (trH (B + 20) (B + 19) 1 h rn ([2] ++ (acDA 1 N x).2)) q = (9, 0)) ?_
  rw [trH_n (by omega) (by omega), hV]
  show AW V 0 0 (trH (B + 20) (B + 19) 1 h rn ([2] ++ (acDA 1 N x).2)) 15 [(0, .ref q), (1, .int x), (2, .ref (B + 19))] [.int Q, .int ((acDA 1 N x).1)]
  refine a_isub hb dX2_rises_15 ?_
  exact a_ireturn (ty := .int) hb hz dX2_rises_16 hret rfl (by rw [hr]; exact Nat.le_of_ble_eq_true rfl) (by rw [hr]; exact Nat.le_of_ble_eq_true rfl) (⟨by rw [acRA_1]; rfl, by rw [acRA_1]; rfl⟩)
set_option maxRecDepth 100000 in
theorem xt1 (g : GG) (h : AH) (B : Nat) (hL : LY h B) (rn : Nat) (hrn : hI h (B + 19) 1 = nI rn) (lrn : rn + 10 ≤ 20) (q : Nat) (hq : B + 62 ≤ q) (ht : hT h q = (9, 0)) (N Q : Int32) (hN0 : hI h q 0 = N) (hV : hI h q 4 = Q) (x : Int32) : AM g 7 0 0 mX2_tells [.ref q, .int x, .ref (B + 19)] h (fun rv h' => rv = some (.int ((acTA 1 N Q x).1)) ∧ h' = (trH (B + 20) (B + 19) 1 h rn ((acTA 1 N Q x).2))) := by
  refine AM.of [(0, .ref q), (1, .int x), (2, .ref (B + 19))] (by decide) (Nat.le_of_ble_eq_true rfl) rfl ?_
  intro V hV
  have hb : V.2.1.2.1 = cX2_tells := by subst hV; rfl
  have ow : V.2.1.1.cls = RX2 := by subst hV; rfl
  have hr : V.2.2.1 = aw_rm 7 0 0 := by subst hV; rfl
  have hz : V.2.2.2 = aw_Z V.1 (fun rv h' => rv = some (.int ((acTA 1 N Q x).1)) ∧ h' = (trH (B + 20) (B + 19) 1 h rn ((acTA 1 N Q x).2))) V.2.2.1 := by subst hV; rfl
  have hg : V.1 = g := by subst hV; rfl
  have hret : V.2.1.2.2.2 = (some .int) := by subst hV; rfl
  have hml : V.2.1.2.2.1 = 3 := by subst hV; rfl
  clear hV
  refine a_aload_n hb dX2_tells_0 rfl 2 rfl ?_
  refine a_iconst (v := 3) hb dX2_tells_1 (by decide) ?_
  refine a_callV hb dX2_tells_2 (by rw [hg]; exact x_note g h B hL rn hrn (by omega) 3) (by rw [ow]; exact clv_RX2_31) (hL.1 19 (by decide)) (by decide) rfl rfl rfl (Nat.le_of_ble_eq_true rfl) (by rw [hr]; exact ⟨by decide, by decide⟩) (by rw [hr]; exact ⟨Nat.le_of_ble_eq_true rfl, Nat.le_of_ble_eq_true rfl⟩) ?_
  intro rv h' hp
  rw [hp.1, hp.2]
  show AW V 0 0 (trH (B + 20) (B + 19) 1 h rn ([3])) 5 [(0, .ref q), (1, .int x), (2, .ref (B + 19))] []
  refine a_aload_n hb dX2_tells_5 rfl 0 rfl ?_
  refine a_iload_n hb dX2_tells_6 rfl 1 rfl ?_
  refine a_aload_n hb dX2_tells_7 rfl 2 rfl ?_
  refine a_callU hb dX2_tells_8 (by rw [hg]; exact xr1 g (trH (B + 20) (B + 19) 1 h rn ([3])) B (LY.tr hL) (rn + ([3]).length) (trH_g (by omega)) (by simp only [List.length_append, List.length_cons, List.length_nil]; (try have q1 := @acT_l 1 N Q (x - 1)); omega) q hq (trH_k ht) N Q ((congrFun (trH_n (by omega) (by omega)) 0).trans hN0) ((congrFun (trH_n (by omega) (by omega)) 4).trans hV) x) (by rw [ow]; exact clu_RX2_41_9) (trH_k ht : hT (trH (B + 20) (B + 19) 1 h rn ([3])) q = (9, 0)) (by decide) rfl rfl rfl (Nat.le_of_ble_eq_true rfl) (by rw [hr]; exact ⟨by decide, by decide⟩) (by rw [hr]; exact ⟨Nat.le_of_ble_eq_true rfl, Nat.le_of_ble_eq_true rfl⟩) ?_
  intro rv h' hp
  rw [hp.1, hp.2]
  rw [trH_tr (by omega)]
  show AW V 0 0 (trH (B + 20) (B + 19) 1 h rn ([3] ++ (acRA 1 N Q x).2)) 11 [(0, .ref q), (1, .int x), (2, .ref (B + 19))] [.int ((acRA 1 N Q x).1)]
  refine a_iconst (v := 2) hb dX2_tells_11 (by decide) ?_
  refine a_imul hb dX2_tells_12 ?_
  exact a_ireturn (ty := .int) hb hz dX2_tells_13 hret rfl (by rw [hr]; exact Nat.le_of_ble_eq_true rfl) (by rw [hr]; exact Nat.le_of_ble_eq_true rfl) (⟨by rw [acTA_1]; rfl, by rw [acTA_1]; rfl⟩)
set_option maxRecDepth 100000 in
theorem xe2 (g : GG) (h : AH) (B : Nat) (hL : LY h B) (rn : Nat) (hrn : hI h (B + 19) 1 = nI rn) (lrn : rn + 1 ≤ 20) (q : Nat) (hq : B + 62 ≤ q) (ht : hT h q = (0, 0)) (N Q : Int32) (hN0 : hI h q 0 = N) (hV : hI h q 4 = Q) (x : Int32) : AM g 2 0 0 mX2_draws [.ref q, .int x, .ref (B + 19)] h (fun rv h' => rv = some (.int ((acD N x).1)) ∧ h' = (trH (B + 20) (B + 19) 1 h rn ((acD N x).2))) := by
  refine AM.of [(0, .ref q), (1, .int x), (2, .ref (B + 19))] (by decide) (Nat.le_of_ble_eq_true rfl) rfl ?_
  intro V hV
  have hb : V.2.1.2.1 = cX2_draws := by subst hV; rfl
  have ow : V.2.1.1.cls = RX2 := by subst hV; rfl
  have hr : V.2.2.1 = aw_rm 2 0 0 := by subst hV; rfl
  have hz : V.2.2.2 = aw_Z V.1 (fun rv h' => rv = some (.int ((acD N x).1)) ∧ h' = (trH (B + 20) (B + 19) 1 h rn ((acD N x).2))) V.2.2.1 := by subst hV; rfl
  have hg : V.1 = g := by subst hV; rfl
  have hret : V.2.1.2.2.2 = (some .int) := by subst hV; rfl
  have hml : V.2.1.2.2.1 = 3 := by subst hV; rfl
  clear hV
  refine a_aload_n hb dX2_draws_0 rfl 2 rfl ?_
  refine a_iconst (v := 1) hb dX2_draws_1 (by decide) ?_
  refine a_callV hb dX2_draws_2 (by rw [hg]; exact x_note g h B hL rn hrn (by omega) 1) (by rw [ow]; exact clv_RX2_31) (hL.1 19 (by decide)) (by decide) rfl rfl rfl (Nat.le_of_ble_eq_true rfl) (by rw [hr]; exact ⟨by decide, by decide⟩) (by rw [hr]; exact ⟨Nat.le_of_ble_eq_true rfl, Nat.le_of_ble_eq_true rfl⟩) ?_
  intro rv h' hp
  rw [hp.1, hp.2]
  show AW V 0 0 (trH (B + 20) (B + 19) 1 h rn ([1])) 5 [(0, .ref q), (1, .int x), (2, .ref (B + 19))] []
  refine a_iload_n hb dX2_draws_5 rfl 1 rfl ?_
  refine a_aload_n hb dX2_draws_6 rfl 0 rfl ?_
  refine a_getI hb dX2_draws_7 (by rw [ow]; exact fl_RX2_7_0) (trH_k ht : hT (trH (B + 20) (B + 19) 1 h rn ([1])) q = (0, 0)) ?_
  rw [trH_n (by omega) (by omega), hN0]
  show AW V 0 0 (trH (B + 20) (B + 19) 1 h rn ([1])) 10 [(0, .ref q), (1, .int x), (2, .ref (B + 19))] [.int N, .int x]
  refine a_iadd hb dX2_draws_10 ?_
  exact a_ireturn (ty := .int) hb hz dX2_draws_11 hret rfl (by rw [hr]; exact Nat.le_of_ble_eq_true rfl) (by rw [hr]; exact Nat.le_of_ble_eq_true rfl) (⟨rfl, rfl⟩)
set_option maxRecDepth 100000 in
theorem xd2 (g : GG) (h : AH) (B : Nat) (hL : LY h B) (rn : Nat) (hrn : hI h (B + 19) 1 = nI rn) (lrn : rn + 3 ≤ 20) (q : Nat) (hq : B + 62 ≤ q) (ht : hT h q = (0, 0)) (N Q : Int32) (hN0 : hI h q 0 = N) (hV : hI h q 4 = Q) (x : Int32) : AM g 3 0 0 mX9_draws [.ref q, .int x, .ref (B + 19)] h (fun rv h' => rv = some (.int ((acDA 2 N x).1)) ∧ h' = (trH (B + 20) (B + 19) 1 h rn ((acDA 2 N x).2))) := by
  refine AM.of [(0, .ref q), (1, .int x), (2, .ref (B + 19))] (by decide) (Nat.le_of_ble_eq_true rfl) rfl ?_
  intro V hV
  have hb : V.2.1.2.1 = cX9_draws := by subst hV; rfl
  have ow : V.2.1.1.cls = RX9 := by subst hV; rfl
  have hr : V.2.2.1 = aw_rm 3 0 0 := by subst hV; rfl
  have hz : V.2.2.2 = aw_Z V.1 (fun rv h' => rv = some (.int ((acDA 2 N x).1)) ∧ h' = (trH (B + 20) (B + 19) 1 h rn ((acDA 2 N x).2))) V.2.2.1 := by subst hV; rfl
  have hg : V.1 = g := by subst hV; rfl
  have hret : V.2.1.2.2.2 = (some .int) := by subst hV; rfl
  have hml : V.2.1.2.2.1 = 3 := by subst hV; rfl
  clear hV
  refine a_aload_n hb dX9_draws_0 rfl 2 rfl ?_
  refine a_bipush (v := 11) hb dX9_draws_1 (by decide) ?_
  refine a_callV hb dX9_draws_3 (by rw [hg]; exact x_note g h B hL rn hrn (by omega) 11) (by rw [ow]; exact clv_RX9_7) (hL.1 19 (by decide)) (by decide) rfl rfl rfl (Nat.le_of_ble_eq_true rfl) (by rw [hr]; exact ⟨by decide, by decide⟩) (by rw [hr]; exact ⟨Nat.le_of_ble_eq_true rfl, Nat.le_of_ble_eq_true rfl⟩) ?_
  intro rv h' hp
  rw [hp.1, hp.2]
  show AW V 0 0 (trH (B + 20) (B + 19) 1 h rn ([11])) 6 [(0, .ref q), (1, .int x), (2, .ref (B + 19))] []
  refine a_aload_n hb dX9_draws_6 rfl 0 rfl ?_
  refine a_iload_n hb dX9_draws_7 rfl 1 rfl ?_
  refine a_iconst (v := 3) hb dX9_draws_8 (by decide) ?_
  refine a_imul hb dX9_draws_9 ?_
  refine a_aload_n hb dX9_draws_10 rfl 2 rfl ?_
  refine a_callP hb dX9_draws_11 (by rw [hg]; exact xe2 g (trH (B + 20) (B + 19) 1 h rn ([11])) B (LY.tr hL) (rn + ([11]).length) (trH_g (by omega)) (by simp only [List.length_append, List.length_cons, List.length_nil]; (try have q1 := @acT_l 2 N Q (x - 1)); omega) q hq (trH_k ht) N Q ((congrFun (trH_n (by omega) (by omega)) 0).trans hN0) ((congrFun (trH_n (by omega) (by omega)) 4).trans hV) (x * 3)) (by rw [ow]; exact clp_RX9_13) (trH_k ht : hT (trH (B + 20) (B + 19) 1 h rn ([11])) q = (0, 0)) (by decide) rfl rfl rfl (Nat.le_of_ble_eq_true rfl) (by rw [hr]; exact ⟨by decide, by decide⟩) (by rw [hr]; exact ⟨Nat.le_of_ble_eq_true rfl, Nat.le_of_ble_eq_true rfl⟩) ?_
  intro rv h' hp
  rw [hp.1, hp.2]
  rw [trH_tr (by omega)]
  show AW V 0 0 (trH (B + 20) (B + 19) 1 h rn ([11] ++ (acD N (x * 3)).2)) 14 [(0, .ref q), (1, .int x), (2, .ref (B + 19))] [.int ((acD N (x * 3)).1)]
  exact a_ireturn (ty := .int) hb hz dX9_draws_14 hret rfl (by rw [hr]; exact Nat.le_of_ble_eq_true rfl) (by rw [hr]; exact Nat.le_of_ble_eq_true rfl) (⟨by rw [acDA_2]; rfl, by rw [acDA_2]; rfl⟩)
set_option maxRecDepth 100000 in
theorem xr2 (g : GG) (h : AH) (B : Nat) (hL : LY h B) (rn : Nat) (hrn : hI h (B + 19) 1 = nI rn) (lrn : rn + 5 ≤ 20) (q : Nat) (hq : B + 62 ≤ q) (ht : hT h q = (0, 0)) (N Q : Int32) (hN0 : hI h q 0 = N) (hV : hI h q 4 = Q) (x : Int32) : AM g 5 0 0 mX2_rises [.ref q, .int x, .ref (B + 19)] h (fun rv h' => rv = some (.int ((acRA 2 N Q x).1)) ∧ h' = (trH (B + 20) (B + 19) 1 h rn ((acRA 2 N Q x).2))) := by
  refine AM.of [(0, .ref q), (1, .int x), (2, .ref (B + 19))] (by decide) (Nat.le_of_ble_eq_true rfl) rfl ?_
  intro V hV
  have hb : V.2.1.2.1 = cX2_rises := by subst hV; rfl
  have ow : V.2.1.1.cls = RX2 := by subst hV; rfl
  have hr : V.2.2.1 = aw_rm 5 0 0 := by subst hV; rfl
  have hz : V.2.2.2 = aw_Z V.1 (fun rv h' => rv = some (.int ((acRA 2 N Q x).1)) ∧ h' = (trH (B + 20) (B + 19) 1 h rn ((acRA 2 N Q x).2))) V.2.2.1 := by subst hV; rfl
  have hg : V.1 = g := by subst hV; rfl
  have hret : V.2.1.2.2.2 = (some .int) := by subst hV; rfl
  have hml : V.2.1.2.2.1 = 3 := by subst hV; rfl
  clear hV
  refine a_aload_n hb dX2_rises_0 rfl 2 rfl ?_
  refine a_iconst (v := 2) hb dX2_rises_1 (by decide) ?_
  refine a_callV hb dX2_rises_2 (by rw [hg]; exact x_note g h B hL rn hrn (by omega) 2) (by rw [ow]; exact clv_RX2_31) (hL.1 19 (by decide)) (by decide) rfl rfl rfl (Nat.le_of_ble_eq_true rfl) (by rw [hr]; exact ⟨by decide, by decide⟩) (by rw [hr]; exact ⟨Nat.le_of_ble_eq_true rfl, Nat.le_of_ble_eq_true rfl⟩) ?_
  intro rv h' hp
  rw [hp.1, hp.2]
  show AW V 0 0 (trH (B + 20) (B + 19) 1 h rn ([2])) 5 [(0, .ref q), (1, .int x), (2, .ref (B + 19))] []
  refine a_aload_n hb dX2_rises_5 rfl 0 rfl ?_
  refine a_iload_n hb dX2_rises_6 rfl 1 rfl ?_
  refine a_aload_n hb dX2_rises_7 rfl 2 rfl ?_
  refine a_callU hb dX2_rises_8 (by rw [hg]; exact xd2 g (trH (B + 20) (B + 19) 1 h rn ([2])) B (LY.tr hL) (rn + ([2]).length) (trH_g (by omega)) (by simp only [List.length_append, List.length_cons, List.length_nil]; (try have q1 := @acT_l 2 N Q (x - 1)); omega) q hq (trH_k ht) N Q ((congrFun (trH_n (by omega) (by omega)) 0).trans hN0) ((congrFun (trH_n (by omega) (by omega)) 4).trans hV) x) (by rw [ow]; exact clu_RX2_37_0) (trH_k ht : hT (trH (B + 20) (B + 19) 1 h rn ([2])) q = (0, 0)) (by decide) rfl rfl rfl (Nat.le_of_ble_eq_true rfl) (by rw [hr]; exact ⟨by decide, by decide⟩) (by rw [hr]; exact ⟨Nat.le_of_ble_eq_true rfl, Nat.le_of_ble_eq_true rfl⟩) ?_
  intro rv h' hp
  rw [hp.1, hp.2]
  rw [trH_tr (by omega)]
  show AW V 0 0 (trH (B + 20) (B + 19) 1 h rn ([2] ++ (acDA 2 N x).2)) 11 [(0, .ref q), (1, .int x), (2, .ref (B + 19))] [.int ((acDA 2 N x).1)]
  refine a_aload_n hb dX2_rises_11 rfl 0 rfl ?_
  refine a_getI hb dX2_rises_12 (by rw [ow]; exact fl_RX2_22_0) (trH_k ht : hT (trH (B + 20) (B + 19) 1 h rn ([2] ++ (acDA 2 N x).2)) q = (0, 0)) ?_
  rw [trH_n (by omega) (by omega), hV]
  show AW V 0 0 (trH (B + 20) (B + 19) 1 h rn ([2] ++ (acDA 2 N x).2)) 15 [(0, .ref q), (1, .int x), (2, .ref (B + 19))] [.int Q, .int ((acDA 2 N x).1)]
  refine a_isub hb dX2_rises_15 ?_
  exact a_ireturn (ty := .int) hb hz dX2_rises_16 hret rfl (by rw [hr]; exact Nat.le_of_ble_eq_true rfl) (by rw [hr]; exact Nat.le_of_ble_eq_true rfl) (⟨by rw [acRA_2]; rfl, by rw [acRA_2]; rfl⟩)
set_option maxRecDepth 100000 in
theorem xu2 (g : GG) (h : AH) (B : Nat) (hL : LY h B) (rn : Nat) (hrn : hI h (B + 19) 1 = nI rn) (lrn : rn + 6 ≤ 20) (q : Nat) (hq : B + 62 ≤ q) (ht : hT h q = (0, 0)) (N Q : Int32) (hN0 : hI h q 0 = N) (hV : hI h q 4 = Q) (x : Int32) : AM g 7 0 0 mX2_tells [.ref q, .int x, .ref (B + 19)] h (fun rv h' => rv = some (.int ((acT 2 N Q x).1)) ∧ h' = (trH (B + 20) (B + 19) 1 h rn ((acT 2 N Q x).2))) := by
  refine AM.of [(0, .ref q), (1, .int x), (2, .ref (B + 19))] (by decide) (Nat.le_of_ble_eq_true rfl) rfl ?_
  intro V hV
  have hb : V.2.1.2.1 = cX2_tells := by subst hV; rfl
  have ow : V.2.1.1.cls = RX2 := by subst hV; rfl
  have hr : V.2.2.1 = aw_rm 7 0 0 := by subst hV; rfl
  have hz : V.2.2.2 = aw_Z V.1 (fun rv h' => rv = some (.int ((acT 2 N Q x).1)) ∧ h' = (trH (B + 20) (B + 19) 1 h rn ((acT 2 N Q x).2))) V.2.2.1 := by subst hV; rfl
  have hg : V.1 = g := by subst hV; rfl
  have hret : V.2.1.2.2.2 = (some .int) := by subst hV; rfl
  have hml : V.2.1.2.2.1 = 3 := by subst hV; rfl
  clear hV
  refine a_aload_n hb dX2_tells_0 rfl 2 rfl ?_
  refine a_iconst (v := 3) hb dX2_tells_1 (by decide) ?_
  refine a_callV hb dX2_tells_2 (by rw [hg]; exact x_note g h B hL rn hrn (by omega) 3) (by rw [ow]; exact clv_RX2_31) (hL.1 19 (by decide)) (by decide) rfl rfl rfl (Nat.le_of_ble_eq_true rfl) (by rw [hr]; exact ⟨by decide, by decide⟩) (by rw [hr]; exact ⟨Nat.le_of_ble_eq_true rfl, Nat.le_of_ble_eq_true rfl⟩) ?_
  intro rv h' hp
  rw [hp.1, hp.2]
  show AW V 0 0 (trH (B + 20) (B + 19) 1 h rn ([3])) 5 [(0, .ref q), (1, .int x), (2, .ref (B + 19))] []
  refine a_aload_n hb dX2_tells_5 rfl 0 rfl ?_
  refine a_iload_n hb dX2_tells_6 rfl 1 rfl ?_
  refine a_aload_n hb dX2_tells_7 rfl 2 rfl ?_
  refine a_callU hb dX2_tells_8 (by rw [hg]; exact xr2 g (trH (B + 20) (B + 19) 1 h rn ([3])) B (LY.tr hL) (rn + ([3]).length) (trH_g (by omega)) (by simp only [List.length_append, List.length_cons, List.length_nil]; (try have q1 := @acT_l 2 N Q (x - 1)); omega) q hq (trH_k ht) N Q ((congrFun (trH_n (by omega) (by omega)) 0).trans hN0) ((congrFun (trH_n (by omega) (by omega)) 4).trans hV) x) (by rw [ow]; exact clu_RX2_41_0) (trH_k ht : hT (trH (B + 20) (B + 19) 1 h rn ([3])) q = (0, 0)) (by decide) rfl rfl rfl (Nat.le_of_ble_eq_true rfl) (by rw [hr]; exact ⟨by decide, by decide⟩) (by rw [hr]; exact ⟨Nat.le_of_ble_eq_true rfl, Nat.le_of_ble_eq_true rfl⟩) ?_
  intro rv h' hp
  rw [hp.1, hp.2]
  rw [trH_tr (by omega)]
  show AW V 0 0 (trH (B + 20) (B + 19) 1 h rn ([3] ++ (acRA 2 N Q x).2)) 11 [(0, .ref q), (1, .int x), (2, .ref (B + 19))] [.int ((acRA 2 N Q x).1)]
  refine a_iconst (v := 2) hb dX2_tells_11 (by decide) ?_
  refine a_imul hb dX2_tells_12 ?_
  exact a_ireturn (ty := .int) hb hz dX2_tells_13 hret rfl (by rw [hr]; exact Nat.le_of_ble_eq_true rfl) (by rw [hr]; exact Nat.le_of_ble_eq_true rfl) (⟨rfl, rfl⟩)
set_option maxRecDepth 100000 in
theorem xt2 (g : GG) (h : AH) (B : Nat) (hL : LY h B) (rn : Nat) (hrn : hI h (B + 19) 1 = nI rn) (lrn : rn + 10 ≤ 20) (q : Nat) (hq : B + 62 ≤ q) (ht : hT h q = (0, 0)) (N Q : Int32) (hN0 : hI h q 0 = N) (hV : hI h q 4 = Q) (x : Int32) : AM g 8 0 0 mX0_tells [.ref q, .int x, .ref (B + 19)] h (fun rv h' => rv = some (.int ((acTA 2 N Q x).1)) ∧ h' = (trH (B + 20) (B + 19) 1 h rn ((acTA 2 N Q x).2))) := by
  refine AM.of [(0, .ref q), (1, .int x), (2, .ref (B + 19))] (by decide) (Nat.le_of_ble_eq_true rfl) rfl ?_
  intro V hV
  have hb : V.2.1.2.1 = cX0_tells := by subst hV; rfl
  have ow : V.2.1.1.cls = RX0 := by subst hV; rfl
  have hr : V.2.2.1 = aw_rm 8 0 0 := by subst hV; rfl
  have hz : V.2.2.2 = aw_Z V.1 (fun rv h' => rv = some (.int ((acTA 2 N Q x).1)) ∧ h' = (trH (B + 20) (B + 19) 1 h rn ((acTA 2 N Q x).2))) V.2.2.1 := by subst hV; rfl
  have hg : V.1 = g := by subst hV; rfl
  have hret : V.2.1.2.2.2 = (some .int) := by subst hV; rfl
  have hml : V.2.1.2.2.1 = 3 := by subst hV; rfl
  clear hV
  refine a_aload_n hb dX0_tells_0 rfl 2 rfl ?_
  refine a_bipush (v := 41) hb dX0_tells_1 (by decide) ?_
  refine a_callV hb dX0_tells_3 (by rw [hg]; exact x_note g h B hL rn hrn (by omega) 41) (by rw [ow]; exact clv_RX0_25) (hL.1 19 (by decide)) (by decide) rfl rfl rfl (Nat.le_of_ble_eq_true rfl) (by rw [hr]; exact ⟨by decide, by decide⟩) (by rw [hr]; exact ⟨Nat.le_of_ble_eq_true rfl, Nat.le_of_ble_eq_true rfl⟩) ?_
  intro rv h' hp
  rw [hp.1, hp.2]
  show AW V 0 0 (trH (B + 20) (B + 19) 1 h rn ([41])) 6 [(0, .ref q), (1, .int x), (2, .ref (B + 19))] []
  refine a_aload_n hb dX0_tells_6 rfl 0 rfl ?_
  refine a_iload_n hb dX0_tells_7 rfl 1 rfl ?_
  refine a_iconst (v := 1) hb dX0_tells_8 (by decide) ?_
  refine a_isub hb dX0_tells_9 ?_
  refine a_aload_n hb dX0_tells_10 rfl 2 rfl ?_
  refine a_callP2 (sup := "KettleBeats$Whistle") hb dX0_tells_11 (by rw [hg]; exact xu2 g (trH (B + 20) (B + 19) 1 h rn ([41])) B (LY.tr hL) (rn + ([41]).length) (trH_g (by omega)) (by simp only [List.length_append, List.length_cons, List.length_nil]; (try have q1 := @acT_l 2 N Q (x - 1)); omega) q hq (trH_k ht) N Q ((congrFun (trH_n (by omega) (by omega)) 0).trans hN0) ((congrFun (trH_n (by omega) (by omega)) 4).trans hV) (x - 1)) (by rw [ow]; exact kw_975) kw_976 (by rw [ow]; exact kw_308) kw_296 (by decide) clp_RX4_39.2.2.2.2 (trH_k ht : hT (trH (B + 20) (B + 19) 1 h rn ([41])) q = (0, 0)) (by decide) rfl rfl rfl (Nat.le_of_ble_eq_true rfl) (by rw [hr]; exact ⟨by decide, by decide⟩) (by rw [hr]; exact ⟨Nat.le_of_ble_eq_true rfl, Nat.le_of_ble_eq_true rfl⟩) ?_
  intro rv h' hp
  rw [hp.1, hp.2]
  rw [trH_tr (by omega)]
  show AW V 0 0 (trH (B + 20) (B + 19) 1 h rn ([41] ++ (acT 2 N Q (x - 1)).2)) 14 [(0, .ref q), (1, .int x), (2, .ref (B + 19))] [.int ((acT 2 N Q (x - 1)).1)]
  refine a_aload_n hb dX0_tells_14 rfl 0 rfl ?_
  refine a_iconst (v := 2) hb dX0_tells_15 (by decide) ?_
  refine a_aload_n hb dX0_tells_16 rfl 2 rfl ?_
  refine a_callU hb dX0_tells_17 (by rw [hg]; exact xd2 g (trH (B + 20) (B + 19) 1 h rn ([41] ++ (acT 2 N Q (x - 1)).2)) B (LY.tr hL) (rn + ([41] ++ (acT 2 N Q (x - 1)).2).length) (trH_g (by omega)) (by simp only [List.length_append, List.length_cons, List.length_nil]; (try have q1 := @acT_l 2 N Q (x - 1)); omega) q hq (trH_k ht) N Q ((congrFun (trH_n (by omega) (by omega)) 0).trans hN0) ((congrFun (trH_n (by omega) (by omega)) 4).trans hV) 2) (by rw [ow]; exact clu_RX0_35_0) (trH_k ht : hT (trH (B + 20) (B + 19) 1 h rn ([41] ++ (acT 2 N Q (x - 1)).2)) q = (0, 0)) (by decide) rfl rfl rfl (Nat.le_of_ble_eq_true rfl) (by rw [hr]; exact ⟨by decide, by decide⟩) (by rw [hr]; exact ⟨Nat.le_of_ble_eq_true rfl, Nat.le_of_ble_eq_true rfl⟩) ?_
  intro rv h' hp
  rw [hp.1, hp.2]
  rw [trH_tr (by omega)]
  show AW V 0 0 (trH (B + 20) (B + 19) 1 h rn ([41] ++ (acT 2 N Q (x - 1)).2 ++ (acDA 2 N 2).2)) 20 [(0, .ref q), (1, .int x), (2, .ref (B + 19))] [.int ((acDA 2 N 2).1), .int ((acT 2 N Q (x - 1)).1)]
  refine a_iadd hb dX0_tells_20 ?_
  exact a_ireturn (ty := .int) hb hz dX0_tells_21 hret rfl (by rw [hr]; exact Nat.le_of_ble_eq_true rfl) (by rw [hr]; exact Nat.le_of_ble_eq_true rfl) (⟨by rw [acTA_2], by rw [acTA_2]⟩)
set_option maxRecDepth 100000 in
theorem xd3 (g : GG) (h : AH) (B : Nat) (hL : LY h B) (rn : Nat) (hrn : hI h (B + 19) 1 = nI rn) (lrn : rn + 3 ≤ 20) (q : Nat) (hq : B + 62 ≤ q) (ht : hT h q = (3, 0)) (N Q : Int32) (hN0 : hI h q 0 = N) (hV : hI h q 4 = Q) (x : Int32) : AM g 2 0 0 mX2_draws [.ref q, .int x, .ref (B + 19)] h (fun rv h' => rv = some (.int ((acDA 3 N x).1)) ∧ h' = (trH (B + 20) (B + 19) 1 h rn ((acDA 3 N x).2))) := by
  refine AM.of [(0, .ref q), (1, .int x), (2, .ref (B + 19))] (by decide) (Nat.le_of_ble_eq_true rfl) rfl ?_
  intro V hV
  have hb : V.2.1.2.1 = cX2_draws := by subst hV; rfl
  have ow : V.2.1.1.cls = RX2 := by subst hV; rfl
  have hr : V.2.2.1 = aw_rm 2 0 0 := by subst hV; rfl
  have hz : V.2.2.2 = aw_Z V.1 (fun rv h' => rv = some (.int ((acDA 3 N x).1)) ∧ h' = (trH (B + 20) (B + 19) 1 h rn ((acDA 3 N x).2))) V.2.2.1 := by subst hV; rfl
  have hg : V.1 = g := by subst hV; rfl
  have hret : V.2.1.2.2.2 = (some .int) := by subst hV; rfl
  have hml : V.2.1.2.2.1 = 3 := by subst hV; rfl
  clear hV
  refine a_aload_n hb dX2_draws_0 rfl 2 rfl ?_
  refine a_iconst (v := 1) hb dX2_draws_1 (by decide) ?_
  refine a_callV hb dX2_draws_2 (by rw [hg]; exact x_note g h B hL rn hrn (by omega) 1) (by rw [ow]; exact clv_RX2_31) (hL.1 19 (by decide)) (by decide) rfl rfl rfl (Nat.le_of_ble_eq_true rfl) (by rw [hr]; exact ⟨by decide, by decide⟩) (by rw [hr]; exact ⟨Nat.le_of_ble_eq_true rfl, Nat.le_of_ble_eq_true rfl⟩) ?_
  intro rv h' hp
  rw [hp.1, hp.2]
  show AW V 0 0 (trH (B + 20) (B + 19) 1 h rn ([1])) 5 [(0, .ref q), (1, .int x), (2, .ref (B + 19))] []
  refine a_iload_n hb dX2_draws_5 rfl 1 rfl ?_
  refine a_aload_n hb dX2_draws_6 rfl 0 rfl ?_
  refine a_getI hb dX2_draws_7 (by rw [ow]; exact fl_RX2_7_3) (trH_k ht : hT (trH (B + 20) (B + 19) 1 h rn ([1])) q = (3, 0)) ?_
  rw [trH_n (by omega) (by omega), hN0]
  show AW V 0 0 (trH (B + 20) (B + 19) 1 h rn ([1])) 10 [(0, .ref q), (1, .int x), (2, .ref (B + 19))] [.int N, .int x]
  refine a_iadd hb dX2_draws_10 ?_
  exact a_ireturn (ty := .int) hb hz dX2_draws_11 hret rfl (by rw [hr]; exact Nat.le_of_ble_eq_true rfl) (by rw [hr]; exact Nat.le_of_ble_eq_true rfl) (⟨by rw [acDA_3]; rfl, by rw [acDA_3]; rfl⟩)
set_option maxRecDepth 100000 in
theorem xs3 (g : GG) (h : AH) (B : Nat) (hL : LY h B) (rn : Nat) (hrn : hI h (B + 19) 1 = nI rn) (lrn : rn + 4 ≤ 20) (q : Nat) (hq : B + 62 ≤ q) (ht : hT h q = (3, 0)) (N Q : Int32) (hN0 : hI h q 0 = N) (hV : hI h q 4 = Q) (x : Int32) : AM g 5 0 0 mX2_rises [.ref q, .int x, .ref (B + 19)] h (fun rv h' => rv = some (.int ((acR 3 N Q x).1)) ∧ h' = (trH (B + 20) (B + 19) 1 h rn ((acR 3 N Q x).2))) := by
  refine AM.of [(0, .ref q), (1, .int x), (2, .ref (B + 19))] (by decide) (Nat.le_of_ble_eq_true rfl) rfl ?_
  intro V hV
  have hb : V.2.1.2.1 = cX2_rises := by subst hV; rfl
  have ow : V.2.1.1.cls = RX2 := by subst hV; rfl
  have hr : V.2.2.1 = aw_rm 5 0 0 := by subst hV; rfl
  have hz : V.2.2.2 = aw_Z V.1 (fun rv h' => rv = some (.int ((acR 3 N Q x).1)) ∧ h' = (trH (B + 20) (B + 19) 1 h rn ((acR 3 N Q x).2))) V.2.2.1 := by subst hV; rfl
  have hg : V.1 = g := by subst hV; rfl
  have hret : V.2.1.2.2.2 = (some .int) := by subst hV; rfl
  have hml : V.2.1.2.2.1 = 3 := by subst hV; rfl
  clear hV
  refine a_aload_n hb dX2_rises_0 rfl 2 rfl ?_
  refine a_iconst (v := 2) hb dX2_rises_1 (by decide) ?_
  refine a_callV hb dX2_rises_2 (by rw [hg]; exact x_note g h B hL rn hrn (by omega) 2) (by rw [ow]; exact clv_RX2_31) (hL.1 19 (by decide)) (by decide) rfl rfl rfl (Nat.le_of_ble_eq_true rfl) (by rw [hr]; exact ⟨by decide, by decide⟩) (by rw [hr]; exact ⟨Nat.le_of_ble_eq_true rfl, Nat.le_of_ble_eq_true rfl⟩) ?_
  intro rv h' hp
  rw [hp.1, hp.2]
  show AW V 0 0 (trH (B + 20) (B + 19) 1 h rn ([2])) 5 [(0, .ref q), (1, .int x), (2, .ref (B + 19))] []
  refine a_aload_n hb dX2_rises_5 rfl 0 rfl ?_
  refine a_iload_n hb dX2_rises_6 rfl 1 rfl ?_
  refine a_aload_n hb dX2_rises_7 rfl 2 rfl ?_
  refine a_callU hb dX2_rises_8 (by rw [hg]; exact xd3 g (trH (B + 20) (B + 19) 1 h rn ([2])) B (LY.tr hL) (rn + ([2]).length) (trH_g (by omega)) (by simp only [List.length_append, List.length_cons, List.length_nil]; (try have q1 := @acT_l 3 N Q (x - 1)); omega) q hq (trH_k ht) N Q ((congrFun (trH_n (by omega) (by omega)) 0).trans hN0) ((congrFun (trH_n (by omega) (by omega)) 4).trans hV) x) (by rw [ow]; exact clu_RX2_37_3) (trH_k ht : hT (trH (B + 20) (B + 19) 1 h rn ([2])) q = (3, 0)) (by decide) rfl rfl rfl (Nat.le_of_ble_eq_true rfl) (by rw [hr]; exact ⟨by decide, by decide⟩) (by rw [hr]; exact ⟨Nat.le_of_ble_eq_true rfl, Nat.le_of_ble_eq_true rfl⟩) ?_
  intro rv h' hp
  rw [hp.1, hp.2]
  rw [trH_tr (by omega)]
  show AW V 0 0 (trH (B + 20) (B + 19) 1 h rn ([2] ++ (acDA 3 N x).2)) 11 [(0, .ref q), (1, .int x), (2, .ref (B + 19))] [.int ((acDA 3 N x).1)]
  refine a_aload_n hb dX2_rises_11 rfl 0 rfl ?_
  refine a_getI hb dX2_rises_12 (by rw [ow]; exact fl_RX2_22_3) (trH_k ht : hT (trH (B + 20) (B + 19) 1 h rn ([2] ++ (acDA 3 N x).2)) q = (3, 0)) ?_
  rw [trH_n (by omega) (by omega), hV]
  show AW V 0 0 (trH (B + 20) (B + 19) 1 h rn ([2] ++ (acDA 3 N x).2)) 15 [(0, .ref q), (1, .int x), (2, .ref (B + 19))] [.int Q, .int ((acDA 3 N x).1)]
  refine a_isub hb dX2_rises_15 ?_
  exact a_ireturn (ty := .int) hb hz dX2_rises_16 hret rfl (by rw [hr]; exact Nat.le_of_ble_eq_true rfl) (by rw [hr]; exact Nat.le_of_ble_eq_true rfl) (⟨rfl, rfl⟩)
set_option maxRecDepth 100000 in
theorem xr3 (g : GG) (h : AH) (B : Nat) (hL : LY h B) (rn : Nat) (hrn : hI h (B + 19) 1 = nI rn) (lrn : rn + 5 ≤ 20) (q : Nat) (hq : B + 62 ≤ q) (ht : hT h q = (3, 0)) (N Q : Int32) (hN0 : hI h q 0 = N) (hV : hI h q 4 = Q) (x : Int32) : AM g 6 0 0 mX3_rises [.ref q, .int x, .ref (B + 19)] h (fun rv h' => rv = some (.int ((acRA 3 N Q x).1)) ∧ h' = (trH (B + 20) (B + 19) 1 h rn ((acRA 3 N Q x).2))) := by
  refine AM.of [(0, .ref q), (1, .int x), (2, .ref (B + 19))] (by decide) (Nat.le_of_ble_eq_true rfl) rfl ?_
  intro V hV
  have hb : V.2.1.2.1 = cX3_rises := by subst hV; rfl
  have ow : V.2.1.1.cls = RX3 := by subst hV; rfl
  have hr : V.2.2.1 = aw_rm 6 0 0 := by subst hV; rfl
  have hz : V.2.2.2 = aw_Z V.1 (fun rv h' => rv = some (.int ((acRA 3 N Q x).1)) ∧ h' = (trH (B + 20) (B + 19) 1 h rn ((acRA 3 N Q x).2))) V.2.2.1 := by subst hV; rfl
  have hg : V.1 = g := by subst hV; rfl
  have hret : V.2.1.2.2.2 = (some .int) := by subst hV; rfl
  have hml : V.2.1.2.2.1 = 3 := by subst hV; rfl
  clear hV
  refine a_aload_n hb dX3_rises_0 rfl 2 rfl ?_
  refine a_bipush (v := 21) hb dX3_rises_1 (by decide) ?_
  refine a_callV hb dX3_rises_3 (by rw [hg]; exact x_note g h B hL rn hrn (by omega) 21) (by rw [ow]; exact clv_RX3_28) (hL.1 19 (by decide)) (by decide) rfl rfl rfl (Nat.le_of_ble_eq_true rfl) (by rw [hr]; exact ⟨by decide, by decide⟩) (by rw [hr]; exact ⟨Nat.le_of_ble_eq_true rfl, Nat.le_of_ble_eq_true rfl⟩) ?_
  intro rv h' hp
  rw [hp.1, hp.2]
  show AW V 0 0 (trH (B + 20) (B + 19) 1 h rn ([21])) 6 [(0, .ref q), (1, .int x), (2, .ref (B + 19))] []
  refine a_aload_n hb dX3_rises_6 rfl 0 rfl ?_
  refine a_iload_n hb dX3_rises_7 rfl 1 rfl ?_
  refine a_aload_n hb dX3_rises_8 rfl 2 rfl ?_
  refine a_callP hb dX3_rises_9 (by rw [hg]; exact xs3 g (trH (B + 20) (B + 19) 1 h rn ([21])) B (LY.tr hL) (rn + ([21]).length) (trH_g (by omega)) (by simp only [List.length_append, List.length_cons, List.length_nil]; (try have q1 := @acT_l 3 N Q (x - 1)); omega) q hq (trH_k ht) N Q ((congrFun (trH_n (by omega) (by omega)) 0).trans hN0) ((congrFun (trH_n (by omega) (by omega)) 4).trans hV) x) (by rw [ow]; exact clp_RX3_34) (trH_k ht : hT (trH (B + 20) (B + 19) 1 h rn ([21])) q = (3, 0)) (by decide) rfl rfl rfl (Nat.le_of_ble_eq_true rfl) (by rw [hr]; exact ⟨by decide, by decide⟩) (by rw [hr]; exact ⟨Nat.le_of_ble_eq_true rfl, Nat.le_of_ble_eq_true rfl⟩) ?_
  intro rv h' hp
  rw [hp.1, hp.2]
  rw [trH_tr (by omega)]
  show AW V 0 0 (trH (B + 20) (B + 19) 1 h rn ([21] ++ (acR 3 N Q x).2)) 12 [(0, .ref q), (1, .int x), (2, .ref (B + 19))] [.int ((acR 3 N Q x).1)]
  refine a_ineg hb dX3_rises_12 ?_
  exact a_ireturn (ty := .int) hb hz dX3_rises_13 hret rfl (by rw [hr]; exact Nat.le_of_ble_eq_true rfl) (by rw [hr]; exact Nat.le_of_ble_eq_true rfl) (⟨by rw [acRA_3], by rw [acRA_3]⟩)
set_option maxRecDepth 100000 in
theorem xt3 (g : GG) (h : AH) (B : Nat) (hL : LY h B) (rn : Nat) (hrn : hI h (B + 19) 1 = nI rn) (lrn : rn + 10 ≤ 20) (q : Nat) (hq : B + 62 ≤ q) (ht : hT h q = (3, 0)) (N Q : Int32) (hN0 : hI h q 0 = N) (hV : hI h q 4 = Q) (x : Int32) : AM g 7 0 0 mX2_tells [.ref q, .int x, .ref (B + 19)] h (fun rv h' => rv = some (.int ((acTA 3 N Q x).1)) ∧ h' = (trH (B + 20) (B + 19) 1 h rn ((acTA 3 N Q x).2))) := by
  refine AM.of [(0, .ref q), (1, .int x), (2, .ref (B + 19))] (by decide) (Nat.le_of_ble_eq_true rfl) rfl ?_
  intro V hV
  have hb : V.2.1.2.1 = cX2_tells := by subst hV; rfl
  have ow : V.2.1.1.cls = RX2 := by subst hV; rfl
  have hr : V.2.2.1 = aw_rm 7 0 0 := by subst hV; rfl
  have hz : V.2.2.2 = aw_Z V.1 (fun rv h' => rv = some (.int ((acTA 3 N Q x).1)) ∧ h' = (trH (B + 20) (B + 19) 1 h rn ((acTA 3 N Q x).2))) V.2.2.1 := by subst hV; rfl
  have hg : V.1 = g := by subst hV; rfl
  have hret : V.2.1.2.2.2 = (some .int) := by subst hV; rfl
  have hml : V.2.1.2.2.1 = 3 := by subst hV; rfl
  clear hV
  refine a_aload_n hb dX2_tells_0 rfl 2 rfl ?_
  refine a_iconst (v := 3) hb dX2_tells_1 (by decide) ?_
  refine a_callV hb dX2_tells_2 (by rw [hg]; exact x_note g h B hL rn hrn (by omega) 3) (by rw [ow]; exact clv_RX2_31) (hL.1 19 (by decide)) (by decide) rfl rfl rfl (Nat.le_of_ble_eq_true rfl) (by rw [hr]; exact ⟨by decide, by decide⟩) (by rw [hr]; exact ⟨Nat.le_of_ble_eq_true rfl, Nat.le_of_ble_eq_true rfl⟩) ?_
  intro rv h' hp
  rw [hp.1, hp.2]
  show AW V 0 0 (trH (B + 20) (B + 19) 1 h rn ([3])) 5 [(0, .ref q), (1, .int x), (2, .ref (B + 19))] []
  refine a_aload_n hb dX2_tells_5 rfl 0 rfl ?_
  refine a_iload_n hb dX2_tells_6 rfl 1 rfl ?_
  refine a_aload_n hb dX2_tells_7 rfl 2 rfl ?_
  refine a_callU hb dX2_tells_8 (by rw [hg]; exact xr3 g (trH (B + 20) (B + 19) 1 h rn ([3])) B (LY.tr hL) (rn + ([3]).length) (trH_g (by omega)) (by simp only [List.length_append, List.length_cons, List.length_nil]; (try have q1 := @acT_l 3 N Q (x - 1)); omega) q hq (trH_k ht) N Q ((congrFun (trH_n (by omega) (by omega)) 0).trans hN0) ((congrFun (trH_n (by omega) (by omega)) 4).trans hV) x) (by rw [ow]; exact clu_RX2_41_3) (trH_k ht : hT (trH (B + 20) (B + 19) 1 h rn ([3])) q = (3, 0)) (by decide) rfl rfl rfl (Nat.le_of_ble_eq_true rfl) (by rw [hr]; exact ⟨by decide, by decide⟩) (by rw [hr]; exact ⟨Nat.le_of_ble_eq_true rfl, Nat.le_of_ble_eq_true rfl⟩) ?_
  intro rv h' hp
  rw [hp.1, hp.2]
  rw [trH_tr (by omega)]
  show AW V 0 0 (trH (B + 20) (B + 19) 1 h rn ([3] ++ (acRA 3 N Q x).2)) 11 [(0, .ref q), (1, .int x), (2, .ref (B + 19))] [.int ((acRA 3 N Q x).1)]
  refine a_iconst (v := 2) hb dX2_tells_11 (by decide) ?_
  refine a_imul hb dX2_tells_12 ?_
  exact a_ireturn (ty := .int) hb hz dX2_tells_13 hret rfl (by rw [hr]; exact Nat.le_of_ble_eq_true rfl) (by rw [hr]; exact Nat.le_of_ble_eq_true rfl) (⟨by rw [acTA_3]; rfl, by rw [acTA_3]; rfl⟩)
set_option maxRecDepth 100000 in
theorem xd4 (g : GG) (h : AH) (B : Nat) (hL : LY h B) (rn : Nat) (hrn : hI h (B + 19) 1 = nI rn) (lrn : rn + 3 ≤ 20) (q : Nat) (hq : B + 62 ≤ q) (ht : hT h q = (4, 0)) (N Q : Int32) (hN0 : hI h q 0 = N) (hV : hI h q 4 = Q) (x : Int32) : AM g 2 0 0 mX2_draws [.ref q, .int x, .ref (B + 19)] h (fun rv h' => rv = some (.int ((acDA 4 N x).1)) ∧ h' = (trH (B + 20) (B + 19) 1 h rn ((acDA 4 N x).2))) := by
  refine AM.of [(0, .ref q), (1, .int x), (2, .ref (B + 19))] (by decide) (Nat.le_of_ble_eq_true rfl) rfl ?_
  intro V hV
  have hb : V.2.1.2.1 = cX2_draws := by subst hV; rfl
  have ow : V.2.1.1.cls = RX2 := by subst hV; rfl
  have hr : V.2.2.1 = aw_rm 2 0 0 := by subst hV; rfl
  have hz : V.2.2.2 = aw_Z V.1 (fun rv h' => rv = some (.int ((acDA 4 N x).1)) ∧ h' = (trH (B + 20) (B + 19) 1 h rn ((acDA 4 N x).2))) V.2.2.1 := by subst hV; rfl
  have hg : V.1 = g := by subst hV; rfl
  have hret : V.2.1.2.2.2 = (some .int) := by subst hV; rfl
  have hml : V.2.1.2.2.1 = 3 := by subst hV; rfl
  clear hV
  refine a_aload_n hb dX2_draws_0 rfl 2 rfl ?_
  refine a_iconst (v := 1) hb dX2_draws_1 (by decide) ?_
  refine a_callV hb dX2_draws_2 (by rw [hg]; exact x_note g h B hL rn hrn (by omega) 1) (by rw [ow]; exact clv_RX2_31) (hL.1 19 (by decide)) (by decide) rfl rfl rfl (Nat.le_of_ble_eq_true rfl) (by rw [hr]; exact ⟨by decide, by decide⟩) (by rw [hr]; exact ⟨Nat.le_of_ble_eq_true rfl, Nat.le_of_ble_eq_true rfl⟩) ?_
  intro rv h' hp
  rw [hp.1, hp.2]
  show AW V 0 0 (trH (B + 20) (B + 19) 1 h rn ([1])) 5 [(0, .ref q), (1, .int x), (2, .ref (B + 19))] []
  refine a_iload_n hb dX2_draws_5 rfl 1 rfl ?_
  refine a_aload_n hb dX2_draws_6 rfl 0 rfl ?_
  refine a_getI hb dX2_draws_7 (by rw [ow]; exact fl_RX2_7_4) (trH_k ht : hT (trH (B + 20) (B + 19) 1 h rn ([1])) q = (4, 0)) ?_
  rw [trH_n (by omega) (by omega), hN0]
  show AW V 0 0 (trH (B + 20) (B + 19) 1 h rn ([1])) 10 [(0, .ref q), (1, .int x), (2, .ref (B + 19))] [.int N, .int x]
  refine a_iadd hb dX2_draws_10 ?_
  exact a_ireturn (ty := .int) hb hz dX2_draws_11 hret rfl (by rw [hr]; exact Nat.le_of_ble_eq_true rfl) (by rw [hr]; exact Nat.le_of_ble_eq_true rfl) (⟨by rw [acDA_4]; rfl, by rw [acDA_4]; rfl⟩)
set_option maxRecDepth 100000 in
theorem xr4 (g : GG) (h : AH) (B : Nat) (hL : LY h B) (rn : Nat) (hrn : hI h (B + 19) 1 = nI rn) (lrn : rn + 5 ≤ 20) (q : Nat) (hq : B + 62 ≤ q) (ht : hT h q = (4, 0)) (N Q : Int32) (hN0 : hI h q 0 = N) (hV : hI h q 4 = Q) (x : Int32) : AM g 5 0 0 mX2_rises [.ref q, .int x, .ref (B + 19)] h (fun rv h' => rv = some (.int ((acRA 4 N Q x).1)) ∧ h' = (trH (B + 20) (B + 19) 1 h rn ((acRA 4 N Q x).2))) := by
  refine AM.of [(0, .ref q), (1, .int x), (2, .ref (B + 19))] (by decide) (Nat.le_of_ble_eq_true rfl) rfl ?_
  intro V hV
  have hb : V.2.1.2.1 = cX2_rises := by subst hV; rfl
  have ow : V.2.1.1.cls = RX2 := by subst hV; rfl
  have hr : V.2.2.1 = aw_rm 5 0 0 := by subst hV; rfl
  have hz : V.2.2.2 = aw_Z V.1 (fun rv h' => rv = some (.int ((acRA 4 N Q x).1)) ∧ h' = (trH (B + 20) (B + 19) 1 h rn ((acRA 4 N Q x).2))) V.2.2.1 := by subst hV; rfl
  have hg : V.1 = g := by subst hV; rfl
  have hret : V.2.1.2.2.2 = (some .int) := by subst hV; rfl
  have hml : V.2.1.2.2.1 = 3 := by subst hV; rfl
  clear hV
  refine a_aload_n hb dX2_rises_0 rfl 2 rfl ?_
  refine a_iconst (v := 2) hb dX2_rises_1 (by decide) ?_
  refine a_callV hb dX2_rises_2 (by rw [hg]; exact x_note g h B hL rn hrn (by omega) 2) (by rw [ow]; exact clv_RX2_31) (hL.1 19 (by decide)) (by decide) rfl rfl rfl (Nat.le_of_ble_eq_true rfl) (by rw [hr]; exact ⟨by decide, by decide⟩) (by rw [hr]; exact ⟨Nat.le_of_ble_eq_true rfl, Nat.le_of_ble_eq_true rfl⟩) ?_
  intro rv h' hp
  rw [hp.1, hp.2]
  show AW V 0 0 (trH (B + 20) (B + 19) 1 h rn ([2])) 5 [(0, .ref q), (1, .int x), (2, .ref (B + 19))] []
  refine a_aload_n hb dX2_rises_5 rfl 0 rfl ?_
  refine a_iload_n hb dX2_rises_6 rfl 1 rfl ?_
  refine a_aload_n hb dX2_rises_7 rfl 2 rfl ?_
  refine a_callU hb dX2_rises_8 (by rw [hg]; exact xd4 g (trH (B + 20) (B + 19) 1 h rn ([2])) B (LY.tr hL) (rn + ([2]).length) (trH_g (by omega)) (by simp only [List.length_append, List.length_cons, List.length_nil]; (try have q1 := @acT_l 4 N Q (x - 1)); omega) q hq (trH_k ht) N Q ((congrFun (trH_n (by omega) (by omega)) 0).trans hN0) ((congrFun (trH_n (by omega) (by omega)) 4).trans hV) x) (by rw [ow]; exact clu_RX2_37_4) (trH_k ht : hT (trH (B + 20) (B + 19) 1 h rn ([2])) q = (4, 0)) (by decide) rfl rfl rfl (Nat.le_of_ble_eq_true rfl) (by rw [hr]; exact ⟨by decide, by decide⟩) (by rw [hr]; exact ⟨Nat.le_of_ble_eq_true rfl, Nat.le_of_ble_eq_true rfl⟩) ?_
  intro rv h' hp
  rw [hp.1, hp.2]
  rw [trH_tr (by omega)]
  show AW V 0 0 (trH (B + 20) (B + 19) 1 h rn ([2] ++ (acDA 4 N x).2)) 11 [(0, .ref q), (1, .int x), (2, .ref (B + 19))] [.int ((acDA 4 N x).1)]
  refine a_aload_n hb dX2_rises_11 rfl 0 rfl ?_
  refine a_getI hb dX2_rises_12 (by rw [ow]; exact fl_RX2_22_4) (trH_k ht : hT (trH (B + 20) (B + 19) 1 h rn ([2] ++ (acDA 4 N x).2)) q = (4, 0)) ?_
  rw [trH_n (by omega) (by omega), hV]
  show AW V 0 0 (trH (B + 20) (B + 19) 1 h rn ([2] ++ (acDA 4 N x).2)) 15 [(0, .ref q), (1, .int x), (2, .ref (B + 19))] [.int Q, .int ((acDA 4 N x).1)]
  refine a_isub hb dX2_rises_15 ?_
  exact a_ireturn (ty := .int) hb hz dX2_rises_16 hret rfl (by rw [hr]; exact Nat.le_of_ble_eq_true rfl) (by rw [hr]; exact Nat.le_of_ble_eq_true rfl) (⟨by rw [acRA_4]; rfl, by rw [acRA_4]; rfl⟩)
set_option maxRecDepth 100000 in
theorem xu4 (g : GG) (h : AH) (B : Nat) (hL : LY h B) (rn : Nat) (hrn : hI h (B + 19) 1 = nI rn) (lrn : rn + 6 ≤ 20) (q : Nat) (hq : B + 62 ≤ q) (ht : hT h q = (4, 0)) (N Q : Int32) (hN0 : hI h q 0 = N) (hV : hI h q 4 = Q) (x : Int32) : AM g 7 0 0 mX2_tells [.ref q, .int x, .ref (B + 19)] h (fun rv h' => rv = some (.int ((acT 4 N Q x).1)) ∧ h' = (trH (B + 20) (B + 19) 1 h rn ((acT 4 N Q x).2))) := by
  refine AM.of [(0, .ref q), (1, .int x), (2, .ref (B + 19))] (by decide) (Nat.le_of_ble_eq_true rfl) rfl ?_
  intro V hV
  have hb : V.2.1.2.1 = cX2_tells := by subst hV; rfl
  have ow : V.2.1.1.cls = RX2 := by subst hV; rfl
  have hr : V.2.2.1 = aw_rm 7 0 0 := by subst hV; rfl
  have hz : V.2.2.2 = aw_Z V.1 (fun rv h' => rv = some (.int ((acT 4 N Q x).1)) ∧ h' = (trH (B + 20) (B + 19) 1 h rn ((acT 4 N Q x).2))) V.2.2.1 := by subst hV; rfl
  have hg : V.1 = g := by subst hV; rfl
  have hret : V.2.1.2.2.2 = (some .int) := by subst hV; rfl
  have hml : V.2.1.2.2.1 = 3 := by subst hV; rfl
  clear hV
  refine a_aload_n hb dX2_tells_0 rfl 2 rfl ?_
  refine a_iconst (v := 3) hb dX2_tells_1 (by decide) ?_
  refine a_callV hb dX2_tells_2 (by rw [hg]; exact x_note g h B hL rn hrn (by omega) 3) (by rw [ow]; exact clv_RX2_31) (hL.1 19 (by decide)) (by decide) rfl rfl rfl (Nat.le_of_ble_eq_true rfl) (by rw [hr]; exact ⟨by decide, by decide⟩) (by rw [hr]; exact ⟨Nat.le_of_ble_eq_true rfl, Nat.le_of_ble_eq_true rfl⟩) ?_
  intro rv h' hp
  rw [hp.1, hp.2]
  show AW V 0 0 (trH (B + 20) (B + 19) 1 h rn ([3])) 5 [(0, .ref q), (1, .int x), (2, .ref (B + 19))] []
  refine a_aload_n hb dX2_tells_5 rfl 0 rfl ?_
  refine a_iload_n hb dX2_tells_6 rfl 1 rfl ?_
  refine a_aload_n hb dX2_tells_7 rfl 2 rfl ?_
  refine a_callU hb dX2_tells_8 (by rw [hg]; exact xr4 g (trH (B + 20) (B + 19) 1 h rn ([3])) B (LY.tr hL) (rn + ([3]).length) (trH_g (by omega)) (by simp only [List.length_append, List.length_cons, List.length_nil]; (try have q1 := @acT_l 4 N Q (x - 1)); omega) q hq (trH_k ht) N Q ((congrFun (trH_n (by omega) (by omega)) 0).trans hN0) ((congrFun (trH_n (by omega) (by omega)) 4).trans hV) x) (by rw [ow]; exact clu_RX2_41_4) (trH_k ht : hT (trH (B + 20) (B + 19) 1 h rn ([3])) q = (4, 0)) (by decide) rfl rfl rfl (Nat.le_of_ble_eq_true rfl) (by rw [hr]; exact ⟨by decide, by decide⟩) (by rw [hr]; exact ⟨Nat.le_of_ble_eq_true rfl, Nat.le_of_ble_eq_true rfl⟩) ?_
  intro rv h' hp
  rw [hp.1, hp.2]
  rw [trH_tr (by omega)]
  show AW V 0 0 (trH (B + 20) (B + 19) 1 h rn ([3] ++ (acRA 4 N Q x).2)) 11 [(0, .ref q), (1, .int x), (2, .ref (B + 19))] [.int ((acRA 4 N Q x).1)]
  refine a_iconst (v := 2) hb dX2_tells_11 (by decide) ?_
  refine a_imul hb dX2_tells_12 ?_
  exact a_ireturn (ty := .int) hb hz dX2_tells_13 hret rfl (by rw [hr]; exact Nat.le_of_ble_eq_true rfl) (by rw [hr]; exact Nat.le_of_ble_eq_true rfl) (⟨rfl, rfl⟩)
set_option maxRecDepth 100000 in
theorem xt4 (g : GG) (h : AH) (B : Nat) (hL : LY h B) (rn : Nat) (hrn : hI h (B + 19) 1 = nI rn) (lrn : rn + 10 ≤ 20) (q : Nat) (hq : B + 62 ≤ q) (ht : hT h q = (4, 0)) (N Q : Int32) (hN0 : hI h q 0 = N) (hV : hI h q 4 = Q) (x : Int32) : AM g 8 0 0 mX4_tells [.ref q, .int x, .ref (B + 19)] h (fun rv h' => rv = some (.int ((acTA 4 N Q x).1)) ∧ h' = (trH (B + 20) (B + 19) 1 h rn ((acTA 4 N Q x).2))) := by
  refine AM.of [(0, .ref q), (1, .int x), (2, .ref (B + 19))] (by decide) (Nat.le_of_ble_eq_true rfl) rfl ?_
  intro V hV
  have hb : V.2.1.2.1 = cX4_tells := by subst hV; rfl
  have ow : V.2.1.1.cls = RX4 := by subst hV; rfl
  have hr : V.2.2.1 = aw_rm 8 0 0 := by subst hV; rfl
  have hz : V.2.2.2 = aw_Z V.1 (fun rv h' => rv = some (.int ((acTA 4 N Q x).1)) ∧ h' = (trH (B + 20) (B + 19) 1 h rn ((acTA 4 N Q x).2))) V.2.2.1 := by subst hV; rfl
  have hg : V.1 = g := by subst hV; rfl
  have hret : V.2.1.2.2.2 = (some .int) := by subst hV; rfl
  have hml : V.2.1.2.2.1 = 3 := by subst hV; rfl
  clear hV
  refine a_aload_n hb dX4_tells_0 rfl 2 rfl ?_
  refine a_bipush (v := 31) hb dX4_tells_1 (by decide) ?_
  refine a_callV hb dX4_tells_3 (by rw [hg]; exact x_note g h B hL rn hrn (by omega) 31) (by rw [ow]; exact clv_RX4_33) (hL.1 19 (by decide)) (by decide) rfl rfl rfl (Nat.le_of_ble_eq_true rfl) (by rw [hr]; exact ⟨by decide, by decide⟩) (by rw [hr]; exact ⟨Nat.le_of_ble_eq_true rfl, Nat.le_of_ble_eq_true rfl⟩) ?_
  intro rv h' hp
  rw [hp.1, hp.2]
  show AW V 0 0 (trH (B + 20) (B + 19) 1 h rn ([31])) 6 [(0, .ref q), (1, .int x), (2, .ref (B + 19))] []
  refine a_aload_n hb dX4_tells_6 rfl 0 rfl ?_
  refine a_iload_n hb dX4_tells_7 rfl 1 rfl ?_
  refine a_aload_n hb dX4_tells_8 rfl 2 rfl ?_
  refine a_callP hb dX4_tells_9 (by rw [hg]; exact xu4 g (trH (B + 20) (B + 19) 1 h rn ([31])) B (LY.tr hL) (rn + ([31]).length) (trH_g (by omega)) (by simp only [List.length_append, List.length_cons, List.length_nil]; (try have q1 := @acT_l 4 N Q (x - 1)); omega) q hq (trH_k ht) N Q ((congrFun (trH_n (by omega) (by omega)) 0).trans hN0) ((congrFun (trH_n (by omega) (by omega)) 4).trans hV) x) (by rw [ow]; exact clp_RX4_39) (trH_k ht : hT (trH (B + 20) (B + 19) 1 h rn ([31])) q = (4, 0)) (by decide) rfl rfl rfl (Nat.le_of_ble_eq_true rfl) (by rw [hr]; exact ⟨by decide, by decide⟩) (by rw [hr]; exact ⟨Nat.le_of_ble_eq_true rfl, Nat.le_of_ble_eq_true rfl⟩) ?_
  intro rv h' hp
  rw [hp.1, hp.2]
  rw [trH_tr (by omega)]
  show AW V 0 0 (trH (B + 20) (B + 19) 1 h rn ([31] ++ (acT 4 N Q x).2)) 12 [(0, .ref q), (1, .int x), (2, .ref (B + 19))] [.int ((acT 4 N Q x).1)]
  refine a_bipush (v := 7) hb dX4_tells_12 (by decide) ?_
  refine a_ixor hb dX4_tells_14 ?_
  exact a_ireturn (ty := .int) hb hz dX4_tells_15 hret rfl (by rw [hr]; exact Nat.le_of_ble_eq_true rfl) (by rw [hr]; exact Nat.le_of_ble_eq_true rfl) (⟨by rw [acTA_4], by rw [acTA_4]⟩)
set_option maxRecDepth 100000 in
theorem xd5 (g : GG) (h : AH) (B : Nat) (hL : LY h B) (rn : Nat) (hrn : hI h (B + 19) 1 = nI rn) (lrn : rn + 3 ≤ 20) (q : Nat) (hq : B + 62 ≤ q) (ht : hT h q = (5, 0)) (N Q : Int32) (hN0 : hI h q 0 = N) (hV : hI h q 4 = Q) (x : Int32) : AM g 2 0 0 mX2_draws [.ref q, .int x, .ref (B + 19)] h (fun rv h' => rv = some (.int ((acDA 5 N x).1)) ∧ h' = (trH (B + 20) (B + 19) 1 h rn ((acDA 5 N x).2))) := by
  refine AM.of [(0, .ref q), (1, .int x), (2, .ref (B + 19))] (by decide) (Nat.le_of_ble_eq_true rfl) rfl ?_
  intro V hV
  have hb : V.2.1.2.1 = cX2_draws := by subst hV; rfl
  have ow : V.2.1.1.cls = RX2 := by subst hV; rfl
  have hr : V.2.2.1 = aw_rm 2 0 0 := by subst hV; rfl
  have hz : V.2.2.2 = aw_Z V.1 (fun rv h' => rv = some (.int ((acDA 5 N x).1)) ∧ h' = (trH (B + 20) (B + 19) 1 h rn ((acDA 5 N x).2))) V.2.2.1 := by subst hV; rfl
  have hg : V.1 = g := by subst hV; rfl
  have hret : V.2.1.2.2.2 = (some .int) := by subst hV; rfl
  have hml : V.2.1.2.2.1 = 3 := by subst hV; rfl
  clear hV
  refine a_aload_n hb dX2_draws_0 rfl 2 rfl ?_
  refine a_iconst (v := 1) hb dX2_draws_1 (by decide) ?_
  refine a_callV hb dX2_draws_2 (by rw [hg]; exact x_note g h B hL rn hrn (by omega) 1) (by rw [ow]; exact clv_RX2_31) (hL.1 19 (by decide)) (by decide) rfl rfl rfl (Nat.le_of_ble_eq_true rfl) (by rw [hr]; exact ⟨by decide, by decide⟩) (by rw [hr]; exact ⟨Nat.le_of_ble_eq_true rfl, Nat.le_of_ble_eq_true rfl⟩) ?_
  intro rv h' hp
  rw [hp.1, hp.2]
  show AW V 0 0 (trH (B + 20) (B + 19) 1 h rn ([1])) 5 [(0, .ref q), (1, .int x), (2, .ref (B + 19))] []
  refine a_iload_n hb dX2_draws_5 rfl 1 rfl ?_
  refine a_aload_n hb dX2_draws_6 rfl 0 rfl ?_
  refine a_getI hb dX2_draws_7 (by rw [ow]; exact fl_RX2_7_5) (trH_k ht : hT (trH (B + 20) (B + 19) 1 h rn ([1])) q = (5, 0)) ?_
  rw [trH_n (by omega) (by omega), hN0]
  show AW V 0 0 (trH (B + 20) (B + 19) 1 h rn ([1])) 10 [(0, .ref q), (1, .int x), (2, .ref (B + 19))] [.int N, .int x]
  refine a_iadd hb dX2_draws_10 ?_
  exact a_ireturn (ty := .int) hb hz dX2_draws_11 hret rfl (by rw [hr]; exact Nat.le_of_ble_eq_true rfl) (by rw [hr]; exact Nat.le_of_ble_eq_true rfl) (⟨by rw [acDA_5]; rfl, by rw [acDA_5]; rfl⟩)
set_option maxRecDepth 100000 in
theorem xs5 (g : GG) (h : AH) (B : Nat) (hL : LY h B) (rn : Nat) (hrn : hI h (B + 19) 1 = nI rn) (lrn : rn + 4 ≤ 20) (q : Nat) (hq : B + 62 ≤ q) (ht : hT h q = (5, 0)) (N Q : Int32) (hN0 : hI h q 0 = N) (hV : hI h q 4 = Q) (x : Int32) : AM g 5 0 0 mX2_rises [.ref q, .int x, .ref (B + 19)] h (fun rv h' => rv = some (.int ((acR 5 N Q x).1)) ∧ h' = (trH (B + 20) (B + 19) 1 h rn ((acR 5 N Q x).2))) := by
  refine AM.of [(0, .ref q), (1, .int x), (2, .ref (B + 19))] (by decide) (Nat.le_of_ble_eq_true rfl) rfl ?_
  intro V hV
  have hb : V.2.1.2.1 = cX2_rises := by subst hV; rfl
  have ow : V.2.1.1.cls = RX2 := by subst hV; rfl
  have hr : V.2.2.1 = aw_rm 5 0 0 := by subst hV; rfl
  have hz : V.2.2.2 = aw_Z V.1 (fun rv h' => rv = some (.int ((acR 5 N Q x).1)) ∧ h' = (trH (B + 20) (B + 19) 1 h rn ((acR 5 N Q x).2))) V.2.2.1 := by subst hV; rfl
  have hg : V.1 = g := by subst hV; rfl
  have hret : V.2.1.2.2.2 = (some .int) := by subst hV; rfl
  have hml : V.2.1.2.2.1 = 3 := by subst hV; rfl
  clear hV
  refine a_aload_n hb dX2_rises_0 rfl 2 rfl ?_
  refine a_iconst (v := 2) hb dX2_rises_1 (by decide) ?_
  refine a_callV hb dX2_rises_2 (by rw [hg]; exact x_note g h B hL rn hrn (by omega) 2) (by rw [ow]; exact clv_RX2_31) (hL.1 19 (by decide)) (by decide) rfl rfl rfl (Nat.le_of_ble_eq_true rfl) (by rw [hr]; exact ⟨by decide, by decide⟩) (by rw [hr]; exact ⟨Nat.le_of_ble_eq_true rfl, Nat.le_of_ble_eq_true rfl⟩) ?_
  intro rv h' hp
  rw [hp.1, hp.2]
  show AW V 0 0 (trH (B + 20) (B + 19) 1 h rn ([2])) 5 [(0, .ref q), (1, .int x), (2, .ref (B + 19))] []
  refine a_aload_n hb dX2_rises_5 rfl 0 rfl ?_
  refine a_iload_n hb dX2_rises_6 rfl 1 rfl ?_
  refine a_aload_n hb dX2_rises_7 rfl 2 rfl ?_
  refine a_callU hb dX2_rises_8 (by rw [hg]; exact xd5 g (trH (B + 20) (B + 19) 1 h rn ([2])) B (LY.tr hL) (rn + ([2]).length) (trH_g (by omega)) (by simp only [List.length_append, List.length_cons, List.length_nil]; (try have q1 := @acT_l 5 N Q (x - 1)); omega) q hq (trH_k ht) N Q ((congrFun (trH_n (by omega) (by omega)) 0).trans hN0) ((congrFun (trH_n (by omega) (by omega)) 4).trans hV) x) (by rw [ow]; exact clu_RX2_37_5) (trH_k ht : hT (trH (B + 20) (B + 19) 1 h rn ([2])) q = (5, 0)) (by decide) rfl rfl rfl (Nat.le_of_ble_eq_true rfl) (by rw [hr]; exact ⟨by decide, by decide⟩) (by rw [hr]; exact ⟨Nat.le_of_ble_eq_true rfl, Nat.le_of_ble_eq_true rfl⟩) ?_
  intro rv h' hp
  rw [hp.1, hp.2]
  rw [trH_tr (by omega)]
  show AW V 0 0 (trH (B + 20) (B + 19) 1 h rn ([2] ++ (acDA 5 N x).2)) 11 [(0, .ref q), (1, .int x), (2, .ref (B + 19))] [.int ((acDA 5 N x).1)]
  refine a_aload_n hb dX2_rises_11 rfl 0 rfl ?_
  refine a_getI hb dX2_rises_12 (by rw [ow]; exact fl_RX2_22_5) (trH_k ht : hT (trH (B + 20) (B + 19) 1 h rn ([2] ++ (acDA 5 N x).2)) q = (5, 0)) ?_
  rw [trH_n (by omega) (by omega), hV]
  show AW V 0 0 (trH (B + 20) (B + 19) 1 h rn ([2] ++ (acDA 5 N x).2)) 15 [(0, .ref q), (1, .int x), (2, .ref (B + 19))] [.int Q, .int ((acDA 5 N x).1)]
  refine a_isub hb dX2_rises_15 ?_
  exact a_ireturn (ty := .int) hb hz dX2_rises_16 hret rfl (by rw [hr]; exact Nat.le_of_ble_eq_true rfl) (by rw [hr]; exact Nat.le_of_ble_eq_true rfl) (⟨rfl, rfl⟩)
set_option maxRecDepth 100000 in
theorem xr5 (g : GG) (h : AH) (B : Nat) (hL : LY h B) (rn : Nat) (hrn : hI h (B + 19) 1 = nI rn) (lrn : rn + 5 ≤ 20) (q : Nat) (hq : B + 62 ≤ q) (ht : hT h q = (5, 0)) (N Q : Int32) (hN0 : hI h q 0 = N) (hV : hI h q 4 = Q) (x : Int32) : AM g 6 0 0 mX5_rises [.ref q, .int x, .ref (B + 19)] h (fun rv h' => rv = some (.int ((acRA 5 N Q x).1)) ∧ h' = (trH (B + 20) (B + 19) 1 h rn ((acRA 5 N Q x).2))) := by
  refine AM.of [(0, .ref q), (1, .int x), (2, .ref (B + 19))] (by decide) (Nat.le_of_ble_eq_true rfl) rfl ?_
  intro V hV
  have hb : V.2.1.2.1 = cX5_rises := by subst hV; rfl
  have ow : V.2.1.1.cls = RX5 := by subst hV; rfl
  have hr : V.2.2.1 = aw_rm 6 0 0 := by subst hV; rfl
  have hz : V.2.2.2 = aw_Z V.1 (fun rv h' => rv = some (.int ((acRA 5 N Q x).1)) ∧ h' = (trH (B + 20) (B + 19) 1 h rn ((acRA 5 N Q x).2))) V.2.2.1 := by subst hV; rfl
  have hg : V.1 = g := by subst hV; rfl
  have hret : V.2.1.2.2.2 = (some .int) := by subst hV; rfl
  have hml : V.2.1.2.2.1 = 3 := by subst hV; rfl
  clear hV
  refine a_aload_n hb dX5_rises_0 rfl 2 rfl ?_
  refine a_bipush (v := 61) hb dX5_rises_1 (by decide) ?_
  refine a_callV hb dX5_rises_3 (by rw [hg]; exact x_note g h B hL rn hrn (by omega) 61) (by rw [ow]; exact clv_RX5_19) (hL.1 19 (by decide)) (by decide) rfl rfl rfl (Nat.le_of_ble_eq_true rfl) (by rw [hr]; exact ⟨by decide, by decide⟩) (by rw [hr]; exact ⟨Nat.le_of_ble_eq_true rfl, Nat.le_of_ble_eq_true rfl⟩) ?_
  intro rv h' hp
  rw [hp.1, hp.2]
  show AW V 0 0 (trH (B + 20) (B + 19) 1 h rn ([61])) 6 [(0, .ref q), (1, .int x), (2, .ref (B + 19))] []
  refine a_aload_n hb dX5_rises_6 rfl 0 rfl ?_
  refine a_iload_n hb dX5_rises_7 rfl 1 rfl ?_
  refine a_aload_n hb dX5_rises_8 rfl 2 rfl ?_
  refine a_callP2 (sup := "KettleBeats$Silent") hb dX5_rises_9 (by rw [hg]; exact xs5 g (trH (B + 20) (B + 19) 1 h rn ([61])) B (LY.tr hL) (rn + ([61]).length) (trH_g (by omega)) (by simp only [List.length_append, List.length_cons, List.length_nil]; (try have q1 := @acT_l 5 N Q (x - 1)); omega) q hq (trH_k ht) N Q ((congrFun (trH_n (by omega) (by omega)) 0).trans hN0) ((congrFun (trH_n (by omega) (by omega)) 4).trans hV) x) (by rw [ow]; exact kw_960) kw_961 (by rw [ow]; exact kw_344) kw_332 (by decide) clp_RX3_34.2.2.2.2 (trH_k ht : hT (trH (B + 20) (B + 19) 1 h rn ([61])) q = (5, 0)) (by decide) rfl rfl rfl (Nat.le_of_ble_eq_true rfl) (by rw [hr]; exact ⟨by decide, by decide⟩) (by rw [hr]; exact ⟨Nat.le_of_ble_eq_true rfl, Nat.le_of_ble_eq_true rfl⟩) ?_
  intro rv h' hp
  rw [hp.1, hp.2]
  rw [trH_tr (by omega)]
  show AW V 0 0 (trH (B + 20) (B + 19) 1 h rn ([61] ++ (acR 5 N Q x).2)) 12 [(0, .ref q), (1, .int x), (2, .ref (B + 19))] [.int ((acR 5 N Q x).1)]
  refine a_aload_n hb dX5_rises_12 rfl 0 rfl ?_
  refine a_getI hb dX5_rises_13 (by rw [ow]; exact fl_RX5_29_5) (trH_k ht : hT (trH (B + 20) (B + 19) 1 h rn ([61] ++ (acR 5 N Q x).2)) q = (5, 0)) ?_
  rw [trH_n (by omega) (by omega), hV]
  show AW V 0 0 (trH (B + 20) (B + 19) 1 h rn ([61] ++ (acR 5 N Q x).2)) 16 [(0, .ref q), (1, .int x), (2, .ref (B + 19))] [.int Q, .int ((acR 5 N Q x).1)]
  refine a_iadd hb dX5_rises_16 ?_
  exact a_ireturn (ty := .int) hb hz dX5_rises_17 hret rfl (by rw [hr]; exact Nat.le_of_ble_eq_true rfl) (by rw [hr]; exact Nat.le_of_ble_eq_true rfl) (⟨by rw [acRA_5], by rw [acRA_5]⟩)
set_option maxRecDepth 100000 in
theorem xu5 (g : GG) (h : AH) (B : Nat) (hL : LY h B) (rn : Nat) (hrn : hI h (B + 19) 1 = nI rn) (lrn : rn + 6 ≤ 20) (q : Nat) (hq : B + 62 ≤ q) (ht : hT h q = (5, 0)) (N Q : Int32) (hN0 : hI h q 0 = N) (hV : hI h q 4 = Q) (x : Int32) : AM g 7 0 0 mX2_tells [.ref q, .int x, .ref (B + 19)] h (fun rv h' => rv = some (.int ((acT 5 N Q x).1)) ∧ h' = (trH (B + 20) (B + 19) 1 h rn ((acT 5 N Q x).2))) := by
  refine AM.of [(0, .ref q), (1, .int x), (2, .ref (B + 19))] (by decide) (Nat.le_of_ble_eq_true rfl) rfl ?_
  intro V hV
  have hb : V.2.1.2.1 = cX2_tells := by subst hV; rfl
  have ow : V.2.1.1.cls = RX2 := by subst hV; rfl
  have hr : V.2.2.1 = aw_rm 7 0 0 := by subst hV; rfl
  have hz : V.2.2.2 = aw_Z V.1 (fun rv h' => rv = some (.int ((acT 5 N Q x).1)) ∧ h' = (trH (B + 20) (B + 19) 1 h rn ((acT 5 N Q x).2))) V.2.2.1 := by subst hV; rfl
  have hg : V.1 = g := by subst hV; rfl
  have hret : V.2.1.2.2.2 = (some .int) := by subst hV; rfl
  have hml : V.2.1.2.2.1 = 3 := by subst hV; rfl
  clear hV
  refine a_aload_n hb dX2_tells_0 rfl 2 rfl ?_
  refine a_iconst (v := 3) hb dX2_tells_1 (by decide) ?_
  refine a_callV hb dX2_tells_2 (by rw [hg]; exact x_note g h B hL rn hrn (by omega) 3) (by rw [ow]; exact clv_RX2_31) (hL.1 19 (by decide)) (by decide) rfl rfl rfl (Nat.le_of_ble_eq_true rfl) (by rw [hr]; exact ⟨by decide, by decide⟩) (by rw [hr]; exact ⟨Nat.le_of_ble_eq_true rfl, Nat.le_of_ble_eq_true rfl⟩) ?_
  intro rv h' hp
  rw [hp.1, hp.2]
  show AW V 0 0 (trH (B + 20) (B + 19) 1 h rn ([3])) 5 [(0, .ref q), (1, .int x), (2, .ref (B + 19))] []
  refine a_aload_n hb dX2_tells_5 rfl 0 rfl ?_
  refine a_iload_n hb dX2_tells_6 rfl 1 rfl ?_
  refine a_aload_n hb dX2_tells_7 rfl 2 rfl ?_
  refine a_callU hb dX2_tells_8 (by rw [hg]; exact xr5 g (trH (B + 20) (B + 19) 1 h rn ([3])) B (LY.tr hL) (rn + ([3]).length) (trH_g (by omega)) (by simp only [List.length_append, List.length_cons, List.length_nil]; (try have q1 := @acT_l 5 N Q (x - 1)); omega) q hq (trH_k ht) N Q ((congrFun (trH_n (by omega) (by omega)) 0).trans hN0) ((congrFun (trH_n (by omega) (by omega)) 4).trans hV) x) (by rw [ow]; exact clu_RX2_41_5) (trH_k ht : hT (trH (B + 20) (B + 19) 1 h rn ([3])) q = (5, 0)) (by decide) rfl rfl rfl (Nat.le_of_ble_eq_true rfl) (by rw [hr]; exact ⟨by decide, by decide⟩) (by rw [hr]; exact ⟨Nat.le_of_ble_eq_true rfl, Nat.le_of_ble_eq_true rfl⟩) ?_
  intro rv h' hp
  rw [hp.1, hp.2]
  rw [trH_tr (by omega)]
  show AW V 0 0 (trH (B + 20) (B + 19) 1 h rn ([3] ++ (acRA 5 N Q x).2)) 11 [(0, .ref q), (1, .int x), (2, .ref (B + 19))] [.int ((acRA 5 N Q x).1)]
  refine a_iconst (v := 2) hb dX2_tells_11 (by decide) ?_
  refine a_imul hb dX2_tells_12 ?_
  exact a_ireturn (ty := .int) hb hz dX2_tells_13 hret rfl (by rw [hr]; exact Nat.le_of_ble_eq_true rfl) (by rw [hr]; exact Nat.le_of_ble_eq_true rfl) (⟨rfl, rfl⟩)
set_option maxRecDepth 100000 in
theorem xt5 (g : GG) (h : AH) (B : Nat) (hL : LY h B) (rn : Nat) (hrn : hI h (B + 19) 1 = nI rn) (lrn : rn + 10 ≤ 20) (q : Nat) (hq : B + 62 ≤ q) (ht : hT h q = (5, 0)) (N Q : Int32) (hN0 : hI h q 0 = N) (hV : hI h q 4 = Q) (x : Int32) : AM g 8 0 0 mX4_tells [.ref q, .int x, .ref (B + 19)] h (fun rv h' => rv = some (.int ((acTA 5 N Q x).1)) ∧ h' = (trH (B + 20) (B + 19) 1 h rn ((acTA 5 N Q x).2))) := by
  refine AM.of [(0, .ref q), (1, .int x), (2, .ref (B + 19))] (by decide) (Nat.le_of_ble_eq_true rfl) rfl ?_
  intro V hV
  have hb : V.2.1.2.1 = cX4_tells := by subst hV; rfl
  have ow : V.2.1.1.cls = RX4 := by subst hV; rfl
  have hr : V.2.2.1 = aw_rm 8 0 0 := by subst hV; rfl
  have hz : V.2.2.2 = aw_Z V.1 (fun rv h' => rv = some (.int ((acTA 5 N Q x).1)) ∧ h' = (trH (B + 20) (B + 19) 1 h rn ((acTA 5 N Q x).2))) V.2.2.1 := by subst hV; rfl
  have hg : V.1 = g := by subst hV; rfl
  have hret : V.2.1.2.2.2 = (some .int) := by subst hV; rfl
  have hml : V.2.1.2.2.1 = 3 := by subst hV; rfl
  clear hV
  refine a_aload_n hb dX4_tells_0 rfl 2 rfl ?_
  refine a_bipush (v := 31) hb dX4_tells_1 (by decide) ?_
  refine a_callV hb dX4_tells_3 (by rw [hg]; exact x_note g h B hL rn hrn (by omega) 31) (by rw [ow]; exact clv_RX4_33) (hL.1 19 (by decide)) (by decide) rfl rfl rfl (Nat.le_of_ble_eq_true rfl) (by rw [hr]; exact ⟨by decide, by decide⟩) (by rw [hr]; exact ⟨Nat.le_of_ble_eq_true rfl, Nat.le_of_ble_eq_true rfl⟩) ?_
  intro rv h' hp
  rw [hp.1, hp.2]
  show AW V 0 0 (trH (B + 20) (B + 19) 1 h rn ([31])) 6 [(0, .ref q), (1, .int x), (2, .ref (B + 19))] []
  refine a_aload_n hb dX4_tells_6 rfl 0 rfl ?_
  refine a_iload_n hb dX4_tells_7 rfl 1 rfl ?_
  refine a_aload_n hb dX4_tells_8 rfl 2 rfl ?_
  refine a_callP hb dX4_tells_9 (by rw [hg]; exact xu5 g (trH (B + 20) (B + 19) 1 h rn ([31])) B (LY.tr hL) (rn + ([31]).length) (trH_g (by omega)) (by simp only [List.length_append, List.length_cons, List.length_nil]; (try have q1 := @acT_l 5 N Q (x - 1)); omega) q hq (trH_k ht) N Q ((congrFun (trH_n (by omega) (by omega)) 0).trans hN0) ((congrFun (trH_n (by omega) (by omega)) 4).trans hV) x) (by rw [ow]; exact clp_RX4_39) (trH_k ht : hT (trH (B + 20) (B + 19) 1 h rn ([31])) q = (5, 0)) (by decide) rfl rfl rfl (Nat.le_of_ble_eq_true rfl) (by rw [hr]; exact ⟨by decide, by decide⟩) (by rw [hr]; exact ⟨Nat.le_of_ble_eq_true rfl, Nat.le_of_ble_eq_true rfl⟩) ?_
  intro rv h' hp
  rw [hp.1, hp.2]
  rw [trH_tr (by omega)]
  show AW V 0 0 (trH (B + 20) (B + 19) 1 h rn ([31] ++ (acT 5 N Q x).2)) 12 [(0, .ref q), (1, .int x), (2, .ref (B + 19))] [.int ((acT 5 N Q x).1)]
  refine a_bipush (v := 7) hb dX4_tells_12 (by decide) ?_
  refine a_ixor hb dX4_tells_14 ?_
  exact a_ireturn (ty := .int) hb hz dX4_tells_15 hret rfl (by rw [hr]; exact Nat.le_of_ble_eq_true rfl) (by rw [hr]; exact Nat.le_of_ble_eq_true rfl) (⟨by rw [acTA_5], by rw [acTA_5]⟩)
set_option maxRecDepth 100000 in
theorem xe6 (g : GG) (h : AH) (B : Nat) (hL : LY h B) (rn : Nat) (hrn : hI h (B + 19) 1 = nI rn) (lrn : rn + 1 ≤ 20) (q : Nat) (hq : B + 62 ≤ q) (ht : hT h q = (6, 0)) (N Q : Int32) (hN0 : hI h q 0 = N) (hV : hI h q 4 = Q) (x : Int32) : AM g 2 0 0 mX2_draws [.ref q, .int x, .ref (B + 19)] h (fun rv h' => rv = some (.int ((acD N x).1)) ∧ h' = (trH (B + 20) (B + 19) 1 h rn ((acD N x).2))) := by
  refine AM.of [(0, .ref q), (1, .int x), (2, .ref (B + 19))] (by decide) (Nat.le_of_ble_eq_true rfl) rfl ?_
  intro V hV
  have hb : V.2.1.2.1 = cX2_draws := by subst hV; rfl
  have ow : V.2.1.1.cls = RX2 := by subst hV; rfl
  have hr : V.2.2.1 = aw_rm 2 0 0 := by subst hV; rfl
  have hz : V.2.2.2 = aw_Z V.1 (fun rv h' => rv = some (.int ((acD N x).1)) ∧ h' = (trH (B + 20) (B + 19) 1 h rn ((acD N x).2))) V.2.2.1 := by subst hV; rfl
  have hg : V.1 = g := by subst hV; rfl
  have hret : V.2.1.2.2.2 = (some .int) := by subst hV; rfl
  have hml : V.2.1.2.2.1 = 3 := by subst hV; rfl
  clear hV
  refine a_aload_n hb dX2_draws_0 rfl 2 rfl ?_
  refine a_iconst (v := 1) hb dX2_draws_1 (by decide) ?_
  refine a_callV hb dX2_draws_2 (by rw [hg]; exact x_note g h B hL rn hrn (by omega) 1) (by rw [ow]; exact clv_RX2_31) (hL.1 19 (by decide)) (by decide) rfl rfl rfl (Nat.le_of_ble_eq_true rfl) (by rw [hr]; exact ⟨by decide, by decide⟩) (by rw [hr]; exact ⟨Nat.le_of_ble_eq_true rfl, Nat.le_of_ble_eq_true rfl⟩) ?_
  intro rv h' hp
  rw [hp.1, hp.2]
  show AW V 0 0 (trH (B + 20) (B + 19) 1 h rn ([1])) 5 [(0, .ref q), (1, .int x), (2, .ref (B + 19))] []
  refine a_iload_n hb dX2_draws_5 rfl 1 rfl ?_
  refine a_aload_n hb dX2_draws_6 rfl 0 rfl ?_
  refine a_getI hb dX2_draws_7 (by rw [ow]; exact fl_RX2_7_6) (trH_k ht : hT (trH (B + 20) (B + 19) 1 h rn ([1])) q = (6, 0)) ?_
  rw [trH_n (by omega) (by omega), hN0]
  show AW V 0 0 (trH (B + 20) (B + 19) 1 h rn ([1])) 10 [(0, .ref q), (1, .int x), (2, .ref (B + 19))] [.int N, .int x]
  refine a_iadd hb dX2_draws_10 ?_
  exact a_ireturn (ty := .int) hb hz dX2_draws_11 hret rfl (by rw [hr]; exact Nat.le_of_ble_eq_true rfl) (by rw [hr]; exact Nat.le_of_ble_eq_true rfl) (⟨rfl, rfl⟩)
set_option maxRecDepth 100000 in
theorem xw6 (g : GG) (h : AH) (B : Nat) (hL : LY h B) (rn : Nat) (hrn : hI h (B + 19) 1 = nI rn) (lrn : rn + 2 ≤ 20) (q : Nat) (hq : B + 62 ≤ q) (ht : hT h q = (6, 0)) (N Q : Int32) (hN0 : hI h q 0 = N) (hV : hI h q 4 = Q) (x : Int32) : AM g 3 0 0 mX9_draws [.ref q, .int x, .ref (B + 19)] h (fun rv h' => rv = some (.int ((acW N x).1)) ∧ h' = (trH (B + 20) (B + 19) 1 h rn ((acW N x).2))) := by
  refine AM.of [(0, .ref q), (1, .int x), (2, .ref (B + 19))] (by decide) (Nat.le_of_ble_eq_true rfl) rfl ?_
  intro V hV
  have hb : V.2.1.2.1 = cX9_draws := by subst hV; rfl
  have ow : V.2.1.1.cls = RX9 := by subst hV; rfl
  have hr : V.2.2.1 = aw_rm 3 0 0 := by subst hV; rfl
  have hz : V.2.2.2 = aw_Z V.1 (fun rv h' => rv = some (.int ((acW N x).1)) ∧ h' = (trH (B + 20) (B + 19) 1 h rn ((acW N x).2))) V.2.2.1 := by subst hV; rfl
  have hg : V.1 = g := by subst hV; rfl
  have hret : V.2.1.2.2.2 = (some .int) := by subst hV; rfl
  have hml : V.2.1.2.2.1 = 3 := by subst hV; rfl
  clear hV
  refine a_aload_n hb dX9_draws_0 rfl 2 rfl ?_
  refine a_bipush (v := 11) hb dX9_draws_1 (by decide) ?_
  refine a_callV hb dX9_draws_3 (by rw [hg]; exact x_note g h B hL rn hrn (by omega) 11) (by rw [ow]; exact clv_RX9_7) (hL.1 19 (by decide)) (by decide) rfl rfl rfl (Nat.le_of_ble_eq_true rfl) (by rw [hr]; exact ⟨by decide, by decide⟩) (by rw [hr]; exact ⟨Nat.le_of_ble_eq_true rfl, Nat.le_of_ble_eq_true rfl⟩) ?_
  intro rv h' hp
  rw [hp.1, hp.2]
  show AW V 0 0 (trH (B + 20) (B + 19) 1 h rn ([11])) 6 [(0, .ref q), (1, .int x), (2, .ref (B + 19))] []
  refine a_aload_n hb dX9_draws_6 rfl 0 rfl ?_
  refine a_iload_n hb dX9_draws_7 rfl 1 rfl ?_
  refine a_iconst (v := 3) hb dX9_draws_8 (by decide) ?_
  refine a_imul hb dX9_draws_9 ?_
  refine a_aload_n hb dX9_draws_10 rfl 2 rfl ?_
  refine a_callP hb dX9_draws_11 (by rw [hg]; exact xe6 g (trH (B + 20) (B + 19) 1 h rn ([11])) B (LY.tr hL) (rn + ([11]).length) (trH_g (by omega)) (by simp only [List.length_append, List.length_cons, List.length_nil]; (try have q1 := @acT_l 6 N Q (x - 1)); omega) q hq (trH_k ht) N Q ((congrFun (trH_n (by omega) (by omega)) 0).trans hN0) ((congrFun (trH_n (by omega) (by omega)) 4).trans hV) (x * 3)) (by rw [ow]; exact clp_RX9_13) (trH_k ht : hT (trH (B + 20) (B + 19) 1 h rn ([11])) q = (6, 0)) (by decide) rfl rfl rfl (Nat.le_of_ble_eq_true rfl) (by rw [hr]; exact ⟨by decide, by decide⟩) (by rw [hr]; exact ⟨Nat.le_of_ble_eq_true rfl, Nat.le_of_ble_eq_true rfl⟩) ?_
  intro rv h' hp
  rw [hp.1, hp.2]
  rw [trH_tr (by omega)]
  show AW V 0 0 (trH (B + 20) (B + 19) 1 h rn ([11] ++ (acD N (x * 3)).2)) 14 [(0, .ref q), (1, .int x), (2, .ref (B + 19))] [.int ((acD N (x * 3)).1)]
  exact a_ireturn (ty := .int) hb hz dX9_draws_14 hret rfl (by rw [hr]; exact Nat.le_of_ble_eq_true rfl) (by rw [hr]; exact Nat.le_of_ble_eq_true rfl) (⟨rfl, rfl⟩)
set_option maxRecDepth 100000 in
theorem xd6 (g : GG) (h : AH) (B : Nat) (hL : LY h B) (rn : Nat) (hrn : hI h (B + 19) 1 = nI rn) (lrn : rn + 3 ≤ 20) (q : Nat) (hq : B + 62 ≤ q) (ht : hT h q = (6, 0)) (N Q : Int32) (hN0 : hI h q 0 = N) (hV : hI h q 4 = Q) (x : Int32) : AM g 4 0 0 mX6_draws [.ref q, .int x, .ref (B + 19)] h (fun rv h' => rv = some (.int ((acDA 6 N x).1)) ∧ h' = (trH (B + 20) (B + 19) 1 h rn ((acDA 6 N x).2))) := by
  refine AM.of [(0, .ref q), (1, .int x), (2, .ref (B + 19))] (by decide) (Nat.le_of_ble_eq_true rfl) rfl ?_
  intro V hV
  have hb : V.2.1.2.1 = cX6_draws := by subst hV; rfl
  have ow : V.2.1.1.cls = RX6 := by subst hV; rfl
  have hr : V.2.2.1 = aw_rm 4 0 0 := by subst hV; rfl
  have hz : V.2.2.2 = aw_Z V.1 (fun rv h' => rv = some (.int ((acDA 6 N x).1)) ∧ h' = (trH (B + 20) (B + 19) 1 h rn ((acDA 6 N x).2))) V.2.2.1 := by subst hV; rfl
  have hg : V.1 = g := by subst hV; rfl
  have hret : V.2.1.2.2.2 = (some .int) := by subst hV; rfl
  have hml : V.2.1.2.2.1 = 3 := by subst hV; rfl
  clear hV
  refine a_aload_n hb dX6_draws_0 rfl 2 rfl ?_
  refine a_bipush (v := 51) hb dX6_draws_1 (by decide) ?_
  refine a_callV hb dX6_draws_3 (by rw [hg]; exact x_note g h B hL rn hrn (by omega) 51) (by rw [ow]; exact clv_RX6_25) (hL.1 19 (by decide)) (by decide) rfl rfl rfl (Nat.le_of_ble_eq_true rfl) (by rw [hr]; exact ⟨by decide, by decide⟩) (by rw [hr]; exact ⟨Nat.le_of_ble_eq_true rfl, Nat.le_of_ble_eq_true rfl⟩) ?_
  intro rv h' hp
  rw [hp.1, hp.2]
  show AW V 0 0 (trH (B + 20) (B + 19) 1 h rn ([51])) 6 [(0, .ref q), (1, .int x), (2, .ref (B + 19))] []
  refine a_aload_n hb dX6_draws_6 rfl 0 rfl ?_
  refine a_iload_n hb dX6_draws_7 rfl 1 rfl ?_
  refine a_aload_n hb dX6_draws_8 rfl 2 rfl ?_
  refine a_callP hb dX6_draws_9 (by rw [hg]; exact xw6 g (trH (B + 20) (B + 19) 1 h rn ([51])) B (LY.tr hL) (rn + ([51]).length) (trH_g (by omega)) (by simp only [List.length_append, List.length_cons, List.length_nil]; (try have q1 := @acT_l 6 N Q (x - 1)); omega) q hq (trH_k ht) N Q ((congrFun (trH_n (by omega) (by omega)) 0).trans hN0) ((congrFun (trH_n (by omega) (by omega)) 4).trans hV) x) (by rw [ow]; exact clp_RX6_31) (trH_k ht : hT (trH (B + 20) (B + 19) 1 h rn ([51])) q = (6, 0)) (by decide) rfl rfl rfl (Nat.le_of_ble_eq_true rfl) (by rw [hr]; exact ⟨by decide, by decide⟩) (by rw [hr]; exact ⟨Nat.le_of_ble_eq_true rfl, Nat.le_of_ble_eq_true rfl⟩) ?_
  intro rv h' hp
  rw [hp.1, hp.2]
  rw [trH_tr (by omega)]
  show AW V 0 0 (trH (B + 20) (B + 19) 1 h rn ([51] ++ (acW N x).2)) 12 [(0, .ref q), (1, .int x), (2, .ref (B + 19))] [.int ((acW N x).1)]
  refine a_aload_n hb dX6_draws_12 rfl 0 rfl ?_
  refine a_getI hb dX6_draws_13 (by rw [ow]; exact fl_RX6_35_6) (trH_k ht : hT (trH (B + 20) (B + 19) 1 h rn ([51] ++ (acW N x).2)) q = (6, 0)) ?_
  rw [trH_n (by omega) (by omega), hN0]
  show AW V 0 0 (trH (B + 20) (B + 19) 1 h rn ([51] ++ (acW N x).2)) 16 [(0, .ref q), (1, .int x), (2, .ref (B + 19))] [.int N, .int ((acW N x).1)]
  refine a_ixor hb dX6_draws_16 ?_
  exact a_ireturn (ty := .int) hb hz dX6_draws_17 hret rfl (by rw [hr]; exact Nat.le_of_ble_eq_true rfl) (by rw [hr]; exact Nat.le_of_ble_eq_true rfl) (⟨by rw [acDA_6], by rw [acDA_6]⟩)
set_option maxRecDepth 100000 in
theorem xr6 (g : GG) (h : AH) (B : Nat) (hL : LY h B) (rn : Nat) (hrn : hI h (B + 19) 1 = nI rn) (lrn : rn + 5 ≤ 20) (q : Nat) (hq : B + 62 ≤ q) (ht : hT h q = (6, 0)) (N Q : Int32) (hN0 : hI h q 0 = N) (hV : hI h q 4 = Q) (x : Int32) : AM g 5 0 0 mX2_rises [.ref q, .int x, .ref (B + 19)] h (fun rv h' => rv = some (.int ((acRA 6 N Q x).1)) ∧ h' = (trH (B + 20) (B + 19) 1 h rn ((acRA 6 N Q x).2))) := by
  refine AM.of [(0, .ref q), (1, .int x), (2, .ref (B + 19))] (by decide) (Nat.le_of_ble_eq_true rfl) rfl ?_
  intro V hV
  have hb : V.2.1.2.1 = cX2_rises := by subst hV; rfl
  have ow : V.2.1.1.cls = RX2 := by subst hV; rfl
  have hr : V.2.2.1 = aw_rm 5 0 0 := by subst hV; rfl
  have hz : V.2.2.2 = aw_Z V.1 (fun rv h' => rv = some (.int ((acRA 6 N Q x).1)) ∧ h' = (trH (B + 20) (B + 19) 1 h rn ((acRA 6 N Q x).2))) V.2.2.1 := by subst hV; rfl
  have hg : V.1 = g := by subst hV; rfl
  have hret : V.2.1.2.2.2 = (some .int) := by subst hV; rfl
  have hml : V.2.1.2.2.1 = 3 := by subst hV; rfl
  clear hV
  refine a_aload_n hb dX2_rises_0 rfl 2 rfl ?_
  refine a_iconst (v := 2) hb dX2_rises_1 (by decide) ?_
  refine a_callV hb dX2_rises_2 (by rw [hg]; exact x_note g h B hL rn hrn (by omega) 2) (by rw [ow]; exact clv_RX2_31) (hL.1 19 (by decide)) (by decide) rfl rfl rfl (Nat.le_of_ble_eq_true rfl) (by rw [hr]; exact ⟨by decide, by decide⟩) (by rw [hr]; exact ⟨Nat.le_of_ble_eq_true rfl, Nat.le_of_ble_eq_true rfl⟩) ?_
  intro rv h' hp
  rw [hp.1, hp.2]
  show AW V 0 0 (trH (B + 20) (B + 19) 1 h rn ([2])) 5 [(0, .ref q), (1, .int x), (2, .ref (B + 19))] []
  refine a_aload_n hb dX2_rises_5 rfl 0 rfl ?_
  refine a_iload_n hb dX2_rises_6 rfl 1 rfl ?_
  refine a_aload_n hb dX2_rises_7 rfl 2 rfl ?_
  refine a_callU hb dX2_rises_8 (by rw [hg]; exact xd6 g (trH (B + 20) (B + 19) 1 h rn ([2])) B (LY.tr hL) (rn + ([2]).length) (trH_g (by omega)) (by simp only [List.length_append, List.length_cons, List.length_nil]; (try have q1 := @acT_l 6 N Q (x - 1)); omega) q hq (trH_k ht) N Q ((congrFun (trH_n (by omega) (by omega)) 0).trans hN0) ((congrFun (trH_n (by omega) (by omega)) 4).trans hV) x) (by rw [ow]; exact clu_RX2_37_6) (trH_k ht : hT (trH (B + 20) (B + 19) 1 h rn ([2])) q = (6, 0)) (by decide) rfl rfl rfl (Nat.le_of_ble_eq_true rfl) (by rw [hr]; exact ⟨by decide, by decide⟩) (by rw [hr]; exact ⟨Nat.le_of_ble_eq_true rfl, Nat.le_of_ble_eq_true rfl⟩) ?_
  intro rv h' hp
  rw [hp.1, hp.2]
  rw [trH_tr (by omega)]
  show AW V 0 0 (trH (B + 20) (B + 19) 1 h rn ([2] ++ (acDA 6 N x).2)) 11 [(0, .ref q), (1, .int x), (2, .ref (B + 19))] [.int ((acDA 6 N x).1)]
  refine a_aload_n hb dX2_rises_11 rfl 0 rfl ?_
  refine a_getI hb dX2_rises_12 (by rw [ow]; exact fl_RX2_22_6) (trH_k ht : hT (trH (B + 20) (B + 19) 1 h rn ([2] ++ (acDA 6 N x).2)) q = (6, 0)) ?_
  rw [trH_n (by omega) (by omega), hV]
  show AW V 0 0 (trH (B + 20) (B + 19) 1 h rn ([2] ++ (acDA 6 N x).2)) 15 [(0, .ref q), (1, .int x), (2, .ref (B + 19))] [.int Q, .int ((acDA 6 N x).1)]
  refine a_isub hb dX2_rises_15 ?_
  exact a_ireturn (ty := .int) hb hz dX2_rises_16 hret rfl (by rw [hr]; exact Nat.le_of_ble_eq_true rfl) (by rw [hr]; exact Nat.le_of_ble_eq_true rfl) (⟨by rw [acRA_6]; rfl, by rw [acRA_6]; rfl⟩)
set_option maxRecDepth 100000 in
theorem xt6 (g : GG) (h : AH) (B : Nat) (hL : LY h B) (rn : Nat) (hrn : hI h (B + 19) 1 = nI rn) (lrn : rn + 10 ≤ 20) (q : Nat) (hq : B + 62 ≤ q) (ht : hT h q = (6, 0)) (N Q : Int32) (hN0 : hI h q 0 = N) (hV : hI h q 4 = Q) (x : Int32) : AM g 7 0 0 mX2_tells [.ref q, .int x, .ref (B + 19)] h (fun rv h' => rv = some (.int ((acTA 6 N Q x).1)) ∧ h' = (trH (B + 20) (B + 19) 1 h rn ((acTA 6 N Q x).2))) := by
  refine AM.of [(0, .ref q), (1, .int x), (2, .ref (B + 19))] (by decide) (Nat.le_of_ble_eq_true rfl) rfl ?_
  intro V hV
  have hb : V.2.1.2.1 = cX2_tells := by subst hV; rfl
  have ow : V.2.1.1.cls = RX2 := by subst hV; rfl
  have hr : V.2.2.1 = aw_rm 7 0 0 := by subst hV; rfl
  have hz : V.2.2.2 = aw_Z V.1 (fun rv h' => rv = some (.int ((acTA 6 N Q x).1)) ∧ h' = (trH (B + 20) (B + 19) 1 h rn ((acTA 6 N Q x).2))) V.2.2.1 := by subst hV; rfl
  have hg : V.1 = g := by subst hV; rfl
  have hret : V.2.1.2.2.2 = (some .int) := by subst hV; rfl
  have hml : V.2.1.2.2.1 = 3 := by subst hV; rfl
  clear hV
  refine a_aload_n hb dX2_tells_0 rfl 2 rfl ?_
  refine a_iconst (v := 3) hb dX2_tells_1 (by decide) ?_
  refine a_callV hb dX2_tells_2 (by rw [hg]; exact x_note g h B hL rn hrn (by omega) 3) (by rw [ow]; exact clv_RX2_31) (hL.1 19 (by decide)) (by decide) rfl rfl rfl (Nat.le_of_ble_eq_true rfl) (by rw [hr]; exact ⟨by decide, by decide⟩) (by rw [hr]; exact ⟨Nat.le_of_ble_eq_true rfl, Nat.le_of_ble_eq_true rfl⟩) ?_
  intro rv h' hp
  rw [hp.1, hp.2]
  show AW V 0 0 (trH (B + 20) (B + 19) 1 h rn ([3])) 5 [(0, .ref q), (1, .int x), (2, .ref (B + 19))] []
  refine a_aload_n hb dX2_tells_5 rfl 0 rfl ?_
  refine a_iload_n hb dX2_tells_6 rfl 1 rfl ?_
  refine a_aload_n hb dX2_tells_7 rfl 2 rfl ?_
  refine a_callU hb dX2_tells_8 (by rw [hg]; exact xr6 g (trH (B + 20) (B + 19) 1 h rn ([3])) B (LY.tr hL) (rn + ([3]).length) (trH_g (by omega)) (by simp only [List.length_append, List.length_cons, List.length_nil]; (try have q1 := @acT_l 6 N Q (x - 1)); omega) q hq (trH_k ht) N Q ((congrFun (trH_n (by omega) (by omega)) 0).trans hN0) ((congrFun (trH_n (by omega) (by omega)) 4).trans hV) x) (by rw [ow]; exact clu_RX2_41_6) (trH_k ht : hT (trH (B + 20) (B + 19) 1 h rn ([3])) q = (6, 0)) (by decide) rfl rfl rfl (Nat.le_of_ble_eq_true rfl) (by rw [hr]; exact ⟨by decide, by decide⟩) (by rw [hr]; exact ⟨Nat.le_of_ble_eq_true rfl, Nat.le_of_ble_eq_true rfl⟩) ?_
  intro rv h' hp
  rw [hp.1, hp.2]
  rw [trH_tr (by omega)]
  show AW V 0 0 (trH (B + 20) (B + 19) 1 h rn ([3] ++ (acRA 6 N Q x).2)) 11 [(0, .ref q), (1, .int x), (2, .ref (B + 19))] [.int ((acRA 6 N Q x).1)]
  refine a_iconst (v := 2) hb dX2_tells_11 (by decide) ?_
  refine a_imul hb dX2_tells_12 ?_
  exact a_ireturn (ty := .int) hb hz dX2_tells_13 hret rfl (by rw [hr]; exact Nat.le_of_ble_eq_true rfl) (by rw [hr]; exact Nat.le_of_ble_eq_true rfl) (⟨by rw [acTA_6]; rfl, by rw [acTA_6]; rfl⟩)
