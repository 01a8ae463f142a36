/-! ===== String.indexOf, up to the text ===== -/
set_option maxRecDepth 100000 in
theorem j_io0 (g : GG) (h : AH) (c : Int32) (hc : oO c 0 255 = false) (h0 : ¬ c < 0) (h1 : ¬ 255 < c) : AM g 2 0 0 mJ1_indexOf_4cfef [.ref (gS g (7 + 0)), .int c, .int 0, .int 5] h (fun rv h' => rv = some (.int (if ix5 c = 5 then -1 else nI (ix5 c))) ∧ h' = h) := by
  refine AM.of [(0, .ref (gS g (7 + 0))), (1, .int c), (2, .int 0), (3, .int 5)] (by decide) (Nat.le_of_ble_eq_true rfl) rfl ?_
  intro V hV
  have hb : V.2.1.2.1 = cJ1_indexOf_4cfef := by subst hV; rfl
  have ow : V.2.1.1.cls = RJ1 := by subst hV; rfl
  have hr : V.2.2.1 = aw_rm 2 0 0 := by subst hV; rfl
  have hz : V.2.2.2 = aw_Z V.1 (fun rv h' => rv = some (.int (if ix5 c = 5 then -1 else nI (ix5 c))) ∧ h' = h) V.2.2.1 := by subst hV; rfl
  have hg : V.1 = g := by subst hV; rfl
  have hret : V.2.1.2.2.2 = (some .int) := by subst hV; rfl
  have hml : V.2.1.2.2.1 = 4 := by subst hV; rfl
  clear hV
  rw [← hg]
  refine a_iload_n hb dJ1_indexOf_4cfef_0 rfl 1 rfl ?_
  refine a_callS hb dJ1_indexOf_4cfef_1 (by rw [hg]; exact j_can g h c h0 h1) (by rw [ow]; exact cls_RJ1_88) rfl rfl (Nat.le_of_ble_eq_true rfl) (by rw [hr]; exact ⟨by decide, by decide⟩) (by rw [hr]; exact ⟨Nat.le_of_ble_eq_true rfl, Nat.le_of_ble_eq_true rfl⟩) ?_
  intro rv h' hp_
  rw [hp_.1, hp_.2]
  show AW V 0 0 h 4 [(0, .ref (gS V.1 (7 + 0))), (1, .int c), (2, .int 0), (3, .int 5)] [.int 1]
  refine a_if_ne hb 9 dJ1_indexOf_4cfef_4 (by decide) (fun c4_0 => ?_) (fun c4_0 => absurd c4_0 (by decide))
  refine a_iload_n hb dJ1_indexOf_4cfef_9 rfl 2 rfl ?_
  refine a_iconst (v := 0) hb dJ1_indexOf_4cfef_10 (by decide) ?_
  refine a_mmax hb dJ1_indexOf_4cfef_11 (by rw [ow]; exact kw_530) kw_490 kw_94 kw_491 (by rw [hr]; exact ⟨by decide, Nat.le_of_ble_eq_true rfl⟩) (by rw [hr]; exact ⟨Nat.le_of_ble_eq_true rfl, Nat.le_of_ble_eq_true rfl⟩) ?_
  rw [show ((if (0 : Int32) < 0 then 0 else 0) : Int32) = 0 from by decide]
  show AW V 0 0 h 14 [(0, .ref (gS V.1 (7 + 0))), (1, .int c), (2, .int 0), (3, .int 5)] [.int 0]
  refine a_istore_n (L' := [(2, .int 0), (0, .ref (gS V.1 (7 + 0))), (1, .int c), (3, .int 5)]) hb dJ1_indexOf_4cfef_14 rfl (by rw [hml]; decide) rfl ?_
  refine a_iload_n hb dJ1_indexOf_4cfef_15 rfl 3 rfl ?_
  refine a_aload_n hb dJ1_indexOf_4cfef_16 rfl 1 rfl ?_
  refine a_lenT (i := 0) (v := 5) hb (by decide) dJ1_indexOf_4cfef_17 rfl ?_
  rw [show (5 : Int32) = 5 from by decide]
  show AW V 0 0 h 18 [(2, .int 0), (0, .ref (gS V.1 (7 + 0))), (1, .int c), (3, .int 5)] [.int 5, .int 5]
  refine a_mmin hb dJ1_indexOf_4cfef_18 (by rw [ow]; exact kw_531) kw_407 kw_94 kw_408 (by rw [hr]; exact ⟨by decide, Nat.le_of_ble_eq_true rfl⟩) (by rw [hr]; exact ⟨Nat.le_of_ble_eq_true rfl, Nat.le_of_ble_eq_true rfl⟩) ?_
  rw [show ((if (5 : Int32) < 5 then 5 else 5) : Int32) = 5 from by decide]
  show AW V 0 0 h 21 [(2, .int 0), (0, .ref (gS V.1 (7 + 0))), (1, .int c), (3, .int 5)] [.int 5]
  refine a_istore_n (L' := [(3, .int 5), (2, .int 0), (0, .ref (gS V.1 (7 + 0))), (1, .int c)]) hb dJ1_indexOf_4cfef_21 rfl (by rw [hml]; decide) rfl ?_
  refine a_iload_n hb dJ1_indexOf_4cfef_22 rfl 1 rfl ?_
  refine a_iload_n hb dJ1_indexOf_4cfef_23 rfl 0 rfl ?_
  refine a_icmp_lt hb 29 dJ1_indexOf_4cfef_24 (by decide) (fun c24_0 => ?_) (fun c24_0 => absurd (by decide) c24_0)
  refine a_aload_n hb dJ1_indexOf_4cfef_29 rfl 2 rfl ?_
  refine a_iload_n hb dJ1_indexOf_4cfef_30 rfl 3 rfl ?_
  refine a_iload_n hb dJ1_indexOf_4cfef_31 rfl 1 rfl ?_
  refine a_iload_n hb dJ1_indexOf_4cfef_32 rfl 0 rfl ?_
  refine a_callS hb dJ1_indexOf_4cfef_33 (by have z_ := j_ioc0 g h c hc; rw [← hg] at z_; exact z_) (by rw [ow]; exact cls_RJ1_95) rfl rfl (Nat.le_of_ble_eq_true rfl) (by rw [hr]; exact ⟨by decide, by decide⟩) (by rw [hr]; exact ⟨Nat.le_of_ble_eq_true rfl, Nat.le_of_ble_eq_true rfl⟩) ?_
  intro rv h' hp_
  rw [hp_.1, hp_.2]
  show AW V 0 0 h 36 [(3, .int 5), (2, .int 0), (0, .ref (gS V.1 (7 + 0))), (1, .int c)] [.int (if ix5 c = 5 then -1 else nI (ix5 c))]
  exact a_ireturn (ty := .int) hb hz dJ1_indexOf_4cfef_36 hret rfl (by rw [hr]; exact Nat.le_of_ble_eq_true rfl) (by rw [hr]; exact Nat.le_of_ble_eq_true rfl) (⟨rfl, rfl⟩)
set_option maxRecDepth 100000 in
theorem j_ix0 (g : GG) (h : AH) (c : Int32) (hc : oO c 0 255 = false) (h0 : ¬ c < 0) (h1 : ¬ 255 < c) : AM g 3 0 0 mJ0_indexOf_7cf53 [.ref (gS g (2 + 0)), .int c, .int 0] h (fun rv h' => rv = some (.int (if ix5 c = 5 then -1 else nI (ix5 c))) ∧ h' = h) := by
  refine AM.of [(0, .ref (gS g (2 + 0))), (1, .int c), (2, .int 0)] (by decide) (Nat.le_of_ble_eq_true rfl) rfl ?_
  intro V hV
  have hb : V.2.1.2.1 = cJ0_indexOf_7cf53 := by subst hV; rfl
  have ow : V.2.1.1.cls = RJ0 := by subst hV; rfl
  have hr : V.2.2.1 = aw_rm 3 0 0 := by subst hV; rfl
  have hz : V.2.2.2 = aw_Z V.1 (fun rv h' => rv = some (.int (if ix5 c = 5 then -1 else nI (ix5 c))) ∧ h' = h) V.2.2.1 := by subst hV; rfl
  have hg : V.1 = g := by subst hV; rfl
  have hret : V.2.1.2.2.2 = (some .int) := by subst hV; rfl
  have hml : V.2.1.2.2.1 = 3 := by subst hV; rfl
  clear hV
  rw [← hg]
  refine a_aload_n hb dJ0_indexOf_7cf53_0 rfl 0 rfl ?_
  refine a_callT (i := 0) hb (by decide) dJ0_indexOf_7cf53_1 (by rw [hg]; exact j_latin g h 0 (by decide)) (by rw [ow]; exact clv_RJ0_492) rfl rfl rfl (Nat.le_of_ble_eq_true rfl) (by rw [hr]; exact ⟨by decide, by decide⟩) (by rw [hr]; exact ⟨Nat.le_of_ble_eq_true rfl, Nat.le_of_ble_eq_true rfl⟩) ?_
  intro rv h' hp
  rw [hp.1, hp.2]
  show AW V 0 0 h 4 [(0, .ref (gS V.1 (2 + 0))), (1, .int c), (2, .int 0)] [.int 1]
  refine a_if_eq hb 23 dJ0_indexOf_7cf53_4 (by decide) (fun c4_0 => absurd c4_0 (by decide)) (fun c4_0 => ?_)
  refine a_aload_n hb dJ0_indexOf_7cf53_7 rfl 0 rfl ?_
  refine a_getTv (i := 0) hb (by decide) dJ0_indexOf_7cf53_8 (by rw [ow]; exact kw_1424) ?_
  refine a_iload_n hb dJ0_indexOf_7cf53_11 rfl 1 rfl ?_
  refine a_iload_n hb dJ0_indexOf_7cf53_12 rfl 2 rfl ?_
  refine a_aload_n hb dJ0_indexOf_7cf53_13 rfl 0 rfl ?_
  refine a_callT (i := 0) hb (by decide) dJ0_indexOf_7cf53_14 (by rw [hg]; exact j_length g h 0 (by decide)) (by rw [ow]; exact clv_RJ0_505) rfl rfl rfl (Nat.le_of_ble_eq_true rfl) (by rw [hr]; exact ⟨by decide, by decide⟩) (by rw [hr]; exact ⟨Nat.le_of_ble_eq_true rfl, Nat.le_of_ble_eq_true rfl⟩) ?_
  intro rv h' hp_
  rw [hp_.1, hp_.2, show Int32.ofNat (aw_tl.getD 0 0) = 5 from by decide]
  show AW V 0 0 h 17 [(0, .ref (gS V.1 (2 + 0))), (1, .int c), (2, .int 0)] [.int 5, .int 0, .int c, .ref (gS V.1 (7 + 0))]
  refine a_callS hb dJ0_indexOf_7cf53_17 (by have z_ := j_io0 g h c hc h0 h1; rw [← hg] at z_; exact z_) (by rw [ow]; exact cls_RJ0_637) rfl rfl (Nat.le_of_ble_eq_true rfl) (by rw [hr]; exact ⟨by decide, by decide⟩) (by rw [hr]; exact ⟨Nat.le_of_ble_eq_true rfl, Nat.le_of_ble_eq_true rfl⟩) ?_
  intro rv h' hp_
  rw [hp_.1, hp_.2]
  show AW V 0 0 h 20 [(0, .ref (gS V.1 (2 + 0))), (1, .int c), (2, .int 0)] [.int (if ix5 c = 5 then -1 else nI (ix5 c))]
  refine a_goto hb 36 dJ0_indexOf_7cf53_20 (by decide) ?_
  exact a_ireturn (ty := .int) hb hz dJ0_indexOf_7cf53_36 hret rfl (by rw [hr]; exact Nat.le_of_ble_eq_true rfl) (by rw [hr]; exact Nat.le_of_ble_eq_true rfl) (⟨rfl, rfl⟩)
set_option maxRecDepth 100000 in
theorem j_index0 (g : GG) (h : AH) (c : Int32) (hc : oO c 0 255 = false) (h0 : ¬ c < 0) (h1 : ¬ 255 < c) : AM g 4 0 0 mJ0_indexOf_0f7a4 [.ref (gS g (2 + 0)), .int c] h (fun rv h' => rv = some (.int (if ix5 c = 5 then -1 else nI (ix5 c))) ∧ h' = h) := by
  refine AM.of [(0, .ref (gS g (2 + 0))), (1, .int c)] (by decide) (Nat.le_of_ble_eq_true rfl) rfl ?_
  intro V hV
  have hb : V.2.1.2.1 = cJ0_indexOf_0f7a4 := by subst hV; rfl
  have ow : V.2.1.1.cls = RJ0 := by subst hV; rfl
  have hr : V.2.2.1 = aw_rm 4 0 0 := by subst hV; rfl
  have hz : V.2.2.2 = aw_Z V.1 (fun rv h' => rv = some (.int (if ix5 c = 5 then -1 else nI (ix5 c))) ∧ h' = h) V.2.2.1 := by subst hV; rfl
  have hg : V.1 = g := by subst hV; rfl
  have hret : V.2.1.2.2.2 = (some .int) := by subst hV; rfl
  have hml : V.2.1.2.2.1 = 2 := by subst hV; rfl
  clear hV
  rw [← hg]
  refine a_aload_n hb dJ0_indexOf_0f7a4_0 rfl 0 rfl ?_
  refine a_iload_n hb dJ0_indexOf_0f7a4_1 rfl 1 rfl ?_
  refine a_iconst (v := 0) hb dJ0_indexOf_0f7a4_2 (by decide) ?_
  refine a_callT (i := 0) hb (by decide) dJ0_indexOf_0f7a4_3 (by have z_ := j_ix0 g h c hc h0 h1; rw [← hg] at z_; exact z_) (by rw [ow]; exact clv_RJ0_633) rfl rfl rfl (Nat.le_of_ble_eq_true rfl) (by rw [hr]; exact ⟨by decide, by decide⟩) (by rw [hr]; exact ⟨Nat.le_of_ble_eq_true rfl, Nat.le_of_ble_eq_true rfl⟩) ?_
  intro rv h' hp_
  rw [hp_.1, hp_.2]
  show AW V 0 0 h 6 [(0, .ref (gS V.1 (2 + 0))), (1, .int c)] [.int (if ix5 c = 5 then -1 else nI (ix5 c))]
  exact a_ireturn (ty := .int) hb hz dJ0_indexOf_0f7a4_6 hret rfl (by rw [hr]; exact Nat.le_of_ble_eq_true rfl) (by rw [hr]; exact Nat.le_of_ble_eq_true rfl) (⟨rfl, rfl⟩)
set_option maxRecDepth 100000 in
theorem j_io1 (g : GG) (h : AH) (c : Int32) (hc : oO c 0 255 = false) (h0 : ¬ c < 0) (h1 : ¬ 255 < c) : AM g 2 0 0 mJ1_indexOf_4cfef [.ref (gS g (7 + 1)), .int c, .int 0, .int 3] h (fun rv h' => rv = some (.int (if ix3 c = 3 then -1 else nI (ix3 c))) ∧ h' = h) := by
  refine AM.of [(0, .ref (gS g (7 + 1))), (1, .int c), (2, .int 0), (3, .int 3)] (by decide) (Nat.le_of_ble_eq_true rfl) rfl ?_
  intro V hV
  have hb : V.2.1.2.1 = cJ1_indexOf_4cfef := by subst hV; rfl
  have ow : V.2.1.1.cls = RJ1 := by subst hV; rfl
  have hr : V.2.2.1 = aw_rm 2 0 0 := by subst hV; rfl
  have hz : V.2.2.2 = aw_Z V.1 (fun rv h' => rv = some (.int (if ix3 c = 3 then -1 else nI (ix3 c))) ∧ h' = h) V.2.2.1 := by subst hV; rfl
  have hg : V.1 = g := by subst hV; rfl
  have hret : V.2.1.2.2.2 = (some .int) := by subst hV; rfl
  have hml : V.2.1.2.2.1 = 4 := by subst hV; rfl
  clear hV
  rw [← hg]
  refine a_iload_n hb dJ1_indexOf_4cfef_0 rfl 1 rfl ?_
  refine a_callS hb dJ1_indexOf_4cfef_1 (by rw [hg]; exact j_can g h c h0 h1) (by rw [ow]; exact cls_RJ1_88) rfl rfl (Nat.le_of_ble_eq_true rfl) (by rw [hr]; exact ⟨by decide, by decide⟩) (by rw [hr]; exact ⟨Nat.le_of_ble_eq_true rfl, Nat.le_of_ble_eq_true rfl⟩) ?_
  intro rv h' hp_
  rw [hp_.1, hp_.2]
  show AW V 0 0 h 4 [(0, .ref (gS V.1 (7 + 1))), (1, .int c), (2, .int 0), (3, .int 3)] [.int 1]
  refine a_if_ne hb 9 dJ1_indexOf_4cfef_4 (by decide) (fun c4_0 => ?_) (fun c4_0 => absurd c4_0 (by decide))
  refine a_iload_n hb dJ1_indexOf_4cfef_9 rfl 2 rfl ?_
  refine a_iconst (v := 0) hb dJ1_indexOf_4cfef_10 (by decide) ?_
  refine a_mmax hb dJ1_indexOf_4cfef_11 (by rw [ow]; exact kw_530) kw_490 kw_94 kw_491 (by rw [hr]; exact ⟨by decide, Nat.le_of_ble_eq_true rfl⟩) (by rw [hr]; exact ⟨Nat.le_of_ble_eq_true rfl, Nat.le_of_ble_eq_true rfl⟩) ?_
  rw [show ((if (0 : Int32) < 0 then 0 else 0) : Int32) = 0 from by decide]
  show AW V 0 0 h 14 [(0, .ref (gS V.1 (7 + 1))), (1, .int c), (2, .int 0), (3, .int 3)] [.int 0]
  refine a_istore_n (L' := [(2, .int 0), (0, .ref (gS V.1 (7 + 1))), (1, .int c), (3, .int 3)]) hb dJ1_indexOf_4cfef_14 rfl (by rw [hml]; decide) rfl ?_
  refine a_iload_n hb dJ1_indexOf_4cfef_15 rfl 3 rfl ?_
  refine a_aload_n hb dJ1_indexOf_4cfef_16 rfl 1 rfl ?_
  refine a_lenT (i := 1) (v := 3) hb (by decide) dJ1_indexOf_4cfef_17 rfl ?_
  rw [show (3 : Int32) = 3 from by decide]
  show AW V 0 0 h 18 [(2, .int 0), (0, .ref (gS V.1 (7 + 1))), (1, .int c), (3, .int 3)] [.int 3, .int 3]
  refine a_mmin hb dJ1_indexOf_4cfef_18 (by rw [ow]; exact kw_531) kw_407 kw_94 kw_408 (by rw [hr]; exact ⟨by decide, Nat.le_of_ble_eq_true rfl⟩) (by rw [hr]; exact ⟨Nat.le_of_ble_eq_true rfl, Nat.le_of_ble_eq_true rfl⟩) ?_
  rw [show ((if (3 : Int32) < 3 then 3 else 3) : Int32) = 3 from by decide]
  show AW V 0 0 h 21 [(2, .int 0), (0, .ref (gS V.1 (7 + 1))), (1, .int c), (3, .int 3)] [.int 3]
  refine a_istore_n (L' := [(3, .int 3), (2, .int 0), (0, .ref (gS V.1 (7 + 1))), (1, .int c)]) hb dJ1_indexOf_4cfef_21 rfl (by rw [hml]; decide) rfl ?_
  refine a_iload_n hb dJ1_indexOf_4cfef_22 rfl 1 rfl ?_
  refine a_iload_n hb dJ1_indexOf_4cfef_23 rfl 0 rfl ?_
  refine a_icmp_lt hb 29 dJ1_indexOf_4cfef_24 (by decide) (fun c24_0 => ?_) (fun c24_0 => absurd (by decide) c24_0)
  refine a_aload_n hb dJ1_indexOf_4cfef_29 rfl 2 rfl ?_
  refine a_iload_n hb dJ1_indexOf_4cfef_30 rfl 3 rfl ?_
  refine a_iload_n hb dJ1_indexOf_4cfef_31 rfl 1 rfl ?_
  refine a_iload_n hb dJ1_indexOf_4cfef_32 rfl 0 rfl ?_
  refine a_callS hb dJ1_indexOf_4cfef_33 (by have z_ := j_ioc1 g h c hc; rw [← hg] at z_; exact z_) (by rw [ow]; exact cls_RJ1_95) rfl rfl (Nat.le_of_ble_eq_true rfl) (by rw [hr]; exact ⟨by decide, by decide⟩) (by rw [hr]; exact ⟨Nat.le_of_ble_eq_true rfl, Nat.le_of_ble_eq_true rfl⟩) ?_
  intro rv h' hp_
  rw [hp_.1, hp_.2]
  show AW V 0 0 h 36 [(3, .int 3), (2, .int 0), (0, .ref (gS V.1 (7 + 1))), (1, .int c)] [.int (if ix3 c = 3 then -1 else nI (ix3 c))]
  exact a_ireturn (ty := .int) hb hz dJ1_indexOf_4cfef_36 hret rfl (by rw [hr]; exact Nat.le_of_ble_eq_true rfl) (by rw [hr]; exact Nat.le_of_ble_eq_true rfl) (⟨rfl, rfl⟩)
set_option maxRecDepth 100000 in
theorem j_ix1 (g : GG) (h : AH) (c : Int32) (hc : oO c 0 255 = false) (h0 : ¬ c < 0) (h1 : ¬ 255 < c) : AM g 3 0 0 mJ0_indexOf_7cf53 [.ref (gS g (2 + 1)), .int c, .int 0] h (fun rv h' => rv = some (.int (if ix3 c = 3 then -1 else nI (ix3 c))) ∧ h' = h) := by
  refine AM.of [(0, .ref (gS g (2 + 1))), (1, .int c), (2, .int 0)] (by decide) (Nat.le_of_ble_eq_true rfl) rfl ?_
  intro V hV
  have hb : V.2.1.2.1 = cJ0_indexOf_7cf53 := by subst hV; rfl
  have ow : V.2.1.1.cls = RJ0 := by subst hV; rfl
  have hr : V.2.2.1 = aw_rm 3 0 0 := by subst hV; rfl
  have hz : V.2.2.2 = aw_Z V.1 (fun rv h' => rv = some (.int (if ix3 c = 3 then -1 else nI (ix3 c))) ∧ h' = h) V.2.2.1 := by subst hV; rfl
  have hg : V.1 = g := by subst hV; rfl
  have hret : V.2.1.2.2.2 = (some .int) := by subst hV; rfl
  have hml : V.2.1.2.2.1 = 3 := by subst hV; rfl
  clear hV
  rw [← hg]
  refine a_aload_n hb dJ0_indexOf_7cf53_0 rfl 0 rfl ?_
  refine a_callT (i := 1) hb (by decide) dJ0_indexOf_7cf53_1 (by rw [hg]; exact j_latin g h 1 (by decide)) (by rw [ow]; exact clv_RJ0_492) rfl rfl rfl (Nat.le_of_ble_eq_true rfl) (by rw [hr]; exact ⟨by decide, by decide⟩) (by rw [hr]; exact ⟨Nat.le_of_ble_eq_true rfl, Nat.le_of_ble_eq_true rfl⟩) ?_
  intro rv h' hp
  rw [hp.1, hp.2]
  show AW V 0 0 h 4 [(0, .ref (gS V.1 (2 + 1))), (1, .int c), (2, .int 0)] [.int 1]
  refine a_if_eq hb 23 dJ0_indexOf_7cf53_4 (by decide) (fun c4_0 => absurd c4_0 (by decide)) (fun c4_0 => ?_)
  refine a_aload_n hb dJ0_indexOf_7cf53_7 rfl 0 rfl ?_
  refine a_getTv (i := 1) hb (by decide) dJ0_indexOf_7cf53_8 (by rw [ow]; exact kw_1424) ?_
  refine a_iload_n hb dJ0_indexOf_7cf53_11 rfl 1 rfl ?_
  refine a_iload_n hb dJ0_indexOf_7cf53_12 rfl 2 rfl ?_
  refine a_aload_n hb dJ0_indexOf_7cf53_13 rfl 0 rfl ?_
  refine a_callT (i := 1) hb (by decide) dJ0_indexOf_7cf53_14 (by rw [hg]; exact j_length g h 1 (by decide)) (by rw [ow]; exact clv_RJ0_505) rfl rfl rfl (Nat.le_of_ble_eq_true rfl) (by rw [hr]; exact ⟨by decide, by decide⟩) (by rw [hr]; exact ⟨Nat.le_of_ble_eq_true rfl, Nat.le_of_ble_eq_true rfl⟩) ?_
  intro rv h' hp_
  rw [hp_.1, hp_.2, show Int32.ofNat (aw_tl.getD 1 0) = 3 from by decide]
  show AW V 0 0 h 17 [(0, .ref (gS V.1 (2 + 1))), (1, .int c), (2, .int 0)] [.int 3, .int 0, .int c, .ref (gS V.1 (7 + 1))]
  refine a_callS hb dJ0_indexOf_7cf53_17 (by have z_ := j_io1 g h c hc h0 h1; rw [← hg] at z_; exact z_) (by rw [ow]; exact cls_RJ0_637) rfl rfl (Nat.le_of_ble_eq_true rfl) (by rw [hr]; exact ⟨by decide, by decide⟩) (by rw [hr]; exact ⟨Nat.le_of_ble_eq_true rfl, Nat.le_of_ble_eq_true rfl⟩) ?_
  intro rv h' hp_
  rw [hp_.1, hp_.2]
  show AW V 0 0 h 20 [(0, .ref (gS V.1 (2 + 1))), (1, .int c), (2, .int 0)] [.int (if ix3 c = 3 then -1 else nI (ix3 c))]
  refine a_goto hb 36 dJ0_indexOf_7cf53_20 (by decide) ?_
  exact a_ireturn (ty := .int) hb hz dJ0_indexOf_7cf53_36 hret rfl (by rw [hr]; exact Nat.le_of_ble_eq_true rfl) (by rw [hr]; exact Nat.le_of_ble_eq_true rfl) (⟨rfl, rfl⟩)
set_option maxRecDepth 100000 in
theorem j_index1 (g : GG) (h : AH) (c : Int32) (hc : oO c 0 255 = false) (h0 : ¬ c < 0) (h1 : ¬ 255 < c) : AM g 4 0 0 mJ0_indexOf_0f7a4 [.ref (gS g (2 + 1)), .int c] h (fun rv h' => rv = some (.int (if ix3 c = 3 then -1 else nI (ix3 c))) ∧ h' = h) := by
  refine AM.of [(0, .ref (gS g (2 + 1))), (1, .int c)] (by decide) (Nat.le_of_ble_eq_true rfl) rfl ?_
  intro V hV
  have hb : V.2.1.2.1 = cJ0_indexOf_0f7a4 := by subst hV; rfl
  have ow : V.2.1.1.cls = RJ0 := by subst hV; rfl
  have hr : V.2.2.1 = aw_rm 4 0 0 := by subst hV; rfl
  have hz : V.2.2.2 = aw_Z V.1 (fun rv h' => rv = some (.int (if ix3 c = 3 then -1 else nI (ix3 c))) ∧ h' = h) V.2.2.1 := by subst hV; rfl
  have hg : V.1 = g := by subst hV; rfl
  have hret : V.2.1.2.2.2 = (some .int) := by subst hV; rfl
  have hml : V.2.1.2.2.1 = 2 := by subst hV; rfl
  clear hV
  rw [← hg]
  refine a_aload_n hb dJ0_indexOf_0f7a4_0 rfl 0 rfl ?_
  refine a_iload_n hb dJ0_indexOf_0f7a4_1 rfl 1 rfl ?_
  refine a_iconst (v := 0) hb dJ0_indexOf_0f7a4_2 (by decide) ?_
  refine a_callT (i := 1) hb (by decide) dJ0_indexOf_0f7a4_3 (by have z_ := j_ix1 g h c hc h0 h1; rw [← hg] at z_; exact z_) (by rw [ow]; exact clv_RJ0_633) rfl rfl rfl (Nat.le_of_ble_eq_true rfl) (by rw [hr]; exact ⟨by decide, by decide⟩) (by rw [hr]; exact ⟨Nat.le_of_ble_eq_true rfl, Nat.le_of_ble_eq_true rfl⟩) ?_
  intro rv h' hp_
  rw [hp_.1, hp_.2]
  show AW V 0 0 h 6 [(0, .ref (gS V.1 (2 + 1))), (1, .int c)] [.int (if ix3 c = 3 then -1 else nI (ix3 c))]
  exact a_ireturn (ty := .int) hb hz dJ0_indexOf_0f7a4_6 hret rfl (by rw [hr]; exact Nat.le_of_ble_eq_true rfl) (by rw [hr]; exact Nat.le_of_ble_eq_true rfl) (⟨rfl, rfl⟩)
