/-! ===== String.indexOf of a byte ===== -/
theorem bx_t {c a : Int32} (hc : oO c 0 255 = false) (ha : oO a 1 127 = false) : (a = c.toInt8.toInt32) ↔ c = a := ⟨fun e => (bx_eq hc ha).mp e.symm, fun e => ((bx_eq hc ha).mpr e).symm⟩
set_option maxRecDepth 100000 in
theorem j_can (g : GG) (h : AH) (c : Int32) (h0 : ¬ c < 0) (h1 : ¬ 255 < c) : AM g 1 0 0 mJ1_canEncode_9a6ad [.int c] h (fun rv h' => rv = some (.int 1) ∧ h' = h) := by
  refine AM.of [(0, .int c)] (by decide) (Nat.le_of_ble_eq_true rfl) rfl ?_
  intro V hV
  have hb : V.2.1.2.1 = cJ1_canEncode_9a6ad := by subst hV; rfl
  have ow : V.2.1.1.cls = RJ1 := by subst hV; rfl
  have hr : V.2.2.1 = aw_rm 1 0 0 := by subst hV; rfl
  have hz : V.2.2.2 = aw_Z V.1 (fun rv h' => rv = some (.int 1) ∧ h' = h) V.2.2.1 := by subst hV; rfl
  have hg : V.1 = g := by subst hV; rfl
  have hret : V.2.1.2.2.2 = (some .boolean) := by subst hV; rfl
  have hml : V.2.1.2.2.1 = 1 := by subst hV; rfl
  clear hV
  refine a_iload_n hb dJ1_canEncode_9a6ad_0 rfl 0 rfl ?_
  refine a_if_lt hb 15 dJ1_canEncode_9a6ad_1 (by decide) (fun c1 => absurd c1 (h0)) (fun c1 => ?_)
  refine a_iload_n hb dJ1_canEncode_9a6ad_4 rfl 0 rfl ?_
  refine a_sipush (v := 255) hb dJ1_canEncode_9a6ad_5 (by decide) ?_
  refine a_icmp_gt hb 15 dJ1_canEncode_9a6ad_8 (by decide) (fun c8 => absurd c8 (h1)) (fun c8 => ?_)
  refine a_iconst (v := 1) hb dJ1_canEncode_9a6ad_11 (by decide) ?_
  refine a_goto hb 16 dJ1_canEncode_9a6ad_12 (by decide) ?_
  exact a_ireturn (ty := .boolean) hb hz dJ1_canEncode_9a6ad_16 hret (by first | rfl | (simp only [narrow]; done) | exact aw_nb _) (by rw [hr]; exact Nat.le_of_ble_eq_true rfl) (by rw [hr]; exact Nat.le_of_ble_eq_true rfl) (⟨rfl, rfl⟩)
set_option maxRecDepth 100000 in
theorem j_ioc0 (g : GG) (h : AH) (c : Int32) (hc : oO c 0 255 = false) : AM g 1 0 0 mJ1_indexOfChar_4cfef [.ref (gS g (7 + 0)), .int c, .int 0, .int 5] h (fun rv h' => rv = some (.int (if ix5 c = 5 then -1 else nI (ix5 c))) ∧ h' = h) := by
  refine AM.of [(0, .ref (gS g (7 + 0))), (1, .int c), (2, .int 0), (3, .int 5)] (by decide) (Nat.le_of_ble_eq_true rfl) rfl ?_
  intro V hV
  have hb : V.2.1.2.1 = cJ1_indexOfChar_4cfef := by subst hV; rfl
  have ow : V.2.1.1.cls = RJ1 := by subst hV; rfl
  have hr : V.2.2.1 = aw_rm 1 0 0 := by subst hV; rfl
  have hz : V.2.2.2 = aw_Z V.1 (fun rv h' => rv = some (.int (if ix5 c = 5 then -1 else nI (ix5 c))) ∧ h' = h) V.2.2.1 := by subst hV; rfl
  have hg : V.1 = g := by subst hV; rfl
  have hret : V.2.1.2.2.2 = (some .int) := by subst hV; rfl
  have hml : V.2.1.2.2.1 = 6 := by subst hV; rfl
  clear hV
  rw [← hg]
  refine a_iload_n hb dJ1_indexOfChar_4cfef_0 rfl 1 rfl ?_
  refine a_i2b hb dJ1_indexOfChar_4cfef_1 rfl ?_
  refine a_istore (L' := [(4, .int c.toInt8.toInt32), (0, .ref (gS V.1 (7 + 0))), (1, .int c), (2, .int 0), (3, .int 5)]) hb dJ1_indexOfChar_4cfef_2 (by rw [hml]; decide) rfl ?_
  refine a_iload_n hb dJ1_indexOfChar_4cfef_4 rfl 3 rfl ?_
  refine a_istore (L' := [(5, .int 0), (4, .int c.toInt8.toInt32), (0, .ref (gS V.1 (7 + 0))), (1, .int c), (2, .int 0), (3, .int 5)]) hb dJ1_indexOfChar_4cfef_5 (by rw [hml]; decide) rfl ?_
  refine a_iload hb dJ1_indexOfChar_4cfef_7 0 rfl ?_
  refine a_iload_n hb dJ1_indexOfChar_4cfef_9 rfl 5 rfl ?_
  refine a_icmp_ge hb 31 dJ1_indexOfChar_4cfef_10 (by decide) (fun c10_0 => absurd c10_0 (by decide)) (fun c10_0 => ?_)
  refine a_aload_n hb dJ1_indexOfChar_4cfef_13 rfl 2 rfl ?_
  refine a_iload hb dJ1_indexOfChar_4cfef_14 0 rfl ?_
  refine a_ldT (i := 0) hb (by decide) dJ1_indexOfChar_4cfef_16 (IX.inn (⟨by decide, by decide⟩ : IX (0 : Int32) 0) (show 0 < aw_tl.getD 0 0 by decide)) ?_
  rw [((⟨by decide, by decide⟩ : IX (0 : Int32) 0) : IX 0 0).2]
  rw [show (aw_tb.getD 0 []).getD 0 0 = 97 from by decide]
  show AW V 0 0 h 17 [(5, .int 0), (4, .int c.toInt8.toInt32), (0, .ref (gS V.1 (7 + 0))), (1, .int c), (2, .int 0), (3, .int 5)] [.int 97]
  refine a_iload hb dJ1_indexOfChar_4cfef_17 1 rfl ?_
  refine a_icmp_ne hb 25 dJ1_indexOfChar_4cfef_19 (by decide) (fun c19_0 => ?_) (fun c19_0 => ?_)
  · have m97 : ¬ c = 97 := mt (bx_t hc (by decide)).mpr (show ¬ 97 = c.toInt8.toInt32 from c19_0)
    refine a_iinc (v := (0 + 1)) (L' := [(5, .int (0 + 1)), (4, .int c.toInt8.toInt32), (0, .ref (gS V.1 (7 + 0))), (1, .int c), (2, .int 0), (3, .int 5)]) hb dJ1_indexOfChar_4cfef_25 0 rfl rfl (by rw [hml]; decide) rfl ?_
    refine a_goto hb 7 dJ1_indexOfChar_4cfef_28 (by decide) ?_
    rw [show ((0 : Int32) + 1) = 1 from by decide]
    show AW V 0 0 h 7 [(5, .int 1), (4, .int c.toInt8.toInt32), (0, .ref (gS V.1 (7 + 0))), (1, .int c), (2, .int 0), (3, .int 5)] []
    refine a_iload hb dJ1_indexOfChar_4cfef_7 0 rfl ?_
    refine a_iload_n hb dJ1_indexOfChar_4cfef_9 rfl 5 rfl ?_
    refine a_icmp_ge hb 31 dJ1_indexOfChar_4cfef_10 (by decide) (fun c10_1 => absurd c10_1 (by decide)) (fun c10_1 => ?_)
    refine a_aload_n hb dJ1_indexOfChar_4cfef_13 rfl 2 rfl ?_
    refine a_iload hb dJ1_indexOfChar_4cfef_14 0 rfl ?_
    refine a_ldT (i := 0) hb (by decide) dJ1_indexOfChar_4cfef_16 (IX.inn (⟨by decide, by decide⟩ : IX (1 : Int32) 1) (show 1 < aw_tl.getD 0 0 by decide)) ?_
    rw [((⟨by decide, by decide⟩ : IX (1 : Int32) 1) : IX 1 1).2]
    rw [show (aw_tb.getD 0 []).getD 1 0 = 99 from by decide]
    show AW V 0 0 h 17 [(5, .int 1), (4, .int c.toInt8.toInt32), (0, .ref (gS V.1 (7 + 0))), (1, .int c), (2, .int 0), (3, .int 5)] [.int 99]
    refine a_iload hb dJ1_indexOfChar_4cfef_17 1 rfl ?_
    refine a_icmp_ne hb 25 dJ1_indexOfChar_4cfef_19 (by decide) (fun c19_1 => ?_) (fun c19_1 => ?_)
    · have m99 : ¬ c = 99 := mt (bx_t hc (by decide)).mpr (show ¬ 99 = c.toInt8.toInt32 from c19_1)
      refine a_iinc (v := (1 + 1)) (L' := [(5, .int (1 + 1)), (4, .int c.toInt8.toInt32), (0, .ref (gS V.1 (7 + 0))), (1, .int c), (2, .int 0), (3, .int 5)]) hb dJ1_indexOfChar_4cfef_25 0 rfl rfl (by rw [hml]; decide) rfl ?_
      refine a_goto hb 7 dJ1_indexOfChar_4cfef_28 (by decide) ?_
      rw [show ((1 : Int32) + 1) = 2 from by decide]
      show AW V 0 0 h 7 [(5, .int 2), (4, .int c.toInt8.toInt32), (0, .ref (gS V.1 (7 + 0))), (1, .int c), (2, .int 0), (3, .int 5)] []
      refine a_iload hb dJ1_indexOfChar_4cfef_7 0 rfl ?_
      refine a_iload_n hb dJ1_indexOfChar_4cfef_9 rfl 5 rfl ?_
      refine a_icmp_ge hb 31 dJ1_indexOfChar_4cfef_10 (by decide) (fun c10_2 => absurd c10_2 (by decide)) (fun c10_2 => ?_)
      refine a_aload_n hb dJ1_indexOfChar_4cfef_13 rfl 2 rfl ?_
      refine a_iload hb dJ1_indexOfChar_4cfef_14 0 rfl ?_
      refine a_ldT (i := 0) hb (by decide) dJ1_indexOfChar_4cfef_16 (IX.inn (⟨by decide, by decide⟩ : IX (2 : Int32) 2) (show 2 < aw_tl.getD 0 0 by decide)) ?_
      rw [((⟨by decide, by decide⟩ : IX (2 : Int32) 2) : IX 2 2).2]
      rw [show (aw_tb.getD 0 []).getD 2 0 = 115 from by decide]
      show AW V 0 0 h 17 [(5, .int 2), (4, .int c.toInt8.toInt32), (0, .ref (gS V.1 (7 + 0))), (1, .int c), (2, .int 0), (3, .int 5)] [.int 115]
      refine a_iload hb dJ1_indexOfChar_4cfef_17 1 rfl ?_
      refine a_icmp_ne hb 25 dJ1_indexOfChar_4cfef_19 (by decide) (fun c19_2 => ?_) (fun c19_2 => ?_)
      · have m115 : ¬ c = 115 := mt (bx_t hc (by decide)).mpr (show ¬ 115 = c.toInt8.toInt32 from c19_2)
        refine a_iinc (v := (2 + 1)) (L' := [(5, .int (2 + 1)), (4, .int c.toInt8.toInt32), (0, .ref (gS V.1 (7 + 0))), (1, .int c), (2, .int 0), (3, .int 5)]) hb dJ1_indexOfChar_4cfef_25 0 rfl rfl (by rw [hml]; decide) rfl ?_
        refine a_goto hb 7 dJ1_indexOfChar_4cfef_28 (by decide) ?_
        rw [show ((2 : Int32) + 1) = 3 from by decide]
        show AW V 0 0 h 7 [(5, .int 3), (4, .int c.toInt8.toInt32), (0, .ref (gS V.1 (7 + 0))), (1, .int c), (2, .int 0), (3, .int 5)] []
        refine a_iload hb dJ1_indexOfChar_4cfef_7 0 rfl ?_
        refine a_iload_n hb dJ1_indexOfChar_4cfef_9 rfl 5 rfl ?_
        refine a_icmp_ge hb 31 dJ1_indexOfChar_4cfef_10 (by decide) (fun c10_3 => absurd c10_3 (by decide)) (fun c10_3 => ?_)
        refine a_aload_n hb dJ1_indexOfChar_4cfef_13 rfl 2 rfl ?_
        refine a_iload hb dJ1_indexOfChar_4cfef_14 0 rfl ?_
        refine a_ldT (i := 0) hb (by decide) dJ1_indexOfChar_4cfef_16 (IX.inn (⟨by decide, by decide⟩ : IX (3 : Int32) 3) (show 3 < aw_tl.getD 0 0 by decide)) ?_
        rw [((⟨by decide, by decide⟩ : IX (3 : Int32) 3) : IX 3 3).2]
        rw [show (aw_tb.getD 0 []).getD 3 0 = 107 from by decide]
        show AW V 0 0 h 17 [(5, .int 3), (4, .int c.toInt8.toInt32), (0, .ref (gS V.1 (7 + 0))), (1, .int c), (2, .int 0), (3, .int 5)] [.int 107]
        refine a_iload hb dJ1_indexOfChar_4cfef_17 1 rfl ?_
        refine a_icmp_ne hb 25 dJ1_indexOfChar_4cfef_19 (by decide) (fun c19_3 => ?_) (fun c19_3 => ?_)
        · have m107 : ¬ c = 107 := mt (bx_t hc (by decide)).mpr (show ¬ 107 = c.toInt8.toInt32 from c19_3)
          refine a_iinc (v := (3 + 1)) (L' := [(5, .int (3 + 1)), (4, .int c.toInt8.toInt32), (0, .ref (gS V.1 (7 + 0))), (1, .int c), (2, .int 0), (3, .int 5)]) hb dJ1_indexOfChar_4cfef_25 0 rfl rfl (by rw [hml]; decide) rfl ?_
          refine a_goto hb 7 dJ1_indexOfChar_4cfef_28 (by decide) ?_
          rw [show ((3 : Int32) + 1) = 4 from by decide]
          show AW V 0 0 h 7 [(5, .int 4), (4, .int c.toInt8.toInt32), (0, .ref (gS V.1 (7 + 0))), (1, .int c), (2, .int 0), (3, .int 5)] []
          refine a_iload hb dJ1_indexOfChar_4cfef_7 0 rfl ?_
          refine a_iload_n hb dJ1_indexOfChar_4cfef_9 rfl 5 rfl ?_
          refine a_icmp_ge hb 31 dJ1_indexOfChar_4cfef_10 (by decide) (fun c10_4 => absurd c10_4 (by decide)) (fun c10_4 => ?_)
          refine a_aload_n hb dJ1_indexOfChar_4cfef_13 rfl 2 rfl ?_
          refine a_iload hb dJ1_indexOfChar_4cfef_14 0 rfl ?_
          refine a_ldT (i := 0) hb (by decide) dJ1_indexOfChar_4cfef_16 (IX.inn (⟨by decide, by decide⟩ : IX (4 : Int32) 4) (show 4 < aw_tl.getD 0 0 by decide)) ?_
          rw [((⟨by decide, by decide⟩ : IX (4 : Int32) 4) : IX 4 4).2]
          rw [show (aw_tb.getD 0 []).getD 4 0 = 116 from by decide]
          show AW V 0 0 h 17 [(5, .int 4), (4, .int c.toInt8.toInt32), (0, .ref (gS V.1 (7 + 0))), (1, .int c), (2, .int 0), (3, .int 5)] [.int 116]
          refine a_iload hb dJ1_indexOfChar_4cfef_17 1 rfl ?_
          refine a_icmp_ne hb 25 dJ1_indexOfChar_4cfef_19 (by decide) (fun c19_4 => ?_) (fun c19_4 => ?_)
          · have m116 : ¬ c = 116 := mt (bx_t hc (by decide)).mpr (show ¬ 116 = c.toInt8.toInt32 from c19_4)
            refine a_iinc (v := (4 + 1)) (L' := [(5, .int (4 + 1)), (4, .int c.toInt8.toInt32), (0, .ref (gS V.1 (7 + 0))), (1, .int c), (2, .int 0), (3, .int 5)]) hb dJ1_indexOfChar_4cfef_25 0 rfl rfl (by rw [hml]; decide) rfl ?_
            refine a_goto hb 7 dJ1_indexOfChar_4cfef_28 (by decide) ?_
            rw [show ((4 : Int32) + 1) = 5 from by decide]
            show AW V 0 0 h 7 [(5, .int 5), (4, .int c.toInt8.toInt32), (0, .ref (gS V.1 (7 + 0))), (1, .int c), (2, .int 0), (3, .int 5)] []
            refine a_iload hb dJ1_indexOfChar_4cfef_7 0 rfl ?_
            refine a_iload_n hb dJ1_indexOfChar_4cfef_9 rfl 5 rfl ?_
            refine a_icmp_ge hb 31 dJ1_indexOfChar_4cfef_10 (by decide) (fun c10_5 => ?_) (fun c10_5 => absurd (by decide) c10_5)
            refine a_iconst (v := (-1)) hb dJ1_indexOfChar_4cfef_31 (by decide) ?_
            exact a_ireturn (ty := .int) hb hz dJ1_indexOfChar_4cfef_32 hret rfl (by rw [hr]; exact Nat.le_of_ble_eq_true rfl) (by rw [hr]; exact Nat.le_of_ble_eq_true rfl) (⟨by rw [ix5, if_neg m97, if_neg m99, if_neg m115, if_neg m107, if_neg m116]; rfl, rfl⟩)
          · have y116 : c = 116 := (bx_t hc (by decide)).mp (show 116 = c.toInt8.toInt32 from by first | exact c19_4 | exact Decidable.not_not.mp c19_4)
            refine a_iload hb dJ1_indexOfChar_4cfef_22 0 rfl ?_
            exact a_ireturn (ty := .int) hb hz dJ1_indexOfChar_4cfef_24 hret rfl (by rw [hr]; exact Nat.le_of_ble_eq_true rfl) (by rw [hr]; exact Nat.le_of_ble_eq_true rfl) (⟨by rw [ix5, if_neg m97, if_neg m99, if_neg m115, if_neg m107, if_pos y116]; rfl, rfl⟩)
        · have y107 : c = 107 := (bx_t hc (by decide)).mp (show 107 = c.toInt8.toInt32 from by first | exact c19_3 | exact Decidable.not_not.mp c19_3)
          refine a_iload hb dJ1_indexOfChar_4cfef_22 0 rfl ?_
          exact a_ireturn (ty := .int) hb hz dJ1_indexOfChar_4cfef_24 hret rfl (by rw [hr]; exact Nat.le_of_ble_eq_true rfl) (by rw [hr]; exact Nat.le_of_ble_eq_true rfl) (⟨by rw [ix5, if_neg m97, if_neg m99, if_neg m115, if_pos y107]; rfl, rfl⟩)
      · have y115 : c = 115 := (bx_t hc (by decide)).mp (show 115 = c.toInt8.toInt32 from by first | exact c19_2 | exact Decidable.not_not.mp c19_2)
        refine a_iload hb dJ1_indexOfChar_4cfef_22 0 rfl ?_
        exact a_ireturn (ty := .int) hb hz dJ1_indexOfChar_4cfef_24 hret rfl (by rw [hr]; exact Nat.le_of_ble_eq_true rfl) (by rw [hr]; exact Nat.le_of_ble_eq_true rfl) (⟨by rw [ix5, if_neg m97, if_neg m99, if_pos y115]; rfl, rfl⟩)
    · have y99 : c = 99 := (bx_t hc (by decide)).mp (show 99 = c.toInt8.toInt32 from by first | exact c19_1 | exact Decidable.not_not.mp c19_1)
      refine a_iload hb dJ1_indexOfChar_4cfef_22 0 rfl ?_
      exact a_ireturn (ty := .int) hb hz dJ1_indexOfChar_4cfef_24 hret rfl (by rw [hr]; exact Nat.le_of_ble_eq_true rfl) (by rw [hr]; exact Nat.le_of_ble_eq_true rfl) (⟨by rw [ix5, if_neg m97, if_pos y99]; rfl, rfl⟩)
  · have y97 : c = 97 := (bx_t hc (by decide)).mp (show 97 = c.toInt8.toInt32 from by first | exact c19_0 | exact Decidable.not_not.mp c19_0)
    refine a_iload hb dJ1_indexOfChar_4cfef_22 0 rfl ?_
    exact a_ireturn (ty := .int) hb hz dJ1_indexOfChar_4cfef_24 hret rfl (by rw [hr]; exact Nat.le_of_ble_eq_true rfl) (by rw [hr]; exact Nat.le_of_ble_eq_true rfl) (⟨by rw [ix5, if_pos y97]; rfl, rfl⟩)
set_option maxRecDepth 100000 in
theorem j_ioc1 (g : GG) (h : AH) (c : Int32) (hc : oO c 0 255 = false) : AM g 1 0 0 mJ1_indexOfChar_4cfef [.ref (gS g (7 + 1)), .int c, .int 0, .int 3] h (fun rv h' => rv = some (.int (if ix3 c = 3 then -1 else nI (ix3 c))) ∧ h' = h) := by
  refine AM.of [(0, .ref (gS g (7 + 1))), (1, .int c), (2, .int 0), (3, .int 3)] (by decide) (Nat.le_of_ble_eq_true rfl) rfl ?_
  intro V hV
  have hb : V.2.1.2.1 = cJ1_indexOfChar_4cfef := by subst hV; rfl
  have ow : V.2.1.1.cls = RJ1 := by subst hV; rfl
  have hr : V.2.2.1 = aw_rm 1 0 0 := by subst hV; rfl
  have hz : V.2.2.2 = aw_Z V.1 (fun rv h' => rv = some (.int (if ix3 c = 3 then -1 else nI (ix3 c))) ∧ h' = h) V.2.2.1 := by subst hV; rfl
  have hg : V.1 = g := by subst hV; rfl
  have hret : V.2.1.2.2.2 = (some .int) := by subst hV; rfl
  have hml : V.2.1.2.2.1 = 6 := by subst hV; rfl
  clear hV
  rw [← hg]
  refine a_iload_n hb dJ1_indexOfChar_4cfef_0 rfl 1 rfl ?_
  refine a_i2b hb dJ1_indexOfChar_4cfef_1 rfl ?_
  refine a_istore (L' := [(4, .int c.toInt8.toInt32), (0, .ref (gS V.1 (7 + 1))), (1, .int c), (2, .int 0), (3, .int 3)]) hb dJ1_indexOfChar_4cfef_2 (by rw [hml]; decide) rfl ?_
  refine a_iload_n hb dJ1_indexOfChar_4cfef_4 rfl 3 rfl ?_
  refine a_istore (L' := [(5, .int 0), (4, .int c.toInt8.toInt32), (0, .ref (gS V.1 (7 + 1))), (1, .int c), (2, .int 0), (3, .int 3)]) hb dJ1_indexOfChar_4cfef_5 (by rw [hml]; decide) rfl ?_
  refine a_iload hb dJ1_indexOfChar_4cfef_7 0 rfl ?_
  refine a_iload_n hb dJ1_indexOfChar_4cfef_9 rfl 5 rfl ?_
  refine a_icmp_ge hb 31 dJ1_indexOfChar_4cfef_10 (by decide) (fun c10_0 => absurd c10_0 (by decide)) (fun c10_0 => ?_)
  refine a_aload_n hb dJ1_indexOfChar_4cfef_13 rfl 2 rfl ?_
  refine a_iload hb dJ1_indexOfChar_4cfef_14 0 rfl ?_
  refine a_ldT (i := 1) hb (by decide) dJ1_indexOfChar_4cfef_16 (IX.inn (⟨by decide, by decide⟩ : IX (0 : Int32) 0) (show 0 < aw_tl.getD 1 0 by decide)) ?_
  rw [((⟨by decide, by decide⟩ : IX (0 : Int32) 0) : IX 0 0).2]
  rw [show (aw_tb.getD 1 []).getD 0 0 = 60 from by decide]
  show AW V 0 0 h 17 [(5, .int 0), (4, .int c.toInt8.toInt32), (0, .ref (gS V.1 (7 + 1))), (1, .int c), (2, .int 0), (3, .int 3)] [.int 60]
  refine a_iload hb dJ1_indexOfChar_4cfef_17 1 rfl ?_
  refine a_icmp_ne hb 25 dJ1_indexOfChar_4cfef_19 (by decide) (fun c19_0 => ?_) (fun c19_0 => ?_)
  · have m60 : ¬ c = 60 := mt (bx_t hc (by decide)).mpr (show ¬ 60 = c.toInt8.toInt32 from c19_0)
    refine a_iinc (v := (0 + 1)) (L' := [(5, .int (0 + 1)), (4, .int c.toInt8.toInt32), (0, .ref (gS V.1 (7 + 1))), (1, .int c), (2, .int 0), (3, .int 3)]) hb dJ1_indexOfChar_4cfef_25 0 rfl rfl (by rw [hml]; decide) rfl ?_
    refine a_goto hb 7 dJ1_indexOfChar_4cfef_28 (by decide) ?_
    rw [show ((0 : Int32) + 1) = 1 from by decide]
    show AW V 0 0 h 7 [(5, .int 1), (4, .int c.toInt8.toInt32), (0, .ref (gS V.1 (7 + 1))), (1, .int c), (2, .int 0), (3, .int 3)] []
    refine a_iload hb dJ1_indexOfChar_4cfef_7 0 rfl ?_
    refine a_iload_n hb dJ1_indexOfChar_4cfef_9 rfl 5 rfl ?_
    refine a_icmp_ge hb 31 dJ1_indexOfChar_4cfef_10 (by decide) (fun c10_1 => absurd c10_1 (by decide)) (fun c10_1 => ?_)
    refine a_aload_n hb dJ1_indexOfChar_4cfef_13 rfl 2 rfl ?_
    refine a_iload hb dJ1_indexOfChar_4cfef_14 0 rfl ?_
    refine a_ldT (i := 1) hb (by decide) dJ1_indexOfChar_4cfef_16 (IX.inn (⟨by decide, by decide⟩ : IX (1 : Int32) 1) (show 1 < aw_tl.getD 1 0 by decide)) ?_
    rw [((⟨by decide, by decide⟩ : IX (1 : Int32) 1) : IX 1 1).2]
    rw [show (aw_tb.getD 1 []).getD 1 0 = 61 from by decide]
    show AW V 0 0 h 17 [(5, .int 1), (4, .int c.toInt8.toInt32), (0, .ref (gS V.1 (7 + 1))), (1, .int c), (2, .int 0), (3, .int 3)] [.int 61]
    refine a_iload hb dJ1_indexOfChar_4cfef_17 1 rfl ?_
    refine a_icmp_ne hb 25 dJ1_indexOfChar_4cfef_19 (by decide) (fun c19_1 => ?_) (fun c19_1 => ?_)
    · have m61 : ¬ c = 61 := mt (bx_t hc (by decide)).mpr (show ¬ 61 = c.toInt8.toInt32 from c19_1)
      refine a_iinc (v := (1 + 1)) (L' := [(5, .int (1 + 1)), (4, .int c.toInt8.toInt32), (0, .ref (gS V.1 (7 + 1))), (1, .int c), (2, .int 0), (3, .int 3)]) hb dJ1_indexOfChar_4cfef_25 0 rfl rfl (by rw [hml]; decide) rfl ?_
      refine a_goto hb 7 dJ1_indexOfChar_4cfef_28 (by decide) ?_
      rw [show ((1 : Int32) + 1) = 2 from by decide]
      show AW V 0 0 h 7 [(5, .int 2), (4, .int c.toInt8.toInt32), (0, .ref (gS V.1 (7 + 1))), (1, .int c), (2, .int 0), (3, .int 3)] []
      refine a_iload hb dJ1_indexOfChar_4cfef_7 0 rfl ?_
      refine a_iload_n hb dJ1_indexOfChar_4cfef_9 rfl 5 rfl ?_
      refine a_icmp_ge hb 31 dJ1_indexOfChar_4cfef_10 (by decide) (fun c10_2 => absurd c10_2 (by decide)) (fun c10_2 => ?_)
      refine a_aload_n hb dJ1_indexOfChar_4cfef_13 rfl 2 rfl ?_
      refine a_iload hb dJ1_indexOfChar_4cfef_14 0 rfl ?_
      refine a_ldT (i := 1) hb (by decide) dJ1_indexOfChar_4cfef_16 (IX.inn (⟨by decide, by decide⟩ : IX (2 : Int32) 2) (show 2 < aw_tl.getD 1 0 by decide)) ?_
      rw [((⟨by decide, by decide⟩ : IX (2 : Int32) 2) : IX 2 2).2]
      rw [show (aw_tb.getD 1 []).getD 2 0 = 62 from by decide]
      show AW V 0 0 h 17 [(5, .int 2), (4, .int c.toInt8.toInt32), (0, .ref (gS V.1 (7 + 1))), (1, .int c), (2, .int 0), (3, .int 3)] [.int 62]
      refine a_iload hb dJ1_indexOfChar_4cfef_17 1 rfl ?_
      refine a_icmp_ne hb 25 dJ1_indexOfChar_4cfef_19 (by decide) (fun c19_2 => ?_) (fun c19_2 => ?_)
      · have m62 : ¬ c = 62 := mt (bx_t hc (by decide)).mpr (show ¬ 62 = c.toInt8.toInt32 from c19_2)
        refine a_iinc (v := (2 + 1)) (L' := [(5, .int (2 + 1)), (4, .int c.toInt8.toInt32), (0, .ref (gS V.1 (7 + 1))), (1, .int c), (2, .int 0), (3, .int 3)]) hb dJ1_indexOfChar_4cfef_25 0 rfl rfl (by rw [hml]; decide) rfl ?_
        refine a_goto hb 7 dJ1_indexOfChar_4cfef_28 (by decide) ?_
        rw [show ((2 : Int32) + 1) = 3 from by decide]
        show AW V 0 0 h 7 [(5, .int 3), (4, .int c.toInt8.toInt32), (0, .ref (gS V.1 (7 + 1))), (1, .int c), (2, .int 0), (3, .int 3)] []
        refine a_iload hb dJ1_indexOfChar_4cfef_7 0 rfl ?_
        refine a_iload_n hb dJ1_indexOfChar_4cfef_9 rfl 5 rfl ?_
        refine a_icmp_ge hb 31 dJ1_indexOfChar_4cfef_10 (by decide) (fun c10_3 => ?_) (fun c10_3 => absurd (by decide) c10_3)
        refine a_iconst (v := (-1)) hb dJ1_indexOfChar_4cfef_31 (by decide) ?_
        exact a_ireturn (ty := .int) hb hz dJ1_indexOfChar_4cfef_32 hret rfl (by rw [hr]; exact Nat.le_of_ble_eq_true rfl) (by rw [hr]; exact Nat.le_of_ble_eq_true rfl) (⟨by rw [ix3, if_neg m60, if_neg m61, if_neg m62]; rfl, rfl⟩)
      · have y62 : c = 62 := (bx_t hc (by decide)).mp (show 62 = c.toInt8.toInt32 from by first | exact c19_2 | exact Decidable.not_not.mp c19_2)
        refine a_iload hb dJ1_indexOfChar_4cfef_22 0 rfl ?_
        exact a_ireturn (ty := .int) hb hz dJ1_indexOfChar_4cfef_24 hret rfl (by rw [hr]; exact Nat.le_of_ble_eq_true rfl) (by rw [hr]; exact Nat.le_of_ble_eq_true rfl) (⟨by rw [ix3, if_neg m60, if_neg m61, if_pos y62]; rfl, rfl⟩)
    · have y61 : c = 61 := (bx_t hc (by decide)).mp (show 61 = c.toInt8.toInt32 from by first | exact c19_1 | exact Decidable.not_not.mp c19_1)
      refine a_iload hb dJ1_indexOfChar_4cfef_22 0 rfl ?_
      exact a_ireturn (ty := .int) hb hz dJ1_indexOfChar_4cfef_24 hret rfl (by rw [hr]; exact Nat.le_of_ble_eq_true rfl) (by rw [hr]; exact Nat.le_of_ble_eq_true rfl) (⟨by rw [ix3, if_neg m60, if_pos y61]; rfl, rfl⟩)
  · have y60 : c = 60 := (bx_t hc (by decide)).mp (show 60 = c.toInt8.toInt32 from by first | exact c19_0 | exact Decidable.not_not.mp c19_0)
    refine a_iload hb dJ1_indexOfChar_4cfef_22 0 rfl ?_
    exact a_ireturn (ty := .int) hb hz dJ1_indexOfChar_4cfef_24 hret rfl (by rw [hr]; exact Nat.le_of_ble_eq_true rfl) (by rw [hr]; exact Nat.le_of_ble_eq_true rfl) (⟨by rw [ix3, if_pos y60]; rfl, rfl⟩)
