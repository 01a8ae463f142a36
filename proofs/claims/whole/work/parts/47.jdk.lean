/-! ===== the JDK: texts, Math ===== -/
section MTH
variable {V : VV} {cs ss : Nat} {h : AH} {pc : Nat} {L : List (Nat × Value)} {st : List Value} {cc : ByteArray}
theorem a_mmin (hb : V.2.1.2.1 = cc) {idx : Nat} {x y : Int32} (hd : decode cc pc = .ok (.invokestatic idx, 3)) (w1 : Cond.methodLink V.2.1.1.cls idx Lib.Math.min.name ∈ aw_wd) (w2 : Cond.static Lib.Math.min.name ∈ aw_wd) (w3 : Cond.initialized "java/lang/Math" ∈ aw_wd) (w4 : Cond.code Lib.Math.min.name Lib.Math.min.code 2 (some .int) ∈ aw_wd) (hR : 1 ≤ V.2.2.1.frames ∧ (st.map fun v => v.category).sum + 13 ≤ V.2.2.1.locals) (hC : cs ≤ V.2.2.1.cells ∧ ss ≤ V.2.2.1.slots) (kk : AW V cs ss h (pc + 3) L (.int (if y < x then y else x) :: st)) : AW V cs ss h pc L (.int y :: .int x :: st) := by
  intro p e s m args below meth c C H locs ls hH hl hS
  have hts := C.2.2.2.2.1
  exact va_mmin C.1 (C.2.1.trans hb) (C.2.2.1.trans hl.1.symm) C.2.2.2.2.2.1 (hts _ w1) (hts _ w2) (hts _ w3) (hts _ w4) hR.1 hR.2 hC.1 hC.2 hd (kk p e s m args below meth c C H locs ls hH hl hS)
theorem a_mmax (hb : V.2.1.2.1 = cc) {idx : Nat} {x y : Int32} (hd : decode cc pc = .ok (.invokestatic idx, 3)) (w1 : Cond.methodLink V.2.1.1.cls idx Lib.Math.max.name ∈ aw_wd) (w2 : Cond.static Lib.Math.max.name ∈ aw_wd) (w3 : Cond.initialized "java/lang/Math" ∈ aw_wd) (w4 : Cond.code Lib.Math.max.name Lib.Math.max.code 2 (some .int) ∈ aw_wd) (hR : 1 ≤ V.2.2.1.frames ∧ (st.map fun v => v.category).sum + 13 ≤ V.2.2.1.locals) (hC : cs ≤ V.2.2.1.cells ∧ ss ≤ V.2.2.1.slots) (kk : AW V cs ss h (pc + 3) L (.int (if x < y then y else x) :: st)) : AW V cs ss h pc L (.int y :: .int x :: st) := by
  intro p e s m args below meth c C H locs ls hH hl hS
  have hts := C.2.2.2.2.1
  exact va_mmax C.1 (C.2.1.trans hb) (C.2.2.1.trans hl.1.symm) C.2.2.2.2.2.1 (hts _ w1) (hts _ w2) (hts _ w3) (hts _ w4) hR.1 hR.2 hC.1 hC.2 hd (kk p e s m args below meth c C H locs ls hH hl hS)
theorem a_mabs (hb : V.2.1.2.1 = cc) {idx : Nat} {x : Int32} (hd : decode cc pc = .ok (.invokestatic idx, 3)) (w1 : Cond.methodLink V.2.1.1.cls idx Lib.Math.abs.name ∈ aw_wd) (w2 : Cond.static Lib.Math.abs.name ∈ aw_wd) (w3 : Cond.initialized "java/lang/Math" ∈ aw_wd) (w4 : Cond.code Lib.Math.abs.name Lib.Math.abs.code 1 (some .int) ∈ aw_wd) (hR : 1 ≤ V.2.2.1.frames ∧ (st.map fun v => v.category).sum + 13 ≤ V.2.2.1.locals) (hC : cs ≤ V.2.2.1.cells ∧ ss ≤ V.2.2.1.slots) (kk : AW V cs ss h (pc + 3) L (.int (if 0 ≤ x then x else 0 - x) :: st)) : AW V cs ss h pc L (.int x :: st) := by
  intro p e s m args below meth c C H locs ls hH hl hS
  have hts := C.2.2.2.2.1
  exact va_mabs C.1 (C.2.1.trans hb) (C.2.2.1.trans hl.1.symm) C.2.2.2.2.2.1 (hts _ w1) (hts _ w2) (hts _ w3) (hts _ w4) hR.1 hR.2 hC.1 hC.2 hd (kk p e s m args below meth c C H locs ls hH hl hS)
theorem a_mmaxl (hb : V.2.1.2.1 = cc) {idx : Nat} {x y : Int64} (hd : decode cc pc = .ok (.invokestatic idx, 3)) (w1 : Cond.methodLink V.2.1.1.cls idx Lib.MathLoose.max_long.x ∈ aw_wd) (w2 : Cond.static Lib.MathLoose.max_long.x ∈ aw_wd) (w3 : Cond.initialized "java/lang/Math" ∈ aw_wd) (w4 : Cond.code Lib.MathLoose.max_long.x Lib.MathLoose.max_long.code 4 (some .long) ∈ aw_wd) (hR : 1 ≤ V.2.2.1.frames ∧ (st.map fun v => v.category).sum + 15 ≤ V.2.2.1.locals) (hC : cs ≤ V.2.2.1.cells ∧ ss ≤ V.2.2.1.slots) (kk : AW V cs ss h (pc + 3) L (.long (if y < x then x else y) :: st)) : AW V cs ss h pc L (.long y :: .long x :: st) := by
  intro p e s m args below meth c C H locs ls hH hl hS
  have hts := C.2.2.2.2.1
  exact va_mmax_long C.1 (C.2.1.trans hb) (C.2.2.1.trans hl.1.symm) C.2.2.2.2.2.1 (hts _ w1) (hts _ w2) (hts _ w3) (hts _ w4) hR.1 hR.2 hC.1 hC.2 hd (kk p e s m args below meth c C H locs ls hH hl hS)
end MTH
set_option maxRecDepth 100000 in
theorem j_coder (g : GG) (h : AH) (i : Nat) (hi : i < 5) : AM g 1 0 0 mJ0_coder_7d493 [.ref (gS g (2 + i))] h (fun rv h' => rv = some (.int 0) ∧ h' = h) := by
  refine AM.of [(0, .ref (gS g (2 + i)))] (by decide) (Nat.le_of_ble_eq_true rfl) rfl ?_
  intro V hV
  have hb : V.2.1.2.1 = cJ0_coder_7d493 := by subst hV; rfl
  have ow : V.2.1.1.cls = RJ0 := by subst hV; rfl
  have hr : V.2.2.1 = aw_rm 1 0 0 := by subst hV; rfl
  have hz : V.2.2.2 = aw_Z V.1 (fun rv h' => rv = some (.int 0) ∧ h' = h) V.2.2.1 := by subst hV; rfl
  have hg : V.1 = g := by subst hV; rfl
  have hret : V.2.1.2.2.2 = (some .byte) := by subst hV; rfl
  have hml : V.2.1.2.2.1 = 1 := by subst hV; rfl
  clear hV
  rw [← hg]
  refine a_getsCompact hb dJ0_coder_7d493_0 (by rw [ow]; exact kw_437) ?_
  refine a_if_eq hb 13 dJ0_coder_7d493_3 (by decide) (fun c3 => absurd c3 (by decide)) (fun c3 => ?_)
  refine a_aload_n hb dJ0_coder_7d493_6 rfl 0 rfl ?_
  refine a_getTc (i := i) hb hi dJ0_coder_7d493_7 (by rw [ow]; exact kw_1425) ?_
  refine a_goto hb 14 dJ0_coder_7d493_10 (by decide) ?_
  exact a_ireturn (ty := .byte) hb hz dJ0_coder_7d493_14 hret (by first | rfl | (simp only [narrow]; done) | exact aw_nb _) (by rw [hr]; exact Nat.le_of_ble_eq_true rfl) (by rw [hr]; exact Nat.le_of_ble_eq_true rfl) (⟨rfl, rfl⟩)
set_option maxRecDepth 100000 in
theorem j_latin (g : GG) (h : AH) (i : Nat) (hi : i < 5) : AM g 1 0 0 mJ0_isLatin1_aae02 [.ref (gS g (2 + i))] h (fun rv h' => rv = some (.int 1) ∧ h' = h) := by
  refine AM.of [(0, .ref (gS g (2 + i)))] (by decide) (Nat.le_of_ble_eq_true rfl) rfl ?_
  intro V hV
  have hb : V.2.1.2.1 = cJ0_isLatin1_aae02 := by subst hV; rfl
  have ow : V.2.1.1.cls = RJ0 := by subst hV; rfl
  have hr : V.2.2.1 = aw_rm 1 0 0 := by subst hV; rfl
  have hz : V.2.2.2 = aw_Z V.1 (fun rv h' => rv = some (.int 1) ∧ h' = h) V.2.2.1 := by subst hV; rfl
  have hg : V.1 = g := by subst hV; rfl
  have hret : V.2.1.2.2.2 = (some .boolean) := by subst hV; rfl
  have hml : V.2.1.2.2.1 = 1 := by subst hV; rfl
  clear hV
  rw [← hg]
  refine a_getsCompact hb dJ0_isLatin1_aae02_0 (by rw [ow]; exact kw_437) ?_
  refine a_if_eq hb 17 dJ0_isLatin1_aae02_3 (by decide) (fun c3 => absurd c3 (by decide)) (fun c3 => ?_)
  refine a_aload_n hb dJ0_isLatin1_aae02_6 rfl 0 rfl ?_
  refine a_getTc (i := i) hb hi dJ0_isLatin1_aae02_7 (by rw [ow]; exact kw_1425) ?_
  refine a_if_ne hb 17 dJ0_isLatin1_aae02_10 (by decide) (fun c10 => absurd c10 (by decide)) (fun c10 => ?_)
  refine a_iconst (v := 1) hb dJ0_isLatin1_aae02_13 (by decide) ?_
  refine a_goto hb 18 dJ0_isLatin1_aae02_14 (by decide) ?_
  exact a_ireturn (ty := .boolean) hb hz dJ0_isLatin1_aae02_18 hret (by first | rfl | (simp only [narrow]; done) | exact aw_nb _) (by rw [hr]; exact Nat.le_of_ble_eq_true rfl) (by rw [hr]; exact Nat.le_of_ble_eq_true rfl) (⟨rfl, rfl⟩)
set_option maxRecDepth 100000 in
theorem j_length (g : GG) (h : AH) (i : Nat) (hi : i < 5) : AM g 2 0 0 mJ0_length_8abf5 [.ref (gS g (2 + i))] h (fun rv h' => rv = some (.int (Int32.ofNat (aw_tl.getD i 0))) ∧ h' = h) := by
  refine AM.of [(0, .ref (gS g (2 + i)))] (by decide) (Nat.le_of_ble_eq_true rfl) rfl ?_
  intro V hV
  have hb : V.2.1.2.1 = cJ0_length_8abf5 := by subst hV; rfl
  have ow : V.2.1.1.cls = RJ0 := by subst hV; rfl
  have hr : V.2.2.1 = aw_rm 2 0 0 := by subst hV; rfl
  have hz : V.2.2.2 = aw_Z V.1 (fun rv h' => rv = some (.int (Int32.ofNat (aw_tl.getD i 0))) ∧ h' = h) V.2.2.1 := by subst hV; rfl
  have hg : V.1 = g := by subst hV; rfl
  have hret : V.2.1.2.2.2 = (some .int) := by subst hV; rfl
  have hml : V.2.1.2.2.1 = 1 := by subst hV; rfl
  clear hV
  rw [← hg]
  refine a_aload_n hb dJ0_length_8abf5_0 rfl 0 rfl ?_
  refine a_getTv (i := i) hb hi dJ0_length_8abf5_1 (by rw [ow]; exact kw_1424) ?_
  refine a_lenT (i := i) (v := (Int32.ofNat (aw_tl.getD i 0))) hb hi dJ0_length_8abf5_4 rfl ?_
  refine a_aload_n hb dJ0_length_8abf5_5 rfl 0 rfl ?_
  refine a_callT (i := i) hb hi dJ0_length_8abf5_6 (by rw [hg]; exact j_coder g h i hi) (by rw [ow]; exact clv_RJ0_335) rfl rfl rfl (Nat.le_of_ble_eq_true rfl) (by rw [hr]; exact ⟨by decide, by decide⟩) (by rw [hr]; exact ⟨Nat.le_of_ble_eq_true rfl, Nat.le_of_ble_eq_true rfl⟩) ?_
  intro rv h' hp
  rw [hp.1, hp.2]
  show AW V 0 0 h 9 [(0, .ref (gS V.1 (2 + i)))] [.int 0, .int (Int32.ofNat (aw_tl.getD i 0))]
  refine a_ishr hb dJ0_length_8abf5_9 ?_
  exact a_ireturn (ty := .int) hb hz dJ0_length_8abf5_10 hret rfl (by rw [hr]; exact Nat.le_of_ble_eq_true rfl) (by rw [hr]; exact Nat.le_of_ble_eq_true rfl) (⟨by rw [show ((0 : Int32) &&& 31) = 0 from by decide, Int32.shiftRight_zero], rfl⟩)
set_option maxRecDepth 100000 in
theorem j_check3 (g : GG) (h : AH) (x n : Int32) (r : Option Nat) (h0 : ¬ x < 0) (h1 : x < n) : AM g 1 0 0 mJ3_checkIndex_8e157 [.int x, .int n, va_rf r] h (fun rv h' => rv = some (.int x) ∧ h' = h) := by
  cases r with
  | none =>
    refine AM.of [(0, .int x), (1, .int n), (2, .null)] (by decide) (Nat.le_of_ble_eq_true rfl) rfl ?_
    intro V hV
    have hb : V.2.1.2.1 = cJ3_checkIndex_8e157 := by subst hV; rfl
    have ow : V.2.1.1.cls = RJ3 := by subst hV; rfl
    have hr : V.2.2.1 = aw_rm 1 0 0 := by subst hV; rfl
    have hz : V.2.2.2 = aw_Z V.1 (fun rv h' => rv = some (.int x) ∧ h' = h) V.2.2.1 := by subst hV; rfl
    have hg : V.1 = g := by subst hV; rfl
    have hret : V.2.1.2.2.2 = (some .int) := by subst hV; rfl
    have hml : V.2.1.2.2.1 = 3 := by subst hV; rfl
    clear hV
    refine a_iload_n hb dJ3_checkIndex_8e157_0 rfl 0 rfl ?_
    refine a_if_lt hb 9 dJ3_checkIndex_8e157_1 (by decide) (fun c1 => absurd c1 (h0)) (fun c1 => ?_)
    refine a_iload_n hb dJ3_checkIndex_8e157_4 rfl 0 rfl ?_
    refine a_iload_n hb dJ3_checkIndex_8e157_5 rfl 1 rfl ?_
    refine a_icmp_lt hb 16 dJ3_checkIndex_8e157_6 (by decide) (fun c6 => ?_) (fun c6 => absurd (h1) c6)
    refine a_iload_n hb dJ3_checkIndex_8e157_16 rfl 0 rfl ?_
    exact a_ireturn (ty := .int) hb hz dJ3_checkIndex_8e157_17 hret rfl (by rw [hr]; exact Nat.le_of_ble_eq_true rfl) (by rw [hr]; exact Nat.le_of_ble_eq_true rfl) (⟨rfl, rfl⟩)
  | some q =>
    refine AM.of [(0, .int x), (1, .int n), (2, .ref q)] (by decide) (Nat.le_of_ble_eq_true rfl) rfl ?_
    intro V hV
    have hb : V.2.1.2.1 = cJ3_checkIndex_8e157 := by subst hV; rfl
    have ow : V.2.1.1.cls = RJ3 := by subst hV; rfl
    have hr : V.2.2.1 = aw_rm 1 0 0 := by subst hV; rfl
    have hz : V.2.2.2 = aw_Z V.1 (fun rv h' => rv = some (.int x) ∧ h' = h) V.2.2.1 := by subst hV; rfl
    have hg : V.1 = g := by subst hV; rfl
    have hret : V.2.1.2.2.2 = (some .int) := by subst hV; rfl
    have hml : V.2.1.2.2.1 = 3 := by subst hV; rfl
    clear hV
    refine a_iload_n hb dJ3_checkIndex_8e157_0 rfl 0 rfl ?_
    refine a_if_lt hb 9 dJ3_checkIndex_8e157_1 (by decide) (fun c1 => absurd c1 (h0)) (fun c1 => ?_)
    refine a_iload_n hb dJ3_checkIndex_8e157_4 rfl 0 rfl ?_
    refine a_iload_n hb dJ3_checkIndex_8e157_5 rfl 1 rfl ?_
    refine a_icmp_lt hb 16 dJ3_checkIndex_8e157_6 (by decide) (fun c6 => ?_) (fun c6 => absurd (h1) c6)
    refine a_iload_n hb dJ3_checkIndex_8e157_16 rfl 0 rfl ?_
    exact a_ireturn (ty := .int) hb hz dJ3_checkIndex_8e157_17 hret rfl (by rw [hr]; exact Nat.le_of_ble_eq_true rfl) (by rw [hr]; exact Nat.le_of_ble_eq_true rfl) (⟨rfl, rfl⟩)
set_option maxRecDepth 100000 in
theorem j_check2 (g : GG) (h : AH) (x n : Int32) (h0 : ¬ x < 0) (h1 : x < n) : AM g 2 0 0 mJ0_checkIndex_df160 [.int x, .int n] h (fun rv h' => rv = none ∧ h' = h) := by
  refine AM.of [(0, .int x), (1, .int n)] (by decide) (Nat.le_of_ble_eq_true rfl) rfl ?_
  intro V hV
  have hb : V.2.1.2.1 = cJ0_checkIndex_df160 := by subst hV; rfl
  have ow : V.2.1.1.cls = RJ0 := by subst hV; rfl
  have hr : V.2.2.1 = aw_rm 2 0 0 := by subst hV; rfl
  have hz : V.2.2.2 = aw_Z V.1 (fun rv h' => rv = none ∧ h' = h) V.2.2.1 := by subst hV; rfl
  have hg : V.1 = g := by subst hV; rfl
  have hret : V.2.1.2.2.2 = none := by subst hV; rfl
  have hml : V.2.1.2.2.1 = 2 := by subst hV; rfl
  clear hV
  refine a_iload_n hb dJ0_checkIndex_df160_0 rfl 0 rfl ?_
  refine a_iload_n hb dJ0_checkIndex_df160_1 rfl 1 rfl ?_
  refine a_getsFmt hb dJ0_checkIndex_df160_2 (by rw [ow]; exact kw_453) (fun fr => ?_)
  refine a_callS hb dJ0_checkIndex_df160_5 (by rw [hg]; exact j_check3 g h x n fr h0 h1) (by rw [ow]; exact cls_RJ0_1059) rfl rfl (Nat.le_of_ble_eq_true rfl) (by rw [hr]; exact ⟨by decide, by decide⟩) (by rw [hr]; exact ⟨Nat.le_of_ble_eq_true rfl, Nat.le_of_ble_eq_true rfl⟩) ?_
  intro rv h' hp
  rw [hp.1, hp.2]
  show AW V 0 0 h 8 [(0, .int x), (1, .int n)] [.int x]
  refine a_pop hb dJ0_checkIndex_df160_8 rfl ?_
  exact a_return hb hz dJ0_checkIndex_df160_9 hret (by rw [hr]; exact Nat.le_of_ble_eq_true rfl) (by rw [hr]; exact Nat.le_of_ble_eq_true rfl) (⟨rfl, rfl⟩)
set_option maxRecDepth 100000 in
theorem j_char1 (g : GG) (h : AH) (i : Nat) (hi : i < 5) (x : Int32) (k : Nat) (hx : IX x k) (hk : k < aw_tl.getD i 0) (hn : x < Int32.ofNat (aw_tl.getD i 0)) (hc : ((((aw_tb.getD i []).getD k 0) &&& 255).toUInt32 % 65536).toInt32 = (aw_tb.getD i []).getD k 0) (hc2 : narrow .char (.int ((aw_tb.getD i []).getD k 0)) = .int ((aw_tb.getD i []).getD k 0)) : AM g 3 0 0 mJ1_charAt_3b067 [.ref (gS g (7 + i)), .int x] h (fun rv h' => rv = some (.int ((aw_tb.getD i []).getD k 0)) ∧ h' = h) := by
  refine AM.of [(0, .ref (gS g (7 + i))), (1, .int x)] (by decide) (Nat.le_of_ble_eq_true rfl) rfl ?_
  intro V hV
  have hb : V.2.1.2.1 = cJ1_charAt_3b067 := by subst hV; rfl
  have ow : V.2.1.1.cls = RJ1 := by subst hV; rfl
  have hr : V.2.2.1 = aw_rm 3 0 0 := by subst hV; rfl
  have hz : V.2.2.2 = aw_Z V.1 (fun rv h' => rv = some (.int ((aw_tb.getD i []).getD k 0)) ∧ h' = h) V.2.2.1 := by subst hV; rfl
  have hg : V.1 = g := by subst hV; rfl
  have hret : V.2.1.2.2.2 = (some .char) := by subst hV; rfl
  have hml : V.2.1.2.2.1 = 2 := by subst hV; rfl
  clear hV
  rw [← hg]
  refine a_iload_n hb dJ1_charAt_3b067_0 rfl 1 rfl ?_
  refine a_aload_n hb dJ1_charAt_3b067_1 rfl 0 rfl ?_
  refine a_lenT (i := i) (v := (Int32.ofNat (aw_tl.getD i 0))) hb hi dJ1_charAt_3b067_2 rfl ?_
  refine a_callS hb dJ1_charAt_3b067_3 (by rw [hg]; exact j_check2 g h x (Int32.ofNat (aw_tl.getD i 0)) hx.1 hn) (by rw [ow]; exact cls_RJ1_9) rfl rfl (Nat.le_of_ble_eq_true rfl) (by rw [hr]; exact ⟨by decide, by decide⟩) (by rw [hr]; exact ⟨Nat.le_of_ble_eq_true rfl, Nat.le_of_ble_eq_true rfl⟩) ?_
  intro rv h' hp
  rw [hp.1, hp.2]
  show AW V 0 0 h 6 [(0, .ref (gS V.1 (7 + i))), (1, .int x)] []
  refine a_aload_n hb dJ1_charAt_3b067_6 rfl 0 rfl ?_
  refine a_iload_n hb dJ1_charAt_3b067_7 rfl 1 rfl ?_
  refine a_ldT (i := i) hb hi dJ1_charAt_3b067_8 (IX.inn hx hk) ?_
  rw [(hx : IX x k).2]
  refine a_sipush (v := 255) hb dJ1_charAt_3b067_9 (by decide) ?_
  refine a_iand hb dJ1_charAt_3b067_12 ?_
  refine a_i2c hb dJ1_charAt_3b067_13 rfl ?_
  exact a_ireturn (ty := .char) hb hz dJ1_charAt_3b067_14 hret (by rw [hc]; exact hc2) (by rw [hr]; exact Nat.le_of_ble_eq_true rfl) (by rw [hr]; exact Nat.le_of_ble_eq_true rfl) (⟨by rw [hc], rfl⟩)
set_option maxRecDepth 100000 in
theorem j_char (g : GG) (h : AH) (i : Nat) (hi : i < 5) (x : Int32) (k : Nat) (hx : IX x k) (hk : k < aw_tl.getD i 0) (hn : x < Int32.ofNat (aw_tl.getD i 0)) (hc : ((((aw_tb.getD i []).getD k 0) &&& 255).toUInt32 % 65536).toInt32 = (aw_tb.getD i []).getD k 0) (hc2 : narrow .char (.int ((aw_tb.getD i []).getD k 0)) = .int ((aw_tb.getD i []).getD k 0)) : AM g 4 0 0 mJ0_charAt_5068e [.ref (gS g (2 + i)), .int x] h (fun rv h' => rv = some (.int ((aw_tb.getD i []).getD k 0)) ∧ h' = h) := by
  refine AM.of [(0, .ref (gS g (2 + i))), (1, .int x)] (by decide) (Nat.le_of_ble_eq_true rfl) rfl ?_
  intro V hV
  have hb : V.2.1.2.1 = cJ0_charAt_5068e := by subst hV; rfl
  have ow : V.2.1.1.cls = RJ0 := by subst hV; rfl
  have hr : V.2.2.1 = aw_rm 4 0 0 := by subst hV; rfl
  have hz : V.2.2.2 = aw_Z V.1 (fun rv h' => rv = some (.int ((aw_tb.getD i []).getD k 0)) ∧ h' = h) V.2.2.1 := by subst hV; rfl
  have hg : V.1 = g := by subst hV; rfl
  have hret : V.2.1.2.2.2 = (some .char) := by subst hV; rfl
  have hml : V.2.1.2.2.1 = 2 := by subst hV; rfl
  clear hV
  rw [← hg]
  refine a_aload_n hb dJ0_charAt_5068e_0 rfl 0 rfl ?_
  refine a_callT (i := i) hb hi dJ0_charAt_5068e_1 (by rw [hg]; exact j_latin g h i hi) (by rw [ow]; exact clv_RJ0_492) rfl rfl rfl (Nat.le_of_ble_eq_true rfl) (by rw [hr]; exact ⟨by decide, by decide⟩) (by rw [hr]; exact ⟨Nat.le_of_ble_eq_true rfl, Nat.le_of_ble_eq_true rfl⟩) ?_
  intro rv h' hp
  rw [hp.1, hp.2]
  show AW V 0 0 h 4 [(0, .ref (gS V.1 (2 + i))), (1, .int x)] [.int 1]
  refine a_if_eq hb 16 dJ0_charAt_5068e_4 (by decide) (fun c4 => absurd c4 (by decide)) (fun c4 => ?_)
  refine a_aload_n hb dJ0_charAt_5068e_7 rfl 0 rfl ?_
  refine a_getTv (i := i) hb hi dJ0_charAt_5068e_8 (by rw [ow]; exact kw_1424) ?_
  refine a_iload_n hb dJ0_charAt_5068e_11 rfl 1 rfl ?_
  refine a_callS hb dJ0_charAt_5068e_12 (by have z_ := j_char1 g h i hi x k hx hk hn hc hc2; rw [← hg] at z_; exact z_) (by rw [ow]; exact cls_RJ0_495) rfl rfl (Nat.le_of_ble_eq_true rfl) (by rw [hr]; exact ⟨by decide, by decide⟩) (by rw [hr]; exact ⟨Nat.le_of_ble_eq_true rfl, Nat.le_of_ble_eq_true rfl⟩) ?_
  intro rv h' hp
  rw [hp.1, hp.2]
  show AW V 0 0 h 15 [(0, .ref (gS V.1 (2 + i))), (1, .int x)] [.int ((aw_tb.getD i []).getD k 0)]
  exact a_ireturn (ty := .char) hb hz dJ0_charAt_5068e_15 hret hc2 (by rw [hr]; exact Nat.le_of_ble_eq_true rfl) (by rw [hr]; exact Nat.le_of_ble_eq_true rfl) (⟨rfl, rfl⟩)
