/-! ===== the class is fed ===== -/
theorem b255 : ∀ j : Fin 8, (255#8)[j.val] = true := by decide
theorem by8 (x : Int64) : ((x &&& 255).toInt32).toInt8 = x.toInt32.toInt8 := by
  apply Int8.toBitVec_inj.mp
  simp only [Int32.toBitVec_toInt8, Int64.toBitVec_toInt32, Int64.toBitVec_and]
  apply BitVec.eq_of_getLsbD_eq
  intro i hi
  have h255 : (255 : Int64).toBitVec.getLsbD i = true := by
    have : i = 0 ∨ i = 1 ∨ i = 2 ∨ i = 3 ∨ i = 4 ∨ i = 5 ∨ i = 6 ∨ i = 7 := by omega
    rcases this with e | e | e | e | e | e | e | e <;> subst e <;> decide
  have a1 : i < 32 := by omega
  have a2 : i < 64 := by omega
  simp [BitVec.getLsbD_signExtend, BitVec.getLsbD_and, h255, a1, a2, hi]
  intro _
  exact b255 ⟨i, hi⟩
theorem i8_32 (x : Int8) : x.toInt32.toInt8 = x := Int8.toInt8_toInt32 x
theorem by_r (x : Int64) : oO (x &&& 255).toInt32 0 255 = false := by
  have h : (x &&& 255).toBitVec.toNat ≤ 255 := by
    rw [Int64.toBitVec_and, BitVec.toNat_and]
    exact Nat.and_le_right
  have e : (x &&& 255) = lN (x &&& 255).toBitVec.toNat := by
    apply Int64.toBitVec_inj.mp
    show _ = BitVec.ofNat 64 _
    rw [BitVec.ofNat_toNat, BitVec.setWidth_eq]
  rw [e, lN_i]
  exact oO_n0 (b := 255) h (by decide)
def bx (v : Int32) : Int32 := v.toInt8.toInt32
def feX (h : AH) (B tn : Nat) (l : List Int32) : AH := setR (setR h (B + 7) (wrL (hI h (B + 7)) tn (l.map bx))) (B + 1) (upd (hI h (B + 1)) 9 (nI (tn + l.length)))
section FE
variable {h : AH} {B tn : Nat} {l : List Int32}
theorem LY.fe (hL : LY h B) : LY (feX h B tn l) B := hL
theorem fe_1 : hI (feX h B tn l) (B + 1) = upd (hI h (B + 1)) 9 (nI (tn + l.length)) := by unfold feX; rw [hI_R]
theorem fe_7 : hI (feX h B tn l) (B + 7) = wrL (hI h (B + 7)) tn (l.map bx) := by unfold feX; rw [hI_Rn (by omega), hI_R]
theorem fe_n {a : Nat} (e1 : a ≠ B + 1) (e2 : a ≠ B + 7) : hI (feX h B tn l) a = hI h a := by unfold feX; rw [hI_Rn e1, hI_Rn e2]
theorem fe_0 (e : hI h (B + 1) 9 = nI tn) : feX h B tn [] = h := by
  refine AH_ext rfl rfl (fun a => ?_) rfl rfl
  by_cases e1 : a = B + 1
  · subst e1; rw [fe_1]; funext j; by_cases q : j = 9
    · subst q; rw [upd_s, e]; rfl
    · rw [upd_n q]
  · by_cases e2 : a = B + 7
    · subst e2; rw [fe_7]; rfl
    · rw [fe_n e1 e2]
theorem fe_e {x : Int32} {v : Int32} (e : v = bx x) : setI (setI (feX h B tn l) (B + 7) (tn + l.length) v) (B + 1) 9 (nI (tn + l.length) + 1) = feX h B tn (l ++ [x]) := by
  subst e
  refine AH_ext rfl rfl (fun a => ?_) rfl rfl
  by_cases e1 : a = B + 1
  · subst e1
    rw [hI_setI_s, hI_setI_n (by omega), fe_1, fe_1, List.length_append, nI_1]
    funext j; by_cases q : j = 9
    · subst q; rw [upd_s, upd_s]; rfl
    · rw [upd_n q, upd_n q, upd_n q]
  · rw [hI_setI_n e1]
    by_cases e2 : a = B + 7
    · subst e2
      rw [hI_setI_s, fe_7, fe_7, List.map_append, wrL_app, List.length_map]; rfl
    · rw [hI_setI_n e2, fe_n e1 e2, fe_n e1 e2]
theorem fdB_r {w : Int64} : ∀ n, ∀ x ∈ fdB w n, oO x 0 255 = false
  | 0, x, h => absurd h (List.not_mem_nil)
  | n + 1, x, h => by
    rcases List.mem_cons.mp h with e | e
    · subst e; exact by_r _
    · exact fdB_r n x e
theorem WX.feed {S : Nat → Int32} {N : NN} (H : XN h B S N) (hb : HB h) (hn : N.2.2.2.2 + l.length ≤ 120) (hl : ∀ x ∈ l, oO x 0 255 = false) : WX (Wt B) h (feX h B N.2.2.2.2 l) B (fdR S N.2.2.2.2 l) := by
  have fw : Fw (Wt B) h (feX h B N.2.2.2.2 l) := ⟨Nat.le_refl _, fun _ _ => rfl, fun a _ q => ⟨fe_n (fun e => q (Or.inl e)) (fun e => q (Or.inr e)), rfl, rfl⟩, fun q => ⟨q, fun _ z => z⟩⟩
  have eS : ∀ j, j ≠ 4 → (j < 10 + N.2.2.2.2 ∨ 10 + N.2.2.2.2 + l.length ≤ j) → fdR S N.2.2.2.2 l j = S j := fun j h1 h2 => by
    unfold fdR; rw [upd_n h1]
    rcases h2 with h2 | h2
    · exact wrL_lt _ _ _ _ h2
    · exact wrL_ge _ _ _ _ h2
  have e4 : fdR S N.2.2.2.2 l 4 = nI (N.2.2.2.2 + l.length) := fdR_4
  have eb : ∀ j, j < l.length → fdR S N.2.2.2.2 l (10 + N.2.2.2.2 + j) = l.getD j 0 := fun j hj => by
    unfold fdR; rw [upd_n (by omega)]; exact wrL_at _ _ _ _ hj
  have ob := H.ob (S' := fdR S N.2.2.2.2 l) fw hb (by intro a; unfold Wt; omega) rfl rfl (fun j h1 _ => eS j (by omega) (by omega))
  generalize fdR S N.2.2.2.2 l = S' at *
  have k1 : ∀ k, k ≠ 9 → hI (feX h B N.2.2.2.2 l) (B + 1) k = hI h (B + 1) k := fun k hk => by rw [fe_1, upd_n hk]
  have k : ∀ a, a ≠ B + 1 → a ≠ B + 7 → hI (feX h B N.2.2.2.2 l) a = hI h a := fun a h1 h2 => fe_n h1 h2
  have k9 : hI (feX h B N.2.2.2.2 l) (B + 1) 9 = nI (N.2.2.2.2 + l.length) := by rw [fe_1, upd_s]
  have G := H.2.2
  refine ⟨⟨(N.1, N.2.1, N.2.2.1, N.2.2.2.1, N.2.2.2.2 + l.length), XN.fin (LY.fe H.1) ob ⟨(k1 3 (by decide)).trans H.f3, (k1 5 (by decide)).trans H.f5, (k1 7 (by decide)).trans H.f7, k9, (k1 11 (by decide)).trans H.f11⟩ (H.od' (k _ (by omega) (by omega)) (k _ (by omega) (by omega)) (fun j _ _ => eS j (by omega) (by omega))) (fun i hi => ?_) (H.ro' (k _ (by omega) (by omega)) (fun j _ _ => eS j (by omega) (by omega))) (H.st' (k _ (by omega) (by omega)) (fun j _ _ => eS j (by omega) (by omega)))
    ⟨G.c0 (eS 0 (by omega) (by omega)), G.c1 (eS 1 (by omega) (by omega)), G.c2 (eS 2 (by omega) (by omega)), G.c3 (eS 3 (by omega) (by omega)), ⟨e4, hn⟩, G.s' (fun j _ _ => eS j (by omega) (by omega)), G.p' (fun j _ _ => eS j (by omega) (by omega)), G.w' (fun j _ _ => eS j (by omega) (by omega)), G.m' (fun j _ _ => eS j (by omega) (by omega)), G.r' (fun j _ _ => eS j (by omega) (by omega)), fun i hi => ?_⟩⟩, fw⟩
  · rw [fe_7]
    by_cases q : N.2.2.2.2 ≤ i ∧ i < N.2.2.2.2 + l.length
    · obtain ⟨j, rfl⟩ : ∃ j, i = N.2.2.2.2 + j := ⟨i - N.2.2.2.2, by omega⟩
      have hj : j < l.length := by omega
      rw [wrL_at _ _ _ _ (by rw [List.length_map]; exact hj), show 10 + (N.2.2.2.2 + j) = 10 + N.2.2.2.2 + j by omega, eb j hj]
      rw [List.getD_eq_getElem?_getD, List.getD_eq_getElem?_getD, List.getElem?_map, List.getElem?_eq_getElem hj]; rfl
    · rw [eS _ (by omega) (by omega)]
      rcases Nat.lt_or_ge i N.2.2.2.2 with q1 | q1
      · rw [wrL_lt _ _ _ _ q1]; exact H.tp hi
      · rw [wrL_ge _ _ _ _ (by rw [List.length_map]; omega)]; exact H.tp hi
  · by_cases q : N.2.2.2.2 ≤ i ∧ i < N.2.2.2.2 + l.length
    · obtain ⟨j, rfl⟩ : ∃ j, i = N.2.2.2.2 + j := ⟨i - N.2.2.2.2, by omega⟩
      have hj : j < l.length := by omega
      rw [show 10 + (N.2.2.2.2 + j) = 10 + N.2.2.2.2 + j by omega, eb j hj, List.getD_eq_getElem?_getD, List.getElem?_eq_getElem hj]
      exact hl _ (List.getElem_mem hj)
    · rw [eS _ (by omega) (by omega)]; exact G.2.2.2.2.2.2.2.2.2.2 i hi
end FE
set_option maxRecDepth 100000 in
theorem x_feed (g : GG) (h : AH) (B : Nat) (S : Nat → Int32) (N : NN) (hX : XN h B S N) (hb_ : HB h) (x : Int64) (n : Int32) : AM g 3 0 0 mX11_feed [.ref B, .long x, .int n] h (fun rv h' => rv = some (.int (spFeed S N.2.2.2.2 x n).1) ∧ WX (Wt B) h h' B (spFeed S N.2.2.2.2 x n).2) := by
  refine AM.of [(0, .ref B), (1, .long x), (3, .int n)] (by decide) (Nat.le_of_ble_eq_true rfl) rfl ?_
  intro V hV
  have hb : V.2.1.2.1 = cX11_feed := by subst hV; rfl
  have ow : V.2.1.1.cls = RX11 := by subst hV; rfl
  have hr : V.2.2.1 = aw_rm 3 0 0 := by subst hV; rfl
  have hz : V.2.2.2 = aw_Z V.1 (fun rv h' => rv = some (.int (spFeed S N.2.2.2.2 x n).1) ∧ WX (Wt B) h h' B (spFeed S N.2.2.2.2 x n).2) V.2.2.1 := by subst hV; rfl
  have hg : V.1 = g := by subst hV; rfl
  have hret : V.2.1.2.2.2 = (some .int) := by subst hV; rfl
  have hml : V.2.1.2.2.1 = 5 := by subst hV; rfl
  clear hV
  have hnp := hX.np
  have hnw := hX.nw
  have e4 : S 4 = nI N.2.2.2.2 := hX.2.2.2.2.2.2.1.1
  have htn := hX.tn
  refine a_iload_n hb dX11_feed_0 rfl 2 rfl ?_
  refine a_iconst (v := 1) hb dX11_feed_1 (by decide) ?_
  refine a_bipush (v := 8) hb dX11_feed_2 (by decide) ?_
  refine a_callS hb dX11_feed_4 (by rw [hg]; exact w_outside g h n 1 8) (by rw [ow]; exact cls_RX11_53) rfl rfl (Nat.le_of_ble_eq_true rfl) (by rw [hr]; exact ⟨by decide, by decide⟩) (by rw [hr]; exact ⟨Nat.le_of_ble_eq_true rfl, Nat.le_of_ble_eq_true rfl⟩) ?_
  intro rv h' hq_
  rw [hq_.1, hq_.2]
  show AW V 0 0 h 7 [(0, .ref B), (1, .long x), (3, .int n)] [.int (b2i (oO n 1 8))]
  refine a_if_eq hb 13 dX11_feed_7 (by decide) (fun c7 => ?_) (fun c7 => ?_)
  · simp [b2i_0] at c7
    refine a_aload_n hb dX11_feed_13 rfl 0 rfl ?_
    refine a_getQ (q := (B + 1)) hb dX11_feed_14 (by rw [ow]; exact fl_RX11_12_11) (hX.1.1 0 (by decide)) (hX.1.2.1 (0, 0, 1) (by decide)) ?_
    refine a_getI hb dX11_feed_17 (by rw [ow]; exact fl_RX11_105_7) (hX.1.1 1 (by decide)) ?_
    rw [hX.f9]
    show AW V 0 0 h 20 [(0, .ref B), (1, .long x), (3, .int n)] [.int (nI N.2.2.2.2)]
    refine a_iload_n hb dX11_feed_20 rfl 2 rfl ?_
    refine a_iadd hb dX11_feed_21 ?_
    refine a_bipush (v := 120) hb dX11_feed_22 (by decide) ?_
    refine a_icmp_le hb 30 dX11_feed_24 (by decide) (fun c24 => ?_) (fun c24 => ?_)
    · refine a_iload_n hb dX11_feed_30 rfl 2 rfl ?_
      refine a_iconst (v := 1) hb dX11_feed_31 (by decide) ?_
      refine a_isub hb dX11_feed_32 ?_
      refine a_istore (L' := [(4, .int (n - 1)), (0, .ref B), (1, .long x), (3, .int n)]) hb dX11_feed_33 (by rw [hml]; decide) rfl ?_
      obtain ⟨k, rfl, hk1, hk8⟩ := fd_n (by simpa using c7)
      have hle : N.2.2.2.2 + k ≤ 120 := by rw [nI_add] at c24; exact (nI_leI (a := N.2.2.2.2 + k) (b := 120) (by omega) (by decide)).mp c24
      have hsp : spFeed S N.2.2.2.2 x (nI k) = (nI (N.2.2.2.2 + k), fdR S N.2.2.2.2 (fdB x k)) := by rw [spFeed, if_neg (by simp [c7]), e4, if_neg (Int32.not_lt.mpr c24), nI_clamp (by omega)]
      have loop : ∀ (m : Nat) (l : List Int32), l.length + m = k → l ++ fdB x m = fdB x k → AW V 0 0 (feX h B N.2.2.2.2 l) 35 [(0, .ref B), (1, .long x), (3, .int (nI k)), (4, .int (nI m - 1))] [] := by
        intro m
        induction m with
        | zero =>
          intro l hl hb2
          have hLl : LY (feX h B N.2.2.2.2 l) B := LY.fe hX.1
          have hkl : N.2.2.2.2 + l.length = N.2.2.2.2 + k := by omega
          have hbl : l = fdB x k := by rw [← hb2]; show l = l ++ []; rw [List.append_nil]
          refine a_iload hb dX11_feed_35 3 rfl ?_
          refine a_if_lt hb 83 dX11_feed_37 (by decide) (fun c37_2 => ?_) (fun c37_2 => absurd (by decide) c37_2)
          refine a_aload_n hb dX11_feed_83 rfl 0 rfl ?_
          refine a_getQ (q := (B + 1)) hb dX11_feed_84 (by rw [ow]; exact fl_RX11_12_11) (hLl.1 0 (by decide)) (hLl.2.1 (0, 0, 1) (by decide)) ?_
          refine a_getI hb dX11_feed_87 (by rw [ow]; exact fl_RX11_105_7) (hLl.1 1 (by decide)) ?_
          rw [fe_1, upd_s]
          show AW V 0 0 (feX h B N.2.2.2.2 l) 90 [(0, .ref B), (1, .long x), (3, .int (nI k)), (4, .int (nI 0 - 1))] [.int (nI (N.2.2.2.2 + l.length))]
          exact a_ireturn (ty := .int) hb hz dX11_feed_90 hret rfl (by rw [hr]; exact Nat.le_of_ble_eq_true rfl) (by rw [hr]; exact Nat.le_of_ble_eq_true rfl) (⟨by rw [hsp, hkl], by rw [hsp, ← hbl]; exact WX.feed hX hb_ (by omega) (by rw [hbl]; exact fdB_r k)⟩)
        | succ m ih =>
          intro l hl hb2
          have hLl : LY (feX h B N.2.2.2.2 l) B := LY.fe hX.1
          have em : nI (m + 1) - 1 = nI m := by rw [← nI_1, Int32.add_sub_cancel]
          rw [em]
          refine a_iload hb dX11_feed_35 3 rfl ?_
          refine a_if_lt hb 83 dX11_feed_37 (by decide) (fun c37_2 => absurd c37_2 (nI_pos (by omega))) (fun c37_2 => ?_)
          refine a_aload_n hb dX11_feed_40 rfl 0 rfl ?_
          refine a_getQ (q := (B + 1)) hb dX11_feed_41 (by rw [ow]; exact fl_RX11_12_11) (hLl.1 0 (by decide)) (hLl.2.1 (0, 0, 1) (by decide)) ?_
          refine a_getQ (q := (B + 7)) hb dX11_feed_44 (by rw [ow]; exact fl_RX11_108_7) (hLl.1 1 (by decide)) (hLl.2.1 (1, 8, 7) (by decide)) ?_
          refine a_aload_n hb dX11_feed_47 rfl 0 rfl ?_
          refine a_getQ (q := (B + 1)) hb dX11_feed_48 (by rw [ow]; exact fl_RX11_12_11) (hLl.1 0 (by decide)) (hLl.2.1 (0, 0, 1) (by decide)) ?_
          refine a_getI hb dX11_feed_51 (by rw [ow]; exact fl_RX11_105_7) (hLl.1 1 (by decide)) ?_
          rw [fe_1, upd_s]
          show AW V 0 0 (feX h B N.2.2.2.2 l) 54 [(0, .ref B), (1, .long x), (3, .int (nI k)), (4, .int (nI m))] [.int (nI (N.2.2.2.2 + l.length)), .ref (B + 7)]
          refine a_lload_n hb dX11_feed_54 rfl 1 rfl ?_
          refine a_bipush (v := 8) hb dX11_feed_55 (by decide) ?_
          refine a_iload hb dX11_feed_57 3 rfl ?_
          refine a_imul hb dX11_feed_59 ?_
          refine a_lshr hb dX11_feed_60 rfl ?_
          refine a_l2i hb dX11_feed_61 rfl ?_
          refine a_i2b hb dX11_feed_62 rfl ?_
          refine b_bast (j := (N.2.2.2.2 + l.length)) hb dX11_feed_63 (hLl.1 7 (by decide)) (IX.n (by omega)) (by omega) rfl ?_
          refine a_aload_n hb dX11_feed_64 rfl 0 rfl ?_
          refine a_getQ (q := (B + 1)) hb dX11_feed_65 (by rw [ow]; exact fl_RX11_12_11) ((LY.I hLl : LY (setI (feX h B N.2.2.2.2 l) (B + 7) (N.2.2.2.2 + l.length) (((x >>> ((8 * (nI m)).toInt64 &&& 63)).toInt32).toInt8.toInt32).toInt8.toInt32) B).1 0 (by decide)) ((LY.I hLl : LY (setI (feX h B N.2.2.2.2 l) (B + 7) (N.2.2.2.2 + l.length) (((x >>> ((8 * (nI m)).toInt64 &&& 63)).toInt32).toInt8.toInt32).toInt8.toInt32) B).2.1 (0, 0, 1) (by decide)) ?_
          refine a_dup hb dX11_feed_68 rfl ?_
          refine a_getI hb dX11_feed_69 (by rw [ow]; exact fl_RX11_105_7) ((LY.I hLl : LY (setI (feX h B N.2.2.2.2 l) (B + 7) (N.2.2.2.2 + l.length) (((x >>> ((8 * (nI m)).toInt64 &&& 63)).toInt32).toInt8.toInt32).toInt8.toInt32) B).1 1 (by decide)) ?_
          rw [hI_setI_n (by omega), fe_1, upd_s]
          show AW V 0 0 (setI (feX h B N.2.2.2.2 l) (B + 7) (N.2.2.2.2 + l.length) (((x >>> ((8 * (nI m)).toInt64 &&& 63)).toInt32).toInt8.toInt32).toInt8.toInt32) 72 [(0, .ref B), (1, .long x), (3, .int (nI k)), (4, .int (nI m))] [.int (nI (N.2.2.2.2 + l.length)), .ref (B + 1)]
          refine a_iconst (v := 1) hb dX11_feed_72 (by decide) ?_
          refine a_iadd hb dX11_feed_73 ?_
          refine a_putI (fty := .int) hb dX11_feed_74 (by rw [ow]; exact fp_RX11_105_7) (Or.inr (fun C T N hq => by cases hq; rfl)) ((LY.I hLl : LY (setI (feX h B N.2.2.2.2 l) (B + 7) (N.2.2.2.2 + l.length) (((x >>> ((8 * (nI m)).toInt64 &&& 63)).toInt32).toInt8.toInt32).toInt8.toInt32) B).1 1 (by decide)) rfl rfl ?_
          rw [fe_e (x := byM x m) (by unfold bx byM; rw [by8, i8_32])]
          show AW V 0 0 (feX h B N.2.2.2.2 (l ++ [byM x m])) 77 [(0, .ref B), (1, .long x), (3, .int (nI k)), (4, .int (nI m))] []
          refine a_iinc (v := ((nI m) + (-1))) (L' := [(4, .int ((nI m) + (-1))), (0, .ref B), (1, .long x), (3, .int (nI k))]) hb dX11_feed_77 3 rfl rfl (by rw [hml]; decide) rfl ?_
          refine a_goto hb 35 dX11_feed_80 (by decide) ?_
          refine AW.sub (L' := [(0, .ref B), (1, .long x), (3, .int (nI k)), (4, .int ((nI m) + (-1)))]) [1, 2, 3, 0] rfl ?_
          exact AW.eq (ih (l ++ [byM x m]) (by rw [List.length_append, List.length_singleton]; omega) (by rw [← hb2, List.append_assoc]; rfl)) rfl rfl (by rw [Int32.sub_eq_add_neg]) rfl
      refine AW.sub (L' := [(0, .ref B), (1, .long x), (3, .int (nI k)), (4, .int (nI k - 1))]) [1, 2, 3, 0] rfl ?_
      exact AW.eq (loop k [] (by simp) rfl) (fe_0 hX.f9).symm rfl rfl rfl
    · refine a_bipush (v := (-4)) hb dX11_feed_27 (by decide) ?_
      exact a_ireturn (ty := .int) hb hz dX11_feed_29 hret rfl (by rw [hr]; exact Nat.le_of_ble_eq_true rfl) (by rw [hr]; exact Nat.le_of_ble_eq_true rfl) (⟨by rw [spFeed, if_neg (by simp [c7]), e4, if_pos (Int32.not_le.mp c24)], by rw [spFeed, if_neg (by simp [c7]), e4, if_pos (Int32.not_le.mp c24)]; exact WX.same hX rfl⟩)
  · simp [b2i_0] at c7
    refine a_bipush (v := (-2)) hb dX11_feed_10 (by decide) ?_
    exact a_ireturn (ty := .int) hb hz dX11_feed_12 hret rfl (by rw [hr]; exact Nat.le_of_ble_eq_true rfl) (by rw [hr]; exact Nat.le_of_ble_eq_true rfl) (⟨by rw [spFeed, if_pos (by simpa using c7)], by rw [spFeed, if_pos (by simpa using c7)]; exact WX.same hX rfl⟩)
