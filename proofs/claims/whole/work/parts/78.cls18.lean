/-! ===== the class: act, as, count, trace ===== -/
def Wa (B a : Nat) : Prop := a = B + 19 ∨ a = B + 20
theorem FR.trh {B n : Nat} {h h1 : AH} {l : List Int32} (x : FR (Wa B) h h1) : FR (Wa B) h (trH (B + 20) (B + 19) 1 h1 n l) := by
  unfold trH
  exact FR.I (FR.R x (Or.inr rfl)) (Or.inl rfl)
theorem XN.ac {h h' : AH} {B : Nat} {S : Nat → Int32} {N : NN} (H : XN h B S N) (x : FR (Wa B) h h') : XN h' B S N := by
  have e : ∀ a, a ≠ B + 19 → a ≠ B + 20 → hI h' a = hI h a := fun a h1 h2 => x.2.2.2.2 a (by unfold Wa; omega)
  refine ⟨x.ly H.1, ?_, H.2.2⟩
  unfold RS
  rw [e (B + 1) (by omega) (by omega), e (B + 1 + 2) (by omega) (by omega), e (B + 1 + 3) (by omega) (by omega), e (B + 1 + 6) (by omega) (by omega), e (B + 1 + 7) (by omega) (by omega), e (B + 1 + 8) (by omega) (by omega), x.2.2.1]
  refine ⟨H.2.1.1, fun p hp => ?_, fun w hw => ?_, H.2.1.2.2.2⟩
  · obtain ⟨q, h1, h2⟩ := H.ps hp
    exact ⟨q, h1, by unfold PO at h2 ⊢; have := h2.1; rw [e q (by omega) (by omega), x.2.1]; exact h2⟩
  · obtain ⟨q, h1, h2⟩ := H.ws hw
    exact ⟨q, h1, by unfold WO at h2 ⊢; have := h2.1; rw [e q (by omega) (by omega), x.2.1]; exact h2⟩
/-- what an act leaves -/
def WAc (h h' : AH) (B : Nat) (S : Nat → Int32) (N : NN) (l : List Int32) : Prop := XN h' B S N ∧ FR (Wa B) h h' ∧ hI h' (B + 19) 1 = nI l.length ∧ ∀ j, j < l.length → hI h' (B + 20) j = l.getD j 0
theorem WAc.tr {h h1 : AH} {B : Nat} {S : Nat → Int32} {N : NN} {l : List Int32} (H : XN h1 B S N) (x : FR (Wa B) h h1) : WAc h (trH (B + 20) (B + 19) 1 h1 0 l) B S N l := ⟨H.ac (FR.trh FR.rf), FR.trh x, by rw [trH_g (by omega), Nat.zero_add], fun j hj => by
  rw [trH_r (by omega)]
  have := wrL_at l (hI h1 (B + 20)) 0 j hj
  rw [Nat.zero_add] at this; exact this⟩
theorem oOx_2 {x : Int32} (h0 : ¬ x = 0) (h1 : ¬ x = 1) (h2 : ¬ x = 2) : oO x 0 2 = true := by
  by_cases e : oO x 0 2 = true
  · exact e
  · obtain ⟨m, e1, e2⟩ := c_le (z := 2) (b := 2) (by decide) (show oO x 0 2 = false by simpa using e)
    subst e1
    have : m = 0 ∨ m = 1 ∨ m = 2 := by omega
    rcases this with e | e | e <;> subst e
    · exact absurd rfl h0
    · exact absurd rfl h1
    · exact absurd rfl h2
set_option maxRecDepth 100000 in
theorem x_act (g : GG) (h : AH) (B : Nat) (S : Nat → Int32) (N : NN) (hX : XN h B S N) (p a x : Int32) : AM g 9 0 0 mX11_act [.ref B, .int p, .int a, .int x] h (fun rv h' => rv = some (.int (acS S p a x).1) ∧ WAc h h' B S N (acS S p a x).2) := by
  refine AM.of [(0, .ref B), (1, .int p), (2, .int a), (3, .int x)] (by decide) (Nat.le_of_ble_eq_true rfl) rfl ?_
  intro V hV
  have hb : V.2.1.2.1 = cX11_act := by subst hV; rfl
  have ow : V.2.1.1.cls = RX11 := by subst hV; rfl
  have hr : V.2.2.1 = aw_rm 9 0 0 := by subst hV; rfl
  have hz : V.2.2.2 = aw_Z V.1 (fun rv h' => rv = some (.int (acS S p a x).1) ∧ WAc h h' B S N (acS S p a x).2) V.2.2.1 := by subst hV; rfl
  have hg : V.1 = g := by subst hV; rfl
  have hret : V.2.1.2.2.2 = (some .int) := by subst hV; rfl
  have hml : V.2.1.2.2.1 = 5 := by subst hV; rfl
  clear hV
  have hnp := hX.np
  have hnw := hX.nw
  have e0 : S 0 = nI N.1 := hX.2.2.1.1
  refine a_aload_n hb dX11_act_0 rfl 0 rfl ?_
  refine a_getQ (q := (B + 19)) hb dX11_act_1 (by rw [ow]; exact fl_RX11_28_11) (hX.1.1 0 (by decide)) (hX.1.2.1 (0, 3, 19) (by decide)) ?_
  refine a_iconst (v := 0) hb dX11_act_4 (by decide) ?_
  refine a_putI (fty := .int) hb dX11_act_5 (by rw [ow]; exact fp_RX11_267_8) (Or.inr (fun C T N hq => by cases hq; rfl)) (hX.1.1 19 (by decide)) rfl rfl ?_
  generalize eh : (setI h (B + 19) 1 0) = h1
  have hF1 : FR (Wa B) h h1 := by rw [← eh]; exact FR.I FR.rf (Or.inl rfl)
  have hX1 : XN h1 B S N := hX.ac hF1
  have hr0 : hI h1 (B + 19) 1 = nI 0 := by rw [← eh, hI_setI_s, upd_s]; rfl
  clear eh
  show AW V 0 0 h1 8 [(0, .ref B), (1, .int p), (2, .int a), (3, .int x)] []
  refine a_aload_n hb dX11_act_8 rfl 0 rfl ?_
  refine a_iload_n hb dX11_act_9 rfl 1 rfl ?_
  refine a_callV hb dX11_act_10 (by rw [hg]; exact x_noPause g h1 B S N hX1 p) (by rw [ow]; exact clv_RX11_79) (hX1.1.1 0 (by decide)) (by decide) rfl rfl rfl (Nat.le_of_ble_eq_true rfl) (by rw [hr]; exact ⟨by decide, by decide⟩) (by rw [hr]; exact ⟨Nat.le_of_ble_eq_true rfl, Nat.le_of_ble_eq_true rfl⟩) ?_
  intro rv h' hq_
  rw [hq_.1, hq_.2]
  show AW V 0 0 h1 13 [(0, .ref B), (1, .int p), (2, .int a), (3, .int x)] [.int (b2i (oO p 0 (nI N.1 - 1)))]
  refine a_if_eq hb 18 dX11_act_13 (by decide) (fun c13 => ?_) (fun c13 => ?_)
  · simp [b2i_0] at c13
    obtain ⟨p_, rfl, lp⟩ := c_lt (n := N.1) (by omega) (by simpa using c13)
    refine a_aload_n hb dX11_act_18 rfl 0 rfl ?_
    refine a_getQ (q := (B + 1)) hb dX11_act_19 (by rw [ow]; exact fl_RX11_12_11) (hX1.1.1 0 (by decide)) (hX1.1.2.1 (0, 0, 1) (by decide)) ?_
    refine a_getQ (q := (B + 2)) hb dX11_act_22 (by rw [ow]; exact fl_RX11_65_7) (hX1.1.1 1 (by decide)) (hX1.1.2.1 (1, 0, 2) (by decide)) ?_
    refine a_iload_n hb dX11_act_25 rfl 1 rfl ?_
    obtain ⟨q1, hq1, po1⟩ := hX1.ps (p := p_) (by omega)
    refine b_aaldS (j := p_) (q := q1) hb dX11_act_26 (hX1.1.1 2 (by decide)) (by decide) (by decide) (IX.n (by omega)) (by omega) hq1 ?_
    refine a_astore (L' := [(4, .ref q1), (0, .ref B), (1, .int (nI p_)), (2, .int a), (3, .int x)]) hb dX11_act_27 (by rw [hml]; decide) rfl ?_
    refine a_iload_n hb dX11_act_29 rfl 3 rfl ?_
    by_cases q30_0 : a = 0
    · refine a_tableIn (off := 26) hb 56 dX11_act_30 (by rw [q30_0]; decide) (by rw [q30_0]; decide) (by rw [q30_0]; decide) (by decide) ?_
      refine a_aload hb dX11_act_56 0 rfl ?_
      refine a_iload_n hb dX11_act_58 rfl 4 rfl ?_
      refine a_aload_n hb dX11_act_59 rfl 1 rfl ?_
      refine a_getQ (q := (B + 19)) hb dX11_act_60 (by rw [ow]; exact fl_RX11_28_11) (hX1.1.1 0 (by decide)) (hX1.1.2.1 (0, 3, 19) (by decide)) ?_
      have kont2 : ∀ rv h', (fun rv h' => rv = some (.int (acDA (S (130 + p_)) (nI p_) x).1) ∧ h' = trH (B + 20) (B + 19) 1 h1 0 (acDA (S (130 + p_)) (nI p_) x).2) rv h' → AW V 0 0 h' 66 [(4, .ref q1), (0, .ref B), (1, .int (nI p_)), (2, .int a), (3, .int x)] (rv.toList ++ []) := by
        intro rv h' hq_
        rw [hq_.1, hq_.2]
        show AW V 0 0 (trH (B + 20) (B + 19) 1 h1 0 (acDA (S (130 + p_)) (nI p_) x).2) 66 [(4, .ref q1), (0, .ref B), (1, .int (nI p_)), (2, .int a), (3, .int x)] [.int ((acDA (S (130 + p_)) (nI p_) x).1)]
        exact a_ireturn (ty := .int) hb hz dX11_act_66 hret rfl (by rw [hr]; exact Nat.le_of_ble_eq_true rfl) (by rw [hr]; exact Nat.le_of_ble_eq_true rfl) (⟨by rw [acS, e0, if_neg (by simp [c13]), if_neg (by rw [q30_0]; decide), if_pos q30_0, nI_clamp (by omega)], by rw [acS, e0, if_neg (by simp [c13]), if_neg (by rw [q30_0]; decide), if_pos q30_0, nI_clamp (by omega)]; exact WAc.tr hX1 hF1⟩)
      rcases kd_c (hX1.rp (p := p_) (by omega)).1 with ek0 | ek1 | ek2 | ek3 | ek4 | ek5 | ek6
      · exact a_callU (Po := fun rv h' => rv = some (.int (acDA (S (130 + p_)) (nI p_) x).1) ∧ h' = trH (B + 20) (B + 19) 1 h1 0 (acDA (S (130 + p_)) (nI p_) x).2) (len := 0) (kd := 2) hb dX11_act_63 (by rw [hg, ek0]; exact xd0 g h1 B hX1.1 0 hr0 (by omega) q1 po1.1 (by have z := po1.2.1; rw [ek0] at z; exact z) (nI p_) (S (154 + p_)) po1.2.2.1 po1.2.2.2.2.2.2 x) (by rw [ow]; exact clu_RX11_270_2) (by have z := po1.2.1; rw [ek0] at z; exact z) (by decide) rfl rfl rfl (Nat.le_of_ble_eq_true rfl) (by rw [hr]; exact ⟨by decide, by decide⟩) (by rw [hr]; exact ⟨Nat.le_of_ble_eq_true rfl, Nat.le_of_ble_eq_true rfl⟩) kont2
      · exact a_callU (Po := fun rv h' => rv = some (.int (acDA (S (130 + p_)) (nI p_) x).1) ∧ h' = trH (B + 20) (B + 19) 1 h1 0 (acDA (S (130 + p_)) (nI p_) x).2) (len := 0) (kd := 9) hb dX11_act_63 (by rw [hg, ek1]; exact xd1 g h1 B hX1.1 0 hr0 (by omega) q1 po1.1 (by have z := po1.2.1; rw [ek1] at z; exact z) (nI p_) (S (154 + p_)) po1.2.2.1 po1.2.2.2.2.2.2 x) (by rw [ow]; exact clu_RX11_270_9) (by have z := po1.2.1; rw [ek1] at z; exact z) (by decide) rfl rfl rfl (Nat.le_of_ble_eq_true rfl) (by rw [hr]; exact ⟨by decide, by decide⟩) (by rw [hr]; exact ⟨Nat.le_of_ble_eq_true rfl, Nat.le_of_ble_eq_true rfl⟩) kont2
      · exact a_callU (Po := fun rv h' => rv = some (.int (acDA (S (130 + p_)) (nI p_) x).1) ∧ h' = trH (B + 20) (B + 19) 1 h1 0 (acDA (S (130 + p_)) (nI p_) x).2) (len := 0) (kd := 0) hb dX11_act_63 (by rw [hg, ek2]; exact xd2 g h1 B hX1.1 0 hr0 (by omega) q1 po1.1 (by have z := po1.2.1; rw [ek2] at z; exact z) (nI p_) (S (154 + p_)) po1.2.2.1 po1.2.2.2.2.2.2 x) (by rw [ow]; exact clu_RX11_270_0) (by have z := po1.2.1; rw [ek2] at z; exact z) (by decide) rfl rfl rfl (Nat.le_of_ble_eq_true rfl) (by rw [hr]; exact ⟨by decide, by decide⟩) (by rw [hr]; exact ⟨Nat.le_of_ble_eq_true rfl, Nat.le_of_ble_eq_true rfl⟩) kont2
      · exact a_callU (Po := fun rv h' => rv = some (.int (acDA (S (130 + p_)) (nI p_) x).1) ∧ h' = trH (B + 20) (B + 19) 1 h1 0 (acDA (S (130 + p_)) (nI p_) x).2) (len := 0) (kd := 3) hb dX11_act_63 (by rw [hg, ek3]; exact xd3 g h1 B hX1.1 0 hr0 (by omega) q1 po1.1 (by have z := po1.2.1; rw [ek3] at z; exact z) (nI p_) (S (154 + p_)) po1.2.2.1 po1.2.2.2.2.2.2 x) (by rw [ow]; exact clu_RX11_270_3) (by have z := po1.2.1; rw [ek3] at z; exact z) (by decide) rfl rfl rfl (Nat.le_of_ble_eq_true rfl) (by rw [hr]; exact ⟨by decide, by decide⟩) (by rw [hr]; exact ⟨Nat.le_of_ble_eq_true rfl, Nat.le_of_ble_eq_true rfl⟩) kont2
      · exact a_callU (Po := fun rv h' => rv = some (.int (acDA (S (130 + p_)) (nI p_) x).1) ∧ h' = trH (B + 20) (B + 19) 1 h1 0 (acDA (S (130 + p_)) (nI p_) x).2) (len := 0) (kd := 4) hb dX11_act_63 (by rw [hg, ek4]; exact xd4 g h1 B hX1.1 0 hr0 (by omega) q1 po1.1 (by have z := po1.2.1; rw [ek4] at z; exact z) (nI p_) (S (154 + p_)) po1.2.2.1 po1.2.2.2.2.2.2 x) (by rw [ow]; exact clu_RX11_270_4) (by have z := po1.2.1; rw [ek4] at z; exact z) (by decide) rfl rfl rfl (Nat.le_of_ble_eq_true rfl) (by rw [hr]; exact ⟨by decide, by decide⟩) (by rw [hr]; exact ⟨Nat.le_of_ble_eq_true rfl, Nat.le_of_ble_eq_true rfl⟩) kont2
      · exact a_callU (Po := fun rv h' => rv = some (.int (acDA (S (130 + p_)) (nI p_) x).1) ∧ h' = trH (B + 20) (B + 19) 1 h1 0 (acDA (S (130 + p_)) (nI p_) x).2) (len := 0) (kd := 5) hb dX11_act_63 (by rw [hg, ek5]; exact xd5 g h1 B hX1.1 0 hr0 (by omega) q1 po1.1 (by have z := po1.2.1; rw [ek5] at z; exact z) (nI p_) (S (154 + p_)) po1.2.2.1 po1.2.2.2.2.2.2 x) (by rw [ow]; exact clu_RX11_270_5) (by have z := po1.2.1; rw [ek5] at z; exact z) (by decide) rfl rfl rfl (Nat.le_of_ble_eq_true rfl) (by rw [hr]; exact ⟨by decide, by decide⟩) (by rw [hr]; exact ⟨Nat.le_of_ble_eq_true rfl, Nat.le_of_ble_eq_true rfl⟩) kont2
      · exact a_callU (Po := fun rv h' => rv = some (.int (acDA (S (130 + p_)) (nI p_) x).1) ∧ h' = trH (B + 20) (B + 19) 1 h1 0 (acDA (S (130 + p_)) (nI p_) x).2) (len := 0) (kd := 6) hb dX11_act_63 (by rw [hg, ek6]; exact xd6 g h1 B hX1.1 0 hr0 (by omega) q1 po1.1 (by have z := po1.2.1; rw [ek6] at z; exact z) (nI p_) (S (154 + p_)) po1.2.2.1 po1.2.2.2.2.2.2 x) (by rw [ow]; exact clu_RX11_270_6) (by have z := po1.2.1; rw [ek6] at z; exact z) (by decide) rfl rfl rfl (Nat.le_of_ble_eq_true rfl) (by rw [hr]; exact ⟨by decide, by decide⟩) (by rw [hr]; exact ⟨Nat.le_of_ble_eq_true rfl, Nat.le_of_ble_eq_true rfl⟩) kont2
    by_cases q30_1 : a = 1
    · refine a_tableIn (off := 37) hb 67 dX11_act_30 (by rw [q30_1]; decide) (by rw [q30_1]; decide) (by rw [q30_1]; decide) (by decide) ?_
      refine a_aload hb dX11_act_67 0 rfl ?_
      refine a_iload_n hb dX11_act_69 rfl 4 rfl ?_
      refine a_aload_n hb dX11_act_70 rfl 1 rfl ?_
      refine a_getQ (q := (B + 19)) hb dX11_act_71 (by rw [ow]; exact fl_RX11_28_11) (hX1.1.1 0 (by decide)) (hX1.1.2.1 (0, 3, 19) (by decide)) ?_
      have kont3 : ∀ rv h', (fun rv h' => rv = some (.int (acRA (S (130 + p_)) (nI p_) (S (154 + p_)) x).1) ∧ h' = trH (B + 20) (B + 19) 1 h1 0 (acRA (S (130 + p_)) (nI p_) (S (154 + p_)) x).2) rv h' → AW V 0 0 h' 77 [(4, .ref q1), (0, .ref B), (1, .int (nI p_)), (2, .int a), (3, .int x)] (rv.toList ++ []) := by
        intro rv h' hq_
        rw [hq_.1, hq_.2]
        show AW V 0 0 (trH (B + 20) (B + 19) 1 h1 0 (acRA (S (130 + p_)) (nI p_) (S (154 + p_)) x).2) 77 [(4, .ref q1), (0, .ref B), (1, .int (nI p_)), (2, .int a), (3, .int x)] [.int ((acRA (S (130 + p_)) (nI p_) (S (154 + p_)) x).1)]
        exact a_ireturn (ty := .int) hb hz dX11_act_77 hret rfl (by rw [hr]; exact Nat.le_of_ble_eq_true rfl) (by rw [hr]; exact Nat.le_of_ble_eq_true rfl) (⟨by rw [acS, e0, if_neg (by simp [c13]), if_neg (by rw [q30_1]; decide), if_neg (by rw [q30_1]; decide), if_pos q30_1, nI_clamp (by omega)], by rw [acS, e0, if_neg (by simp [c13]), if_neg (by rw [q30_1]; decide), if_neg (by rw [q30_1]; decide), if_pos q30_1, nI_clamp (by omega)]; exact WAc.tr hX1 hF1⟩)
      rcases kd_c (hX1.rp (p := p_) (by omega)).1 with ek0 | ek1 | ek2 | ek3 | ek4 | ek5 | ek6
      · exact a_callU (Po := fun rv h' => rv = some (.int (acRA (S (130 + p_)) (nI p_) (S (154 + p_)) x).1) ∧ h' = trH (B + 20) (B + 19) 1 h1 0 (acRA (S (130 + p_)) (nI p_) (S (154 + p_)) x).2) (len := 0) (kd := 2) hb dX11_act_74 (by rw [hg, ek0]; exact xr0 g h1 B hX1.1 0 hr0 (by omega) q1 po1.1 (by have z := po1.2.1; rw [ek0] at z; exact z) (nI p_) (S (154 + p_)) po1.2.2.1 po1.2.2.2.2.2.2 x) (by rw [ow]; exact clu_RX11_274_2) (by have z := po1.2.1; rw [ek0] at z; exact z) (by decide) rfl rfl rfl (Nat.le_of_ble_eq_true rfl) (by rw [hr]; exact ⟨by decide, by decide⟩) (by rw [hr]; exact ⟨Nat.le_of_ble_eq_true rfl, Nat.le_of_ble_eq_true rfl⟩) kont3
      · exact a_callU (Po := fun rv h' => rv = some (.int (acRA (S (130 + p_)) (nI p_) (S (154 + p_)) x).1) ∧ h' = trH (B + 20) (B + 19) 1 h1 0 (acRA (S (130 + p_)) (nI p_) (S (154 + p_)) x).2) (len := 0) (kd := 9) hb dX11_act_74 (by rw [hg, ek1]; exact xr1 g h1 B hX1.1 0 hr0 (by omega) q1 po1.1 (by have z := po1.2.1; rw [ek1] at z; exact z) (nI p_) (S (154 + p_)) po1.2.2.1 po1.2.2.2.2.2.2 x) (by rw [ow]; exact clu_RX11_274_9) (by have z := po1.2.1; rw [ek1] at z; exact z) (by decide) rfl rfl rfl (Nat.le_of_ble_eq_true rfl) (by rw [hr]; exact ⟨by decide, by decide⟩) (by rw [hr]; exact ⟨Nat.le_of_ble_eq_true rfl, Nat.le_of_ble_eq_true rfl⟩) kont3
      · exact a_callU (Po := fun rv h' => rv = some (.int (acRA (S (130 + p_)) (nI p_) (S (154 + p_)) x).1) ∧ h' = trH (B + 20) (B + 19) 1 h1 0 (acRA (S (130 + p_)) (nI p_) (S (154 + p_)) x).2) (len := 0) (kd := 0) hb dX11_act_74 (by rw [hg, ek2]; exact xr2 g h1 B hX1.1 0 hr0 (by omega) q1 po1.1 (by have z := po1.2.1; rw [ek2] at z; exact z) (nI p_) (S (154 + p_)) po1.2.2.1 po1.2.2.2.2.2.2 x) (by rw [ow]; exact clu_RX11_274_0) (by have z := po1.2.1; rw [ek2] at z; exact z) (by decide) rfl rfl rfl (Nat.le_of_ble_eq_true rfl) (by rw [hr]; exact ⟨by decide, by decide⟩) (by rw [hr]; exact ⟨Nat.le_of_ble_eq_true rfl, Nat.le_of_ble_eq_true rfl⟩) kont3
      · exact a_callU (Po := fun rv h' => rv = some (.int (acRA (S (130 + p_)) (nI p_) (S (154 + p_)) x).1) ∧ h' = trH (B + 20) (B + 19) 1 h1 0 (acRA (S (130 + p_)) (nI p_) (S (154 + p_)) x).2) (len := 0) (kd := 3) hb dX11_act_74 (by rw [hg, ek3]; exact xr3 g h1 B hX1.1 0 hr0 (by omega) q1 po1.1 (by have z := po1.2.1; rw [ek3] at z; exact z) (nI p_) (S (154 + p_)) po1.2.2.1 po1.2.2.2.2.2.2 x) (by rw [ow]; exact clu_RX11_274_3) (by have z := po1.2.1; rw [ek3] at z; exact z) (by decide) rfl rfl rfl (Nat.le_of_ble_eq_true rfl) (by rw [hr]; exact ⟨by decide, by decide⟩) (by rw [hr]; exact ⟨Nat.le_of_ble_eq_true rfl, Nat.le_of_ble_eq_true rfl⟩) kont3
      · exact a_callU (Po := fun rv h' => rv = some (.int (acRA (S (130 + p_)) (nI p_) (S (154 + p_)) x).1) ∧ h' = trH (B + 20) (B + 19) 1 h1 0 (acRA (S (130 + p_)) (nI p_) (S (154 + p_)) x).2) (len := 0) (kd := 4) hb dX11_act_74 (by rw [hg, ek4]; exact xr4 g h1 B hX1.1 0 hr0 (by omega) q1 po1.1 (by have z := po1.2.1; rw [ek4] at z; exact z) (nI p_) (S (154 + p_)) po1.2.2.1 po1.2.2.2.2.2.2 x) (by rw [ow]; exact clu_RX11_274_4) (by have z := po1.2.1; rw [ek4] at z; exact z) (by decide) rfl rfl rfl (Nat.le_of_ble_eq_true rfl) (by rw [hr]; exact ⟨by decide, by decide⟩) (by rw [hr]; exact ⟨Nat.le_of_ble_eq_true rfl, Nat.le_of_ble_eq_true rfl⟩) kont3
      · exact a_callU (Po := fun rv h' => rv = some (.int (acRA (S (130 + p_)) (nI p_) (S (154 + p_)) x).1) ∧ h' = trH (B + 20) (B + 19) 1 h1 0 (acRA (S (130 + p_)) (nI p_) (S (154 + p_)) x).2) (len := 0) (kd := 5) hb dX11_act_74 (by rw [hg, ek5]; exact xr5 g h1 B hX1.1 0 hr0 (by omega) q1 po1.1 (by have z := po1.2.1; rw [ek5] at z; exact z) (nI p_) (S (154 + p_)) po1.2.2.1 po1.2.2.2.2.2.2 x) (by rw [ow]; exact clu_RX11_274_5) (by have z := po1.2.1; rw [ek5] at z; exact z) (by decide) rfl rfl rfl (Nat.le_of_ble_eq_true rfl) (by rw [hr]; exact ⟨by decide, by decide⟩) (by rw [hr]; exact ⟨Nat.le_of_ble_eq_true rfl, Nat.le_of_ble_eq_true rfl⟩) kont3
      · exact a_callU (Po := fun rv h' => rv = some (.int (acRA (S (130 + p_)) (nI p_) (S (154 + p_)) x).1) ∧ h' = trH (B + 20) (B + 19) 1 h1 0 (acRA (S (130 + p_)) (nI p_) (S (154 + p_)) x).2) (len := 0) (kd := 6) hb dX11_act_74 (by rw [hg, ek6]; exact xr6 g h1 B hX1.1 0 hr0 (by omega) q1 po1.1 (by have z := po1.2.1; rw [ek6] at z; exact z) (nI p_) (S (154 + p_)) po1.2.2.1 po1.2.2.2.2.2.2 x) (by rw [ow]; exact clu_RX11_274_6) (by have z := po1.2.1; rw [ek6] at z; exact z) (by decide) rfl rfl rfl (Nat.le_of_ble_eq_true rfl) (by rw [hr]; exact ⟨by decide, by decide⟩) (by rw [hr]; exact ⟨Nat.le_of_ble_eq_true rfl, Nat.le_of_ble_eq_true rfl⟩) kont3
    by_cases q30_2 : a = 2
    · refine a_tableIn (off := 48) hb 78 dX11_act_30 (by rw [q30_2]; decide) (by rw [q30_2]; decide) (by rw [q30_2]; decide) (by decide) ?_
      refine a_aload hb dX11_act_78 0 rfl ?_
      refine a_iload_n hb dX11_act_80 rfl 4 rfl ?_
      refine a_aload_n hb dX11_act_81 rfl 1 rfl ?_
      refine a_getQ (q := (B + 19)) hb dX11_act_82 (by rw [ow]; exact fl_RX11_28_11) (hX1.1.1 0 (by decide)) (hX1.1.2.1 (0, 3, 19) (by decide)) ?_
      have kont4 : ∀ rv h', (fun rv h' => rv = some (.int (acTA (S (130 + p_)) (nI p_) (S (154 + p_)) x).1) ∧ h' = trH (B + 20) (B + 19) 1 h1 0 (acTA (S (130 + p_)) (nI p_) (S (154 + p_)) x).2) rv h' → AW V 0 0 h' 88 [(4, .ref q1), (0, .ref B), (1, .int (nI p_)), (2, .int a), (3, .int x)] (rv.toList ++ []) := by
        intro rv h' hq_
        rw [hq_.1, hq_.2]
        show AW V 0 0 (trH (B + 20) (B + 19) 1 h1 0 (acTA (S (130 + p_)) (nI p_) (S (154 + p_)) x).2) 88 [(4, .ref q1), (0, .ref B), (1, .int (nI p_)), (2, .int a), (3, .int x)] [.int ((acTA (S (130 + p_)) (nI p_) (S (154 + p_)) x).1)]
        exact a_ireturn (ty := .int) hb hz dX11_act_88 hret rfl (by rw [hr]; exact Nat.le_of_ble_eq_true rfl) (by rw [hr]; exact Nat.le_of_ble_eq_true rfl) (⟨by rw [acS, e0, if_neg (by simp [c13]), if_neg (by rw [q30_2]; decide), if_neg (by rw [q30_2]; decide), if_neg (by rw [q30_2]; decide), nI_clamp (by omega)], by rw [acS, e0, if_neg (by simp [c13]), if_neg (by rw [q30_2]; decide), if_neg (by rw [q30_2]; decide), if_neg (by rw [q30_2]; decide), nI_clamp (by omega)]; exact WAc.tr hX1 hF1⟩)
      rcases kd_c (hX1.rp (p := p_) (by omega)).1 with ek0 | ek1 | ek2 | ek3 | ek4 | ek5 | ek6
      · exact a_callU (Po := fun rv h' => rv = some (.int (acTA (S (130 + p_)) (nI p_) (S (154 + p_)) x).1) ∧ h' = trH (B + 20) (B + 19) 1 h1 0 (acTA (S (130 + p_)) (nI p_) (S (154 + p_)) x).2) (len := 0) (kd := 2) hb dX11_act_85 (by rw [hg, ek0]; exact xt0 g h1 B hX1.1 0 hr0 (by omega) q1 po1.1 (by have z := po1.2.1; rw [ek0] at z; exact z) (nI p_) (S (154 + p_)) po1.2.2.1 po1.2.2.2.2.2.2 x) (by rw [ow]; exact clu_RX11_277_2) (by have z := po1.2.1; rw [ek0] at z; exact z) (by decide) rfl rfl rfl (Nat.le_of_ble_eq_true rfl) (by rw [hr]; exact ⟨by decide, by decide⟩) (by rw [hr]; exact ⟨Nat.le_of_ble_eq_true rfl, Nat.le_of_ble_eq_true rfl⟩) kont4
      · exact a_callU (Po := fun rv h' => rv = some (.int (acTA (S (130 + p_)) (nI p_) (S (154 + p_)) x).1) ∧ h' = trH (B + 20) (B + 19) 1 h1 0 (acTA (S (130 + p_)) (nI p_) (S (154 + p_)) x).2) (len := 0) (kd := 9) hb dX11_act_85 (by rw [hg, ek1]; exact xt1 g h1 B hX1.1 0 hr0 (by omega) q1 po1.1 (by have z := po1.2.1; rw [ek1] at z; exact z) (nI p_) (S (154 + p_)) po1.2.2.1 po1.2.2.2.2.2.2 x) (by rw [ow]; exact clu_RX11_277_9) (by have z := po1.2.1; rw [ek1] at z; exact z) (by decide) rfl rfl rfl (Nat.le_of_ble_eq_true rfl) (by rw [hr]; exact ⟨by decide, by decide⟩) (by rw [hr]; exact ⟨Nat.le_of_ble_eq_true rfl, Nat.le_of_ble_eq_true rfl⟩) kont4
      · exact a_callU (Po := fun rv h' => rv = some (.int (acTA (S (130 + p_)) (nI p_) (S (154 + p_)) x).1) ∧ h' = trH (B + 20) (B + 19) 1 h1 0 (acTA (S (130 + p_)) (nI p_) (S (154 + p_)) x).2) (len := 0) (kd := 0) hb dX11_act_85 (by rw [hg, ek2]; exact xt2 g h1 B hX1.1 0 hr0 (by omega) q1 po1.1 (by have z := po1.2.1; rw [ek2] at z; exact z) (nI p_) (S (154 + p_)) po1.2.2.1 po1.2.2.2.2.2.2 x) (by rw [ow]; exact clu_RX11_277_0) (by have z := po1.2.1; rw [ek2] at z; exact z) (by decide) rfl rfl rfl (Nat.le_of_ble_eq_true rfl) (by rw [hr]; exact ⟨by decide, by decide⟩) (by rw [hr]; exact ⟨Nat.le_of_ble_eq_true rfl, Nat.le_of_ble_eq_true rfl⟩) kont4
      · exact a_callU (Po := fun rv h' => rv = some (.int (acTA (S (130 + p_)) (nI p_) (S (154 + p_)) x).1) ∧ h' = trH (B + 20) (B + 19) 1 h1 0 (acTA (S (130 + p_)) (nI p_) (S (154 + p_)) x).2) (len := 0) (kd := 3) hb dX11_act_85 (by rw [hg, ek3]; exact xt3 g h1 B hX1.1 0 hr0 (by omega) q1 po1.1 (by have z := po1.2.1; rw [ek3] at z; exact z) (nI p_) (S (154 + p_)) po1.2.2.1 po1.2.2.2.2.2.2 x) (by rw [ow]; exact clu_RX11_277_3) (by have z := po1.2.1; rw [ek3] at z; exact z) (by decide) rfl rfl rfl (Nat.le_of_ble_eq_true rfl) (by rw [hr]; exact ⟨by decide, by decide⟩) (by rw [hr]; exact ⟨Nat.le_of_ble_eq_true rfl, Nat.le_of_ble_eq_true rfl⟩) kont4
      · exact a_callU (Po := fun rv h' => rv = some (.int (acTA (S (130 + p_)) (nI p_) (S (154 + p_)) x).1) ∧ h' = trH (B + 20) (B + 19) 1 h1 0 (acTA (S (130 + p_)) (nI p_) (S (154 + p_)) x).2) (len := 0) (kd := 4) hb dX11_act_85 (by rw [hg, ek4]; exact xt4 g h1 B hX1.1 0 hr0 (by omega) q1 po1.1 (by have z := po1.2.1; rw [ek4] at z; exact z) (nI p_) (S (154 + p_)) po1.2.2.1 po1.2.2.2.2.2.2 x) (by rw [ow]; exact clu_RX11_277_4) (by have z := po1.2.1; rw [ek4] at z; exact z) (by decide) rfl rfl rfl (Nat.le_of_ble_eq_true rfl) (by rw [hr]; exact ⟨by decide, by decide⟩) (by rw [hr]; exact ⟨Nat.le_of_ble_eq_true rfl, Nat.le_of_ble_eq_true rfl⟩) kont4
      · exact a_callU (Po := fun rv h' => rv = some (.int (acTA (S (130 + p_)) (nI p_) (S (154 + p_)) x).1) ∧ h' = trH (B + 20) (B + 19) 1 h1 0 (acTA (S (130 + p_)) (nI p_) (S (154 + p_)) x).2) (len := 0) (kd := 5) hb dX11_act_85 (by rw [hg, ek5]; exact xt5 g h1 B hX1.1 0 hr0 (by omega) q1 po1.1 (by have z := po1.2.1; rw [ek5] at z; exact z) (nI p_) (S (154 + p_)) po1.2.2.1 po1.2.2.2.2.2.2 x) (by rw [ow]; exact clu_RX11_277_5) (by have z := po1.2.1; rw [ek5] at z; exact z) (by decide) rfl rfl rfl (Nat.le_of_ble_eq_true rfl) (by rw [hr]; exact ⟨by decide, by decide⟩) (by rw [hr]; exact ⟨Nat.le_of_ble_eq_true rfl, Nat.le_of_ble_eq_true rfl⟩) kont4
      · exact a_callU (Po := fun rv h' => rv = some (.int (acTA (S (130 + p_)) (nI p_) (S (154 + p_)) x).1) ∧ h' = trH (B + 20) (B + 19) 1 h1 0 (acTA (S (130 + p_)) (nI p_) (S (154 + p_)) x).2) (len := 0) (kd := 6) hb dX11_act_85 (by rw [hg, ek6]; exact xt6 g h1 B hX1.1 0 hr0 (by omega) q1 po1.1 (by have z := po1.2.1; rw [ek6] at z; exact z) (nI p_) (S (154 + p_)) po1.2.2.1 po1.2.2.2.2.2.2 x) (by rw [ow]; exact clu_RX11_277_6) (by have z := po1.2.1; rw [ek6] at z; exact z) (by decide) rfl rfl rfl (Nat.le_of_ble_eq_true rfl) (by rw [hr]; exact ⟨by decide, by decide⟩) (by rw [hr]; exact ⟨Nat.le_of_ble_eq_true rfl, Nat.le_of_ble_eq_true rfl⟩) kont4
    refine a_tableOut hb 89 dX11_act_30 (by have z0 := lv_neT (k := 0) (a := 0) q30_0 (by decide); have z1 := lv_neT (k := 1) (a := 1) q30_1 (by decide); have z2 := lv_neT (k := 2) (a := 2) q30_2 (by decide); omega) (by decide) ?_
    refine a_iconst (v := 0) hb dX11_act_89 (by decide) ?_
    exact a_ireturn (ty := .int) hb hz dX11_act_90 hret rfl (by rw [hr]; exact Nat.le_of_ble_eq_true rfl) (by rw [hr]; exact Nat.le_of_ble_eq_true rfl) (⟨by rw [acS, e0, if_neg (by simp [c13]), if_pos (oOx_2 q30_0 q30_1 q30_2)], by rw [acS, e0, if_neg (by simp [c13]), if_pos (oOx_2 q30_0 q30_1 q30_2)]; exact ⟨hX1, hF1, hr0, fun j hj => absurd hj (Nat.not_lt_zero j)⟩⟩)
  · simp [b2i_0] at c13
    refine a_iconst (v := 0) hb dX11_act_16 (by decide) ?_
    exact a_ireturn (ty := .int) hb hz dX11_act_17 hret rfl (by rw [hr]; exact Nat.le_of_ble_eq_true rfl) (by rw [hr]; exact Nat.le_of_ble_eq_true rfl) (⟨by rw [acS, e0, if_pos (by simpa using c13)], by rw [acS, e0, if_pos (by simpa using c13)]; exact ⟨hX1, hF1, hr0, fun j hj => absurd hj (Nat.not_lt_zero j)⟩⟩)
set_option maxRecDepth 100000 in
theorem x_count (g : GG) (h : AH) (B : Nat) (S : Nat → Int32) (N : NN) (hX : XN h B S N) (x : Int32) : AM g 1 0 0 mX11_count [.ref B, .int x] h (fun rv h' => rv = some (.int (if x = 0 then nI N.1 else if x = 1 then nI N.2.1 else if x = 2 then nI N.2.2.1 else if x = 3 then nI N.2.2.2.1 else if x = 4 then nI N.2.2.2.2 else if x = 5 then hI h (B + 19) 1 else -1)) ∧ h' = h) := by
  refine AM.of [(0, .ref B), (1, .int x)] (by decide) (Nat.le_of_ble_eq_true rfl) rfl ?_
  intro V hV
  have hb : V.2.1.2.1 = cX11_count := by subst hV; rfl
  have ow : V.2.1.1.cls = RX11 := by subst hV; rfl
  have hr : V.2.2.1 = aw_rm 1 0 0 := by subst hV; rfl
  have hz : V.2.2.2 = aw_Z V.1 (fun rv h' => rv = some (.int (if x = 0 then nI N.1 else if x = 1 then nI N.2.1 else if x = 2 then nI N.2.2.1 else if x = 3 then nI N.2.2.2.1 else if x = 4 then nI N.2.2.2.2 else if x = 5 then hI h (B + 19) 1 else -1)) ∧ h' = h) V.2.2.1 := by subst hV; rfl
  have hg : V.1 = g := by subst hV; rfl
  have hret : V.2.1.2.2.2 = (some .int) := by subst hV; rfl
  have hml : V.2.1.2.2.1 = 2 := by subst hV; rfl
  clear hV
  have hnp := hX.np
  have hnw := hX.nw
  refine a_iload_n hb dX11_count_0 rfl 1 rfl ?_
  by_cases q1_0 : x = 0
  · refine a_tableIn (off := 39) hb 40 dX11_count_1 (by rw [q1_0]; decide) (by rw [q1_0]; decide) (by rw [q1_0]; decide) (by decide) ?_
    refine a_aload_n hb dX11_count_40 rfl 0 rfl ?_
    refine a_getQ (q := (B + 1)) hb dX11_count_41 (by rw [ow]; exact fl_RX11_12_11) (hX.1.1 0 (by decide)) (hX.1.2.1 (0, 0, 1) (by decide)) ?_
    refine a_getI hb dX11_count_44 (by rw [ow]; exact fl_RX11_61_7) (hX.1.1 1 (by decide)) ?_
    rw [hX.f3]
    show AW V 0 0 h 47 [(0, .ref B), (1, .int x)] [.int (nI N.1)]
    exact a_ireturn (ty := .int) hb hz dX11_count_47 hret rfl (by rw [hr]; exact Nat.le_of_ble_eq_true rfl) (by rw [hr]; exact Nat.le_of_ble_eq_true rfl) (⟨by rw [if_pos q1_0], rfl⟩)
  by_cases q1_1 : x = 1
  · refine a_tableIn (off := 47) hb 48 dX11_count_1 (by rw [q1_1]; decide) (by rw [q1_1]; decide) (by rw [q1_1]; decide) (by decide) ?_
    refine a_aload_n hb dX11_count_48 rfl 0 rfl ?_
    refine a_getQ (q := (B + 1)) hb dX11_count_49 (by rw [ow]; exact fl_RX11_12_11) (hX.1.1 0 (by decide)) (hX.1.2.1 (0, 0, 1) (by decide)) ?_
    refine a_getI hb dX11_count_52 (by rw [ow]; exact fl_RX11_152_7) (hX.1.1 1 (by decide)) ?_
    rw [hX.f7]
    show AW V 0 0 h 55 [(0, .ref B), (1, .int x)] [.int (nI N.2.1)]
    exact a_ireturn (ty := .int) hb hz dX11_count_55 hret rfl (by rw [hr]; exact Nat.le_of_ble_eq_true rfl) (by rw [hr]; exact Nat.le_of_ble_eq_true rfl) (⟨by rw [if_neg (by rw [q1_1]; decide), if_pos q1_1], rfl⟩)
  by_cases q1_2 : x = 2
  · refine a_tableIn (off := 55) hb 56 dX11_count_1 (by rw [q1_2]; decide) (by rw [q1_2]; decide) (by rw [q1_2]; decide) (by decide) ?_
    refine a_aload_n hb dX11_count_56 rfl 0 rfl ?_
    refine a_getQ (q := (B + 1)) hb dX11_count_57 (by rw [ow]; exact fl_RX11_12_11) (hX.1.1 0 (by decide)) (hX.1.2.1 (0, 0, 1) (by decide)) ?_
    refine a_getI hb dX11_count_60 (by rw [ow]; exact fl_RX11_112_7) (hX.1.1 1 (by decide)) ?_
    rw [hX.f5]
    show AW V 0 0 h 63 [(0, .ref B), (1, .int x)] [.int (nI N.2.2.1)]
    exact a_ireturn (ty := .int) hb hz dX11_count_63 hret rfl (by rw [hr]; exact Nat.le_of_ble_eq_true rfl) (by rw [hr]; exact Nat.le_of_ble_eq_true rfl) (⟨by rw [if_neg (by rw [q1_2]; decide), if_neg (by rw [q1_2]; decide), if_pos q1_2], rfl⟩)
  by_cases q1_3 : x = 3
  · refine a_tableIn (off := 63) hb 64 dX11_count_1 (by rw [q1_3]; decide) (by rw [q1_3]; decide) (by rw [q1_3]; decide) (by decide) ?_
    refine a_aload_n hb dX11_count_64 rfl 0 rfl ?_
    refine a_getQ (q := (B + 1)) hb dX11_count_65 (by rw [ow]; exact fl_RX11_12_11) (hX.1.1 0 (by decide)) (hX.1.2.1 (0, 0, 1) (by decide)) ?_
    refine a_getI hb dX11_count_68 (by rw [ow]; exact fl_RX11_250_7) (hX.1.1 1 (by decide)) ?_
    rw [hX.f11]
    show AW V 0 0 h 71 [(0, .ref B), (1, .int x)] [.int (nI N.2.2.2.1)]
    exact a_ireturn (ty := .int) hb hz dX11_count_71 hret rfl (by rw [hr]; exact Nat.le_of_ble_eq_true rfl) (by rw [hr]; exact Nat.le_of_ble_eq_true rfl) (⟨by rw [if_neg (by rw [q1_3]; decide), if_neg (by rw [q1_3]; decide), if_neg (by rw [q1_3]; decide), if_pos q1_3], rfl⟩)
  by_cases q1_4 : x = 4
  · refine a_tableIn (off := 71) hb 72 dX11_count_1 (by rw [q1_4]; decide) (by rw [q1_4]; decide) (by rw [q1_4]; decide) (by decide) ?_
    refine a_aload_n hb dX11_count_72 rfl 0 rfl ?_
    refine a_getQ (q := (B + 1)) hb dX11_count_73 (by rw [ow]; exact fl_RX11_12_11) (hX.1.1 0 (by decide)) (hX.1.2.1 (0, 0, 1) (by decide)) ?_
    refine a_getI hb dX11_count_76 (by rw [ow]; exact fl_RX11_105_7) (hX.1.1 1 (by decide)) ?_
    rw [hX.f9]
    show AW V 0 0 h 79 [(0, .ref B), (1, .int x)] [.int (nI N.2.2.2.2)]
    exact a_ireturn (ty := .int) hb hz dX11_count_79 hret rfl (by rw [hr]; exact Nat.le_of_ble_eq_true rfl) (by rw [hr]; exact Nat.le_of_ble_eq_true rfl) (⟨by rw [if_neg (by rw [q1_4]; decide), if_neg (by rw [q1_4]; decide), if_neg (by rw [q1_4]; decide), if_neg (by rw [q1_4]; decide), if_pos q1_4], rfl⟩)
  by_cases q1_5 : x = 5
  · refine a_tableIn (off := 79) hb 80 dX11_count_1 (by rw [q1_5]; decide) (by rw [q1_5]; decide) (by rw [q1_5]; decide) (by decide) ?_
    refine a_aload_n hb dX11_count_80 rfl 0 rfl ?_
    refine a_getQ (q := (B + 19)) hb dX11_count_81 (by rw [ow]; exact fl_RX11_28_11) (hX.1.1 0 (by decide)) (hX.1.2.1 (0, 3, 19) (by decide)) ?_
    refine a_getI hb dX11_count_84 (by rw [ow]; exact fl_RX11_267_8) (hX.1.1 19 (by decide)) ?_
    exact a_ireturn (ty := .int) hb hz dX11_count_87 hret rfl (by rw [hr]; exact Nat.le_of_ble_eq_true rfl) (by rw [hr]; exact Nat.le_of_ble_eq_true rfl) (⟨by rw [if_neg (by rw [q1_5]; decide), if_neg (by rw [q1_5]; decide), if_neg (by rw [q1_5]; decide), if_neg (by rw [q1_5]; decide), if_neg (by rw [q1_5]; decide), if_pos q1_5], rfl⟩)
  refine a_tableOut hb 88 dX11_count_1 (by have z0 := lv_neT (k := 0) (a := 0) q1_0 (by decide); have z1 := lv_neT (k := 1) (a := 1) q1_1 (by decide); have z2 := lv_neT (k := 2) (a := 2) q1_2 (by decide); have z3 := lv_neT (k := 3) (a := 3) q1_3 (by decide); have z4 := lv_neT (k := 4) (a := 4) q1_4 (by decide); have z5 := lv_neT (k := 5) (a := 5) q1_5 (by decide); omega) (by decide) ?_
  refine a_iconst (v := (-1)) hb dX11_count_88 (by decide) ?_
  exact a_ireturn (ty := .int) hb hz dX11_count_89 hret rfl (by rw [hr]; exact Nat.le_of_ble_eq_true rfl) (by rw [hr]; exact Nat.le_of_ble_eq_true rfl) (⟨by rw [if_neg q1_0, if_neg q1_1, if_neg q1_2, if_neg q1_3, if_neg q1_4, if_neg q1_5], rfl⟩)
