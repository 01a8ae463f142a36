/-! ===== the class: set, later, work, call, pause ===== -/
def leS (m : Nat) : Int32 := ([0, 1, 1] : List Int32).getD m 0
def moT (m : Nat) : Int32 := ([9, 9, 999] : List Int32).getD m 0
theorem sp_set {S : Nat → Int32} {m : Nat} {n : Int32} (hm : m ≤ 2) : spSet S (nI m) n = if oO n (leS m) (moT m) then (-2, S) else (S (5 + m), upd S (5 + m) n) := by
  have : m = 0 ∨ m = 1 ∨ m = 2 := by omega
  rcases this with e | e | e <;> subst e
  · unfold spSet; rw [if_neg (by decide), if_pos (by decide)]; rfl
  · unfold spSet; rw [if_neg (by decide), if_neg (by decide), if_pos (by decide)]; rfl
  · unfold spSet; rw [if_neg (by decide), if_neg (by decide), if_neg (by decide)]; rfl
theorem LY.Q {h : AH} {B a k : Nat} {v : Option Nat} (hL : LY h B) (ha : a = B + 2 ∨ a = B + 6 ∨ a = B + 5) : LY (setQ h a k v) B := ⟨hL.1, fun q hq => by
  have h1 : q.1 ≠ 2 ∧ q.1 ≠ 6 ∧ q.1 ≠ 5 := by
    have : ∀ q ∈ lyQ, q.1 ≠ 2 ∧ q.1 ≠ 6 ∧ q.1 ≠ 5 := by decide
    exact this q hq
  show u2 (hQ h) a k v (B + q.1) q.2.1 = _
  rw [u2_a (by omega)]; exact hL.2.1 q hq, hL.2.2⟩
theorem WX.set {h : AH} {B m : Nat} {S : Nat → Int32} {N : NN} {n : Int32} (H : XN h B S N) (hb : HB h) (hm : m ≤ 2) (hn : oO n (leS m) (moT m) = false) : WX (Ws B) h (setI h (B + 9) m n) B (upd S (5 + m) n) := by
  have fw : Fw (Ws B) h (setI h (B + 9) m n) := Fw.I Fw.rf rfl
  have eS : ∀ j, j ≠ 5 + m → upd S (5 + m) n j = S j := fun j h1 => upd_n h1
  have e5 : upd S (5 + m) n (5 + m) = n := upd_s
  have ob := H.ob (S' := upd S (5 + m) n) fw hb (by intro a; unfold Ws; omega) rfl rfl (fun j h1 _ => eS j (by omega))
  generalize upd S (5 + m) n = S' at *
  have k : ∀ a, a ≠ B + 9 → hI (setI h (B + 9) m n) a = hI h a := fun a h1 => by rw [hI_setI_n h1]
  have k9 : hI (setI h (B + 9) m n) (B + 9) = upd (hI h (B + 9)) m n := hI_setI_s
  have k1 := k (B + 1) (by omega)
  have G := H.2.2
  refine ⟨⟨N, XN.fin H.1 ob ⟨by rw [k1]; exact H.f3, by rw [k1]; exact H.f5, by rw [k1]; exact H.f7, by rw [k1]; exact H.f9, by rw [k1]; exact H.f11⟩ (H.od' (k _ (by omega)) (k _ (by omega)) (fun j _ _ => eS j (by omega))) (H.tp' (k _ (by omega)) (fun j _ _ => eS j (by omega))) (H.ro' (k _ (by omega)) (fun j _ _ => eS j (by omega))) (fun i hi => ?_)
    ⟨G.c0 (eS 0 (by omega)), G.c1 (eS 1 (by omega)), G.c2 (eS 2 (by omega)), G.c3 (eS 3 (by omega)), G.c4 (eS 4 (by omega)), ?_, G.p' (fun j _ _ => eS j (by omega)), G.w' (fun j _ _ => eS j (by omega)), G.m' (fun j _ _ => eS j (by omega)), G.r' (fun j _ _ => eS j (by omega)), G.t' (fun j _ _ => eS j (by omega))⟩⟩, fw⟩
  · rw [k9]
    by_cases e : i = m
    · subst e; rw [upd_s, e5]
    · rw [upd_n e, eS _ (by omega)]; exact H.st hi
  · have g := G.2.2.2.2.2.1
    have : m = 0 ∨ m = 1 ∨ m = 2 := by omega
    rcases this with e | e | e <;> subst e
    · exact ⟨by rw [show 5 = 5 + 0 from rfl, e5]; exact hn, by rw [eS 6 (by omega)]; exact g.2.1, by rw [eS 7 (by omega)]; exact g.2.2.1, by rw [eS 8 (by omega)]; exact g.2.2.2⟩
    · exact ⟨by rw [eS 5 (by omega)]; exact g.1, by rw [show 6 = 5 + 1 from rfl, e5]; exact hn, by rw [eS 7 (by omega)]; exact g.2.2.1, by rw [eS 8 (by omega)]; exact g.2.2.2⟩
    · exact ⟨by rw [eS 5 (by omega)]; exact g.1, by rw [eS 6 (by omega)]; exact g.2.1, by rw [show 7 = 5 + 2 from rfl, e5]; exact hn, by rw [eS 8 (by omega)]; exact g.2.2.2⟩
theorem WX.later {h : AH} {B m : Nat} {S : Nat → Int32} {N : NN} {a b : Int32} (H : XN h B S N) (hb : HB h) (hm : m < N.1) (ha : oO a 0 10 = false) (hb2 : oO b 0 10 = false) (hab : ¬ 10 < a + b) : WX (Wl B) h (setI (setI h (B + 3) m a) (B + 4) m b) B (upd (upd S (162 + m) a) (170 + m) b) := by
  have fw : Fw (Wl B) h (setI (setI h (B + 3) m a) (B + 4) m b) := Fw.I (Fw.I Fw.rf (Or.inl rfl)) (Or.inr rfl)
  have np := H.np
  have eS : ∀ j, j ≠ 162 + m → j ≠ 170 + m → upd (upd S (162 + m) a) (170 + m) b j = S j := fun j h1 h2 => by rw [upd_n h2, upd_n h1]
  have e1 : upd (upd S (162 + m) a) (170 + m) b (162 + m) = a := by rw [upd_n (by omega), upd_s]
  have e2 : upd (upd S (162 + m) a) (170 + m) b (170 + m) = b := upd_s
  have ob := H.ob (S' := upd (upd S (162 + m) a) (170 + m) b) fw hb (by intro a; unfold Wl; omega) rfl rfl (fun j h1 _ => eS j (by omega) (by omega))
  generalize upd (upd S (162 + m) a) (170 + m) b = S' at *
  have k : ∀ c, c ≠ B + 3 → c ≠ B + 4 → hI (setI (setI h (B + 3) m a) (B + 4) m b) c = hI h c := fun c h1 h2 => by rw [hI_setI_n h2, hI_setI_n h1]
  have k3 : hI (setI (setI h (B + 3) m a) (B + 4) m b) (B + 3) = upd (hI h (B + 3)) m a := by rw [hI_setI_n (by omega), hI_setI_s]
  have k4 : hI (setI (setI h (B + 3) m a) (B + 4) m b) (B + 4) = upd (hI h (B + 4)) m b := by rw [hI_setI_s, hI_setI_n (by omega)]
  have k1 := k (B + 1) (by omega) (by omega)
  have G := H.2.2
  refine ⟨⟨N, XN.fin H.1 ob ⟨by rw [k1]; exact H.f3, by rw [k1]; exact H.f5, by rw [k1]; exact H.f7, by rw [k1]; exact H.f9, by rw [k1]; exact H.f11⟩ (fun i hi => ?_) (H.tp' (k _ (by omega) (by omega)) (fun j _ _ => eS j (by omega) (by omega))) (H.ro' (k _ (by omega) (by omega)) (fun j _ _ => eS j (by omega) (by omega))) (H.st' (k _ (by omega) (by omega)) (fun j _ _ => eS j (by omega) (by omega)))
    ⟨G.c0 (eS 0 (by omega) (by omega)), G.c1 (eS 1 (by omega) (by omega)), G.c2 (eS 2 (by omega) (by omega)), G.c3 (eS 3 (by omega) (by omega)), G.c4 (eS 4 (by omega) (by omega)), G.s' (fun j _ _ => eS j (by omega) (by omega)), fun p hp => ?_, G.w' (fun j _ _ => eS j (by omega) (by omega)), G.m' (fun j _ _ => eS j (by omega) (by omega)), G.r' (fun j _ _ => eS j (by omega) (by omega)), G.t' (fun j _ _ => eS j (by omega) (by omega))⟩⟩, fw⟩
  · rw [k3, k4]
    by_cases e : i = m
    · subst e; rw [upd_s, upd_s, e1, e2]; exact ⟨rfl, rfl⟩
    · rw [upd_n e, upd_n e, eS _ (by omega) (by omega), eS _ (by omega) (by omega)]; exact ⟨H.on hi, H.oe hi⟩
  · have g := H.rp hp
    unfold RGp
    rw [eS (130 + p) (by omega) (by omega), eS (138 + p) (by omega) (by omega), eS (146 + p) (by omega) (by omega), eS (154 + p) (by omega) (by omega)]
    by_cases e : p = m
    · subst e; rw [e1, e2]; exact ⟨g.1, g.2.1, g.2.2.1, g.2.2.2.1, ha, hb2, hab⟩
    · rw [eS (162 + p) (by omega) (by omega), eS (170 + p) (by omega) (by omega)]; exact g
theorem oOx_3 {x : Int32} (h0 : ¬ x = 0) (h1 : ¬ x = 1) (h2 : ¬ x = 2) (h3 : ¬ x = 3) : oO x 0 3 = true := by
  by_cases e : oO x 0 3 = true
  · exact e
  · obtain ⟨m, e1, e2⟩ := c_le (z := 3) (b := 3) (by decide) (show oO x 0 3 = false by simpa using e)
    subst e1
    have : m = 0 ∨ m = 1 ∨ m = 2 ∨ m = 3 := by omega
    rcases this with e | e | e | e <;> subst e
    · exact absurd rfl h0
    · exact absurd rfl h1
    · exact absurd rfl h2
    · exact absurd rfl h3
set_option maxRecDepth 100000 in
theorem x_of (g : GG) (h : AH) (B : Nat) (S : Nat → Int32) (N : NN) (hX : XN h B S N) (p x : Int32) : AM g 3 0 0 mX11_of [.ref B, .int p, .int x] h (fun rv h' => rv = some (.int (spOf S p x)) ∧ h' = h) := by
  refine AM.of [(0, .ref B), (1, .int p), (2, .int x)] (by decide) (Nat.le_of_ble_eq_true rfl) rfl ?_
  intro V hV
  have hb : V.2.1.2.1 = cX11_of := by subst hV; rfl
  have ow : V.2.1.1.cls = RX11 := by subst hV; rfl
  have hr : V.2.2.1 = aw_rm 3 0 0 := by subst hV; rfl
  have hz : V.2.2.2 = aw_Z V.1 (fun rv h' => rv = some (.int (spOf S p x)) ∧ h' = h) V.2.2.1 := by subst hV; rfl
  have hg : V.1 = g := by subst hV; rfl
  have hret : V.2.1.2.2.2 = (some .int) := by subst hV; rfl
  have hml : V.2.1.2.2.1 = 4 := by subst hV; rfl
  clear hV
  have hnp := hX.np
  have hnw := hX.nw
  have e0 : S 0 = nI N.1 := hX.2.2.1.1
  refine a_aload_n hb dX11_of_0 rfl 0 rfl ?_
  refine a_iload_n hb dX11_of_1 rfl 1 rfl ?_
  refine a_callV hb dX11_of_2 (by rw [hg]; exact x_noPause g h B S N hX p) (by rw [ow]; exact clv_RX11_79) (hX.1.1 0 (by decide)) (by decide) rfl rfl rfl (Nat.le_of_ble_eq_true rfl) (by rw [hr]; exact ⟨by decide, by decide⟩) (by rw [hr]; exact ⟨Nat.le_of_ble_eq_true rfl, Nat.le_of_ble_eq_true rfl⟩) ?_
  intro rv h' hq_
  rw [hq_.1, hq_.2]
  show AW V 0 0 h 5 [(0, .ref B), (1, .int p), (2, .int x)] [.int (b2i (oO p 0 (nI N.1 - 1)))]
  refine a_if_eq hb 10 dX11_of_5 (by decide) (fun c5 => ?_) (fun c5 => ?_)
  · simp [b2i_0] at c5
    obtain ⟨p_, rfl, lp⟩ := c_lt (n := N.1) (by omega) (by simpa using c5)
    refine a_aload_n hb dX11_of_10 rfl 0 rfl ?_
    refine a_getQ (q := (B + 1)) hb dX11_of_11 (by rw [ow]; exact fl_RX11_12_11) (hX.1.1 0 (by decide)) (hX.1.2.1 (0, 0, 1) (by decide)) ?_
    refine a_getQ (q := (B + 2)) hb dX11_of_14 (by rw [ow]; exact fl_RX11_65_7) (hX.1.1 1 (by decide)) (hX.1.2.1 (1, 0, 2) (by decide)) ?_
    refine a_iload_n hb dX11_of_17 rfl 1 rfl ?_
    obtain ⟨q1, hq1, po1⟩ := hX.ps (p := p_) (by omega)
    refine b_aaldS (j := p_) (q := q1) hb dX11_of_18 (hX.1.1 2 (by decide)) (by decide) (by decide) (IX.n (by omega)) (by omega) hq1 ?_
    refine a_astore_n (L' := [(3, .ref q1), (0, .ref B), (1, .int (nI p_)), (2, .int x)]) hb dX11_of_19 rfl (by rw [hml]; decide) rfl ?_
    refine a_iload_n hb dX11_of_20 rfl 3 rfl ?_
    by_cases q21_0 : x = 0
    · refine a_tableIn (off := 31) hb 52 dX11_of_21 (by rw [q21_0]; decide) (by rw [q21_0]; decide) (by rw [q21_0]; decide) (by decide) ?_
      refine a_aload_n hb dX11_of_52 rfl 0 rfl ?_
      have kf2 : AW V 0 0 h 56 [(3, .ref q1), (0, .ref B), (1, .int (nI p_)), (2, .int x)] [.int (S (130 + p_))] := by
        exact a_ireturn (ty := .int) hb hz dX11_of_56 hret rfl (by rw [hr]; exact Nat.le_of_ble_eq_true rfl) (by rw [hr]; exact Nat.le_of_ble_eq_true rfl) (⟨by rw [spOf, e0, if_neg (by simp [c5]), if_neg (by rw [q21_0]; decide), q21_0, nI_clamp (by omega)]; rfl, rfl⟩)
      rcases kd_c (hX.rp (p := p_) (by omega)).1 with ek0 | ek1 | ek2 | ek3 | ek4 | ek5 | ek6
      · refine a_getI (kd := 2) (len := 0) hb dX11_of_53 (by rw [ow]; exact fl_RX11_82_2) (by have z := po1.2.1; rw [ek0] at z; exact z) ?_
        rw [po1.2.2.2.1]; exact kf2
      · refine a_getI (kd := 9) (len := 0) hb dX11_of_53 (by rw [ow]; exact fl_RX11_82_9) (by have z := po1.2.1; rw [ek1] at z; exact z) ?_
        rw [po1.2.2.2.1]; exact kf2
      · refine a_getI (kd := 0) (len := 0) hb dX11_of_53 (by rw [ow]; exact fl_RX11_82_0) (by have z := po1.2.1; rw [ek2] at z; exact z) ?_
        rw [po1.2.2.2.1]; exact kf2
      · refine a_getI (kd := 3) (len := 0) hb dX11_of_53 (by rw [ow]; exact fl_RX11_82_3) (by have z := po1.2.1; rw [ek3] at z; exact z) ?_
        rw [po1.2.2.2.1]; exact kf2
      · refine a_getI (kd := 4) (len := 0) hb dX11_of_53 (by rw [ow]; exact fl_RX11_82_4) (by have z := po1.2.1; rw [ek4] at z; exact z) ?_
        rw [po1.2.2.2.1]; exact kf2
      · refine a_getI (kd := 5) (len := 0) hb dX11_of_53 (by rw [ow]; exact fl_RX11_82_5) (by have z := po1.2.1; rw [ek5] at z; exact z) ?_
        rw [po1.2.2.2.1]; exact kf2
      · refine a_getI (kd := 6) (len := 0) hb dX11_of_53 (by rw [ow]; exact fl_RX11_82_6) (by have z := po1.2.1; rw [ek6] at z; exact z) ?_
        rw [po1.2.2.2.1]; exact kf2
    by_cases q21_1 : x = 1
    · refine a_tableIn (off := 36) hb 57 dX11_of_21 (by rw [q21_1]; decide) (by rw [q21_1]; decide) (by rw [q21_1]; decide) (by decide) ?_
      refine a_aload_n hb dX11_of_57 rfl 0 rfl ?_
      have kf3 : AW V 0 0 h 61 [(3, .ref q1), (0, .ref B), (1, .int (nI p_)), (2, .int x)] [.int (S (138 + p_))] := by
        exact a_ireturn (ty := .int) hb hz dX11_of_61 hret rfl (by rw [hr]; exact Nat.le_of_ble_eq_true rfl) (by rw [hr]; exact Nat.le_of_ble_eq_true rfl) (⟨by rw [spOf, e0, if_neg (by simp [c5]), if_neg (by rw [q21_1]; decide), q21_1, nI_clamp (by omega)]; rfl, rfl⟩)
      rcases kd_c (hX.rp (p := p_) (by omega)).1 with ek0 | ek1 | ek2 | ek3 | ek4 | ek5 | ek6
      · refine a_getI (kd := 2) (len := 0) hb dX11_of_58 (by rw [ow]; exact fl_RX11_87_2) (by have z := po1.2.1; rw [ek0] at z; exact z) ?_
        rw [po1.2.2.2.2.1]; exact kf3
      · refine a_getI (kd := 9) (len := 0) hb dX11_of_58 (by rw [ow]; exact fl_RX11_87_9) (by have z := po1.2.1; rw [ek1] at z; exact z) ?_
        rw [po1.2.2.2.2.1]; exact kf3
      · refine a_getI (kd := 0) (len := 0) hb dX11_of_58 (by rw [ow]; exact fl_RX11_87_0) (by have z := po1.2.1; rw [ek2] at z; exact z) ?_
        rw [po1.2.2.2.2.1]; exact kf3
      · refine a_getI (kd := 3) (len := 0) hb dX11_of_58 (by rw [ow]; exact fl_RX11_87_3) (by have z := po1.2.1; rw [ek3] at z; exact z) ?_
        rw [po1.2.2.2.2.1]; exact kf3
      · refine a_getI (kd := 4) (len := 0) hb dX11_of_58 (by rw [ow]; exact fl_RX11_87_4) (by have z := po1.2.1; rw [ek4] at z; exact z) ?_
        rw [po1.2.2.2.2.1]; exact kf3
      · refine a_getI (kd := 5) (len := 0) hb dX11_of_58 (by rw [ow]; exact fl_RX11_87_5) (by have z := po1.2.1; rw [ek5] at z; exact z) ?_
        rw [po1.2.2.2.2.1]; exact kf3
      · refine a_getI (kd := 6) (len := 0) hb dX11_of_58 (by rw [ow]; exact fl_RX11_87_6) (by have z := po1.2.1; rw [ek6] at z; exact z) ?_
        rw [po1.2.2.2.2.1]; exact kf3
    by_cases q21_2 : x = 2
    · refine a_tableIn (off := 41) hb 62 dX11_of_21 (by rw [q21_2]; decide) (by rw [q21_2]; decide) (by rw [q21_2]; decide) (by decide) ?_
      refine a_aload_n hb dX11_of_62 rfl 0 rfl ?_
      have kf4 : AW V 0 0 h 66 [(3, .ref q1), (0, .ref B), (1, .int (nI p_)), (2, .int x)] [.int (S (146 + p_))] := by
        exact a_ireturn (ty := .int) hb hz dX11_of_66 hret rfl (by rw [hr]; exact Nat.le_of_ble_eq_true rfl) (by rw [hr]; exact Nat.le_of_ble_eq_true rfl) (⟨by rw [spOf, e0, if_neg (by simp [c5]), if_neg (by rw [q21_2]; decide), q21_2, nI_clamp (by omega)]; rfl, rfl⟩)
      rcases kd_c (hX.rp (p := p_) (by omega)).1 with ek0 | ek1 | ek2 | ek3 | ek4 | ek5 | ek6
      · refine a_getI (kd := 2) (len := 0) hb dX11_of_63 (by rw [ow]; exact fl_RX11_90_2) (by have z := po1.2.1; rw [ek0] at z; exact z) ?_
        rw [po1.2.2.2.2.2.1]; exact kf4
      · refine a_getI (kd := 9) (len := 0) hb dX11_of_63 (by rw [ow]; exact fl_RX11_90_9) (by have z := po1.2.1; rw [ek1] at z; exact z) ?_
        rw [po1.2.2.2.2.2.1]; exact kf4
      · refine a_getI (kd := 0) (len := 0) hb dX11_of_63 (by rw [ow]; exact fl_RX11_90_0) (by have z := po1.2.1; rw [ek2] at z; exact z) ?_
        rw [po1.2.2.2.2.2.1]; exact kf4
      · refine a_getI (kd := 3) (len := 0) hb dX11_of_63 (by rw [ow]; exact fl_RX11_90_3) (by have z := po1.2.1; rw [ek3] at z; exact z) ?_
        rw [po1.2.2.2.2.2.1]; exact kf4
      · refine a_getI (kd := 4) (len := 0) hb dX11_of_63 (by rw [ow]; exact fl_RX11_90_4) (by have z := po1.2.1; rw [ek4] at z; exact z) ?_
        rw [po1.2.2.2.2.2.1]; exact kf4
      · refine a_getI (kd := 5) (len := 0) hb dX11_of_63 (by rw [ow]; exact fl_RX11_90_5) (by have z := po1.2.1; rw [ek5] at z; exact z) ?_
        rw [po1.2.2.2.2.2.1]; exact kf4
      · refine a_getI (kd := 6) (len := 0) hb dX11_of_63 (by rw [ow]; exact fl_RX11_90_6) (by have z := po1.2.1; rw [ek6] at z; exact z) ?_
        rw [po1.2.2.2.2.2.1]; exact kf4
    by_cases q21_3 : x = 3
    · refine a_tableIn (off := 46) hb 67 dX11_of_21 (by rw [q21_3]; decide) (by rw [q21_3]; decide) (by rw [q21_3]; decide) (by decide) ?_
      refine a_aload_n hb dX11_of_67 rfl 0 rfl ?_
      have kf5 : AW V 0 0 h 71 [(3, .ref q1), (0, .ref B), (1, .int (nI p_)), (2, .int x)] [.int (S (154 + p_))] := by
        exact a_ireturn (ty := .int) hb hz dX11_of_71 hret rfl (by rw [hr]; exact Nat.le_of_ble_eq_true rfl) (by rw [hr]; exact Nat.le_of_ble_eq_true rfl) (⟨by rw [spOf, e0, if_neg (by simp [c5]), if_neg (by rw [q21_3]; decide), q21_3, nI_clamp (by omega)]; rfl, rfl⟩)
      rcases kd_c (hX.rp (p := p_) (by omega)).1 with ek0 | ek1 | ek2 | ek3 | ek4 | ek5 | ek6
      · refine a_getI (kd := 2) (len := 0) hb dX11_of_68 (by rw [ow]; exact fl_RX11_93_2) (by have z := po1.2.1; rw [ek0] at z; exact z) ?_
        rw [po1.2.2.2.2.2.2]; exact kf5
      · refine a_getI (kd := 9) (len := 0) hb dX11_of_68 (by rw [ow]; exact fl_RX11_93_9) (by have z := po1.2.1; rw [ek1] at z; exact z) ?_
        rw [po1.2.2.2.2.2.2]; exact kf5
      · refine a_getI (kd := 0) (len := 0) hb dX11_of_68 (by rw [ow]; exact fl_RX11_93_0) (by have z := po1.2.1; rw [ek2] at z; exact z) ?_
        rw [po1.2.2.2.2.2.2]; exact kf5
      · refine a_getI (kd := 3) (len := 0) hb dX11_of_68 (by rw [ow]; exact fl_RX11_93_3) (by have z := po1.2.1; rw [ek3] at z; exact z) ?_
        rw [po1.2.2.2.2.2.2]; exact kf5
      · refine a_getI (kd := 4) (len := 0) hb dX11_of_68 (by rw [ow]; exact fl_RX11_93_4) (by have z := po1.2.1; rw [ek4] at z; exact z) ?_
        rw [po1.2.2.2.2.2.2]; exact kf5
      · refine a_getI (kd := 5) (len := 0) hb dX11_of_68 (by rw [ow]; exact fl_RX11_93_5) (by have z := po1.2.1; rw [ek5] at z; exact z) ?_
        rw [po1.2.2.2.2.2.2]; exact kf5
      · refine a_getI (kd := 6) (len := 0) hb dX11_of_68 (by rw [ow]; exact fl_RX11_93_6) (by have z := po1.2.1; rw [ek6] at z; exact z) ?_
        rw [po1.2.2.2.2.2.2]; exact kf5
    refine a_tableOut hb 72 dX11_of_21 (by have z0 := lv_neT (k := 0) (a := 0) q21_0 (by decide); have z1 := lv_neT (k := 1) (a := 1) q21_1 (by decide); have z2 := lv_neT (k := 2) (a := 2) q21_2 (by decide); have z3 := lv_neT (k := 3) (a := 3) q21_3 (by decide); omega) (by decide) ?_
    refine a_iconst (v := (-1)) hb dX11_of_72 (by decide) ?_
    exact a_ireturn (ty := .int) hb hz dX11_of_73 hret rfl (by rw [hr]; exact Nat.le_of_ble_eq_true rfl) (by rw [hr]; exact Nat.le_of_ble_eq_true rfl) (⟨by rw [spOf, e0, if_neg (by simp [c5]), if_pos (oOx_3 q21_0 q21_1 q21_2 q21_3)], rfl⟩)
  · simp [b2i_0] at c5
    refine a_iconst (v := (-1)) hb dX11_of_8 (by decide) ?_
    exact a_ireturn (ty := .int) hb hz dX11_of_9 hret rfl (by rw [hr]; exact Nat.le_of_ble_eq_true rfl) (by rw [hr]; exact Nat.le_of_ble_eq_true rfl) (⟨by rw [spOf, e0, if_pos (by simpa using c5)], rfl⟩)
set_option maxRecDepth 100000 in
theorem x_set (g : GG) (h : AH) (B : Nat) (S : Nat → Int32) (N : NN) (hX : XN h B S N) (hb_ : HB h) (w n : Int32) : AM g 3 0 0 mX11_set [.ref B, .int w, .int n] h (fun rv h' => rv = some (.int (spSet S w n).1) ∧ WX (Ws B) h h' B (spSet S w n).2) := by
  refine AM.of [(0, .ref B), (1, .int w), (2, .int n)] (by decide) (Nat.le_of_ble_eq_true rfl) rfl ?_
  intro V hV
  have hb : V.2.1.2.1 = cX11_set := by subst hV; rfl
  have ow : V.2.1.1.cls = RX11 := by subst hV; rfl
  have hr : V.2.2.1 = aw_rm 3 0 0 := by subst hV; rfl
  have hz : V.2.2.2 = aw_Z V.1 (fun rv h' => rv = some (.int (spSet S w n).1) ∧ WX (Ws B) h h' B (spSet S w n).2) V.2.2.1 := by subst hV; rfl
  have hg : V.1 = g := by subst hV; rfl
  have hret : V.2.1.2.2.2 = (some .int) := by subst hV; rfl
  have hml : V.2.1.2.2.1 = 4 := by subst hV; rfl
  clear hV
  have hnp := hX.np
  have hnw := hX.nw
  refine a_iload_n hb dX11_set_0 rfl 1 rfl ?_
  refine a_iconst (v := 0) hb dX11_set_1 (by decide) ?_
  refine a_aload_n hb dX11_set_2 rfl 0 rfl ?_
  refine a_getQ (q := (B + 1)) hb dX11_set_3 (by rw [ow]; exact fl_RX11_12_11) (hX.1.1 0 (by decide)) (hX.1.2.1 (0, 0, 1) (by decide)) ?_
  refine a_getQ (q := (B + 9)) hb dX11_set_6 (by rw [ow]; exact fl_RX11_96_7) (hX.1.1 1 (by decide)) (hX.1.2.1 (1, 12, 9) (by decide)) ?_
  refine a_alenI (v := 3) hb dX11_set_9 (hX.1.1 9 (by decide)) (by decide) rfl ?_
  refine a_iconst (v := 1) hb dX11_set_10 (by decide) ?_
  refine a_isub hb dX11_set_11 ?_
  rw [show (3 : Int32) - 1 = 2 from by decide]
  show AW V 0 0 h 12 [(0, .ref B), (1, .int w), (2, .int n)] [.int 2, .int 0, .int w]
  refine a_callS hb dX11_set_12 (by rw [hg]; exact w_outside g h w 0 2) (by rw [ow]; exact cls_RX11_53) rfl rfl (Nat.le_of_ble_eq_true rfl) (by rw [hr]; exact ⟨by decide, by decide⟩) (by rw [hr]; exact ⟨Nat.le_of_ble_eq_true rfl, Nat.le_of_ble_eq_true rfl⟩) ?_
  intro rv h' hq_
  rw [hq_.1, hq_.2]
  show AW V 0 0 h 15 [(0, .ref B), (1, .int w), (2, .int n)] [.int (b2i (oO w 0 2))]
  refine a_if_eq hb 20 dX11_set_15 (by decide) (fun c15 => ?_) (fun c15 => ?_)
  · simp [b2i_0] at c15
    obtain ⟨w_, rfl, lw⟩ := c_le (z := 2) (b := 2) (by decide) (by simpa using c15)
    rw [sp_set lw] at hz
    refine a_iload_n hb dX11_set_20 rfl 2 rfl ?_
    refine a_getsLeast hb dX11_set_21 (by rw [ow]; exact kw_378) ?_
    refine a_iload_n hb dX11_set_24 rfl 1 rfl ?_
    refine a_ldLeast hb dX11_set_25 (IX.inn (j := w_) (IX.n (by omega)) (by omega)) ?_
    rw [((IX.n (by omega)) : IX (nI w_) w_).2]
    show AW V 0 0 h 26 [(0, .ref B), (1, .int (nI w_)), (2, .int n)] [.int (leS w_), .int n]
    refine a_getsMost hb dX11_set_26 (by rw [ow]; exact kw_380) ?_
    refine a_iload_n hb dX11_set_29 rfl 1 rfl ?_
    refine a_ldMost hb dX11_set_30 (IX.inn (j := w_) (IX.n (by omega)) (by omega)) ?_
    rw [((IX.n (by omega)) : IX (nI w_) w_).2]
    show AW V 0 0 h 31 [(0, .ref B), (1, .int (nI w_)), (2, .int n)] [.int (moT w_), .int (leS w_), .int n]
    refine a_callS hb dX11_set_31 (by rw [hg]; exact w_outside g h n (leS w_) (moT w_)) (by rw [ow]; exact cls_RX11_53) rfl rfl (Nat.le_of_ble_eq_true rfl) (by rw [hr]; exact ⟨by decide, by decide⟩) (by rw [hr]; exact ⟨Nat.le_of_ble_eq_true rfl, Nat.le_of_ble_eq_true rfl⟩) ?_
    intro rv h' hq_
    rw [hq_.1, hq_.2]
    show AW V 0 0 h 34 [(0, .ref B), (1, .int (nI w_)), (2, .int n)] [.int (b2i (oO n (leS w_) (moT w_)))]
    refine a_if_eq hb 40 dX11_set_34 (by decide) (fun c34 => ?_) (fun c34 => ?_)
    · simp [b2i_0] at c34
      refine a_aload_n hb dX11_set_40 rfl 0 rfl ?_
      refine a_getQ (q := (B + 1)) hb dX11_set_41 (by rw [ow]; exact fl_RX11_12_11) (hX.1.1 0 (by decide)) (hX.1.2.1 (0, 0, 1) (by decide)) ?_
      refine a_getQ (q := (B + 9)) hb dX11_set_44 (by rw [ow]; exact fl_RX11_96_7) (hX.1.1 1 (by decide)) (hX.1.2.1 (1, 12, 9) (by decide)) ?_
      refine a_iload_n hb dX11_set_47 rfl 1 rfl ?_
      refine b_iald (j := w_) hb dX11_set_48 (hX.1.1 9 (by decide)) (IX.n (by omega)) (by omega) ?_
      rw [hX.st (i := w_) (by omega)]
      show AW V 0 0 h 49 [(0, .ref B), (1, .int (nI w_)), (2, .int n)] [.int (S (5 + w_))]
      refine a_istore_n (L' := [(3, .int (S (5 + w_))), (0, .ref B), (1, .int (nI w_)), (2, .int n)]) hb dX11_set_49 rfl (by rw [hml]; decide) rfl ?_
      refine a_aload_n hb dX11_set_50 rfl 1 rfl ?_
      refine a_getQ (q := (B + 1)) hb dX11_set_51 (by rw [ow]; exact fl_RX11_12_11) (hX.1.1 0 (by decide)) (hX.1.2.1 (0, 0, 1) (by decide)) ?_
      refine a_getQ (q := (B + 9)) hb dX11_set_54 (by rw [ow]; exact fl_RX11_96_7) (hX.1.1 1 (by decide)) (hX.1.2.1 (1, 12, 9) (by decide)) ?_
      refine a_iload_n hb dX11_set_57 rfl 2 rfl ?_
      refine a_iload_n hb dX11_set_58 rfl 3 rfl ?_
      refine b_iast (j := w_) hb dX11_set_59 (hX.1.1 9 (by decide)) (IX.n (by omega)) (by omega) ?_
      refine a_iload_n hb dX11_set_60 rfl 0 rfl ?_
      exact a_ireturn (ty := .int) hb hz dX11_set_61 hret rfl (by rw [hr]; exact Nat.le_of_ble_eq_true rfl) (by rw [hr]; exact Nat.le_of_ble_eq_true rfl) (⟨by rw [if_neg (by rw [(show oO n (leS w_) (moT w_) = false by simpa using c34)]; decide)], by rw [if_neg (by rw [(show oO n (leS w_) (moT w_) = false by simpa using c34)]; decide)]; exact WX.set hX hb_ lw (show oO n (leS w_) (moT w_) = false by simpa using c34)⟩)
    · simp [b2i_0] at c34
      refine a_bipush (v := (-2)) hb dX11_set_37 (by decide) ?_
      exact a_ireturn (ty := .int) hb hz dX11_set_39 hret rfl (by rw [hr]; exact Nat.le_of_ble_eq_true rfl) (by rw [hr]; exact Nat.le_of_ble_eq_true rfl) (⟨by rw [if_pos (show oO n (leS w_) (moT w_) = true by simpa using c34)], by rw [if_pos (show oO n (leS w_) (moT w_) = true by simpa using c34)]; exact WX.same hX rfl⟩)
  · simp [b2i_0] at c15
    refine a_iconst (v := (-1)) hb dX11_set_18 (by decide) ?_
    exact a_ireturn (ty := .int) hb hz dX11_set_19 hret rfl (by rw [hr]; exact Nat.le_of_ble_eq_true rfl) (by rw [hr]; exact Nat.le_of_ble_eq_true rfl) (⟨by rw [spSet, if_pos (by simpa using c15)], by rw [spSet, if_pos (by simpa using c15)]; exact WX.same hX rfl⟩)
set_option maxRecDepth 100000 in
theorem x_later (g : GG) (h : AH) (B : Nat) (S : Nat → Int32) (N : NN) (hX : XN h B S N) (hb_ : HB h) (p a b : Int32) : AM g 3 0 0 mX11_later [.ref B, .int p, .int a, .int b] h (fun rv h' => rv = some (.int (spLater S p a b).1) ∧ WX (Wl B) h h' B (spLater S p a b).2) := by
  refine AM.of [(0, .ref B), (1, .int p), (2, .int a), (3, .int b)] (by decide) (Nat.le_of_ble_eq_true rfl) rfl ?_
  intro V hV
  have hb : V.2.1.2.1 = cX11_later := by subst hV; rfl
  have ow : V.2.1.1.cls = RX11 := by subst hV; rfl
  have hr : V.2.2.1 = aw_rm 3 0 0 := by subst hV; rfl
  have hz : V.2.2.2 = aw_Z V.1 (fun rv h' => rv = some (.int (spLater S p a b).1) ∧ WX (Wl B) h h' B (spLater S p a b).2) V.2.2.1 := by subst hV; rfl
  have hg : V.1 = g := by subst hV; rfl
  have hret : V.2.1.2.2.2 = (some .int) := by subst hV; rfl
  have hml : V.2.1.2.2.1 = 4 := by subst hV; rfl
  clear hV
  have hnp := hX.np
  have hnw := hX.nw
  have e0 : S 0 = nI N.1 := hX.2.2.1.1
  refine a_aload_n hb dX11_later_0 rfl 0 rfl ?_
  refine a_iload_n hb dX11_later_1 rfl 1 rfl ?_
  refine a_callV hb dX11_later_2 (by rw [hg]; exact x_noPause g h B S N hX p) (by rw [ow]; exact clv_RX11_79) (hX.1.1 0 (by decide)) (by decide) rfl rfl rfl (Nat.le_of_ble_eq_true rfl) (by rw [hr]; exact ⟨by decide, by decide⟩) (by rw [hr]; exact ⟨Nat.le_of_ble_eq_true rfl, Nat.le_of_ble_eq_true rfl⟩) ?_
  intro rv h' hq_
  rw [hq_.1, hq_.2]
  show AW V 0 0 h 5 [(0, .ref B), (1, .int p), (2, .int a), (3, .int b)] [.int (b2i (oO p 0 (nI N.1 - 1)))]
  refine a_if_eq hb 10 dX11_later_5 (by decide) (fun c5 => ?_) (fun c5 => ?_)
  · simp [b2i_0] at c5
    obtain ⟨p_, rfl, lp⟩ := c_lt (n := N.1) (by omega) (by simpa using c5)
    refine a_iload_n hb dX11_later_10 rfl 2 rfl ?_
    refine a_iconst (v := 0) hb dX11_later_11 (by decide) ?_
    refine a_bipush (v := 10) hb dX11_later_12 (by decide) ?_
    refine a_callS hb dX11_later_14 (by rw [hg]; exact w_outside g h a 0 10) (by rw [ow]; exact cls_RX11_53) rfl rfl (Nat.le_of_ble_eq_true rfl) (by rw [hr]; exact ⟨by decide, by decide⟩) (by rw [hr]; exact ⟨Nat.le_of_ble_eq_true rfl, Nat.le_of_ble_eq_true rfl⟩) ?_
    intro rv h' hq_
    rw [hq_.1, hq_.2]
    show AW V 0 0 h 17 [(0, .ref B), (1, .int (nI p_)), (2, .int a), (3, .int b)] [.int (b2i (oO a 0 10))]
    refine a_if_ne hb 38 dX11_later_17 (by decide) (fun c17 => ?_) (fun c17 => ?_)
    · simp [b2i_0] at c17
      refine a_bipush (v := (-2)) hb dX11_later_38 (by decide) ?_
      exact a_ireturn (ty := .int) hb hz dX11_later_40 hret rfl (by rw [hr]; exact Nat.le_of_ble_eq_true rfl) (by rw [hr]; exact Nat.le_of_ble_eq_true rfl) (⟨by rw [spLater, e0, if_neg (by simp [c5]), if_pos (by simp [c17])], by rw [spLater, e0, if_neg (by simp [c5]), if_pos (by simp [c17])]; exact WX.same hX rfl⟩)
    · simp [b2i_0] at c17
      refine a_iload_n hb dX11_later_20 rfl 3 rfl ?_
      refine a_iconst (v := 0) hb dX11_later_21 (by decide) ?_
      refine a_bipush (v := 10) hb dX11_later_22 (by decide) ?_
      refine a_callS hb dX11_later_24 (by rw [hg]; exact w_outside g h b 0 10) (by rw [ow]; exact cls_RX11_53) rfl rfl (Nat.le_of_ble_eq_true rfl) (by rw [hr]; exact ⟨by decide, by decide⟩) (by rw [hr]; exact ⟨Nat.le_of_ble_eq_true rfl, Nat.le_of_ble_eq_true rfl⟩) ?_
      intro rv h' hq_
      rw [hq_.1, hq_.2]
      show AW V 0 0 h 27 [(0, .ref B), (1, .int (nI p_)), (2, .int a), (3, .int b)] [.int (b2i (oO b 0 10))]
      refine a_if_ne hb 38 dX11_later_27 (by decide) (fun c27 => ?_) (fun c27 => ?_)
      · simp [b2i_0] at c27
        refine a_bipush (v := (-2)) hb dX11_later_38 (by decide) ?_
        exact a_ireturn (ty := .int) hb hz dX11_later_40 hret rfl (by rw [hr]; exact Nat.le_of_ble_eq_true rfl) (by rw [hr]; exact Nat.le_of_ble_eq_true rfl) (⟨by rw [spLater, e0, if_neg (by simp [c5]), if_pos (by simp [c17, c27])], by rw [spLater, e0, if_neg (by simp [c5]), if_pos (by simp [c17, c27])]; exact WX.same hX rfl⟩)
      · simp [b2i_0] at c27
        refine a_iload_n hb dX11_later_30 rfl 2 rfl ?_
        refine a_iload_n hb dX11_later_31 rfl 3 rfl ?_
        refine a_iadd hb dX11_later_32 ?_
        refine a_bipush (v := 10) hb dX11_later_33 (by decide) ?_
        refine a_icmp_le hb 41 dX11_later_35 (by decide) (fun c35 => ?_) (fun c35 => ?_)
        · refine a_aload_n hb dX11_later_41 rfl 0 rfl ?_
          refine a_getQ (q := (B + 1)) hb dX11_later_42 (by rw [ow]; exact fl_RX11_12_11) (hX.1.1 0 (by decide)) (hX.1.2.1 (0, 0, 1) (by decide)) ?_
          refine a_getQ (q := (B + 3)) hb dX11_later_45 (by rw [ow]; exact fl_RX11_73_7) (hX.1.1 1 (by decide)) (hX.1.2.1 (1, 1, 3) (by decide)) ?_
          refine a_iload_n hb dX11_later_48 rfl 1 rfl ?_
          refine a_iload_n hb dX11_later_49 rfl 2 rfl ?_
          refine b_iast (j := p_) hb dX11_later_50 (hX.1.1 3 (by decide)) (IX.n (by omega)) (by omega) ?_
          refine a_aload_n hb dX11_later_51 rfl 0 rfl ?_
          refine a_getQ (q := (B + 1)) hb dX11_later_52 (by rw [ow]; exact fl_RX11_12_11) (hX.1.1 0 (by decide)) (hX.1.2.1 (0, 0, 1) (by decide)) ?_
          refine a_getQ (q := (B + 4)) hb dX11_later_55 (by rw [ow]; exact fl_RX11_76_7) (hX.1.1 1 (by decide)) (hX.1.2.1 (1, 2, 4) (by decide)) ?_
          refine a_iload_n hb dX11_later_58 rfl 1 rfl ?_
          refine a_iload_n hb dX11_later_59 rfl 3 rfl ?_
          refine b_iast (j := p_) hb dX11_later_60 (hX.1.1 4 (by decide)) (IX.n (by omega)) (by omega) ?_
          refine a_iconst (v := 1) hb dX11_later_61 (by decide) ?_
          exact a_ireturn (ty := .int) hb hz dX11_later_62 hret rfl (by rw [hr]; exact Nat.le_of_ble_eq_true rfl) (by rw [hr]; exact Nat.le_of_ble_eq_true rfl) (⟨by rw [spLater, e0, if_neg (by simp [c5]), if_neg (by simp [c17, c27, Int32.not_lt.mpr c35])], by rw [spLater, e0, if_neg (by simp [c5]), if_neg (by simp [c17, c27, Int32.not_lt.mpr c35]), nI_clamp (by omega)]; exact WX.later hX hb_ lp (by simpa using c17) (by simpa using c27) (Int32.not_lt.mpr c35)⟩)
        · refine a_bipush (v := (-2)) hb dX11_later_38 (by decide) ?_
          exact a_ireturn (ty := .int) hb hz dX11_later_40 hret rfl (by rw [hr]; exact Nat.le_of_ble_eq_true rfl) (by rw [hr]; exact Nat.le_of_ble_eq_true rfl) (⟨by rw [spLater, e0, if_neg (by simp [c5]), if_pos (by simp [c17, c27, Int32.not_le.mp c35])], by rw [spLater, e0, if_neg (by simp [c5]), if_pos (by simp [c17, c27, Int32.not_le.mp c35])]; exact WX.same hX rfl⟩)
  · simp [b2i_0] at c5
    refine a_iconst (v := (-1)) hb dX11_later_8 (by decide) ?_
    exact a_ireturn (ty := .int) hb hz dX11_later_9 hret rfl (by rw [hr]; exact Nat.le_of_ble_eq_true rfl) (by rw [hr]; exact Nat.le_of_ble_eq_true rfl) (⟨by rw [spLater, e0, if_pos (by simpa using c5)], by rw [spLater, e0, if_pos (by simpa using c5)]; exact WX.same hX rfl⟩)
