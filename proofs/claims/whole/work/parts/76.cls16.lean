/-! ===== the class: pause ===== -/
section PA
variable {h h1 : AH} {B : Nat} {S : Nat → Int32} {N : NN}
theorem tyo_p {k : Int32} (nw : NW h h1 (kdP k)) : TYo h1 RX2 (some (hN h)) := by
  obtain ⟨Cn, c1, c2⟩ := kdP_cl k
  exact nw.tyo kdP_lt c1 c2
theorem WX.pause {k t z v : Int32} (H : XN h B S N) (hb : HB h) (hn : N.1 < 8) (hk : oO k 0 6 = false) (ht : oO t 0 39 = false) (hz : oO z 0 99 = false) (hv : oO v 0 9 = false) (nw : NW h h1 (kdP k)) (fl : ∀ j, j < 5 → hI h1 (hN h) j = pzF (fun _ => 0) (nI N.1) k t z v j) : WX (Wp B) h (setI (setI (setI (setQ h1 (B + 2) N.1 (some (hN h))) (B + 3) N.1 10) (B + 4) N.1 0) (B + 1) 3 (nI N.1 + 1)) B (upd (upd (upd (upd (upd (upd (upd S (130 + N.1) k) (138 + N.1) t) (146 + N.1) z) (154 + N.1) v) (162 + N.1) 10) (170 + N.1) 0) 0 (S 0 + 1)) := by
  have hL62 := H.1.2.2
  have fw : Fw (Wp B) h (setI (setI (setI (setQ h1 (B + 2) N.1 (some (hN h))) (B + 3) N.1 10) (B + 4) N.1 0) (B + 1) 3 (nI N.1 + 1)) := Fw.I (Fw.I (Fw.I (Fw.Q nw.fw (Or.inr (Or.inl rfl)) (Or.inl ⟨(nw.ly H.1).1 2 (by decide), tyo_p nw⟩)) (Or.inr (Or.inr (Or.inl rfl)))) (Or.inr (Or.inr (Or.inr rfl)))) (Or.inl rfl)
  have hL' : LY (setI (setI (setI (setQ h1 (B + 2) N.1 (some (hN h))) (B + 3) N.1 10) (B + 4) N.1 0) (B + 1) 3 (nI N.1 + 1)) B := LY.I (LY.I (LY.I (LY.Q (nw.ly H.1) (Or.inl rfl))))
  generalize hS' : (upd (upd (upd (upd (upd (upd (upd S (130 + N.1) k) (138 + N.1) t) (146 + N.1) z) (154 + N.1) v) (162 + N.1) 10) (170 + N.1) 0) 0 (S 0 + 1)) = S'
  have eS : ∀ j, j ≠ 0 → j ≠ 130 + N.1 → j ≠ 138 + N.1 → j ≠ 146 + N.1 → j ≠ 154 + N.1 → j ≠ 162 + N.1 → j ≠ 170 + N.1 → S' j = S j := fun j h0 h1 h2 h3 h4 h5 h6 => by
    rw [← hS', upd_n h0, upd_n h6, upd_n h5, upd_n h4, upd_n h3, upd_n h2, upd_n h1]
  have v1 : S' 0 = nI (N.1 + 1) := by rw [← hS', upd_s, H.2.2.1.1, nI_1]
  have v6 : S' (170 + N.1) = 0 := by rw [← hS', upd_n (by omega), upd_s]
  have v5 : S' (162 + N.1) = 10 := by rw [← hS', upd_n (by omega), upd_n (by omega), upd_s]
  have v4 : S' (154 + N.1) = v := by rw [← hS', upd_n (by omega), upd_n (by omega), upd_n (by omega), upd_s]
  have v3 : S' (146 + N.1) = z := by rw [← hS', upd_n (by omega), upd_n (by omega), upd_n (by omega), upd_n (by omega), upd_s]
  have v2 : S' (138 + N.1) = t := by rw [← hS', upd_n (by omega), upd_n (by omega), upd_n (by omega), upd_n (by omega), upd_n (by omega), upd_s]
  have va : S' (130 + N.1) = k := by rw [← hS', upd_n (by omega), upd_n (by omega), upd_n (by omega), upd_n (by omega), upd_n (by omega), upd_n (by omega), upd_s]
  clear hS'
  have kk : ∀ a, a ≠ B + 1 → a ≠ B + 3 → a ≠ B + 4 → a ≠ hN h → hI (setI (setI (setI (setQ h1 (B + 2) N.1 (some (hN h))) (B + 3) N.1 10) (B + 4) N.1 0) (B + 1) 3 (nI N.1 + 1)) a = hI h a := fun a q1 q3 q4 q2 => by rw [hI_setI_n q1, hI_setI_n q4, hI_setI_n q3, hI_Q]; exact (nw.2.2 a q2).1
  have k1 : ∀ j, j ≠ 3 → hI (setI (setI (setI (setQ h1 (B + 2) N.1 (some (hN h))) (B + 3) N.1 10) (B + 4) N.1 0) (B + 1) 3 (nI N.1 + 1)) (B + 1) j = hI h (B + 1) j := fun j q => by rw [hI_setI_s, upd_n q, hI_setI_n (by omega), hI_setI_n (by omega), hI_Q]; exact congrFun (nw.2.2 (B + 1) (by omega)).1 j
  have k3 : hI (setI (setI (setI (setQ h1 (B + 2) N.1 (some (hN h))) (B + 3) N.1 10) (B + 4) N.1 0) (B + 1) 3 (nI N.1 + 1)) (B + 1) 3 = nI (N.1 + 1) := by rw [hI_setI_s, upd_s, nI_1]
  have kb : hI (setI (setI (setI (setQ h1 (B + 2) N.1 (some (hN h))) (B + 3) N.1 10) (B + 4) N.1 0) (B + 1) 3 (nI N.1 + 1)) (B + 3) = upd (hI h (B + 3)) N.1 10 := by rw [hI_setI_n (by omega), hI_setI_n (by omega), hI_setI_s, hI_Q, (nw.2.2 (B + 3) (by omega)).1]
  have kc : hI (setI (setI (setI (setQ h1 (B + 2) N.1 (some (hN h))) (B + 3) N.1 10) (B + 4) N.1 0) (B + 1) 3 (nI N.1 + 1)) (B + 4) = upd (hI h (B + 4)) N.1 0 := by rw [hI_setI_n (by omega), hI_setI_s, hI_setI_n (by omega), hI_Q, (nw.2.2 (B + 4) (by omega)).1]
  have hQ_I : ∀ (h : AH) (a k : Nat) (v : Int32), hQ (setI h a k v) = hQ h := fun _ _ _ _ => rfl
  have hT_I : ∀ (h : AH) (a k : Nat) (v : Int32), hT (setI h a k v) = hT h := fun _ _ _ _ => rfl
  have hQ_Q : ∀ (h : AH) (a k : Nat) (v : Option Nat), hQ (setQ h a k v) = u2 (hQ h) a k v := fun _ _ _ _ => rfl
  have q6 : hQ (setI (setI (setI (setQ h1 (B + 2) N.1 (some (hN h))) (B + 3) N.1 10) (B + 4) N.1 0) (B + 1) 3 (nI N.1 + 1)) (B + 6) = hQ h (B + 6) := by
    rw [hQ_I, hQ_I, hQ_I, hQ_Q]
    exact (funext fun _ => u2_a (by omega)).trans (nw.2.2 (B + 6) (by omega)).2.2
  have q2 : ∀ j, hQ (setI (setI (setI (setQ h1 (B + 2) N.1 (some (hN h))) (B + 3) N.1 10) (B + 4) N.1 0) (B + 1) 3 (nI N.1 + 1)) (B + 2) j = if j = N.1 then some (hN h) else hQ h (B + 2) j := fun j => by
    rw [hQ_I, hQ_I, hQ_I, hQ_Q]
    by_cases e : j = N.1
    · rw [if_pos e, e, u2_s]
    · rw [if_neg e, u2_k e]; exact congrFun (nw.2.2 (B + 2) (by omega)).2.2 j
  have qn : hI (setI (setI (setI (setQ h1 (B + 2) N.1 (some (hN h))) (B + 3) N.1 10) (B + 4) N.1 0) (B + 1) 3 (nI N.1 + 1)) (hN h) = hI h1 (hN h) := by rw [hI_setI_n (by omega), hI_setI_n (by omega), hI_setI_n (by omega), hI_Q]
  have tn : hT (setI (setI (setI (setQ h1 (B + 2) N.1 (some (hN h))) (B + 3) N.1 10) (B + 4) N.1 0) (B + 1) 3 (nI N.1 + 1)) (hN h) = (kdP k, 0) := by rw [hT_I, hT_I, hT_I, hT_Q, nw.2.1]; exact u1_s
  have hA : ∀ a, Wp B a → a < B + 62 := by intro a; unfold Wp; omega
  generalize (setI (setI (setI (setQ h1 (B + 2) N.1 (some (hN h))) (B + 3) N.1 10) (B + 4) N.1 0) (B + 1) 3 (nI N.1 + 1)) = h' at *
  have np := H.np
  have nwk := H.nw
  have G := H.2.2
  refine ⟨⟨(N.1 + 1, N.2.1, N.2.2.1, N.2.2.2.1, N.2.2.2.2), XN.fin hL' ⟨fun p hp => ?_, fun w hw => ?_⟩ ⟨k3, (k1 5 (by decide)).trans H.f5, (k1 7 (by decide)).trans H.f7, (k1 9 (by decide)).trans H.f9, (k1 11 (by decide)).trans H.f11⟩ (fun i hi => ?_) (H.tp' (kk _ (by omega) (by omega) (by omega) (by omega)) (fun j _ _ => eS j (by omega) (by omega) (by omega) (by omega) (by omega) (by omega) (by omega))) (H.ro' (kk _ (by omega) (by omega) (by omega) (by omega)) (fun j _ _ => eS j (by omega) (by omega) (by omega) (by omega) (by omega) (by omega) (by omega))) (H.st' (kk _ (by omega) (by omega) (by omega) (by omega)) (fun j _ _ => eS j (by omega) (by omega) (by omega) (by omega) (by omega) (by omega) (by omega)))
    ⟨⟨v1, hn⟩, G.c1 (eS 1 (by omega) (by omega) (by omega) (by omega) (by omega) (by omega) (by omega)), G.c2 (eS 2 (by omega) (by omega) (by omega) (by omega) (by omega) (by omega) (by omega)), G.c3 (eS 3 (by omega) (by omega) (by omega) (by omega) (by omega) (by omega) (by omega)), G.c4 (eS 4 (by omega) (by omega) (by omega) (by omega) (by omega) (by omega) (by omega)), G.s' (fun j _ _ => eS j (by omega) (by omega) (by omega) (by omega) (by omega) (by omega) (by omega)), fun p hp => ?_, G.w' (fun j _ _ => eS j (by omega) (by omega) (by omega) (by omega) (by omega) (by omega) (by omega)), G.m' (fun j _ _ => eS j (by omega) (by omega) (by omega) (by omega) (by omega) (by omega) (by omega)), G.r' (fun j _ _ => eS j (by omega) (by omega) (by omega) (by omega) (by omega) (by omega) (by omega)), G.t' (fun j _ _ => eS j (by omega) (by omega) (by omega) (by omega) (by omega) (by omega) (by omega))⟩⟩, fw⟩
  · have hp' : p < N.1 + 1 := hp
    by_cases e : p = N.1
    · subst e
      refine ⟨hN h, by rw [q2, if_pos rfl], by omega, by rw [va]; exact tn, ?_⟩
      rw [qn, fl 0 (by decide), fl 1 (by decide), fl 2 (by decide), fl 3 (by decide), fl 4 (by decide), va, v2, v3, v4]
      exact ⟨rfl, rfl, rfl, rfl, rfl⟩
    · obtain ⟨q, e1, e2⟩ := H.ps (p := p) (by omega)
      exact ⟨q, by rw [q2, if_neg e]; exact e1, e2.up fw hb hA ⟨eS _ (by omega) (by omega) (by omega) (by omega) (by omega) (by omega) (by omega), eS _ (by omega) (by omega) (by omega) (by omega) (by omega) (by omega) (by omega), eS _ (by omega) (by omega) (by omega) (by omega) (by omega) (by omega) (by omega), eS _ (by omega) (by omega) (by omega) (by omega) (by omega) (by omega) (by omega)⟩⟩
  · have hw' : w < N.2.1 := hw
    obtain ⟨q, e1, e2⟩ := H.ws (w := w) hw
    exact ⟨q, by rw [q6]; exact e1, e2.up fw hb hA ⟨eS _ (by omega) (by omega) (by omega) (by omega) (by omega) (by omega) (by omega), eS _ (by omega) (by omega) (by omega) (by omega) (by omega) (by omega) (by omega), eS _ (by omega) (by omega) (by omega) (by omega) (by omega) (by omega) (by omega), eS _ (by omega) (by omega) (by omega) (by omega) (by omega) (by omega) (by omega), eS _ (by omega) (by omega) (by omega) (by omega) (by omega) (by omega) (by omega), eS _ (by omega) (by omega) (by omega) (by omega) (by omega) (by omega) (by omega)⟩⟩
  · rw [kb, kc]
    by_cases e : i = N.1
    · subst e; rw [upd_s, upd_s, v5, v6]; exact ⟨rfl, rfl⟩
    · rw [upd_n e, upd_n e, eS _ (by omega) (by omega) (by omega) (by omega) (by omega) (by omega) (by omega), eS _ (by omega) (by omega) (by omega) (by omega) (by omega) (by omega) (by omega)]; exact ⟨H.on hi, H.oe hi⟩
  · have hp' : p < N.1 + 1 := hp
    by_cases e : p = N.1
    · subst e
      unfold RGp
      rw [va, v2, v3, v4, v5, v6]
      exact ⟨hk, ht, hz, hv, by decide, by decide, by decide⟩
    · have g := H.rp (p := p) (by omega)
      unfold RGp
      rw [eS (130 + p) (by omega) (by omega) (by omega) (by omega) (by omega) (by omega) (by omega), eS (138 + p) (by omega) (by omega) (by omega) (by omega) (by omega) (by omega) (by omega), eS (146 + p) (by omega) (by omega) (by omega) (by omega) (by omega) (by omega) (by omega), eS (154 + p) (by omega) (by omega) (by omega) (by omega) (by omega) (by omega) (by omega), eS (162 + p) (by omega) (by omega) (by omega) (by omega) (by omega) (by omega) (by omega), eS (170 + p) (by omega) (by omega) (by omega) (by omega) (by omega) (by omega) (by omega)]
      exact g
end PA
set_option maxRecDepth 100000 in
theorem x_pause (g : GG) (h : AH) (B : Nat) (S : Nat → Int32) (N : NN) (hX : XN h B S N) (hb_ : HB h) (k t z v : Int32) : AM g 5 1 5 mX11_pause [.ref B, .int k, .int t, .int z, .int v] h (fun rv h' => rv = some (.int (spPause S N.1 k t z v).1) ∧ WX (Wp B) h h' B (spPause S N.1 k t z v).2) := by
  refine AM.of [(0, .ref B), (1, .int k), (2, .int t), (3, .int z), (4, .int v)] (by decide) (Nat.le_of_ble_eq_true rfl) rfl ?_
  intro V hV
  have hb : V.2.1.2.1 = cX11_pause := by subst hV; rfl
  have ow : V.2.1.1.cls = RX11 := by subst hV; rfl
  have hr : V.2.2.1 = aw_rm 5 1 5 := by subst hV; rfl
  have hz : V.2.2.2 = aw_Z V.1 (fun rv h' => rv = some (.int (spPause S N.1 k t z v).1) ∧ WX (Wp B) h h' B (spPause S N.1 k t z v).2) V.2.2.1 := by subst hV; rfl
  have hg : V.1 = g := by subst hV; rfl
  have hret : V.2.1.2.2.2 = (some .int) := by subst hV; rfl
  have hml : V.2.1.2.2.1 = 6 := by subst hV; rfl
  clear hV
  have hnp := hX.np
  have hnw := hX.nw
  have e0 : S 0 = nI N.1 := hX.2.2.1.1
  refine a_iload_n hb dX11_pause_0 rfl 1 rfl ?_
  refine a_iconst (v := 0) hb dX11_pause_1 (by decide) ?_
  refine a_bipush (v := 6) hb dX11_pause_2 (by decide) ?_
  refine a_callS hb dX11_pause_4 (by rw [hg]; exact w_outside g h k 0 6) (by rw [ow]; exact cls_RX11_53) rfl rfl (Nat.le_of_ble_eq_true rfl) (by rw [hr]; exact ⟨by decide, by decide⟩) (by rw [hr]; exact ⟨Nat.le_of_ble_eq_true rfl, Nat.le_of_ble_eq_true rfl⟩) ?_
  intro rv h' hq_
  rw [hq_.1, hq_.2]
  show AW V 0 0 h 7 [(0, .ref B), (1, .int k), (2, .int t), (3, .int z), (4, .int v)] [.int (b2i (oO k 0 6))]
  refine a_if_eq hb 12 dX11_pause_7 (by decide) (fun c7 => ?_) (fun c7 => ?_)
  · simp [b2i_0] at c7
    refine a_iload_n hb dX11_pause_12 rfl 2 rfl ?_
    refine a_callS hb dX11_pause_13 (by rw [hg]; exact w_noTick g h t) (by rw [ow]; exact cls_RX11_57) rfl rfl (Nat.le_of_ble_eq_true rfl) (by rw [hr]; exact ⟨by decide, by decide⟩) (by rw [hr]; exact ⟨Nat.le_of_ble_eq_true rfl, Nat.le_of_ble_eq_true rfl⟩) ?_
    intro rv h' hq_
    rw [hq_.1, hq_.2]
    show AW V 0 0 h 16 [(0, .ref B), (1, .int k), (2, .int t), (3, .int z), (4, .int v)] [.int (b2i (oO t 0 39))]
    refine a_if_ne hb 40 dX11_pause_16 (by decide) (fun c16 => ?_) (fun c16 => ?_)
    · simp [b2i_0] at c16
      refine a_bipush (v := (-2)) hb dX11_pause_40 (by decide) ?_
      exact a_ireturn (ty := .int) hb hz dX11_pause_42 hret rfl (by rw [hr]; exact Nat.le_of_ble_eq_true rfl) (by rw [hr]; exact Nat.le_of_ble_eq_true rfl) (⟨by rw [spPause, if_neg (by simp [c7]), if_pos (by simp [c16])], by rw [spPause, if_neg (by simp [c7]), if_pos (by simp [c16])]; exact WX.same hX rfl⟩)
    · simp [b2i_0] at c16
      refine a_iload_n hb dX11_pause_19 rfl 3 rfl ?_
      refine a_iconst (v := 0) hb dX11_pause_20 (by decide) ?_
      refine a_bipush (v := 99) hb dX11_pause_21 (by decide) ?_
      refine a_callS hb dX11_pause_23 (by rw [hg]; exact w_outside g h z 0 99) (by rw [ow]; exact cls_RX11_53) rfl rfl (Nat.le_of_ble_eq_true rfl) (by rw [hr]; exact ⟨by decide, by decide⟩) (by rw [hr]; exact ⟨Nat.le_of_ble_eq_true rfl, Nat.le_of_ble_eq_true rfl⟩) ?_
      intro rv h' hq_
      rw [hq_.1, hq_.2]
      show AW V 0 0 h 26 [(0, .ref B), (1, .int k), (2, .int t), (3, .int z), (4, .int v)] [.int (b2i (oO z 0 99))]
      refine a_if_ne hb 40 dX11_pause_26 (by decide) (fun c26 => ?_) (fun c26 => ?_)
      · simp [b2i_0] at c26
        refine a_bipush (v := (-2)) hb dX11_pause_40 (by decide) ?_
        exact a_ireturn (ty := .int) hb hz dX11_pause_42 hret rfl (by rw [hr]; exact Nat.le_of_ble_eq_true rfl) (by rw [hr]; exact Nat.le_of_ble_eq_true rfl) (⟨by rw [spPause, if_neg (by simp [c7]), if_pos (by simp [c16, c26])], by rw [spPause, if_neg (by simp [c7]), if_pos (by simp [c16, c26])]; exact WX.same hX rfl⟩)
      · simp [b2i_0] at c26
        refine a_iload hb dX11_pause_29 4 rfl ?_
        refine a_iconst (v := 0) hb dX11_pause_31 (by decide) ?_
        refine a_bipush (v := 9) hb dX11_pause_32 (by decide) ?_
        refine a_callS hb dX11_pause_34 (by rw [hg]; exact w_outside g h v 0 9) (by rw [ow]; exact cls_RX11_53) rfl rfl (Nat.le_of_ble_eq_true rfl) (by rw [hr]; exact ⟨by decide, by decide⟩) (by rw [hr]; exact ⟨Nat.le_of_ble_eq_true rfl, Nat.le_of_ble_eq_true rfl⟩) ?_
        intro rv h' hq_
        rw [hq_.1, hq_.2]
        show AW V 0 0 h 37 [(0, .ref B), (1, .int k), (2, .int t), (3, .int z), (4, .int v)] [.int (b2i (oO v 0 9))]
        refine a_if_eq hb 43 dX11_pause_37 (by decide) (fun c37 => ?_) (fun c37 => ?_)
        · simp [b2i_0] at c37
          refine a_aload_n hb dX11_pause_43 rfl 0 rfl ?_
          refine a_getQ (q := (B + 1)) hb dX11_pause_44 (by rw [ow]; exact fl_RX11_12_11) (hX.1.1 0 (by decide)) (hX.1.2.1 (0, 0, 1) (by decide)) ?_
          refine a_getI hb dX11_pause_47 (by rw [ow]; exact fl_RX11_61_7) (hX.1.1 1 (by decide)) ?_
          rw [hX.f3]
          show AW V 0 0 h 50 [(0, .ref B), (1, .int k), (2, .int t), (3, .int z), (4, .int v)] [.int (nI N.1)]
          refine a_bipush (v := 8) hb dX11_pause_50 (by decide) ?_
          refine a_icmp_lt hb 58 dX11_pause_52 (by decide) (fun c52 => ?_) (fun c52 => ?_)
          · have l8 : N.1 < 8 := (nI_ltI (a := N.1) (b := 8) (by omega) (by decide)).mp c52
            refine a_aload_n hb dX11_pause_58 rfl 0 rfl ?_
            refine a_getQ (q := (B + 1)) hb dX11_pause_59 (by rw [ow]; exact fl_RX11_12_11) (hX.1.1 0 (by decide)) (hX.1.2.1 (0, 0, 1) (by decide)) ?_
            refine a_getI hb dX11_pause_62 (by rw [ow]; exact fl_RX11_61_7) (hX.1.1 1 (by decide)) ?_
            rw [hX.f3]
            show AW V 0 0 h 65 [(0, .ref B), (1, .int k), (2, .int t), (3, .int z), (4, .int v)] [.int (nI N.1)]
            refine a_istore (L' := [(5, .int (nI N.1)), (0, .ref B), (1, .int k), (2, .int t), (3, .int z), (4, .int v)]) hb dX11_pause_65 (by rw [hml]; decide) rfl ?_
            refine a_aload_n hb dX11_pause_67 rfl 1 rfl ?_
            refine a_getQ (q := (B + 1)) hb dX11_pause_68 (by rw [ow]; exact fl_RX11_12_11) (hX.1.1 0 (by decide)) (hX.1.2.1 (0, 0, 1) (by decide)) ?_
            refine a_getQ (q := (B + 2)) hb dX11_pause_71 (by rw [ow]; exact fl_RX11_65_7) (hX.1.1 1 (by decide)) (hX.1.2.1 (1, 0, 2) (by decide)) ?_
            refine a_iload hb dX11_pause_74 0 rfl ?_
            refine a_iload hb dX11_pause_76 0 rfl ?_
            refine a_iload_n hb dX11_pause_78 rfl 2 rfl ?_
            refine a_iload_n hb dX11_pause_79 rfl 3 rfl ?_
            refine a_iload_n hb dX11_pause_80 rfl 4 rfl ?_
            refine a_iload hb dX11_pause_81 5 rfl ?_
            refine a_callS hb dX11_pause_83 (by rw [hg]; exact x_newPause g h (nI N.1) k t z v) (by rw [ow]; exact cls_RX11_69) rfl rfl (Nat.le_of_ble_eq_true rfl) (by rw [hr]; exact ⟨by decide, by decide⟩) (by rw [hr]; exact ⟨Nat.le_of_ble_eq_true rfl, Nat.le_of_ble_eq_true rfl⟩) ?_
            intro rv h1 hp
            obtain ⟨hv, nw, fl⟩ := hp
            rw [hv]
            clear hv
            have hL1 : LY h1 B := nw.ly hX.1
            have hT1 : hT h1 (hN h) = (kdP k, 0) := by rw [nw.2.1]; exact u1_s
            have h62 := hX.1.2.2
            show AW V 1 5 h1 86 [(5, .int (nI N.1)), (0, .ref B), (1, .int k), (2, .int t), (3, .int z), (4, .int v)] [.ref (hN h), .int (nI N.1), .ref (B + 2)]
            obtain ⟨Cn, hc1, hc2⟩ := kdP_cl k
            refine b_aast (j := N.1) (Cn := Cn) (E := RX2) hb dX11_pause_86 (hL1.1 2 (by decide)) (by decide) (by decide) rfl hT1 kdP_lt hc1 hc2 (IX.n (by omega)) (by omega) ?_
            generalize eh2 : setQ h1 (B + 2) N.1 (some (hN h)) = h2
            have hL2 : LY h2 B := by rw [← eh2]; exact LY.Q hL1 (Or.inl rfl)
            have hI2 : hI h2 = hI h1 := by rw [← eh2, hI_Q]
            show AW V 1 5 h2 87 [(5, .int (nI N.1)), (0, .ref B), (1, .int k), (2, .int t), (3, .int z), (4, .int v)] []
            refine a_aload_n hb dX11_pause_87 rfl 1 rfl ?_
            refine a_getQ (q := (B + 1)) hb dX11_pause_88 (by rw [ow]; exact fl_RX11_12_11) (hL2.1 0 (by decide)) (hL2.2.1 (0, 0, 1) (by decide)) ?_
            refine a_getQ (q := (B + 3)) hb dX11_pause_91 (by rw [ow]; exact fl_RX11_73_7) (hL2.1 1 (by decide)) (hL2.2.1 (1, 1, 3) (by decide)) ?_
            refine a_iload hb dX11_pause_94 0 rfl ?_
            refine a_bipush (v := 10) hb dX11_pause_96 (by decide) ?_
            refine b_iast (j := N.1) hb dX11_pause_98 (hL2.1 3 (by decide)) (IX.n (by omega)) (by omega) ?_
            refine a_aload_n hb dX11_pause_99 rfl 1 rfl ?_
            refine a_getQ (q := (B + 1)) hb dX11_pause_100 (by rw [ow]; exact fl_RX11_12_11) ((LY.I hL2 : LY (setI h2 (B + 3) N.1 10) B).1 0 (by decide)) ((LY.I hL2 : LY (setI h2 (B + 3) N.1 10) B).2.1 (0, 0, 1) (by decide)) ?_
            refine a_getQ (q := (B + 4)) hb dX11_pause_103 (by rw [ow]; exact fl_RX11_76_7) ((LY.I hL2 : LY (setI h2 (B + 3) N.1 10) B).1 1 (by decide)) ((LY.I hL2 : LY (setI h2 (B + 3) N.1 10) B).2.1 (1, 2, 4) (by decide)) ?_
            refine a_iload hb dX11_pause_106 0 rfl ?_
            refine a_iconst (v := 0) hb dX11_pause_108 (by decide) ?_
            refine b_iast (j := N.1) hb dX11_pause_109 ((LY.I hL2 : LY (setI h2 (B + 3) N.1 10) B).1 4 (by decide)) (IX.n (by omega)) (by omega) ?_
            refine a_aload_n hb dX11_pause_110 rfl 1 rfl ?_
            refine a_getQ (q := (B + 1)) hb dX11_pause_111 (by rw [ow]; exact fl_RX11_12_11) ((LY.I (LY.I hL2 : LY (setI h2 (B + 3) N.1 10) B) : LY (setI (setI h2 (B + 3) N.1 10) (B + 4) N.1 0) B).1 0 (by decide)) ((LY.I (LY.I hL2 : LY (setI h2 (B + 3) N.1 10) B) : LY (setI (setI h2 (B + 3) N.1 10) (B + 4) N.1 0) B).2.1 (0, 0, 1) (by decide)) ?_
            refine a_dup hb dX11_pause_114 rfl ?_
            refine a_getI hb dX11_pause_115 (by rw [ow]; exact fl_RX11_61_7) ((LY.I (LY.I hL2 : LY (setI h2 (B + 3) N.1 10) B) : LY (setI (setI h2 (B + 3) N.1 10) (B + 4) N.1 0) B).1 1 (by decide)) ?_
            rw [show hI (setI (setI h2 (B + 3) N.1 10) (B + 4) N.1 0) (B + 1) 3 = nI N.1 from by rw [hI_setI_n (by omega), hI_setI_n (by omega), hI2]; exact (congrFun (nw.2.2 (B + 1) (by omega)).1 3).trans hX.f3]
            show AW V 1 5 (setI (setI h2 (B + 3) N.1 10) (B + 4) N.1 0) 118 [(5, .int (nI N.1)), (0, .ref B), (1, .int k), (2, .int t), (3, .int z), (4, .int v)] [.int (nI N.1), .ref (B + 1)]
            refine a_iconst (v := 1) hb dX11_pause_118 (by decide) ?_
            refine a_iadd hb dX11_pause_119 ?_
            refine a_putI (fty := .int) hb dX11_pause_120 (by rw [ow]; exact fp_RX11_61_7) (Or.inr (fun C T N hq => by cases hq; rfl)) ((LY.I (LY.I hL2 : LY (setI h2 (B + 3) N.1 10) B) : LY (setI (setI h2 (B + 3) N.1 10) (B + 4) N.1 0) B).1 1 (by decide)) rfl rfl ?_
            refine a_iload hb dX11_pause_123 0 rfl ?_
            exact a_ireturn (ty := .int) hb hz dX11_pause_125 hret rfl (by rw [hr]; exact Nat.le_of_ble_eq_true rfl) (by rw [hr]; exact Nat.le_of_ble_eq_true rfl) (⟨by rw [spPause, if_neg (by simp [c7]), if_neg (by simp [c16, c26, c37]), if_neg (by rw [e0]; intro q; have z := (nI_eq (a := N.1) (b := 8) (by omega) (by decide)).mp q; omega), e0], by rw [spPause, if_neg (by simp [c7]), if_neg (by simp [c16, c26, c37]), if_neg (by rw [e0]; intro q; have z := (nI_eq (a := N.1) (b := 8) (by omega) (by decide)).mp q; omega)]; subst eh2; exact WX.pause hX hb_ l8 (by simpa using c7) (by simpa using c16) (by simpa using c26) (by simpa using c37) nw fl⟩)
          · refine a_bipush (v := (-4)) hb dX11_pause_55 (by decide) ?_
            exact a_ireturn (ty := .int) hb hz dX11_pause_57 hret rfl (by rw [hr]; exact Nat.le_of_ble_eq_true rfl) (by rw [hr]; exact Nat.le_of_ble_eq_true rfl) (⟨by rw [spPause, if_neg (by simp [c7]), if_neg (by simp [c16, c26, c37]), if_pos (by have z := (nI_leI (a := 8) (b := N.1) (by decide) (by omega)).mp (Int32.not_lt.mp c52); rw [e0, show N.1 = 8 by omega]; rfl)], by rw [spPause, if_neg (by simp [c7]), if_neg (by simp [c16, c26, c37]), if_pos (by have z := (nI_leI (a := 8) (b := N.1) (by decide) (by omega)).mp (Int32.not_lt.mp c52); rw [e0, show N.1 = 8 by omega]; rfl)]; exact WX.same hX rfl⟩)
        · simp [b2i_0] at c37
          refine a_bipush (v := (-2)) hb dX11_pause_40 (by decide) ?_
          exact a_ireturn (ty := .int) hb hz dX11_pause_42 hret rfl (by rw [hr]; exact Nat.le_of_ble_eq_true rfl) (by rw [hr]; exact Nat.le_of_ble_eq_true rfl) (⟨by rw [spPause, if_neg (by simp [c7]), if_pos (by simp [c16, c26, c37])], by rw [spPause, if_neg (by simp [c7]), if_pos (by simp [c16, c26, c37])]; exact WX.same hX rfl⟩)
  · simp [b2i_0] at c7
    refine a_iconst (v := (-1)) hb dX11_pause_10 (by decide) ?_
    exact a_ireturn (ty := .int) hb hz dX11_pause_11 hret rfl (by rw [hr]; exact Nat.le_of_ble_eq_true rfl) (by rw [hr]; exact Nat.le_of_ble_eq_true rfl) (⟨by rw [spPause, if_pos (by simp [c7])], by rw [spPause, if_pos (by simp [c7])]; exact WX.same hX rfl⟩)
