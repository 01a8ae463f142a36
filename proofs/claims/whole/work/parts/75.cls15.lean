/-! ===== the class: work, call, pause ===== -/
def wkF (a b c d e f : Int32) : Nat → Int32 := upd (upd (upd (upd (upd (upd (fun _ => 0) 0 a) 1 b) 2 c) 3 d) 4 e) 5 f
theorem hI_Q {h : AH} {a k : Nat} {v : Option Nat} : hI (setQ h a k v) = hI h := rfl
theorem hT_Q {h : AH} {a k : Nat} {v : Option Nat} : hT (setQ h a k v) = hT h := rfl
def Wc (B a : Nat) : Prop := a = B + 6
section WK
variable {h h1 : AH} {B : Nat} {S : Nat → Int32} {N : NN}
theorem WX.work {a b c d : Int32} (H : XN h B S N) (hb : HB h) (hn : N.2.1 < 5) (ha : oO a 0 9 = false) (hb2 : oO b 1 99 = false) (hc : oO c 1 40 = false) (hd : oO d 0 99 = false) (nw : NW h h1 10) (fl : ∀ j, j < 6 → hI h1 (hN h) j = wkF a b c d 0 0 j) : WX (Ww B) h (setI (setQ h1 (B + 6) N.2.1 (some (hN h))) (B + 1) 7 (nI N.2.1 + 1)) B (upd (upd (upd (upd (upd (upd (upd S (178 + N.2.1) a) (183 + N.2.1) b) (188 + N.2.1) c) (193 + N.2.1) d) (198 + N.2.1) 0) (203 + N.2.1) 0) 1 (S 1 + 1)) := by
  have hL62 := H.1.2.2
  have fw : Fw (Ww B) h (setI (setQ h1 (B + 6) N.2.1 (some (hN h))) (B + 1) 7 (nI N.2.1 + 1)) := Fw.I (Fw.Q nw.fw (Or.inr rfl) (Or.inr (Or.inr ⟨(nw.ly H.1).1 6 (by decide), nw.tyo (by decide) rfl (Or.inl rfl)⟩))) (Or.inl rfl)
  have hL' : LY (setI (setQ h1 (B + 6) N.2.1 (some (hN h))) (B + 1) 7 (nI N.2.1 + 1)) B := LY.I (LY.Q (nw.ly H.1) (Or.inr (Or.inl rfl)))
  generalize hS' : upd (upd (upd (upd (upd (upd (upd S (178 + N.2.1) a) (183 + N.2.1) b) (188 + N.2.1) c) (193 + N.2.1) d) (198 + N.2.1) 0) (203 + N.2.1) 0) 1 (S 1 + 1) = S'
  have eS : ∀ j, j ≠ 1 → j ≠ 178 + N.2.1 → j ≠ 183 + N.2.1 → j ≠ 188 + N.2.1 → j ≠ 193 + N.2.1 → j ≠ 198 + N.2.1 → j ≠ 203 + N.2.1 → S' j = S j := fun j h0 h1 h2 h3 h4 h5 h6 => by
    rw [← hS', upd_n h0, upd_n h6, upd_n h5, upd_n h4, upd_n h3, upd_n h2, upd_n h1]
  have v1 : S' 1 = nI (N.2.1 + 1) := by rw [← hS', upd_s, H.2.2.2.1.1, nI_1]
  have v6 : S' (203 + N.2.1) = 0 := by rw [← hS', upd_n (by omega), upd_s]
  have v5 : S' (198 + N.2.1) = 0 := by rw [← hS', upd_n (by omega), upd_n (by omega), upd_s]
  have v4 : S' (193 + N.2.1) = d := by rw [← hS', upd_n (by omega), upd_n (by omega), upd_n (by omega), upd_s]
  have v3 : S' (188 + N.2.1) = c := by rw [← hS', upd_n (by omega), upd_n (by omega), upd_n (by omega), upd_n (by omega), upd_s]
  have v2 : S' (183 + N.2.1) = b := by rw [← hS', upd_n (by omega), upd_n (by omega), upd_n (by omega), upd_n (by omega), upd_n (by omega), upd_s]
  have va : S' (178 + N.2.1) = a := by rw [← hS', upd_n (by omega), upd_n (by omega), upd_n (by omega), upd_n (by omega), upd_n (by omega), upd_n (by omega), upd_s]
  clear hS'
  have k : ∀ a, a ≠ B + 1 → a ≠ hN h → hI (setI (setQ h1 (B + 6) N.2.1 (some (hN h))) (B + 1) 7 (nI N.2.1 + 1)) a = hI h a := fun a q1 q2 => by rw [hI_setI_n q1]; exact (nw.2.2 a q2).1
  have k1 : ∀ j, j ≠ 7 → hI (setI (setQ h1 (B + 6) N.2.1 (some (hN h))) (B + 1) 7 (nI N.2.1 + 1)) (B + 1) j = hI h (B + 1) j := fun j q => by rw [hI_setI_s, upd_n q]; exact congrFun (nw.2.2 (B + 1) (by omega)).1 j
  have k7 : hI (setI (setQ h1 (B + 6) N.2.1 (some (hN h))) (B + 1) 7 (nI N.2.1 + 1)) (B + 1) 7 = nI (N.2.1 + 1) := by rw [hI_setI_s, upd_s, nI_1]
  have q2 : hQ (setI (setQ h1 (B + 6) N.2.1 (some (hN h))) (B + 1) 7 (nI N.2.1 + 1)) (B + 2) = hQ h (B + 2) := by
    show u2 (hQ h1) (B + 6) _ _ (B + 2) = _
    exact (funext fun _ => u2_a (by omega)).trans (nw.2.2 (B + 2) (by omega)).2.2
  have q6 : ∀ j, hQ (setI (setQ h1 (B + 6) N.2.1 (some (hN h))) (B + 1) 7 (nI N.2.1 + 1)) (B + 6) j = if j = N.2.1 then some (hN h) else hQ h (B + 6) j := fun j => by
    show u2 (hQ h1) (B + 6) N.2.1 (some (hN h)) (B + 6) j = _
    by_cases e : j = N.2.1
    · rw [if_pos e, e, u2_s]
    · rw [if_neg e, u2_k e]; exact congrFun (nw.2.2 (B + 6) (by omega)).2.2 j
  have qn : hI (setI (setQ h1 (B + 6) N.2.1 (some (hN h))) (B + 1) 7 (nI N.2.1 + 1)) (hN h) = hI h1 (hN h) := by rw [hI_setI_n (by omega)]; rfl
  have tn : hT (setI (setQ h1 (B + 6) N.2.1 (some (hN h))) (B + 1) 7 (nI N.2.1 + 1)) (hN h) = (10, 0) := by show hT h1 (hN h) = _; rw [nw.2.1]; exact u1_s
  have hA : ∀ a, Ww B a → a < B + 62 := by intro a; unfold Ww; omega
  generalize setI (setQ h1 (B + 6) N.2.1 (some (hN h))) (B + 1) 7 (nI N.2.1 + 1) = h' at *
  have np := H.np
  have G := H.2.2
  refine ⟨⟨(N.1, N.2.1 + 1, N.2.2.1, N.2.2.2.1, N.2.2.2.2), XN.fin hL' ⟨fun p hp => ?_, fun w hw => ?_⟩ ⟨(k1 3 (by decide)).trans H.f3, (k1 5 (by decide)).trans H.f5, k7, (k1 9 (by decide)).trans H.f9, (k1 11 (by decide)).trans H.f11⟩ (H.od' (k _ (by omega) (by omega)) (k _ (by omega) (by omega)) (fun j _ _ => eS j (by omega) (by omega) (by omega) (by omega) (by omega) (by omega) (by omega))) (H.tp' (k _ (by omega) (by omega)) (fun j _ _ => eS j (by omega) (by omega) (by omega) (by omega) (by omega) (by omega) (by omega))) (H.ro' (k _ (by omega) (by omega)) (fun j _ _ => eS j (by omega) (by omega) (by omega) (by omega) (by omega) (by omega) (by omega))) (H.st' (k _ (by omega) (by omega)) (fun j _ _ => eS j (by omega) (by omega) (by omega) (by omega) (by omega) (by omega) (by omega)))
    ⟨G.c0 (eS 0 (by omega) (by omega) (by omega) (by omega) (by omega) (by omega) (by omega)), ⟨v1, hn⟩, G.c2 (eS 2 (by omega) (by omega) (by omega) (by omega) (by omega) (by omega) (by omega)), G.c3 (eS 3 (by omega) (by omega) (by omega) (by omega) (by omega) (by omega) (by omega)), G.c4 (eS 4 (by omega) (by omega) (by omega) (by omega) (by omega) (by omega) (by omega)), G.s' (fun j _ _ => eS j (by omega) (by omega) (by omega) (by omega) (by omega) (by omega) (by omega)), G.p' (fun j _ _ => eS j (by omega) (by omega) (by omega) (by omega) (by omega) (by omega) (by omega)), fun w hw => ?_, G.m' (fun j _ _ => eS j (by omega) (by omega) (by omega) (by omega) (by omega) (by omega) (by omega)), G.r' (fun j _ _ => eS j (by omega) (by omega) (by omega) (by omega) (by omega) (by omega) (by omega)), G.t' (fun j _ _ => eS j (by omega) (by omega) (by omega) (by omega) (by omega) (by omega) (by omega))⟩⟩, fw⟩
  · obtain ⟨q, e1, e2⟩ := H.ps (p := p) hp
    have hp' : p < N.1 := hp
    exact ⟨q, by rw [q2]; exact e1, e2.up fw hb hA ⟨eS _ (by omega) (by omega) (by omega) (by omega) (by omega) (by omega) (by omega), eS _ (by omega) (by omega) (by omega) (by omega) (by omega) (by omega) (by omega), eS _ (by omega) (by omega) (by omega) (by omega) (by omega) (by omega) (by omega), eS _ (by omega) (by omega) (by omega) (by omega) (by omega) (by omega) (by omega)⟩⟩
  · have hw' : w < N.2.1 + 1 := hw
    by_cases e : w = N.2.1
    · subst e
      refine ⟨hN h, by rw [q6, if_pos rfl], by omega, tn, ?_⟩
      rw [qn, fl 0 (by decide), fl 1 (by decide), fl 2 (by decide), fl 3 (by decide), fl 4 (by decide), fl 5 (by decide), va, v2, v3, v4, v5, v6]
      exact ⟨rfl, rfl, rfl, rfl, rfl, rfl⟩
    · obtain ⟨q, e1, e2⟩ := H.ws (w := w) (by omega)
      exact ⟨q, by rw [q6, if_neg e]; exact e1, e2.up fw hb hA ⟨eS _ (by omega) (by omega) (by omega) (by omega) (by omega) (by omega) (by omega), eS _ (by omega) (by omega) (by omega) (by omega) (by omega) (by omega) (by omega), eS _ (by omega) (by omega) (by omega) (by omega) (by omega) (by omega) (by omega), eS _ (by omega) (by omega) (by omega) (by omega) (by omega) (by omega) (by omega), eS _ (by omega) (by omega) (by omega) (by omega) (by omega) (by omega) (by omega), eS _ (by omega) (by omega) (by omega) (by omega) (by omega) (by omega) (by omega)⟩⟩
  · have hw' : w < N.2.1 + 1 := hw
    by_cases e : w = N.2.1
    · subst e
      unfold RGw
      rw [va, v2, v3, v4, v5, v6]
      exact ⟨ha, hb2, hc, hd, by decide, by decide⟩
    · have g := H.rw_ (w := w) (by omega)
      unfold RGw
      rw [eS (178 + w) (by omega) (by omega) (by omega) (by omega) (by omega) (by omega) (by omega), eS (183 + w) (by omega) (by omega) (by omega) (by omega) (by omega) (by omega) (by omega), eS (188 + w) (by omega) (by omega) (by omega) (by omega) (by omega) (by omega) (by omega), eS (193 + w) (by omega) (by omega) (by omega) (by omega) (by omega) (by omega) (by omega), eS (198 + w) (by omega) (by omega) (by omega) (by omega) (by omega) (by omega) (by omega), eS (203 + w) (by omega) (by omega) (by omega) (by omega) (by omega) (by omega) (by omega)]
      exact g
theorem WX.call {m : Nat} {t n : Int32} (H : XN h B S N) (hb : HB h) (hm : m < N.2.1) (ht : oO t 0 39 = false) (hn : oO n 0 40 = false) (nw : NW h h1 10) (fl : ∀ j, j < 6 → hI h1 (hN h) j = wkF (S (178 + m)) (S (183 + m)) (S (188 + m)) (S (193 + m)) t n j) : WX (Wc B) h (setQ h1 (B + 6) m (some (hN h))) B (upd (upd S (198 + m) t) (203 + m) n) := by
  have hL62 := H.1.2.2
  have nwk := H.nw
  have fw : Fw (Wc B) h (setQ h1 (B + 6) m (some (hN h))) := Fw.Q nw.fw rfl (Or.inr (Or.inr ⟨(nw.ly H.1).1 6 (by decide), nw.tyo (by decide) rfl (Or.inl rfl)⟩))
  have hL' : LY (setQ h1 (B + 6) m (some (hN h))) B := LY.Q (nw.ly H.1) (Or.inr (Or.inl rfl))
  have eS : ∀ j, j ≠ 198 + m → j ≠ 203 + m → upd (upd S (198 + m) t) (203 + m) n j = S j := fun j q1 q2 => by rw [upd_n q2, upd_n q1]
  have v1 : upd (upd S (198 + m) t) (203 + m) n (198 + m) = t := by rw [upd_n (by omega), upd_s]
  have v2 : upd (upd S (198 + m) t) (203 + m) n (203 + m) = n := upd_s
  generalize upd (upd S (198 + m) t) (203 + m) n = S' at *
  have k : ∀ a, a ≠ hN h → hI (setQ h1 (B + 6) m (some (hN h))) a = hI h a := fun a q2 => (nw.2.2 a q2).1
  have k1 := k (B + 1) (by omega)
  have q2 : hQ (setQ h1 (B + 6) m (some (hN h))) (B + 2) = hQ h (B + 2) := by
    show u2 (hQ h1) (B + 6) _ _ (B + 2) = _
    exact (funext fun _ => u2_a (by omega)).trans (nw.2.2 (B + 2) (by omega)).2.2
  have q6 : ∀ j, hQ (setQ h1 (B + 6) m (some (hN h))) (B + 6) j = if j = m then some (hN h) else hQ h (B + 6) j := fun j => by
    show u2 (hQ h1) (B + 6) m (some (hN h)) (B + 6) j = _
    by_cases e : j = m
    · rw [if_pos e, e, u2_s]
    · rw [if_neg e, u2_k e]; exact congrFun (nw.2.2 (B + 6) (by omega)).2.2 j
  have qn : hI (setQ h1 (B + 6) m (some (hN h))) (hN h) = hI h1 (hN h) := rfl
  have tn : hT (setQ h1 (B + 6) m (some (hN h))) (hN h) = (10, 0) := by show hT h1 (hN h) = _; rw [nw.2.1]; exact u1_s
  have hA : ∀ a, Wc B a → a < B + 62 := by intro a; unfold Wc; omega
  generalize setQ h1 (B + 6) m (some (hN h)) = h' at *
  have np := H.np
  have G := H.2.2
  have g := H.rw_ hm
  refine ⟨⟨N, XN.fin hL' ⟨fun p hp => ?_, fun w hw => ?_⟩ ⟨by rw [k1]; exact H.f3, by rw [k1]; exact H.f5, by rw [k1]; exact H.f7, by rw [k1]; exact H.f9, by rw [k1]; exact H.f11⟩ (H.od' (k _ (by omega)) (k _ (by omega)) (fun j _ _ => eS j (by omega) (by omega))) (H.tp' (k _ (by omega)) (fun j _ _ => eS j (by omega) (by omega))) (H.ro' (k _ (by omega)) (fun j _ _ => eS j (by omega) (by omega))) (H.st' (k _ (by omega)) (fun j _ _ => eS j (by omega) (by omega)))
    ⟨G.c0 (eS 0 (by omega) (by omega)), G.c1 (eS 1 (by omega) (by omega)), G.c2 (eS 2 (by omega) (by omega)), G.c3 (eS 3 (by omega) (by omega)), G.c4 (eS 4 (by omega) (by omega)), G.s' (fun j _ _ => eS j (by omega) (by omega)), G.p' (fun j _ _ => eS j (by omega) (by omega)), fun w hw => ?_, G.m' (fun j _ _ => eS j (by omega) (by omega)), G.r' (fun j _ _ => eS j (by omega) (by omega)), G.t' (fun j _ _ => eS j (by omega) (by omega))⟩⟩, fw⟩
  · obtain ⟨q, e1, e2⟩ := H.ps (p := p) hp
    exact ⟨q, by rw [q2]; exact e1, e2.up fw hb hA ⟨eS _ (by omega) (by omega), eS _ (by omega) (by omega), eS _ (by omega) (by omega), eS _ (by omega) (by omega)⟩⟩
  · by_cases e : w = m
    · subst e
      refine ⟨hN h, by rw [q6, if_pos rfl], by omega, tn, ?_⟩
      rw [qn, fl 0 (by decide), fl 1 (by decide), fl 2 (by decide), fl 3 (by decide), fl 4 (by decide), fl 5 (by decide), v1, v2, eS (178 + w) (by omega) (by omega), eS (183 + w) (by omega) (by omega), eS (188 + w) (by omega) (by omega), eS (193 + w) (by omega) (by omega)]
      exact ⟨rfl, rfl, rfl, rfl, rfl, rfl⟩
    · obtain ⟨q, e1, e2⟩ := H.ws (w := w) (by omega)
      exact ⟨q, by rw [q6, if_neg e]; exact e1, e2.up fw hb hA ⟨eS _ (by omega) (by omega), eS _ (by omega) (by omega), eS _ (by omega) (by omega), eS _ (by omega) (by omega), eS _ (by omega) (by omega), eS _ (by omega) (by omega)⟩⟩
  · have gw := H.rw_ (w := w) hw
    unfold RGw
    rw [eS (178 + w) (by omega) (by omega), eS (183 + w) (by omega) (by omega), eS (188 + w) (by omega) (by omega), eS (193 + w) (by omega) (by omega)]
    by_cases e : w = m
    · subst e; rw [v1, v2]; exact ⟨g.1, g.2.1, g.2.2.1, g.2.2.2.1, ht, hn⟩
    · rw [eS (198 + w) (by omega) (by omega), eS (203 + w) (by omega) (by omega)]; exact gw
end WK
set_option maxRecDepth 100000 in
theorem x_work (g : GG) (h : AH) (B : Nat) (S : Nat → Int32) (N : NN) (hX : XN h B S N) (hb_ : HB h) (a b c d : Int32) : AM g 3 1 6 mX11_work [.ref B, .int a, .int b, .int c, .int d] h (fun rv h' => rv = some (.int (spWork S N.2.1 a b c d).1) ∧ WX (Ww B) h h' B (spWork S N.2.1 a b c d).2) := by
  refine AM.of [(0, .ref B), (1, .int a), (2, .int b), (3, .int c), (4, .int d)] (by decide) (Nat.le_of_ble_eq_true rfl) rfl ?_
  intro V hV
  have hb : V.2.1.2.1 = cX11_work := by subst hV; rfl
  have ow : V.2.1.1.cls = RX11 := by subst hV; rfl
  have hr : V.2.2.1 = aw_rm 3 1 6 := by subst hV; rfl
  have hz : V.2.2.2 = aw_Z V.1 (fun rv h' => rv = some (.int (spWork S N.2.1 a b c d).1) ∧ WX (Ww B) h h' B (spWork S N.2.1 a b c d).2) V.2.2.1 := by subst hV; rfl
  have hg : V.1 = g := by subst hV; rfl
  have hret : V.2.1.2.2.2 = (some .int) := by subst hV; rfl
  have hml : V.2.1.2.2.1 = 5 := by subst hV; rfl
  clear hV
  have hnp := hX.np
  have hnw := hX.nw
  have e1 : S 1 = nI N.2.1 := hX.2.2.2.1.1
  refine a_iload_n hb dX11_work_0 rfl 1 rfl ?_
  refine a_iconst (v := 0) hb dX11_work_1 (by decide) ?_
  refine a_bipush (v := 9) hb dX11_work_2 (by decide) ?_
  refine a_callS hb dX11_work_4 (by rw [hg]; exact w_outside g h a 0 9) (by rw [ow]; exact cls_RX11_53) rfl rfl (Nat.le_of_ble_eq_true rfl) (by rw [hr]; exact ⟨by decide, by decide⟩) (by rw [hr]; exact ⟨Nat.le_of_ble_eq_true rfl, Nat.le_of_ble_eq_true rfl⟩) ?_
  intro rv h' hq_
  rw [hq_.1, hq_.2]
  show AW V 0 0 h 7 [(0, .ref B), (1, .int a), (2, .int b), (3, .int c), (4, .int d)] [.int (b2i (oO a 0 9))]
  refine a_if_ne hb 41 dX11_work_7 (by decide) (fun c7 => ?_) (fun c7 => ?_)
  · simp [b2i_0] at c7
    refine a_bipush (v := (-2)) hb dX11_work_41 (by decide) ?_
    exact a_ireturn (ty := .int) hb hz dX11_work_43 hret rfl (by rw [hr]; exact Nat.le_of_ble_eq_true rfl) (by rw [hr]; exact Nat.le_of_ble_eq_true rfl) (⟨by rw [spWork, if_pos (by simp [c7])], by rw [spWork, if_pos (by simp [c7])]; exact WX.same hX rfl⟩)
  · simp [b2i_0] at c7
    refine a_iload_n hb dX11_work_10 rfl 2 rfl ?_
    refine a_iconst (v := 1) hb dX11_work_11 (by decide) ?_
    refine a_bipush (v := 99) hb dX11_work_12 (by decide) ?_
    refine a_callS hb dX11_work_14 (by rw [hg]; exact w_outside g h b 1 99) (by rw [ow]; exact cls_RX11_53) rfl rfl (Nat.le_of_ble_eq_true rfl) (by rw [hr]; exact ⟨by decide, by decide⟩) (by rw [hr]; exact ⟨Nat.le_of_ble_eq_true rfl, Nat.le_of_ble_eq_true rfl⟩) ?_
    intro rv h' hq_
    rw [hq_.1, hq_.2]
    show AW V 0 0 h 17 [(0, .ref B), (1, .int a), (2, .int b), (3, .int c), (4, .int d)] [.int (b2i (oO b 1 99))]
    refine a_if_ne hb 41 dX11_work_17 (by decide) (fun c17 => ?_) (fun c17 => ?_)
    · simp [b2i_0] at c17
      refine a_bipush (v := (-2)) hb dX11_work_41 (by decide) ?_
      exact a_ireturn (ty := .int) hb hz dX11_work_43 hret rfl (by rw [hr]; exact Nat.le_of_ble_eq_true rfl) (by rw [hr]; exact Nat.le_of_ble_eq_true rfl) (⟨by rw [spWork, if_pos (by simp [c7, c17])], by rw [spWork, if_pos (by simp [c7, c17])]; exact WX.same hX rfl⟩)
    · simp [b2i_0] at c17
      refine a_iload_n hb dX11_work_20 rfl 3 rfl ?_
      refine a_iconst (v := 1) hb dX11_work_21 (by decide) ?_
      refine a_bipush (v := 40) hb dX11_work_22 (by decide) ?_
      refine a_callS hb dX11_work_24 (by rw [hg]; exact w_outside g h c 1 40) (by rw [ow]; exact cls_RX11_53) rfl rfl (Nat.le_of_ble_eq_true rfl) (by rw [hr]; exact ⟨by decide, by decide⟩) (by rw [hr]; exact ⟨Nat.le_of_ble_eq_true rfl, Nat.le_of_ble_eq_true rfl⟩) ?_
      intro rv h' hq_
      rw [hq_.1, hq_.2]
      show AW V 0 0 h 27 [(0, .ref B), (1, .int a), (2, .int b), (3, .int c), (4, .int d)] [.int (b2i (oO c 1 40))]
      refine a_if_ne hb 41 dX11_work_27 (by decide) (fun c27 => ?_) (fun c27 => ?_)
      · simp [b2i_0] at c27
        refine a_bipush (v := (-2)) hb dX11_work_41 (by decide) ?_
        exact a_ireturn (ty := .int) hb hz dX11_work_43 hret rfl (by rw [hr]; exact Nat.le_of_ble_eq_true rfl) (by rw [hr]; exact Nat.le_of_ble_eq_true rfl) (⟨by rw [spWork, if_pos (by simp [c7, c17, c27])], by rw [spWork, if_pos (by simp [c7, c17, c27])]; exact WX.same hX rfl⟩)
      · simp [b2i_0] at c27
        refine a_iload hb dX11_work_30 4 rfl ?_
        refine a_iconst (v := 0) hb dX11_work_32 (by decide) ?_
        refine a_bipush (v := 99) hb dX11_work_33 (by decide) ?_
        refine a_callS hb dX11_work_35 (by rw [hg]; exact w_outside g h d 0 99) (by rw [ow]; exact cls_RX11_53) rfl rfl (Nat.le_of_ble_eq_true rfl) (by rw [hr]; exact ⟨by decide, by decide⟩) (by rw [hr]; exact ⟨Nat.le_of_ble_eq_true rfl, Nat.le_of_ble_eq_true rfl⟩) ?_
        intro rv h' hq_
        rw [hq_.1, hq_.2]
        show AW V 0 0 h 38 [(0, .ref B), (1, .int a), (2, .int b), (3, .int c), (4, .int d)] [.int (b2i (oO d 0 99))]
        refine a_if_eq hb 44 dX11_work_38 (by decide) (fun c38 => ?_) (fun c38 => ?_)
        · simp [b2i_0] at c38
          refine a_aload_n hb dX11_work_44 rfl 0 rfl ?_
          refine a_getQ (q := (B + 1)) hb dX11_work_45 (by rw [ow]; exact fl_RX11_12_11) (hX.1.1 0 (by decide)) (hX.1.2.1 (0, 0, 1) (by decide)) ?_
          refine a_getI hb dX11_work_48 (by rw [ow]; exact fl_RX11_152_7) (hX.1.1 1 (by decide)) ?_
          rw [hX.f7]
          show AW V 0 0 h 51 [(0, .ref B), (1, .int a), (2, .int b), (3, .int c), (4, .int d)] [.int (nI N.2.1)]
          refine a_iconst (v := 5) hb dX11_work_51 (by decide) ?_
          refine a_icmp_lt hb 58 dX11_work_52 (by decide) (fun c52 => ?_) (fun c52 => ?_)
          · have l5 : N.2.1 < 5 := (nI_ltI (a := N.2.1) (b := 5) (by omega) (by decide)).mp c52
            refine a_aload_n hb dX11_work_58 rfl 0 rfl ?_
            refine a_getQ (q := (B + 1)) hb dX11_work_59 (by rw [ow]; exact fl_RX11_12_11) (hX.1.1 0 (by decide)) (hX.1.2.1 (0, 0, 1) (by decide)) ?_
            refine a_getQ (q := (B + 6)) hb dX11_work_62 (by rw [ow]; exact fl_RX11_155_7) (hX.1.1 1 (by decide)) (hX.1.2.1 (1, 6, 6) (by decide)) ?_
            refine a_aload_n hb dX11_work_65 rfl 0 rfl ?_
            refine a_getQ (q := (B + 1)) hb dX11_work_66 (by rw [ow]; exact fl_RX11_12_11) (hX.1.1 0 (by decide)) (hX.1.2.1 (0, 0, 1) (by decide)) ?_
            refine a_getI hb dX11_work_69 (by rw [ow]; exact fl_RX11_152_7) (hX.1.1 1 (by decide)) ?_
            rw [hX.f7]
            show AW V 0 0 h 72 [(0, .ref B), (1, .int a), (2, .int b), (3, .int c), (4, .int d)] [.int (nI N.2.1), .ref (B + 6)]
            refine a_new hb dX11_work_72 (by rw [ow]; exact cn_RX11_159) (by rw [hr]; exact ⟨by decide, by decide⟩) ?_
            refine a_dup hb dX11_work_75 rfl ?_
            refine a_iload_n hb dX11_work_76 rfl 1 rfl ?_
            refine a_iload_n hb dX11_work_77 rfl 2 rfl ?_
            refine a_iload_n hb dX11_work_78 rfl 3 rfl ?_
            refine a_iload hb dX11_work_79 4 rfl ?_
            refine a_iconst (v := 0) hb dX11_work_81 (by decide) ?_
            refine a_iconst (v := 0) hb dX11_work_82 (by decide) ?_
            refine a_callI hb dX11_work_83 (by rw [hg]; exact i_X10 g (newC h 10 0) (hN h) (u1_s : hT (newC h 10 0) (hN h) = (10, 0)) a b c d 0 0) (by rw [ow]; exact cli_RX11_161) rfl rfl (Nat.le_of_ble_eq_true rfl) (by rw [hr]; exact ⟨by decide, by decide⟩) (by rw [hr]; exact ⟨Nat.le_of_ble_eq_true rfl, Nat.le_of_ble_eq_true rfl⟩) ?_
            intro rv h' hq_
            rw [hq_.1, hq_.2]
            show AW V 1 6 (setI (setI (setI (setI (setI (setI (newC h 10 0) (hN h) 0 a) (hN h) 1 b) (hN h) 2 c) (hN h) 3 d) (hN h) 4 0) (hN h) 5 0) 86 [(0, .ref B), (1, .int a), (2, .int b), (3, .int c), (4, .int d)] [.ref (hN h), .int (nI N.2.1), .ref (B + 6)]
            generalize eh : (setI (setI (setI (setI (setI (setI (newC h 10 0) (hN h) 0 a) (hN h) 1 b) (hN h) 2 c) (hN h) 3 d) (hN h) 4 0) (hN h) 5 0) = h1
            have nw : NW h h1 10 := by rw [← eh]; exact (NW.I (NW.I (NW.I (NW.I (NW.I (NW.I NW.new))))))
            have fl : ∀ j, j < 6 → hI h1 (hN h) j = wkF a b c d 0 0 j := fun j hj => by rw [← eh]; simp only [setI_R, hI_R, setR_R]; rw [show hI (newC h 10 0) (hN h) = fun _ => 0 from u1_s]; rfl
            have hL1 : LY h1 B := nw.ly hX.1
            have hT1 : hT h1 (hN h) = (10, 0) := by rw [nw.2.1]; exact u1_s
            clear eh
            have h62 := hX.1.2.2
            show AW V 1 6 h1 86 [(0, .ref B), (1, .int a), (2, .int b), (3, .int c), (4, .int d)] [.ref (hN h), .int (nI N.2.1), .ref (B + 6)]
            refine b_aast (j := N.2.1) (Cn := RX10) (E := RX10) hb dX11_work_86 (hL1.1 6 (by decide)) (by decide) (by decide) rfl hT1 (by decide) rfl (Or.inl rfl) (IX.n (by omega)) (by omega) ?_
            generalize eh2 : (setQ h1 (B + 6) N.2.1 (some (hN h))) = h2
            have hL2 : LY h2 B := by rw [← eh2]; exact LY.Q hL1 (by omega)
            have hT2 : hT h2 (hN h) = (10, 0) := by rw [← eh2, hT_Q]; exact hT1
            have hI2 : hI h2 = hI h1 := by rw [← eh2, hI_Q]
            show AW V 1 6 h2 87 [(0, .ref B), (1, .int a), (2, .int b), (3, .int c), (4, .int d)] []
            refine a_aload_n hb dX11_work_87 rfl 0 rfl ?_
            refine a_getQ (q := (B + 1)) hb dX11_work_88 (by rw [ow]; exact fl_RX11_12_11) (hL2.1 0 (by decide)) (hL2.2.1 (0, 0, 1) (by decide)) ?_
            refine a_dup hb dX11_work_91 rfl ?_
            refine a_getI hb dX11_work_92 (by rw [ow]; exact fl_RX11_152_7) (hL2.1 1 (by decide)) ?_
            rw [hI2, show hI h1 (B + 1) 7 = nI N.2.1 from (congrFun (nw.2.2 (B + 1) (by omega)).1 7).trans hX.f7]
            show AW V 1 6 h2 95 [(0, .ref B), (1, .int a), (2, .int b), (3, .int c), (4, .int d)] [.int (nI N.2.1), .ref (B + 1)]
            refine a_iconst (v := 1) hb dX11_work_95 (by decide) ?_
            refine a_iadd hb dX11_work_96 ?_
            refine a_putI (fty := .int) hb dX11_work_97 (by rw [ow]; exact fp_RX11_152_7) (Or.inr (fun C T N hq => by cases hq; rfl)) (hL2.1 1 (by decide)) rfl rfl ?_
            refine a_aload_n hb dX11_work_100 rfl 0 rfl ?_
            refine a_getQ (q := (B + 1)) hb dX11_work_101 (by rw [ow]; exact fl_RX11_12_11) ((LY.I hL2 : LY (setI h2 (B + 1) 7 ((nI N.2.1) + 1)) B).1 0 (by decide)) ((LY.I hL2 : LY (setI h2 (B + 1) 7 ((nI N.2.1) + 1)) B).2.1 (0, 0, 1) (by decide)) ?_
            refine a_getI hb dX11_work_104 (by rw [ow]; exact fl_RX11_152_7) ((LY.I hL2 : LY (setI h2 (B + 1) 7 ((nI N.2.1) + 1)) B).1 1 (by decide)) ?_
            rw [hI_setI_s, upd_s]
            show AW V 1 6 (setI h2 (B + 1) 7 ((nI N.2.1) + 1)) 107 [(0, .ref B), (1, .int a), (2, .int b), (3, .int c), (4, .int d)] [.int (nI N.2.1 + 1)]
            refine a_iconst (v := 1) hb dX11_work_107 (by decide) ?_
            refine a_isub hb dX11_work_108 ?_
            exact a_ireturn (ty := .int) hb hz dX11_work_109 hret rfl (by rw [hr]; exact Nat.le_of_ble_eq_true rfl) (by rw [hr]; exact Nat.le_of_ble_eq_true rfl) (⟨by rw [spWork, if_neg (by simp [c7, c17, c27, c38]), e1, if_neg (by intro q; have z := (nI_eq (a := N.2.1) (b := 5) (by omega) (by decide)).mp q; omega)]; exact congrArg (fun v => some (Value.int v)) (Int32.add_sub_cancel _ _), by rw [spWork, if_neg (by simp [c7, c17, c27, c38]), if_neg (by rw [e1]; exact (by intro q; have z := (nI_eq (a := N.2.1) (b := 5) (by omega) (by decide)).mp q; omega))]; subst eh2; exact WX.work hX hb_ l5 (by simpa using c7) (by simpa using c17) (by simpa using c27) (by simpa using c38) nw fl⟩)
          · refine a_bipush (v := (-4)) hb dX11_work_55 (by decide) ?_
            exact a_ireturn (ty := .int) hb hz dX11_work_57 hret rfl (by rw [hr]; exact Nat.le_of_ble_eq_true rfl) (by rw [hr]; exact Nat.le_of_ble_eq_true rfl) (⟨by rw [spWork, if_neg (by simp [c7, c17, c27, c38]), e1, if_pos (by have z := (nI_leI (a := 5) (b := N.2.1) (by decide) (by omega)).mp (Int32.not_lt.mp c52); rw [show N.2.1 = 5 by omega]; rfl)], by rw [spWork, if_neg (by simp [c7, c17, c27, c38]), e1, if_pos (by have z := (nI_leI (a := 5) (b := N.2.1) (by decide) (by omega)).mp (Int32.not_lt.mp c52); rw [show N.2.1 = 5 by omega]; rfl)]; exact WX.same hX rfl⟩)
        · simp [b2i_0] at c38
          refine a_bipush (v := (-2)) hb dX11_work_41 (by decide) ?_
          exact a_ireturn (ty := .int) hb hz dX11_work_43 hret rfl (by rw [hr]; exact Nat.le_of_ble_eq_true rfl) (by rw [hr]; exact Nat.le_of_ble_eq_true rfl) (⟨by rw [spWork, if_pos (by simp [c7, c17, c27, c38])], by rw [spWork, if_pos (by simp [c7, c17, c27, c38])]; exact WX.same hX rfl⟩)
set_option maxRecDepth 100000 in
theorem x_priceO (g : GG) (h : AH) (q : Nat) (ht : hT h q = (10, 0)) (n s c : Int32) (f2 : hI h q 2 = s) (f3 : hI h q 3 = c) : AM g 1 0 0 mX10_price [.ref q, .int n] h (fun rv h' => rv = some (.int (mn n s * c)) ∧ h' = h) := by
  refine AM.of [(0, .ref q), (1, .int n)] (by decide) (Nat.le_of_ble_eq_true rfl) rfl ?_
  intro V hV
  have hb : V.2.1.2.1 = cX10_price := by subst hV; rfl
  have ow : V.2.1.1.cls = RX10 := by subst hV; rfl
  have hr : V.2.2.1 = aw_rm 1 0 0 := by subst hV; rfl
  have hz : V.2.2.2 = aw_Z V.1 (fun rv h' => rv = some (.int (mn n s * c)) ∧ h' = h) V.2.2.1 := by subst hV; rfl
  have hg : V.1 = g := by subst hV; rfl
  have hret : V.2.1.2.2.2 = (some .int) := by subst hV; rfl
  have hml : V.2.1.2.2.1 = 2 := by subst hV; rfl
  clear hV
  refine a_iload_n hb dX10_price_0 rfl 1 rfl ?_
  refine a_aload_n hb dX10_price_1 rfl 0 rfl ?_
  refine a_getI hb dX10_price_2 (by rw [ow]; exact fl_RX10_16_10) ht ?_
  refine a_mmin hb dX10_price_5 (by rw [ow]; exact kw_745) kw_407 kw_94 kw_408 (by rw [hr]; exact ⟨by decide, Nat.le_of_ble_eq_true rfl⟩) (by rw [hr]; exact ⟨Nat.le_of_ble_eq_true rfl, Nat.le_of_ble_eq_true rfl⟩) ?_
  refine a_aload_n hb dX10_price_8 rfl 0 rfl ?_
  refine a_getI hb dX10_price_9 (by rw [ow]; exact fl_RX10_19_10) ht ?_
  refine a_imul hb dX10_price_12 ?_
  exact a_ireturn (ty := .int) hb hz dX10_price_13 hret rfl (by rw [hr]; exact Nat.le_of_ble_eq_true rfl) (by rw [hr]; exact Nat.le_of_ble_eq_true rfl) (⟨by rw [f2, f3]; rfl, rfl⟩)
set_option maxRecDepth 100000 in
theorem x_call (g : GG) (h : AH) (B : Nat) (S : Nat → Int32) (N : NN) (hX : XN h B S N) (hb_ : HB h) (w t n : Int32) : AM g 3 1 6 mX11_call [.ref B, .int w, .int t, .int n] h (fun rv h' => rv = some (.int (spCall S w t n).1) ∧ WX (Wc B) h h' B (spCall S w t n).2) := by
  refine AM.of [(0, .ref B), (1, .int w), (2, .int t), (3, .int n)] (by decide) (Nat.le_of_ble_eq_true rfl) rfl ?_
  intro V hV
  have hb : V.2.1.2.1 = cX11_call := by subst hV; rfl
  have ow : V.2.1.1.cls = RX11 := by subst hV; rfl
  have hr : V.2.2.1 = aw_rm 3 1 6 := by subst hV; rfl
  have hz : V.2.2.2 = aw_Z V.1 (fun rv h' => rv = some (.int (spCall S w t n).1) ∧ WX (Wc B) h h' B (spCall S w t n).2) V.2.2.1 := by subst hV; rfl
  have hg : V.1 = g := by subst hV; rfl
  have hret : V.2.1.2.2.2 = (some .int) := by subst hV; rfl
  have hml : V.2.1.2.2.1 = 6 := by subst hV; rfl
  clear hV
  have hnp := hX.np
  have hnw := hX.nw
  have e1 : S 1 = nI N.2.1 := hX.2.2.2.1.1
  refine a_aload_n hb dX11_call_0 rfl 0 rfl ?_
  refine a_iload_n hb dX11_call_1 rfl 1 rfl ?_
  refine a_callV hb dX11_call_2 (by rw [hg]; exact x_noWork g h B S N hX w) (by rw [ow]; exact clv_RX11_164) (hX.1.1 0 (by decide)) (by decide) rfl rfl rfl (Nat.le_of_ble_eq_true rfl) (by rw [hr]; exact ⟨by decide, by decide⟩) (by rw [hr]; exact ⟨Nat.le_of_ble_eq_true rfl, Nat.le_of_ble_eq_true rfl⟩) ?_
  intro rv h' hq_
  rw [hq_.1, hq_.2]
  show AW V 0 0 h 5 [(0, .ref B), (1, .int w), (2, .int t), (3, .int n)] [.int (b2i (oO w 0 (nI N.2.1 - 1)))]
  refine a_if_eq hb 10 dX11_call_5 (by decide) (fun c5 => ?_) (fun c5 => ?_)
  · simp [b2i_0] at c5
    obtain ⟨w_, rfl, lw⟩ := c_lt (n := N.2.1) (by omega) (by simpa using c5)
    refine a_iload_n hb dX11_call_10 rfl 2 rfl ?_
    refine a_callS hb dX11_call_11 (by rw [hg]; exact w_noTick g h t) (by rw [ow]; exact cls_RX11_57) rfl rfl (Nat.le_of_ble_eq_true rfl) (by rw [hr]; exact ⟨by decide, by decide⟩) (by rw [hr]; exact ⟨Nat.le_of_ble_eq_true rfl, Nat.le_of_ble_eq_true rfl⟩) ?_
    intro rv h' hq_
    rw [hq_.1, hq_.2]
    show AW V 0 0 h 14 [(0, .ref B), (1, .int (nI w_)), (2, .int t), (3, .int n)] [.int (b2i (oO t 0 39))]
    refine a_if_ne hb 27 dX11_call_14 (by decide) (fun c14 => ?_) (fun c14 => ?_)
    · simp [b2i_0] at c14
      refine a_bipush (v := (-2)) hb dX11_call_27 (by decide) ?_
      exact a_ireturn (ty := .int) hb hz dX11_call_29 hret rfl (by rw [hr]; exact Nat.le_of_ble_eq_true rfl) (by rw [hr]; exact Nat.le_of_ble_eq_true rfl) (⟨by rw [spCall, e1, if_neg (by simp [c5]), if_pos (by simp [c14])], by rw [spCall, e1, if_neg (by simp [c5]), if_pos (by simp [c14])]; exact WX.same hX rfl⟩)
    · simp [b2i_0] at c14
      refine a_iload_n hb dX11_call_17 rfl 3 rfl ?_
      refine a_iconst (v := 0) hb dX11_call_18 (by decide) ?_
      refine a_bipush (v := 40) hb dX11_call_19 (by decide) ?_
      refine a_callS hb dX11_call_21 (by rw [hg]; exact w_outside g h n 0 40) (by rw [ow]; exact cls_RX11_53) rfl rfl (Nat.le_of_ble_eq_true rfl) (by rw [hr]; exact ⟨by decide, by decide⟩) (by rw [hr]; exact ⟨Nat.le_of_ble_eq_true rfl, Nat.le_of_ble_eq_true rfl⟩) ?_
      intro rv h' hq_
      rw [hq_.1, hq_.2]
      show AW V 0 0 h 24 [(0, .ref B), (1, .int (nI w_)), (2, .int t), (3, .int n)] [.int (b2i (oO n 0 40))]
      refine a_if_eq hb 30 dX11_call_24 (by decide) (fun c24 => ?_) (fun c24 => ?_)
      · simp [b2i_0] at c24
        refine a_aload_n hb dX11_call_30 rfl 0 rfl ?_
        refine a_getQ (q := (B + 1)) hb dX11_call_31 (by rw [ow]; exact fl_RX11_12_11) (hX.1.1 0 (by decide)) (hX.1.2.1 (0, 0, 1) (by decide)) ?_
        refine a_getQ (q := (B + 6)) hb dX11_call_34 (by rw [ow]; exact fl_RX11_155_7) (hX.1.1 1 (by decide)) (hX.1.2.1 (1, 6, 6) (by decide)) ?_
        refine a_iload_n hb dX11_call_37 rfl 1 rfl ?_
        obtain ⟨q1, hq1, po1⟩ := hX.ws (w := w_) (by omega)
        refine b_aaldS (j := w_) (q := q1) hb dX11_call_38 (hX.1.1 6 (by decide)) (by decide) (by decide) (IX.n (by omega)) (by omega) hq1 ?_
        refine a_astore (L' := [(4, .ref q1), (0, .ref B), (1, .int (nI w_)), (2, .int t), (3, .int n)]) hb dX11_call_39 (by rw [hml]; decide) rfl ?_
        refine a_new hb dX11_call_41 (by rw [ow]; exact cn_RX11_159) (by rw [hr]; exact ⟨by decide, by decide⟩) ?_
        have pon : WO (newC h 10 0) B S w_ q1 := po1.up (A := fun _ => False) (NW.new : NW h (newC h 10 0) 10).fw hb_ (fun a z => z.elim) ⟨rfl, rfl, rfl, rfl, rfl, rfl⟩
        refine a_dup hb dX11_call_44 rfl ?_
        refine a_aload hb dX11_call_45 0 rfl ?_
        refine a_getI hb dX11_call_47 (by rw [ow]; exact fl_RX11_167_10) pon.2.1 ?_
        rw [pon.2.2.1]
        show AW V 1 6 (newC h 10 0) 50 [(4, .ref q1), (0, .ref B), (1, .int (nI w_)), (2, .int t), (3, .int n)] [.int (S (178 + w_)), .ref (hN h), .ref (hN h)]
        refine a_aload hb dX11_call_50 0 rfl ?_
        refine a_getI hb dX11_call_52 (by rw [ow]; exact fl_RX11_170_10) pon.2.1 ?_
        rw [pon.2.2.2.1]
        show AW V 1 6 (newC h 10 0) 55 [(4, .ref q1), (0, .ref B), (1, .int (nI w_)), (2, .int t), (3, .int n)] [.int (S (183 + w_)), .int (S (178 + w_)), .ref (hN h), .ref (hN h)]
        refine a_aload hb dX11_call_55 0 rfl ?_
        refine a_getI hb dX11_call_57 (by rw [ow]; exact fl_RX11_173_10) pon.2.1 ?_
        rw [pon.2.2.2.2.1]
        show AW V 1 6 (newC h 10 0) 60 [(4, .ref q1), (0, .ref B), (1, .int (nI w_)), (2, .int t), (3, .int n)] [.int (S (188 + w_)), .int (S (183 + w_)), .int (S (178 + w_)), .ref (hN h), .ref (hN h)]
        refine a_aload hb dX11_call_60 0 rfl ?_
        refine a_getI hb dX11_call_62 (by rw [ow]; exact fl_RX11_176_10) pon.2.1 ?_
        rw [pon.2.2.2.2.2.1]
        show AW V 1 6 (newC h 10 0) 65 [(4, .ref q1), (0, .ref B), (1, .int (nI w_)), (2, .int t), (3, .int n)] [.int (S (193 + w_)), .int (S (188 + w_)), .int (S (183 + w_)), .int (S (178 + w_)), .ref (hN h), .ref (hN h)]
        refine a_iload_n hb dX11_call_65 rfl 3 rfl ?_
        refine a_iload_n hb dX11_call_66 rfl 4 rfl ?_
        refine a_callI hb dX11_call_67 (by rw [hg]; exact i_X10 g (newC h 10 0) (hN h) (u1_s : hT (newC h 10 0) (hN h) = (10, 0)) (S (178 + w_)) (S (183 + w_)) (S (188 + w_)) (S (193 + w_)) t n) (by rw [ow]; exact cli_RX11_161) rfl rfl (Nat.le_of_ble_eq_true rfl) (by rw [hr]; exact ⟨by decide, by decide⟩) (by rw [hr]; exact ⟨Nat.le_of_ble_eq_true rfl, Nat.le_of_ble_eq_true rfl⟩) ?_
        intro rv h' hq_
        rw [hq_.1, hq_.2]
        show AW V 1 6 (setI (setI (setI (setI (setI (setI (newC h 10 0) (hN h) 0 (S (178 + w_))) (hN h) 1 (S (183 + w_))) (hN h) 2 (S (188 + w_))) (hN h) 3 (S (193 + w_))) (hN h) 4 t) (hN h) 5 n) 70 [(4, .ref q1), (0, .ref B), (1, .int (nI w_)), (2, .int t), (3, .int n)] [.ref (hN h)]
        generalize eh : (setI (setI (setI (setI (setI (setI (newC h 10 0) (hN h) 0 (S (178 + w_))) (hN h) 1 (S (183 + w_))) (hN h) 2 (S (188 + w_))) (hN h) 3 (S (193 + w_))) (hN h) 4 t) (hN h) 5 n) = h1
        have nw : NW h h1 10 := by rw [← eh]; exact (NW.I (NW.I (NW.I (NW.I (NW.I (NW.I NW.new))))))
        have fl : ∀ j, j < 6 → hI h1 (hN h) j = wkF (S (178 + w_)) (S (183 + w_)) (S (188 + w_)) (S (193 + w_)) t n j := fun j hj => by rw [← eh]; simp only [setI_R, hI_R, setR_R]; rw [show hI (newC h 10 0) (hN h) = fun _ => 0 from u1_s]; rfl
        have hL1 : LY h1 B := nw.ly hX.1
        have hT1 : hT h1 (hN h) = (10, 0) := by rw [nw.2.1]; exact u1_s
        clear eh
        have h62 := hX.1.2.2
        show AW V 1 6 h1 70 [(4, .ref q1), (0, .ref B), (1, .int (nI w_)), (2, .int t), (3, .int n)] [.ref (hN h)]
        refine a_astore (L' := [(5, .ref (hN h)), (4, .ref q1), (0, .ref B), (1, .int (nI w_)), (2, .int t), (3, .int n)]) hb dX11_call_70 (by rw [hml]; decide) rfl ?_
        refine a_aload_n hb dX11_call_72 rfl 2 rfl ?_
        refine a_getQ (q := (B + 1)) hb dX11_call_73 (by rw [ow]; exact fl_RX11_12_11) (hL1.1 0 (by decide)) (hL1.2.1 (0, 0, 1) (by decide)) ?_
        refine a_getQ (q := (B + 6)) hb dX11_call_76 (by rw [ow]; exact fl_RX11_155_7) (hL1.1 1 (by decide)) (hL1.2.1 (1, 6, 6) (by decide)) ?_
        refine a_iload_n hb dX11_call_79 rfl 3 rfl ?_
        refine a_aload hb dX11_call_80 0 rfl ?_
        refine b_aast (j := w_) (Cn := RX10) (E := RX10) hb dX11_call_82 (hL1.1 6 (by decide)) (by decide) (by decide) rfl hT1 (by decide) rfl (Or.inl rfl) (IX.n (by omega)) (by omega) ?_
        generalize eh2 : (setQ h1 (B + 6) w_ (some (hN h))) = h2
        have hL2 : LY h2 B := by rw [← eh2]; exact LY.Q hL1 (by omega)
        have hT2 : hT h2 (hN h) = (10, 0) := by rw [← eh2, hT_Q]; exact hT1
        have hI2 : hI h2 = hI h1 := by rw [← eh2, hI_Q]
        show AW V 1 6 h2 83 [(5, .ref (hN h)), (4, .ref q1), (0, .ref B), (1, .int (nI w_)), (2, .int t), (3, .int n)] []
        have hwx : WX (Wc B) h h2 B (upd (upd S (198 + w_) t) (203 + w_) n) := by rw [← eh2]; exact WX.call hX hb_ lw (show oO t 0 39 = false by simpa using c14) (show oO n 0 40 = false by simpa using c24) nw fl
        refine a_aload hb dX11_call_83 0 rfl ?_
        refine a_iload_n hb dX11_call_85 rfl 5 rfl ?_
        refine a_callV hb dX11_call_86 (by rw [hg]; exact x_priceO g h2 (hN h) hT2 n (S (188 + w_)) (S (193 + w_)) (by rw [hI2]; exact fl 2 (by decide)) (by rw [hI2]; exact fl 3 (by decide))) (by rw [ow]; exact clv_RX11_179) hT2 (by decide) rfl rfl rfl (Nat.le_of_ble_eq_true rfl) (by rw [hr]; exact ⟨by decide, by decide⟩) (by rw [hr]; exact ⟨Nat.le_of_ble_eq_true rfl, Nat.le_of_ble_eq_true rfl⟩) ?_
        intro rv h' hq_
        rw [hq_.1, hq_.2]
        show AW V 1 6 h2 89 [(5, .ref (hN h)), (4, .ref q1), (0, .ref B), (1, .int (nI w_)), (2, .int t), (3, .int n)] [.int (mn n (S (188 + w_)) * S (193 + w_))]
        exact a_ireturn (ty := .int) hb hz dX11_call_89 hret rfl (by rw [hr]; exact Nat.le_of_ble_eq_true rfl) (by rw [hr]; exact Nat.le_of_ble_eq_true rfl) (⟨by rw [spCall, e1, if_neg (by simp [c5]), if_neg (by simp [c14, c24]), nI_clamp (by omega)]; exact congrArg (fun v => some (Value.int (v * S (193 + w_)))) (by unfold gv; rw [upd_s, upd_n (k := 203 + w_) (by omega), upd_n (by omega), mn_gv]), by rw [spCall, e1, if_neg (by simp [c5]), if_neg (by simp [c14, c24]), nI_clamp (by omega)]; exact hwx⟩)
      · simp [b2i_0] at c24
        refine a_bipush (v := (-2)) hb dX11_call_27 (by decide) ?_
        exact a_ireturn (ty := .int) hb hz dX11_call_29 hret rfl (by rw [hr]; exact Nat.le_of_ble_eq_true rfl) (by rw [hr]; exact Nat.le_of_ble_eq_true rfl) (⟨by rw [spCall, e1, if_neg (by simp [c5]), if_pos (by simp [c14, c24])], by rw [spCall, e1, if_neg (by simp [c5]), if_pos (by simp [c14, c24])]; exact WX.same hX rfl⟩)
  · simp [b2i_0] at c5
    refine a_iconst (v := (-1)) hb dX11_call_8 (by decide) ?_
    exact a_ireturn (ty := .int) hb hz dX11_call_9 hret rfl (by rw [hr]; exact Nat.le_of_ble_eq_true rfl) (by rw [hr]; exact Nat.le_of_ble_eq_true rfl) (⟨by rw [spCall, e1, if_pos (by simpa using c5)], by rw [spCall, e1, if_pos (by simpa using c5)]; exact WX.same hX rfl⟩)
