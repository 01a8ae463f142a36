/-! ===== the class: a way by its number ===== -/
def Xk (B vq a : Nat) : Prop := a = B + 50 ∧ 0 ≤ vq
/-- what is left of the number when m breaks from the last on are done -/
def rsT (S : Nat → Int32) (np w : Nat) : Nat → Nat
  | 0 => w
  | m + 1 => if S (162 + (np - 1 - m)) < 10 then rsT S np w m / 3 else rsT S np w m
def odT (S : Nat → Int32) (np w : Nat) : Nat → Int32
  | 0 => 1
  | m + 1 => if S (162 + (np - 1 - m)) < 10 then odT S np w m * odS S (np - 1 - m) (nI (rsT S np w m % 3)) else odT S np w m
def dyT (S : Nat → Int32) (np w p : Nat) : Nat := if S (162 + p) < 10 then rsT S np w (np - 1 - p) % 3 else 0
theorem rsT_l {S : Nat → Int32} {np w : Nat} : ∀ m, rsT S np w m ≤ w
  | 0 => Nat.le_refl _
  | m + 1 => by
    have := rsT_l (S := S) (np := np) (w := w) m
    have := Nat.div_le_self (rsT S np w m) 3
    unfold rsT; split <;> omega
theorem dyT_w {S : Nat → Int32} {np w p : Nat} : dyT S np w p < wdS S p := by
  unfold dyT wdS
  split
  · exact Nat.mod_lt _ (by decide)
  · decide
set_option maxRecDepth 100000 in
theorem x_takeWay (g : GG) (h : AH) (B vq lq hl : Nat) (S : Nat → Int32) (N : NN) (P : PF) (hC : CX g h B vq lq hl S N P) (y : Nat) (hy : y < 10000) : AM g 2 0 0 mX11_takeWay [.ref B, .int (nI y)] h (fun rv h' => rv = some (.int (odT S N.1 y N.1)) ∧ FR (Xk B vq) h h' ∧ ∀ p, p < N.1 → hI h' (B + 50) p = nI (dyT S N.1 y p) ∧ dyT S N.1 y p < wdS S p) := by
  refine AM.of [(0, .ref B), (1, .int (nI y))] (by decide) (Nat.le_of_ble_eq_true rfl) rfl ?_
  intro V hV
  have hb : V.2.1.2.1 = cX11_takeWay := by subst hV; rfl
  have ow : V.2.1.1.cls = RX11 := by subst hV; rfl
  have hr : V.2.2.1 = aw_rm 2 0 0 := by subst hV; rfl
  have hz : V.2.2.2 = aw_Z V.1 (fun rv h' => rv = some (.int (odT S N.1 y N.1)) ∧ FR (Xk B vq) h h' ∧ ∀ p, p < N.1 → hI h' (B + 50) p = nI (dyT S N.1 y p) ∧ dyT S N.1 y p < wdS S p) V.2.2.1 := by subst hV; rfl
  have hg : V.1 = g := by subst hV; rfl
  have hret : V.2.1.2.2.2 = (some .int) := by subst hV; rfl
  have hml : V.2.1.2.2.1 = 5 := by subst hV; rfl
  clear hV
  have hvq : B + 62 ≤ vq := hC.2.1.2.2.2.2.2.1
  have hnp := hC.1.np
  have hnw := hC.1.nw
  refine a_iload_n hb dX11_takeWay_0 rfl 1 rfl ?_
  refine a_istore_n (L' := [(2, .int (nI y)), (0, .ref B), (1, .int (nI y))]) hb dX11_takeWay_1 rfl (by rw [hml]; decide) rfl ?_
  refine a_iconst (v := 1) hb dX11_takeWay_2 (by decide) ?_
  refine a_istore_n (L' := [(3, .int 1), (2, .int (nI y)), (0, .ref B), (1, .int (nI y))]) hb dX11_takeWay_3 rfl (by rw [hml]; decide) rfl ?_
  refine a_aload_n hb dX11_takeWay_4 rfl 2 rfl ?_
  refine a_getQ (q := (B + 1)) hb dX11_takeWay_5 (by rw [ow]; exact fl_RX11_12_11) (hC.1.1.1 0 (by decide)) (hC.1.1.2.1 (0, 0, 1) (by decide)) ?_
  refine a_getI hb dX11_takeWay_8 (by rw [ow]; exact fl_RX11_61_7) (hC.1.1.1 1 (by decide)) ?_
  rw [hC.1.f3]
  show AW V 0 0 h 11 [(3, .int 1), (2, .int (nI y)), (0, .ref B), (1, .int (nI y))] [.int (nI N.1)]
  refine a_iconst (v := 1) hb dX11_takeWay_11 (by decide) ?_
  refine a_isub hb dX11_takeWay_12 ?_
  refine a_istore (L' := [(4, .int ((nI N.1) - 1)), (3, .int 1), (2, .int (nI y)), (0, .ref B), (1, .int (nI y))]) hb dX11_takeWay_13 (by rw [hml]; decide) rfl ?_
  have loop : ∀ (j : Nat) (h1 : AH), j ≤ N.1 → FR (Xk B vq) h h1 → (∀ p, j ≤ p → p < N.1 → hI h1 (B + 50) p = nI (dyT S N.1 y p)) → AW V 0 0 h1 15 [(0, .ref B), (1, .int (nI y)), (2, .int (nI (rsT S N.1 y (N.1 - j)))), (3, .int (odT S N.1 y (N.1 - j))), (4, .int (nI j - 1))] [] := by
    intro j
    induction j with
    | zero =>
      intro h1 hj hFl iv
      have hCl : CX g h1 B vq lq hl S N P := hC.fr (FR.mo (A := Xk B vq) (A' := Ay B vq) hFl (by intro a; unfold Xk Ay; omega))
      rw [Nat.sub_zero]
      show AW V 0 0 h1 15 [(0, .ref B), (1, .int (nI y)), (2, .int (nI (rsT S N.1 y N.1))), (3, .int (odT S N.1 y N.1)), (4, .int (nI 0 - 1))] []
      refine a_iload hb dX11_takeWay_15 4 rfl ?_
      refine a_if_lt hb 73 dX11_takeWay_17 (by decide) (fun c17 => ?_) (fun c17 => absurd (by decide) c17)
      refine a_iload_n hb dX11_takeWay_73 rfl 3 rfl ?_
      exact a_ireturn (ty := .int) hb hz dX11_takeWay_74 hret rfl (by rw [hr]; exact Nat.le_of_ble_eq_true rfl) (by rw [hr]; exact Nat.le_of_ble_eq_true rfl) (⟨rfl, hFl, fun p hp => ⟨iv p (Nat.zero_le _) hp, dyT_w⟩⟩)
    | succ j ih =>
      intro h1 hj hFl iv
      have hCl : CX g h1 B vq lq hl S N P := hC.fr (FR.mo (A := Xk B vq) (A' := Ay B vq) hFl (by intro a; unfold Xk Ay; omega))
      obtain ⟨m, hm⟩ : ∃ m, N.1 - (j + 1) = m := ⟨_, rfl⟩
      have hm2 : N.1 - j = m + 1 := by omega
      have hm3 : N.1 - 1 - m = j := by omega
      have hm4 : N.1 - 1 - j = m := by omega
      rw [hm, show nI (j + 1) - 1 = nI j from by rw [← nI_1, Int32.add_sub_cancel]]
      rw [hm2] at ih
      have hrl := rsT_l (S := S) (np := N.1) (w := y) m
      show AW V 0 0 h1 15 [(0, .ref B), (1, .int (nI y)), (2, .int (nI (rsT S N.1 y m))), (3, .int (odT S N.1 y m)), (4, .int (nI j))] []
      refine a_iload hb dX11_takeWay_15 4 rfl ?_
      refine a_if_lt hb 73 dX11_takeWay_17 (by decide) (fun c17 => absurd c17 (nI_pos (by omega))) (fun c17 => ?_)
      refine a_aload_n hb dX11_takeWay_20 rfl 0 rfl ?_
      refine a_getQ (q := (B + 50)) hb dX11_takeWay_21 (by rw [ow]; exact fl_RX11_50_11) (hCl.1.1.1 0 (by decide)) (hCl.1.1.2.1 (0, 9, 50) (by decide)) ?_
      refine a_iload hb dX11_takeWay_24 4 rfl ?_
      refine a_iconst (v := 0) hb dX11_takeWay_26 (by decide) ?_
      refine b_iast (j := j) hb dX11_takeWay_27 (hCl.1.1.1 50 (by decide)) (IX.n (by omega)) (by omega) ?_
      generalize eh : (setI h1 (B + 50) j 0) = hka
      have hFka : FR (Xk B vq) h hka := by rw [← eh]; exact (FR.I hFl (by unfold Xk; omega))
      have hWka : ∀ p, p ≠ j → hI hka (B + 50) p = hI h1 (B + 50) p := fun p hp => by rw [← eh, hI_setI_s, upd_n hp]
      have hVka : hI hka (B + 50) j = 0 := by rw [← eh, hI_setI_s, upd_s]
      clear eh
      have hCka : CX g hka B vq lq hl S N P := hC.fr (FR.mo (A := Xk B vq) (A' := Ay B vq) hFka (by intro a; unfold Xk Ay; omega))
      show AW V 0 0 hka 28 [(0, .ref B), (1, .int (nI y)), (2, .int (nI (rsT S N.1 y m))), (3, .int (odT S N.1 y m)), (4, .int (nI j))] []
      refine a_aload_n hb dX11_takeWay_28 rfl 0 rfl ?_
      refine a_iload hb dX11_takeWay_29 4 rfl ?_
      refine a_callV hb dX11_takeWay_31 (by rw [hg]; exact x_mayBeLater g hka B S N hCka.1 j (by omega)) (by rw [ow]; exact clv_RX11_336) (hCka.1.1.1 0 (by decide)) (by decide) rfl rfl rfl (Nat.le_of_ble_eq_true rfl) (by rw [hr]; exact ⟨by decide, by decide⟩) (by rw [hr]; exact ⟨Nat.le_of_ble_eq_true rfl, Nat.le_of_ble_eq_true rfl⟩) ?_
      intro rv h' hq_
      rw [hq_.1, hq_.2]
      show AW V 0 0 hka 34 [(0, .ref B), (1, .int (nI y)), (2, .int (nI (rsT S N.1 y m))), (3, .int (odT S N.1 y m)), (4, .int (nI j))] [.int (b2i (decide (S (162 + j) < 10)))]
      refine a_if_eq hb 67 dX11_takeWay_34 (by decide) (fun c34 => ?_) (fun c34 => ?_)
      · simp [b2i_0] at c34
        refine a_iinc (v := ((nI j) + (-1))) (L' := [(4, .int ((nI j) + (-1))), (0, .ref B), (1, .int (nI y)), (2, .int (nI (rsT S N.1 y m))), (3, .int (odT S N.1 y m))]) hb dX11_takeWay_67 4 rfl rfl (by rw [hml]; decide) rfl ?_
        refine a_goto hb 15 dX11_takeWay_70 (by decide) ?_
        refine AW.sub (L' := [(0, .ref B), (1, .int (nI y)), (2, .int (nI (rsT S N.1 y m))), (3, .int (odT S N.1 y m)), (4, .int ((nI j) + (-1)))]) [1, 2, 3, 4, 0] rfl ?_
        have hl : ¬ S (162 + j) < 10 := by simpa using c34
        have e1 : rsT S N.1 y (m + 1) = rsT S N.1 y m := by rw [rsT, hm3, if_neg hl]
        have e2 : odT S N.1 y (m + 1) = odT S N.1 y m := by rw [odT, hm3, if_neg hl]
        exact AW.eq (ih hka (by omega) hFka (fun p h1_ h2_ => (Nat.lt_or_ge j p).elim (fun q => by rw [hWka p (by omega)]; exact iv p (by omega) h2_) (fun q => by rw [show p = j by omega, hVka, dyT, if_neg hl]; rfl))) rfl rfl (by rw [e1, e2, Int32.sub_eq_add_neg]) rfl
      · simp [b2i_0] at c34
        refine a_aload_n hb dX11_takeWay_37 rfl 0 rfl ?_
        refine a_getQ (q := (B + 50)) hb dX11_takeWay_38 (by rw [ow]; exact fl_RX11_50_11) (hCka.1.1.1 0 (by decide)) (hCka.1.1.2.1 (0, 9, 50) (by decide)) ?_
        refine a_iload hb dX11_takeWay_41 4 rfl ?_
        refine a_iload_n hb dX11_takeWay_43 rfl 2 rfl ?_
        refine a_iconst (v := 3) hb dX11_takeWay_44 (by decide) ?_
        refine a_irem hb dX11_takeWay_45 (by decide) ?_
        rw [show nI (rsT S N.1 y m) - nI (rsT S N.1 y m) / 3 * 3 = nI (rsT S N.1 y m % 3) from by rw [show (3 : Int32) = nI 3 from rfl, pk_rem (by omega) (by decide) (by decide)]]
        show AW V 0 0 hka 46 [(0, .ref B), (1, .int (nI y)), (2, .int (nI (rsT S N.1 y m))), (3, .int (odT S N.1 y m)), (4, .int (nI j))] [.int (nI (rsT S N.1 y m % 3)), .int (nI j), .ref (B + 50)]
        refine b_iast (j := j) hb dX11_takeWay_46 (hCka.1.1.1 50 (by decide)) (IX.n (by omega)) (by omega) ?_
        generalize eh : (setI hka (B + 50) j (nI (rsT S N.1 y m % 3))) = hkb
        have hFkb : FR (Xk B vq) h hkb := by rw [← eh]; exact (FR.I hFka (by unfold Xk; omega))
        have hWkb : ∀ p, p ≠ j → hI hkb (B + 50) p = hI hka (B + 50) p := fun p hp => by rw [← eh, hI_setI_s, upd_n hp]
        have hVkb : hI hkb (B + 50) j = (nI (rsT S N.1 y m % 3)) := by rw [← eh, hI_setI_s, upd_s]
        clear eh
        have hCkb : CX g hkb B vq lq hl S N P := hC.fr (FR.mo (A := Xk B vq) (A' := Ay B vq) hFkb (by intro a; unfold Xk Ay; omega))
        show AW V 0 0 hkb 47 [(0, .ref B), (1, .int (nI y)), (2, .int (nI (rsT S N.1 y m))), (3, .int (odT S N.1 y m)), (4, .int (nI j))] []
        refine a_iload_n hb dX11_takeWay_47 rfl 2 rfl ?_
        refine a_iconst (v := 3) hb dX11_takeWay_48 (by decide) ?_
        refine a_idiv hb dX11_takeWay_49 (by decide) ?_
        rw [show nI (rsT S N.1 y m) / 3 = nI (rsT S N.1 y m / 3) from by rw [show (3 : Int32) = nI 3 from rfl, pk_div (by omega) (by decide) (by decide)]]
        show AW V 0 0 hkb 50 [(0, .ref B), (1, .int (nI y)), (2, .int (nI (rsT S N.1 y m))), (3, .int (odT S N.1 y m)), (4, .int (nI j))] [.int (nI (rsT S N.1 y m / 3))]
        refine a_istore_n (L' := [(2, .int (nI (rsT S N.1 y m / 3))), (0, .ref B), (1, .int (nI y)), (3, .int (odT S N.1 y m)), (4, .int (nI j))]) hb dX11_takeWay_50 rfl (by rw [hml]; decide) rfl ?_
        refine a_iload_n hb dX11_takeWay_51 rfl 3 rfl ?_
        refine a_aload_n hb dX11_takeWay_52 rfl 1 rfl ?_
        refine a_iload hb dX11_takeWay_53 4 rfl ?_
        refine a_aload_n hb dX11_takeWay_55 rfl 1 rfl ?_
        refine a_getQ (q := (B + 50)) hb dX11_takeWay_56 (by rw [ow]; exact fl_RX11_50_11) (hCkb.1.1.1 0 (by decide)) (hCkb.1.1.2.1 (0, 9, 50) (by decide)) ?_
        refine a_iload hb dX11_takeWay_59 4 rfl ?_
        refine b_iald (j := j) hb dX11_takeWay_61 (hCkb.1.1.1 50 (by decide)) (IX.n (by omega)) (by omega) ?_
        rw [hVkb]
        show AW V 0 0 hkb 62 [(2, .int (nI (rsT S N.1 y m / 3))), (0, .ref B), (1, .int (nI y)), (3, .int (odT S N.1 y m)), (4, .int (nI j))] [.int (nI (rsT S N.1 y m % 3)), .int (nI j), .ref B, .int (odT S N.1 y m)]
        refine a_callV hb dX11_takeWay_62 (by rw [hg]; exact x_oddsOf g hkb B S N hCkb.1 j (by omega) (nI (rsT S N.1 y m % 3))) (by rw [ow]; exact clv_RX11_339) (hCkb.1.1.1 0 (by decide)) (by decide) rfl rfl rfl (Nat.le_of_ble_eq_true rfl) (by rw [hr]; exact ⟨by decide, by decide⟩) (by rw [hr]; exact ⟨Nat.le_of_ble_eq_true rfl, Nat.le_of_ble_eq_true rfl⟩) ?_
        intro rv h' hq_
        rw [hq_.1, hq_.2]
        show AW V 0 0 hkb 65 [(2, .int (nI (rsT S N.1 y m / 3))), (0, .ref B), (1, .int (nI y)), (3, .int (odT S N.1 y m)), (4, .int (nI j))] [.int (odS S j (nI (rsT S N.1 y m % 3))), .int (odT S N.1 y m)]
        refine a_imul hb dX11_takeWay_65 ?_
        refine a_istore_n (L' := [(3, .int ((odT S N.1 y m) * (odS S j (nI (rsT S N.1 y m % 3))))), (2, .int (nI (rsT S N.1 y m / 3))), (0, .ref B), (1, .int (nI y)), (4, .int (nI j))]) hb dX11_takeWay_66 rfl (by rw [hml]; decide) rfl ?_
        refine a_iinc (v := ((nI j) + (-1))) (L' := [(4, .int ((nI j) + (-1))), (3, .int ((odT S N.1 y m) * (odS S j (nI (rsT S N.1 y m % 3))))), (2, .int (nI (rsT S N.1 y m / 3))), (0, .ref B), (1, .int (nI y))]) hb dX11_takeWay_67 4 rfl rfl (by rw [hml]; decide) rfl ?_
        refine a_goto hb 15 dX11_takeWay_70 (by decide) ?_
        refine AW.sub (L' := [(0, .ref B), (1, .int (nI y)), (2, .int (nI (rsT S N.1 y m / 3))), (3, .int ((odT S N.1 y m) * (odS S j (nI (rsT S N.1 y m % 3))))), (4, .int ((nI j) + (-1)))]) [3, 4, 2, 1, 0] rfl ?_
        have hl : S (162 + j) < 10 := by simpa using c34
        have e1 : rsT S N.1 y (m + 1) = rsT S N.1 y m / 3 := by rw [rsT, hm3, if_pos hl]
        have e2 : odT S N.1 y (m + 1) = odT S N.1 y m * odS S j (nI (rsT S N.1 y m % 3)) := by rw [odT, hm3, if_pos hl]
        exact AW.eq (ih hkb (by omega) hFkb (fun p h1_ h2_ => (Nat.lt_or_ge j p).elim (fun q => by rw [hWkb p (by omega), hWka p (by omega)]; exact iv p (by omega) h2_) (fun q => by rw [show p = j by omega, hVkb, dyT, if_pos hl, hm4]))) rfl rfl (by rw [e1, e2, Int32.sub_eq_add_neg]) rfl
  refine AW.sub (L' := [(0, .ref B), (1, .int (nI y)), (2, .int (nI y)), (3, .int 1), (4, .int ((nI N.1) - 1))]) [3, 4, 2, 1, 0] rfl ?_
  exact AW.eq (loop N.1 h (Nat.le_refl _) FR.rf (fun p h1_ h2_ => absurd h2_ (Nat.not_lt.mpr h1_))) rfl rfl (by rw [Nat.sub_self]; rfl) rfl
