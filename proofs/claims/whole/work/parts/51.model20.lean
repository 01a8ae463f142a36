/-! ===== the model's clauses and laws ===== -/
def mpL (h : AH) (B a : Nat) (r : LR) : AH := mpH h B a r.2.1 r.1 0 r.2.2.1 r.2.2.2
theorem m_soA (g : GG) (h : AH) (B : Nat) (hL : LY h B) (a n : Nat) (ha : a < 5) (hac : hI h (B + 51) 4 = nI a) (he : hI h (B + 51) 6 = nI n) (hn : n ≤ 120) (H : Nat → Int32) (hH : H = hrT (fun i => hI h (B + 52) (10 + i)) n) (p : Nat) (w : Bool) (l : List Int32) (mo : Int32) (hp : p ≤ n) (hll : l.length ≤ p) : AM g 23 0 0 mX12_some [.ref (B + 51)] (mpH h B a p w 0 l mo) (fun rv h' => rv = none ∧ h' = mpG h B a 0 l mo (soP H 5 w p)) := by
  cases w with
  | true =>
    refine (m_soT23 g h B hL a n ha hac he hn H hH p 0 l mo hp).weak (fun v h' q => ⟨q.1, ?_⟩)
    rw [q.2]
    show _ = mpH h B a p true 0 (l ++ []) mo
    rw [List.append_nil]
  | false => exact m_so5 g h B hL a n ha hac he hn H hH p l mo hp hll
theorem muK {tx : Nat → Int32} {n : Nat} {H : Nat → Int32} (hH : H = hrT tx n) {c : Int32} (hc : c ≠ -1) {w : Bool} {p : Nat} : p ≤ (muP H c w p).2 := by subst hH; exact (muP_g hc).1
theorem spK {tx : Nat → Int32} {n : Nat} {H : Nat → Int32} (hH : H = hrT tx n) {l : List Int32} (hl : ∀ c ∈ l, c ≠ -1) {w : Bool} {p : Nat} : p ≤ (spS H l w p).2 := by subst hH; exact (spS_g l w p hl).1
theorem fgK {tx : Nat → Int32} {n : Nat} {H : Nat → Int32} (hH : H = hrT tx n) {w : Bool} {p : Nat} : p ≤ (fgP H w p).2.1 := by subst hH; exact fgP_g.1
set_option maxRecDepth 100000 in
theorem m_much4 (g : GG) (h : AH) (B : Nat) (hL : LY h B) (a n : Nat) (ha : a < 5) (hac : hI h (B + 51) 4 = nI a) (he : hI h (B + 51) 6 = nI n) (hn : n ≤ 120) (H : Nat → Int32) (hH : H = hrT (fun i => hI h (B + 52) (10 + i)) n) (p : Nat) (l : List Int32) (mo : Int32) (hp : p ≤ n) (hll : l.length ≤ p) : AM g 24 0 0 mX12_much [.ref (B + 51), .int (-10), .ref (gS g (2 + 4))] (mpH h B a p false 0 l mo) (fun rv h' => rv = none ∧ h' = mpL h B a ((mcS H wdD p).1, (mcS H wdD p).2.1, emL (mcS H wdD p).1 (l ++ (mcS H wdD p).2.2.1.map encM) ((-10) - nI (mcS H wdD p).2.2.2), mo)) := by
  refine AM.of [(0, .ref (B + 51)), (1, .int (-10)), (2, .ref (gS g (2 + 4)))] (by decide) (Nat.le_of_ble_eq_true rfl) rfl ?_
  intro V hV
  have hb : V.2.1.2.1 = cX12_much := by subst hV; rfl
  have ow : V.2.1.1.cls = RX12 := by subst hV; rfl
  have hr : V.2.2.1 = aw_rm 24 0 0 := by subst hV; rfl
  have hz : V.2.2.2 = aw_Z V.1 (fun rv h' => rv = none ∧ h' = mpL h B a ((mcS H wdD p).1, (mcS H wdD p).2.1, emL (mcS H wdD p).1 (l ++ (mcS H wdD p).2.2.1.map encM) ((-10) - nI (mcS H wdD p).2.2.2), mo)) V.2.2.1 := by subst hV; rfl
  have hg : V.1 = g := by subst hV; rfl
  have hret : V.2.1.2.2.2 = none := by subst hV; rfl
  have hml : V.2.1.2.2.1 = 4 := by subst hV; rfl
  clear hV
  rw [← hg]
  refine a_aload_n hb dX12_much_0 rfl 0 rfl ?_
  refine a_aload_n hb dX12_much_1 rfl 2 rfl ?_
  refine a_callV hb dX12_much_2 (by have z_ := m_spells4 g h B hL a n ha hac he hn H hH p 0 false l mo hp; rw [← hg] at z_; exact z_) (by rw [ow]; exact clv_RX12_117) ((LY.mp hL : LY (mpH h B a p false 0 l mo) B).1 51 (by decide)) (by decide) rfl rfl rfl (Nat.le_of_ble_eq_true rfl) (by rw [hr]; exact ⟨by decide, by decide⟩) (by rw [hr]; exact ⟨Nat.le_of_ble_eq_true rfl, Nat.le_of_ble_eq_true rfl⟩) ?_
  intro rv h' hp_
  rw [hp_.1, hp_.2]
  clear hp_ rv h'
  have gp1 := spG hH (l := wdD) (by decide) (w := false) hp
  have gk1 := spK hH (l := wdD) (by decide) (w := false) (p := p)
  generalize eQ1 : spS H wdD false p = q1_ at gp1 gk1 ⊢
  show AW V 0 0 (mpH h B a q1_.2 q1_.1 0 l mo) 5 [(0, .ref (B + 51)), (1, .int (-10)), (2, .ref (gS V.1 (2 + 4)))] []
  refine a_aload_n hb dX12_much_5 rfl 0 rfl ?_
  refine a_callV hb dX12_much_6 (by rw [hg]; exact m_figures g h B hL a n ha hac he hn H hH q1_.2 0 q1_.1 l mo gp1) (by rw [ow]; exact clv_RX12_111) ((LY.mp hL : LY (mpH h B a q1_.2 q1_.1 0 l mo) B).1 51 (by decide)) (by decide) rfl rfl rfl (Nat.le_of_ble_eq_true rfl) (by rw [hr]; exact ⟨by decide, by decide⟩) (by rw [hr]; exact ⟨Nat.le_of_ble_eq_true rfl, Nat.le_of_ble_eq_true rfl⟩) ?_
  intro rv h' hp_
  rw [hp_.1, hp_.2]
  clear hp_ rv h'
  have gp2 := fgG hH (w := q1_.1) gp1
  have gk2 := fgK hH (w := q1_.1) (p := q1_.2)
  generalize eQ2 : fgP H q1_.1 q1_.2 = q2_ at gp2 gk2 ⊢
  show AW V 0 0 (mpH h B a q2_.2.1 q2_.1 0 l mo) 9 [(0, .ref (B + 51)), (1, .int (-10)), (2, .ref (gS V.1 (2 + 4)))] [.int (nI q2_.2.2)]
  refine a_istore_n (L' := [(3, .int (nI q2_.2.2)), (0, .ref (B + 51)), (1, .int (-10)), (2, .ref (gS V.1 (2 + 4)))]) hb dX12_much_9 rfl (by rw [hml]; decide) rfl ?_
  refine a_aload_n hb dX12_much_10 rfl 1 rfl ?_
  refine a_bipush (v := 32) hb dX12_much_11 (by decide) ?_
  refine a_callV hb dX12_much_13 (by rw [hg]; exact m_must g h B hL a n ha hac he hn H hH q2_.2.1 0 q2_.1 l mo gp2 32) (by rw [ow]; exact clv_RX12_84) ((LY.mp hL : LY (mpH h B a q2_.2.1 q2_.1 0 l mo) B).1 51 (by decide)) (by decide) rfl rfl rfl (Nat.le_of_ble_eq_true rfl) (by rw [hr]; exact ⟨by decide, by decide⟩) (by rw [hr]; exact ⟨Nat.le_of_ble_eq_true rfl, Nat.le_of_ble_eq_true rfl⟩) ?_
  intro rv h' hp_
  rw [hp_.1, hp_.2]
  clear hp_ rv h'
  have gp3 := muG hH (c := 32) (by decide) (w := q2_.1) gp2
  have gk3 := muK hH (c := 32) (by decide) (w := q2_.1) (p := q2_.2.1)
  generalize eQ3 : muP H 32 q2_.1 q2_.2.1 = q3_ at gp3 gk3 ⊢
  show AW V 0 0 (mpH h B a q3_.2 q3_.1 0 l mo) 16 [(3, .int (nI q2_.2.2)), (0, .ref (B + 51)), (1, .int (-10)), (2, .ref (gS V.1 (2 + 4)))] []
  refine a_aload_n hb dX12_much_16 rfl 1 rfl ?_
  refine a_callV hb dX12_much_17 (by rw [hg]; exact m_soA g h B hL a n ha hac he hn H hH q3_.2 q3_.1 l mo gp3 (Nat.le_trans (Nat.le_trans (Nat.le_trans hll gk1) gk2) gk3)) (by rw [ow]; exact clv_RX12_100) ((LY.mp hL : LY (mpH h B a q3_.2 q3_.1 0 l mo) B).1 51 (by decide)) (by decide) rfl rfl rfl (Nat.le_of_ble_eq_true rfl) (by rw [hr]; exact ⟨by decide, by decide⟩) (by rw [hr]; exact ⟨Nat.le_of_ble_eq_true rfl, Nat.le_of_ble_eq_true rfl⟩) ?_
  intro rv h' hp_
  rw [hp_.1, hp_.2]
  clear hp_ rv h'
  have gp4 := soPgH hH 5 q3_.1 q3_.2
  have gk4 := hn
  generalize eQ4 : soP H 5 q3_.1 q3_.2 = q4_ at gp4 gk4 ⊢
  show AW V 0 0 (mpG h B a 0 l mo q4_) 20 [(3, .int (nI q2_.2.2)), (0, .ref (B + 51)), (1, .int (-10)), (2, .ref (gS V.1 (2 + 4)))] []
  show AW V 0 0 (mpH h B a q4_.2.1 q4_.1 0 (l ++ q4_.2.2.map encM) mo) 20 [(3, .int (nI q2_.2.2)), (0, .ref (B + 51)), (1, .int (-10)), (2, .ref (gS V.1 (2 + 4)))] []
  refine a_aload_n hb dX12_much_20 rfl 1 rfl ?_
  refine a_iload_n hb dX12_much_21 rfl 2 rfl ?_
  refine a_iload_n hb dX12_much_22 rfl 0 rfl ?_
  refine a_isub hb dX12_much_23 ?_
  refine a_callV hb dX12_much_24 (by rw [hg]; exact m_emits g h B hL a n ha hac he hn H hH q4_.2.1 0 q4_.1 (l ++ q4_.2.2.map encM) mo (gp4.2 gp3) ((-10) - (nI q2_.2.2)) (Nat.lt_of_le_of_lt (Nat.le_trans (gdl gp4 (Nat.le_trans (Nat.le_trans (Nat.le_trans hll gk1) gk2) gk3)) (Nat.le_trans (gp4.2 gp3) hn)) (by decide))) (by rw [ow]; exact clv_RX12_97) ((LY.mp hL : LY (mpH h B a q4_.2.1 q4_.1 0 (l ++ q4_.2.2.map encM) mo) B).1 51 (by decide)) (by decide) rfl rfl rfl (Nat.le_of_ble_eq_true rfl) (by rw [hr]; exact ⟨by decide, by decide⟩) (by rw [hr]; exact ⟨Nat.le_of_ble_eq_true rfl, Nat.le_of_ble_eq_true rfl⟩) ?_
  intro rv h' hp_
  rw [hp_.1, hp_.2]
  show AW V 0 0 (mpH h B a q4_.2.1 q4_.1 0 (emL q4_.1 (l ++ q4_.2.2.map encM) ((-10) - (nI q2_.2.2))) mo) 27 [(3, .int (nI q2_.2.2)), (0, .ref (B + 51)), (1, .int (-10)), (2, .ref (gS V.1 (2 + 4)))] []
  exact a_return hb hz dX12_much_27 hret (by rw [hr]; exact Nat.le_of_ble_eq_true rfl) (by rw [hr]; exact Nat.le_of_ble_eq_true rfl) (⟨rfl, by subst eQ4; subst eQ3; subst eQ2; subst eQ1; rfl⟩)
set_option maxRecDepth 100000 in
theorem m_much3 (g : GG) (h : AH) (B : Nat) (hL : LY h B) (a n : Nat) (ha : a < 5) (hac : hI h (B + 51) 4 = nI a) (he : hI h (B + 51) 6 = nI n) (hn : n ≤ 120) (H : Nat → Int32) (hH : H = hrT (fun i => hI h (B + 52) (10 + i)) n) (p : Nat) (l : List Int32) (mo : Int32) (hp : p ≤ n) (hll : l.length ≤ p) : AM g 24 0 0 mX12_much [.ref (B + 51), .int (-2000), .ref (gS g (2 + 3))] (mpH h B a p false 0 l mo) (fun rv h' => rv = none ∧ h' = mpL h B a ((mcS H wdE p).1, (mcS H wdE p).2.1, emL (mcS H wdE p).1 (l ++ (mcS H wdE p).2.2.1.map encM) ((-2000) - nI (mcS H wdE p).2.2.2), mo)) := by
  refine AM.of [(0, .ref (B + 51)), (1, .int (-2000)), (2, .ref (gS g (2 + 3)))] (by decide) (Nat.le_of_ble_eq_true rfl) rfl ?_
  intro V hV
  have hb : V.2.1.2.1 = cX12_much := by subst hV; rfl
  have ow : V.2.1.1.cls = RX12 := by subst hV; rfl
  have hr : V.2.2.1 = aw_rm 24 0 0 := by subst hV; rfl
  have hz : V.2.2.2 = aw_Z V.1 (fun rv h' => rv = none ∧ h' = mpL h B a ((mcS H wdE p).1, (mcS H wdE p).2.1, emL (mcS H wdE p).1 (l ++ (mcS H wdE p).2.2.1.map encM) ((-2000) - nI (mcS H wdE p).2.2.2), mo)) V.2.2.1 := by subst hV; rfl
  have hg : V.1 = g := by subst hV; rfl
  have hret : V.2.1.2.2.2 = none := by subst hV; rfl
  have hml : V.2.1.2.2.1 = 4 := by subst hV; rfl
  clear hV
  rw [← hg]
  refine a_aload_n hb dX12_much_0 rfl 0 rfl ?_
  refine a_aload_n hb dX12_much_1 rfl 2 rfl ?_
  refine a_callV hb dX12_much_2 (by have z_ := m_spells3 g h B hL a n ha hac he hn H hH p 0 false l mo hp; rw [← hg] at z_; exact z_) (by rw [ow]; exact clv_RX12_117) ((LY.mp hL : LY (mpH h B a p false 0 l mo) B).1 51 (by decide)) (by decide) rfl rfl rfl (Nat.le_of_ble_eq_true rfl) (by rw [hr]; exact ⟨by decide, by decide⟩) (by rw [hr]; exact ⟨Nat.le_of_ble_eq_true rfl, Nat.le_of_ble_eq_true rfl⟩) ?_
  intro rv h' hp_
  rw [hp_.1, hp_.2]
  clear hp_ rv h'
  have gp1 := spG hH (l := wdE) (by decide) (w := false) hp
  have gk1 := spK hH (l := wdE) (by decide) (w := false) (p := p)
  generalize eQ1 : spS H wdE false p = q1_ at gp1 gk1 ⊢
  show AW V 0 0 (mpH h B a q1_.2 q1_.1 0 l mo) 5 [(0, .ref (B + 51)), (1, .int (-2000)), (2, .ref (gS V.1 (2 + 3)))] []
  refine a_aload_n hb dX12_much_5 rfl 0 rfl ?_
  refine a_callV hb dX12_much_6 (by rw [hg]; exact m_figures g h B hL a n ha hac he hn H hH q1_.2 0 q1_.1 l mo gp1) (by rw [ow]; exact clv_RX12_111) ((LY.mp hL : LY (mpH h B a q1_.2 q1_.1 0 l mo) B).1 51 (by decide)) (by decide) rfl rfl rfl (Nat.le_of_ble_eq_true rfl) (by rw [hr]; exact ⟨by decide, by decide⟩) (by rw [hr]; exact ⟨Nat.le_of_ble_eq_true rfl, Nat.le_of_ble_eq_true rfl⟩) ?_
  intro rv h' hp_
  rw [hp_.1, hp_.2]
  clear hp_ rv h'
  have gp2 := fgG hH (w := q1_.1) gp1
  have gk2 := fgK hH (w := q1_.1) (p := q1_.2)
  generalize eQ2 : fgP H q1_.1 q1_.2 = q2_ at gp2 gk2 ⊢
  show AW V 0 0 (mpH h B a q2_.2.1 q2_.1 0 l mo) 9 [(0, .ref (B + 51)), (1, .int (-2000)), (2, .ref (gS V.1 (2 + 3)))] [.int (nI q2_.2.2)]
  refine a_istore_n (L' := [(3, .int (nI q2_.2.2)), (0, .ref (B + 51)), (1, .int (-2000)), (2, .ref (gS V.1 (2 + 3)))]) hb dX12_much_9 rfl (by rw [hml]; decide) rfl ?_
  refine a_aload_n hb dX12_much_10 rfl 1 rfl ?_
  refine a_bipush (v := 32) hb dX12_much_11 (by decide) ?_
  refine a_callV hb dX12_much_13 (by rw [hg]; exact m_must g h B hL a n ha hac he hn H hH q2_.2.1 0 q2_.1 l mo gp2 32) (by rw [ow]; exact clv_RX12_84) ((LY.mp hL : LY (mpH h B a q2_.2.1 q2_.1 0 l mo) B).1 51 (by decide)) (by decide) rfl rfl rfl (Nat.le_of_ble_eq_true rfl) (by rw [hr]; exact ⟨by decide, by decide⟩) (by rw [hr]; exact ⟨Nat.le_of_ble_eq_true rfl, Nat.le_of_ble_eq_true rfl⟩) ?_
  intro rv h' hp_
  rw [hp_.1, hp_.2]
  clear hp_ rv h'
  have gp3 := muG hH (c := 32) (by decide) (w := q2_.1) gp2
  have gk3 := muK hH (c := 32) (by decide) (w := q2_.1) (p := q2_.2.1)
  generalize eQ3 : muP H 32 q2_.1 q2_.2.1 = q3_ at gp3 gk3 ⊢
  show AW V 0 0 (mpH h B a q3_.2 q3_.1 0 l mo) 16 [(3, .int (nI q2_.2.2)), (0, .ref (B + 51)), (1, .int (-2000)), (2, .ref (gS V.1 (2 + 3)))] []
  refine a_aload_n hb dX12_much_16 rfl 1 rfl ?_
  refine a_callV hb dX12_much_17 (by rw [hg]; exact m_soA g h B hL a n ha hac he hn H hH q3_.2 q3_.1 l mo gp3 (Nat.le_trans (Nat.le_trans (Nat.le_trans hll gk1) gk2) gk3)) (by rw [ow]; exact clv_RX12_100) ((LY.mp hL : LY (mpH h B a q3_.2 q3_.1 0 l mo) B).1 51 (by decide)) (by decide) rfl rfl rfl (Nat.le_of_ble_eq_true rfl) (by rw [hr]; exact ⟨by decide, by decide⟩) (by rw [hr]; exact ⟨Nat.le_of_ble_eq_true rfl, Nat.le_of_ble_eq_true rfl⟩) ?_
  intro rv h' hp_
  rw [hp_.1, hp_.2]
  clear hp_ rv h'
  have gp4 := soPgH hH 5 q3_.1 q3_.2
  have gk4 := hn
  generalize eQ4 : soP H 5 q3_.1 q3_.2 = q4_ at gp4 gk4 ⊢
  show AW V 0 0 (mpG h B a 0 l mo q4_) 20 [(3, .int (nI q2_.2.2)), (0, .ref (B + 51)), (1, .int (-2000)), (2, .ref (gS V.1 (2 + 3)))] []
  show AW V 0 0 (mpH h B a q4_.2.1 q4_.1 0 (l ++ q4_.2.2.map encM) mo) 20 [(3, .int (nI q2_.2.2)), (0, .ref (B + 51)), (1, .int (-2000)), (2, .ref (gS V.1 (2 + 3)))] []
  refine a_aload_n hb dX12_much_20 rfl 1 rfl ?_
  refine a_iload_n hb dX12_much_21 rfl 2 rfl ?_
  refine a_iload_n hb dX12_much_22 rfl 0 rfl ?_
  refine a_isub hb dX12_much_23 ?_
  refine a_callV hb dX12_much_24 (by rw [hg]; exact m_emits g h B hL a n ha hac he hn H hH q4_.2.1 0 q4_.1 (l ++ q4_.2.2.map encM) mo (gp4.2 gp3) ((-2000) - (nI q2_.2.2)) (Nat.lt_of_le_of_lt (Nat.le_trans (gdl gp4 (Nat.le_trans (Nat.le_trans (Nat.le_trans hll gk1) gk2) gk3)) (Nat.le_trans (gp4.2 gp3) hn)) (by decide))) (by rw [ow]; exact clv_RX12_97) ((LY.mp hL : LY (mpH h B a q4_.2.1 q4_.1 0 (l ++ q4_.2.2.map encM) mo) B).1 51 (by decide)) (by decide) rfl rfl rfl (Nat.le_of_ble_eq_true rfl) (by rw [hr]; exact ⟨by decide, by decide⟩) (by rw [hr]; exact ⟨Nat.le_of_ble_eq_true rfl, Nat.le_of_ble_eq_true rfl⟩) ?_
  intro rv h' hp_
  rw [hp_.1, hp_.2]
  show AW V 0 0 (mpH h B a q4_.2.1 q4_.1 0 (emL q4_.1 (l ++ q4_.2.2.map encM) ((-2000) - (nI q2_.2.2))) mo) 27 [(3, .int (nI q2_.2.2)), (0, .ref (B + 51)), (1, .int (-2000)), (2, .ref (gS V.1 (2 + 3)))] []
  exact a_return hb hz dX12_much_27 hret (by rw [hr]; exact Nat.le_of_ble_eq_true rfl) (by rw [hr]; exact Nat.le_of_ble_eq_true rfl) (⟨rfl, by subst eQ4; subst eQ3; subst eQ2; subst eQ1; rfl⟩)
set_option maxRecDepth 100000 in
theorem m_clauseHere (g : GG) (h : AH) (B : Nat) (hL : LY h B) (a n : Nat) (ha : a < 5) (hac : hI h (B + 51) 4 = nI a) (he : hI h (B + 51) 6 = nI n) (hn : n ≤ 120) (H : Nat → Int32) (hH : H = hrT (fun i => hI h (B + 52) (10 + i)) n) (p : Nat) (l : List Int32) (mo : Int32) (hp : p ≤ n) (hll : l.length ≤ p) : AM g 25 0 0 mX12_clauseHere [.ref (B + 51)] (mpH h B a p false 0 l mo) (fun rv h' => rv = none ∧ h' = mpL h B a (clP H p l mo)) := by
  refine AM.of [(0, .ref (B + 51))] (by decide) (Nat.le_of_ble_eq_true rfl) rfl ?_
  intro V hV
  have hb : V.2.1.2.1 = cX12_clauseHere := by subst hV; rfl
  have ow : V.2.1.1.cls = RX12 := by subst hV; rfl
  have hr : V.2.2.1 = aw_rm 25 0 0 := by subst hV; rfl
  have hz : V.2.2.2 = aw_Z V.1 (fun rv h' => rv = none ∧ h' = mpL h B a (clP H p l mo)) V.2.2.1 := by subst hV; rfl
  have hg : V.1 = g := by subst hV; rfl
  have hret : V.2.1.2.2.2 = none := by subst hV; rfl
  have hml : V.2.1.2.2.1 = 2 := by subst hV; rfl
  clear hV
  refine a_aload_n hb dX12_clauseHere_0 rfl 0 rfl ?_
  refine a_callV hb dX12_clauseHere_1 (by rw [hg]; exact m_here g h B hL a n ha hac he hn H hH p 0 false l mo hp) (by rw [ow]; exact clv_RX12_71) ((LY.mp hL : LY (mpH h B a p false 0 l mo) B).1 51 (by decide)) (by decide) rfl rfl rfl (Nat.le_of_ble_eq_true rfl) (by rw [hr]; exact ⟨by decide, by decide⟩) (by rw [hr]; exact ⟨Nat.le_of_ble_eq_true rfl, Nat.le_of_ble_eq_true rfl⟩) ?_
  intro rv h' hp_
  rw [hp_.1, hp_.2]
  show AW V 0 0 (mpH h B a p false 0 l mo) 4 [(0, .ref (B + 51))] [.int (H p)]
  by_cases q4_100 : (H p) = 100
  · refine a_lookup (off := 36) hb 40 dX12_clauseHere_4 (by decide) (by rw [q4_100]; decide) (by decide) ?_
    refine a_aload_n hb dX12_clauseHere_40 rfl 0 rfl ?_
    refine a_bipush (v := (-10)) hb dX12_clauseHere_41 (by decide) ?_
    refine a_ldcS (i := 4) hb dX12_clauseHere_43 (by rw [ow]; exact List.mem_of_getElem? (i := 9) rfl) ?_
    refine a_callV hb dX12_clauseHere_45 (by have z_ := m_much4 g h B hL a n ha hac he hn H hH p l mo hp hll; rw [← hg] at z_; exact z_) (by rw [ow]; exact clv_RX12_123) ((LY.mp hL : LY (mpH h B a p false 0 l mo) B).1 51 (by decide)) (by decide) rfl rfl rfl (Nat.le_of_ble_eq_true rfl) (by rw [hr]; exact ⟨by decide, by decide⟩) (by rw [hr]; exact ⟨Nat.le_of_ble_eq_true rfl, Nat.le_of_ble_eq_true rfl⟩) ?_
    intro rv h' hp_
    rw [hp_.1, hp_.2]
    show AW V 0 0 _ 48 [(0, .ref (B + 51))] []
    refine a_goto hb 119 dX12_clauseHere_48 (by decide) ?_
    exact a_return hb hz dX12_clauseHere_119 hret (by rw [hr]; exact Nat.le_of_ble_eq_true rfl) (by rw [hr]; exact Nat.le_of_ble_eq_true rfl) (⟨rfl, by rw [clP, if_pos q4_100]⟩)
  by_cases q4_101 : (H p) = 101
  · refine a_lookup (off := 47) hb 51 dX12_clauseHere_4 (by decide) (by rw [q4_101]; decide) (by decide) ?_
    refine a_aload_n hb dX12_clauseHere_51 rfl 0 rfl ?_
    refine a_sipush (v := (-2000)) hb dX12_clauseHere_52 (by decide) ?_
    refine a_ldcS (i := 3) hb dX12_clauseHere_55 (by rw [ow]; exact List.mem_of_getElem? (i := 8) rfl) ?_
    refine a_callV hb dX12_clauseHere_57 (by have z_ := m_much3 g h B hL a n ha hac he hn H hH p l mo hp hll; rw [← hg] at z_; exact z_) (by rw [ow]; exact clv_RX12_123) ((LY.mp hL : LY (mpH h B a p false 0 l mo) B).1 51 (by decide)) (by decide) rfl rfl rfl (Nat.le_of_ble_eq_true rfl) (by rw [hr]; exact ⟨by decide, by decide⟩) (by rw [hr]; exact ⟨Nat.le_of_ble_eq_true rfl, Nat.le_of_ble_eq_true rfl⟩) ?_
    intro rv h' hp_
    rw [hp_.1, hp_.2]
    show AW V 0 0 _ 60 [(0, .ref (B + 51))] []
    refine a_goto hb 119 dX12_clauseHere_60 (by decide) ?_
    exact a_return hb hz dX12_clauseHere_119 hret (by rw [hr]; exact Nat.le_of_ble_eq_true rfl) (by rw [hr]; exact Nat.le_of_ble_eq_true rfl) (⟨rfl, by rw [clP, if_neg (by rw [q4_101]; decide), if_pos q4_101]⟩)
  by_cases q4_109 : (H p) = 109
  · refine a_lookup (off := 59) hb 63 dX12_clauseHere_4 (by decide) (by rw [q4_109]; decide) (by decide) ?_
    refine a_aload_n hb dX12_clauseHere_63 rfl 0 rfl ?_
    refine a_ldcS (i := 2) hb dX12_clauseHere_64 (by rw [ow]; exact List.mem_of_getElem? (i := 7) rfl) ?_
    refine a_callV hb dX12_clauseHere_66 (by have z_ := m_spells2 g h B hL a n ha hac he hn H hH p 0 false l mo hp; rw [← hg] at z_; exact z_) (by rw [ow]; exact clv_RX12_117) ((LY.mp hL : LY (mpH h B a p false 0 l mo) B).1 51 (by decide)) (by decide) rfl rfl rfl (Nat.le_of_ble_eq_true rfl) (by rw [hr]; exact ⟨by decide, by decide⟩) (by rw [hr]; exact ⟨Nat.le_of_ble_eq_true rfl, Nat.le_of_ble_eq_true rfl⟩) ?_
    intro rv h' hp_
    rw [hp_.1, hp_.2]
    clear hp_ rv h'
    have gp1 := spG hH (l := wdM) (by decide) (w := false) hp
    have gk1 := spK hH (l := wdM) (by decide) (w := false) (p := p)
    generalize eQ1 : spS H wdM false p = q1_ at gp1 gk1 ⊢
    show AW V 0 0 (mpH h B a q1_.2 q1_.1 0 l mo) 69 [(0, .ref (B + 51))] []
    refine a_aload_n hb dX12_clauseHere_69 rfl 0 rfl ?_
    refine a_callV hb dX12_clauseHere_70 (by rw [hg]; exact m_figures g h B hL a n ha hac he hn H hH q1_.2 0 q1_.1 l mo gp1) (by rw [ow]; exact clv_RX12_111) ((LY.mp hL : LY (mpH h B a q1_.2 q1_.1 0 l mo) B).1 51 (by decide)) (by decide) rfl rfl rfl (Nat.le_of_ble_eq_true rfl) (by rw [hr]; exact ⟨by decide, by decide⟩) (by rw [hr]; exact ⟨Nat.le_of_ble_eq_true rfl, Nat.le_of_ble_eq_true rfl⟩) ?_
    intro rv h' hp_
    rw [hp_.1, hp_.2]
    clear hp_ rv h'
    have gp2 := fgG hH (w := q1_.1) gp1
    have gk2 := fgK hH (w := q1_.1) (p := q1_.2)
    generalize eQ2 : fgP H q1_.1 q1_.2 = q2_ at gp2 gk2 ⊢
    show AW V 0 0 (mpH h B a q2_.2.1 q2_.1 0 l mo) 73 [(0, .ref (B + 51))] [.int (nI q2_.2.2)]
    refine a_istore_n (L' := [(1, .int (nI q2_.2.2)), (0, .ref (B + 51))]) hb dX12_clauseHere_73 rfl (by rw [hml]; decide) rfl ?_
    refine a_aload_n hb dX12_clauseHere_74 rfl 1 rfl ?_
    refine a_getQ (q := (B + 52)) hb dX12_clauseHere_75 (by rw [ow]; exact fl_RX12_9_12) ((LY.mp hL : LY (mpH h B a q2_.2.1 q2_.1 0 l mo) B).1 51 (by decide)) ((LY.mp hL : LY (mpH h B a q2_.2.1 q2_.1 0 l mo) B).2.1 (51, 1, 52) (by decide)) ?_
    refine a_sipush (v := 208) hb dX12_clauseHere_78 (by decide) ?_
    refine a_aload_n hb dX12_clauseHere_81 rfl 1 rfl ?_
    refine a_getI hb dX12_clauseHere_82 (by rw [ow]; exact fl_RX12_88_12) ((LY.mp hL : LY (mpH h B a q2_.2.1 q2_.1 0 l mo) B).1 51 (by decide)) ?_
    rw [mp_f4, hac]
    show AW V 0 0 (mpH h B a q2_.2.1 q2_.1 0 l mo) 85 [(1, .int (nI q2_.2.2)), (0, .ref (B + 51))] [.int (nI a), .int 208, .ref (B + 52)]
    refine a_iadd hb dX12_clauseHere_85 ?_
    refine a_aload_n hb dX12_clauseHere_86 rfl 1 rfl ?_
    refine a_getI hb dX12_clauseHere_87 (by rw [ow]; exact fl_RX12_67_12) ((LY.mp hL : LY (mpH h B a q2_.2.1 q2_.1 0 l mo) B).1 51 (by decide)) ?_
    rw [mp_f7]
    show AW V 0 0 (mpH h B a q2_.2.1 q2_.1 0 l mo) 90 [(1, .int (nI q2_.2.2)), (0, .ref (B + 51))] [.int (b2i q2_.1), .int (208 + (nI a)), .ref (B + 52)]
    refine a_if_eq hb 109 dX12_clauseHere_90 (by decide) (fun c90 => ?_) (fun c90 => ?_)
    · simp [b2i_0] at c90
      refine a_iload_n hb dX12_clauseHere_109 rfl 0 rfl ?_
      refine b_iast (j := (208 + a)) hb dX12_clauseHere_110 ((LY.mp hL : LY (mpH h B a q2_.2.1 q2_.1 0 l mo) B).1 52 (by decide)) (IX.add ⟨by decide, by decide⟩ (IX.n (by omega)) (by omega)) (by omega) ?_
      rw [mp_m]
      show AW V 0 0 (mpH h B a q2_.2.1 q2_.1 0 l (nI q2_.2.2)) 111 [(1, .int (nI q2_.2.2)), (0, .ref (B + 51))] []
      refine a_goto hb 119 dX12_clauseHere_111 (by decide) ?_
      exact a_return hb hz dX12_clauseHere_119 hret (by rw [hr]; exact Nat.le_of_ble_eq_true rfl) (by rw [hr]; exact Nat.le_of_ble_eq_true rfl) (⟨rfl, by rw [clP, if_neg (by rw [q4_109]; decide), if_neg (by rw [q4_109]; decide), if_pos q4_109]; subst eQ2; subst eQ1; unfold moS; simp only [c90]; rfl⟩)
    · simp [b2i_0] at c90
      refine a_aload_n hb dX12_clauseHere_93 rfl 1 rfl ?_
      refine a_getQ (q := (B + 52)) hb dX12_clauseHere_94 (by rw [ow]; exact fl_RX12_9_12) ((LY.mp hL : LY (mpH h B a q2_.2.1 q2_.1 0 l mo) B).1 51 (by decide)) ((LY.mp hL : LY (mpH h B a q2_.2.1 q2_.1 0 l mo) B).2.1 (51, 1, 52) (by decide)) ?_
      refine a_sipush (v := 208) hb dX12_clauseHere_97 (by decide) ?_
      refine a_aload_n hb dX12_clauseHere_100 rfl 1 rfl ?_
      refine a_getI hb dX12_clauseHere_101 (by rw [ow]; exact fl_RX12_88_12) ((LY.mp hL : LY (mpH h B a q2_.2.1 q2_.1 0 l mo) B).1 51 (by decide)) ?_
      rw [mp_f4, hac]
      show AW V 0 0 (mpH h B a q2_.2.1 q2_.1 0 l mo) 104 [(1, .int (nI q2_.2.2)), (0, .ref (B + 51))] [.int (nI a), .int 208, .ref (B + 52), .int (208 + (nI a)), .ref (B + 52)]
      refine a_iadd hb dX12_clauseHere_104 ?_
      refine b_iald (j := (208 + a)) hb dX12_clauseHere_105 ((LY.mp hL : LY (mpH h B a q2_.2.1 q2_.1 0 l mo) B).1 52 (by decide)) (IX.add ⟨by decide, by decide⟩ (IX.n (by omega)) (by omega)) (by omega) ?_
      rw [mp_2, mpR_08]
      show AW V 0 0 (mpH h B a q2_.2.1 q2_.1 0 l mo) 106 [(1, .int (nI q2_.2.2)), (0, .ref (B + 51))] [.int mo, .int (208 + (nI a)), .ref (B + 52)]
      refine a_goto hb 110 dX12_clauseHere_106 (by decide) ?_
      refine b_iast (j := (208 + a)) hb dX12_clauseHere_110 ((LY.mp hL : LY (mpH h B a q2_.2.1 q2_.1 0 l mo) B).1 52 (by decide)) (IX.add ⟨by decide, by decide⟩ (IX.n (by omega)) (by omega)) (by omega) ?_
      rw [mp_m]
      show AW V 0 0 (mpH h B a q2_.2.1 q2_.1 0 l mo) 111 [(1, .int (nI q2_.2.2)), (0, .ref (B + 51))] []
      refine a_goto hb 119 dX12_clauseHere_111 (by decide) ?_
      exact a_return hb hz dX12_clauseHere_119 hret (by rw [hr]; exact Nat.le_of_ble_eq_true rfl) (by rw [hr]; exact Nat.le_of_ble_eq_true rfl) (⟨rfl, by rw [clP, if_neg (by rw [q4_109]; decide), if_neg (by rw [q4_109]; decide), if_pos q4_109]; subst eQ2; subst eQ1; unfold moS; simp only [c90]; rfl⟩)
  refine a_lookup (off := 110) hb 114 dX12_clauseHere_4 (by decide) (by have z100 := lv_neT (k := 100) (a := 100) q4_100 (by decide); have z101 := lv_neT (k := 101) (a := 101) q4_101 (by decide); have z109 := lv_neT (k := 109) (a := 109) q4_109 (by decide); simp [Op.lookupswitch.offset]; omega) (by decide) ?_
  refine a_aload_n hb dX12_clauseHere_114 rfl 0 rfl ?_
  refine a_iconst (v := 1) hb dX12_clauseHere_115 (by decide) ?_
  refine a_putI (fty := .boolean) hb dX12_clauseHere_116 (by rw [ow]; exact fp_RX12_67_12) (Or.inr (fun C T N hq => by cases hq; rfl)) ((LY.mp hL : LY (mpH h B a p false 0 l mo) B).1 51 (by decide)) rfl rfl ?_
  rw [mp_7 (q := true) (v := 1) rfl]
  show AW V 0 0 (mpH h B a p true 0 l mo) 119 [(0, .ref (B + 51))] []
  exact a_return hb hz dX12_clauseHere_119 hret (by rw [hr]; exact Nat.le_of_ble_eq_true rfl) (by rw [hr]; exact Nat.le_of_ble_eq_true rfl) (⟨rfl, by rw [clP, if_neg q4_100, if_neg q4_101, if_neg q4_109]; rfl⟩)
