/-! ===== the model's clauses and laws ===== -/
def mpL (h : AH) (B a : Nat) (r : LR) : AH := mpH h B a r.2.1 r.1 0 r.2.2.1 r.2.2.2
theorem m_soA (g : GG) (h : AH) (B : Nat) (hL : LY h B) (a n : Nat) (ha : a < 5) (hac : hI h (B + 51) 4 = nI a) (he : hI h (B + 51) 6 = nI n) (hn : n ≤ 120) (H : Nat → Int32) (hH : H = hrT (fun i => hI h (B + 52) (10 + i)) n) (p : Nat) (w : Bool) (l : List Int32) (mo : Int32) (hp : p ≤ n) (hll : l.length ≤ p) : AM g 23 0 0 mX12_some [.ref (B + 51)] (mpH h B a p w 0 l mo) (fun rv h' => rv = none ∧ h' = mpG h B a 0 l mo (soP H 5 w p)) := by
  cases w with
  | true =>
    refine (m_soT23 g h B hL a n ha hac he hn H hH p 0 l mo hp).weak (fun v h' q => ⟨q.1, ?_⟩)
    rw [q.2]
    show _ = mpH h B a p true 0 (l ++ []) mo
    rw [List.append_nil]
  | false => exact m_so5 g h B hL a n ha hac he hn H hH p l mo hp hll
theorem muK {tx : Nat → Int32} {n : Nat} {H : Nat → Int32} (hH : H = hrT tx n) {c : Int32} (hc : c ≠ -1) {w : Bool} {p : Nat} : p ≤ (muP H c w p).2 := by subst hH; exact (muP_g hc).1
theorem spK {tx : Nat → Int32} {n : Nat} {H : Nat → Int32} (hH : H = hrT tx n) {l : List Int32} (hl : ∀ c ∈ l, c ≠ -1) {w : Bool} {p : Nat} : p ≤ (spS H l w p).2 := by subst hH; exact (spS_g l w p hl).1
theorem fgK {tx : Nat → Int32} {n : Nat} {H : Nat → Int32} (hH : H = hrT tx n) {w : Bool} {p : Nat} : p ≤ (fgP H w p).2.1 := by subst hH; exact fgP_g.1
set_option maxRecDepth 100000 in
theorem m_much4 (g : GG) (h : AH) (B : Nat) (hL : LY h B) (a n : Nat) (ha : a < 5) (hac : hI h (B + 51) 4 = nI a) (he : hI h (B + 51) 6 = nI n) (hn : n ≤ 120) (H : Nat → Int32) (hH : H = hrT (fun i => hI h (B + 52) (10 + i)) n) (p : Nat) (l : List Int32) (mo : Int32) (hp : p ≤ n) (hll : l.length ≤ p) : AM g 24 0 0 mX12_much [.ref (B + 51), .int (-10), .ref (gS g (2 + 4))] (mpH h B a p false 0 l mo) (fun rv h' => rv = none ∧ h' = mpL h B a ((mcS H wdD p).1, (mcS H wdD p).2.1, emL (mcS H wdD p).1 (l ++ (mcS H wdD p).2.2.1.map encM) ((-10) - nI (mcS H wdD p).2.2.2), mo)) := by
  refine AM.of [(0, .ref (B + 51)), (1, .int (-10)), (2, .ref (gS g (2 + 4)))] (by decide) (Nat.le_of_ble_eq_true rfl) rfl ?_
  intro V hV
  have hb : V.2.1.2.1 = cX12_much := by subst hV; rfl
  have ow : V.2.1.1.cls = RX12 := by subst hV; rfl
  have hr : V.2.2.1 = aw_rm 24 0 0 := by subst hV; rfl
  have hz : V.2.2.2 = aw_Z V.1 (fun rv h' => rv = none ∧ h' = mpL h B a ((mcS H wdD p).1, (mcS H wdD p).2.1, emL (mcS H wdD p).1 (l ++ (mcS H wdD p).2.2.1.map encM) ((-10) - nI (mcS H wdD p).2.2.2), mo)) V.2.2.1 := by subst hV; rfl
  have hg : V.1 = g := by subst hV; rfl
  have hret : V.2.1.2.2.2 = none := by subst hV; rfl
  have hml : V.2.1.2.2.1 = 4 := by subst hV; rfl
  clear hV
  rw [← hg]
  refine a_aload_n hb dX12_much_0 rfl 0 rfl ?_
  refine a_aload_n hb dX12_much_1 rfl 2 rfl ?_
  refine a_callV hb dX12_much_2 (by have z_ := m_spells4 g h B hL a n ha hac he hn H hH p 0 false l mo hp; rw [← hg] at z_; exact z_) (by rw [ow]; exact clv_RX12_117) ((LY.mp hL : LY (mpH h B a p false 0 l mo) B).1 51 (by decide)) (by decide) rfl rfl rfl (Nat.le_of_ble_eq_true rfl) (by rw [hr]; exact ⟨by decide, by decide⟩) (by rw [hr]; exact ⟨Nat.le_of_ble_eq_true rfl, Nat.le_of_ble_eq_true rfl⟩) ?_
  intro rv h' hp_
  rw [hp_.1, hp_.2]
  show AW V 0 0 (mpH h B a ((spS H wdD false p).2) ((spS H wdD false p).1) 0 l mo) 5 [(0, .ref (B + 51)), (1, .int (-10)), (2, .ref (gS V.1 (2 + 4)))] []
  refine a_aload_n hb dX12_much_5 rfl 0 rfl ?_
  refine a_callV hb dX12_much_6 (by rw [hg]; exact m_figures g h B hL a n ha hac he hn H hH ((spS H wdD false p).2) 0 ((spS H wdD false p).1) l mo (spG hH (l := wdD) (by decide) (w := false) hp)) (by rw [ow]; exact clv_RX12_111) ((LY.mp hL : LY (mpH h B a ((spS H wdD false p).2) ((spS H wdD false p).1) 0 l mo) B).1 51 (by decide)) (by decide) rfl rfl rfl (Nat.le_of_ble_eq_true rfl) (by rw [hr]; exact ⟨by decide, by decide⟩) (by rw [hr]; exact ⟨Nat.le_of_ble_eq_true rfl, Nat.le_of_ble_eq_true rfl⟩) ?_
  intro rv h' hp_
  rw [hp_.1, hp_.2]
  show AW V 0 0 (mpH h B a ((fgP H ((spS H wdD false p).1) ((spS H wdD false p).2)).2.1) ((fgP H ((spS H wdD false p).1) ((spS H wdD false p).2)).1) 0 l mo) 9 [(0, .ref (B + 51)), (1, .int (-10)), (2, .ref (gS V.1 (2 + 4)))] [.int (nI (fgP H ((spS H wdD false p).1) ((spS H wdD false p).2)).2.2)]
  refine a_istore_n (L' := [(3, .int (nI (fgP H ((spS H wdD false p).1) ((spS H wdD false p).2)).2.2)), (0, .ref (B + 51)), (1, .int (-10)), (2, .ref (gS V.1 (2 + 4)))]) hb dX12_much_9 rfl (by rw [hml]; decide) rfl ?_
  refine a_aload_n hb dX12_much_10 rfl 1 rfl ?_
  refine a_bipush (v := 32) hb dX12_much_11 (by decide) ?_
  refine a_callV hb dX12_much_13 (by rw [hg]; exact m_must g h B hL a n ha hac he hn H hH ((fgP H ((spS H wdD false p).1) ((spS H wdD false p).2)).2.1) 0 ((fgP H ((spS H wdD false p).1) ((spS H wdD false p).2)).1) l mo (fgG hH (w := (spS H wdD false p).1) (spG hH (l := wdD) (by decide) (w := false) hp)) 32) (by rw [ow]; exact clv_RX12_84) ((LY.mp hL : LY (mpH h B a ((fgP H ((spS H wdD false p).1) ((spS H wdD false p).2)).2.1) ((fgP H ((spS H wdD false p).1) ((spS H wdD false p).2)).1) 0 l mo) B).1 51 (by decide)) (by decide) rfl rfl rfl (Nat.le_of_ble_eq_true rfl) (by rw [hr]; exact ⟨by decide, by decide⟩) (by rw [hr]; exact ⟨Nat.le_of_ble_eq_true rfl, Nat.le_of_ble_eq_true rfl⟩) ?_
  intro rv h' hp_
  rw [hp_.1, hp_.2]
  show AW V 0 0 (mpH h B a ((muP H 32 ((fgP H ((spS H wdD false p).1) ((spS H wdD false p).2)).1) ((fgP H ((spS H wdD false p).1) ((spS H wdD false p).2)).2.1)).2) ((muP H 32 ((fgP H ((spS H wdD false p).1) ((spS H wdD false p).2)).1) ((fgP H ((spS H wdD false p).1) ((spS H wdD false p).2)).2.1)).1) 0 l mo) 16 [(3, .int (nI (fgP H ((spS H wdD false p).1) ((spS H wdD false p).2)).2.2)), (0, .ref (B + 51)), (1, .int (-10)), (2, .ref (gS V.1 (2 + 4)))] []
  refine a_aload_n hb dX12_much_16 rfl 1 rfl ?_
  refine a_callV hb dX12_much_17 (by rw [hg]; exact m_soA g h B hL a n ha hac he hn H hH ((muP H 32 ((fgP H ((spS H wdD false p).1) ((spS H wdD false p).2)).1) ((fgP H ((spS H wdD false p).1) ((spS H wdD false p).2)).2.1)).2) ((muP H 32 ((fgP H ((spS H wdD false p).1) ((spS H wdD false p).2)).1) ((fgP H ((spS H wdD false p).1) ((spS H wdD false p).2)).2.1)).1) l mo (muG hH (c := 32) (by decide) (w := (fgP H ((spS H wdD false p).1) ((spS H wdD false p).2)).1) (fgG hH (w := (spS H wdD false p).1) (spG hH (l := wdD) (by decide) (w := false) hp))) (Nat.le_trans (Nat.le_trans (Nat.le_trans hll (spK hH (by decide))) (fgK hH)) (muK hH (c := 32) (by decide)))) (by rw [ow]; exact clv_RX12_100) ((LY.mp hL : LY (mpH h B a ((muP H 32 ((fgP H ((spS H wdD false p).1) ((spS H wdD false p).2)).1) ((fgP H ((spS H wdD false p).1) ((spS H wdD false p).2)).2.1)).2) ((muP H 32 ((fgP H ((spS H wdD false p).1) ((spS H wdD false p).2)).1) ((fgP H ((spS H wdD false p).1) ((spS H wdD false p).2)).2.1)).1) 0 l mo) B).1 51 (by decide)) (by decide) rfl rfl rfl (Nat.le_of_ble_eq_true rfl) (by rw [hr]; exact ⟨by decide, by decide⟩) (by rw [hr]; exact ⟨Nat.le_of_ble_eq_true rfl, Nat.le_of_ble_eq_true rfl⟩) ?_
  intro rv h' hp_
  rw [hp_.1, hp_.2]
  show AW V 0 0 (mpH h B a ((soP H 5 ((muP H 32 ((fgP H ((spS H wdD false p).1) ((spS H wdD false p).2)).1) ((fgP H ((spS H wdD false p).1) ((spS H wdD false p).2)).2.1)).1) ((muP H 32 ((fgP H ((spS H wdD false p).1) ((spS H wdD false p).2)).1) ((fgP H ((spS H wdD false p).1) ((spS H wdD false p).2)).2.1)).2)).2.1) ((soP H 5 ((muP H 32 ((fgP H ((spS H wdD false p).1) ((spS H wdD false p).2)).1) ((fgP H ((spS H wdD false p).1) ((spS H wdD false p).2)).2.1)).1) ((muP H 32 ((fgP H ((spS H wdD false p).1) ((spS H wdD false p).2)).1) ((fgP H ((spS H wdD false p).1) ((spS H wdD false p).2)).2.1)).2)).1) 0 (l ++ (soP H 5 ((muP H 32 ((fgP H ((spS H wdD false p).1) ((spS H wdD false p).2)).1) ((fgP H ((spS H wdD false p).1) ((spS H wdD false p).2)).2.1)).1) ((muP H 32 ((fgP H ((spS H wdD false p).1) ((spS H wdD false p).2)).1) ((fgP H ((spS H wdD false p).1) ((spS H wdD false p).2)).2.1)).2)).2.2.map encM) mo) 20 [(3, .int (nI (fgP H ((spS H wdD false p).1) ((spS H wdD false p).2)).2.2)), (0, .ref (B + 51)), (1, .int (-10)), (2, .ref (gS V.1 (2 + 4)))] []
  refine a_aload_n hb dX12_much_20 rfl 1 rfl ?_
  refine a_iload_n hb dX12_much_21 rfl 2 rfl ?_
  refine a_iload_n hb dX12_much_22 rfl 0 rfl ?_
  refine a_isub hb dX12_much_23 ?_
  refine a_callV hb dX12_much_24 (by rw [hg]; exact m_emits g h B hL a n ha hac he hn H hH ((soP H 5 ((muP H 32 ((fgP H ((spS H wdD false p).1) ((spS H wdD false p).2)).1) ((fgP H ((spS H wdD false p).1) ((spS H wdD false p).2)).2.1)).1) ((muP H 32 ((fgP H ((spS H wdD false p).1) ((spS H wdD false p).2)).1) ((fgP H ((spS H wdD false p).1) ((spS H wdD false p).2)).2.1)).2)).2.1) 0 ((soP H 5 ((muP H 32 ((fgP H ((spS H wdD false p).1) ((spS H wdD false p).2)).1) ((fgP H ((spS H wdD false p).1) ((spS H wdD false p).2)).2.1)).1) ((muP H 32 ((fgP H ((spS H wdD false p).1) ((spS H wdD false p).2)).1) ((fgP H ((spS H wdD false p).1) ((spS H wdD false p).2)).2.1)).2)).1) (l ++ (soP H 5 ((muP H 32 ((fgP H ((spS H wdD false p).1) ((spS H wdD false p).2)).1) ((fgP H ((spS H wdD false p).1) ((spS H wdD false p).2)).2.1)).1) ((muP H 32 ((fgP H ((spS H wdD false p).1) ((spS H wdD false p).2)).1) ((fgP H ((spS H wdD false p).1) ((spS H wdD false p).2)).2.1)).2)).2.2.map encM) mo ((soPgH hH 5 _ _).2 (muG hH (c := 32) (by decide) (w := (fgP H ((spS H wdD false p).1) ((spS H wdD false p).2)).1) (fgG hH (w := (spS H wdD false p).1) (spG hH (l := wdD) (by decide) (w := false) hp)))) ((-10) - (nI (fgP H ((spS H wdD false p).1) ((spS H wdD false p).2)).2.2)) (Nat.lt_of_le_of_lt (Nat.le_trans hll (Nat.le_trans hp hn)) (by decide))) (by rw [ow]; exact clv_RX12_97) ((LY.mp hL : LY (mpH h B a ((soP H 5 ((muP H 32 ((fgP H ((spS H wdD false p).1) ((spS H wdD false p).2)).1) ((fgP H ((spS H wdD false p).1) ((spS H wdD false p).2)).2.1)).1) ((muP H 32 ((fgP H ((spS H wdD false p).1) ((spS H wdD false p).2)).1) ((fgP H ((spS H wdD false p).1) ((spS H wdD false p).2)).2.1)).2)).2.1) ((soP H 5 ((muP H 32 ((fgP H ((spS H wdD false p).1) ((spS H wdD false p).2)).1) ((fgP H ((spS H wdD false p).1) ((spS H wdD false p).2)).2.1)).1) ((muP H 32 ((fgP H ((spS H wdD false p).1) ((spS H wdD false p).2)).1) ((fgP H ((spS H wdD false p).1) ((spS H wdD false p).2)).2.1)).2)).1) 0 (l ++ (soP H 5 ((muP H 32 ((fgP H ((spS H wdD false p).1) ((spS H wdD false p).2)).1) ((fgP H ((spS H wdD false p).1) ((spS H wdD false p).2)).2.1)).1) ((muP H 32 ((fgP H ((spS H wdD false p).1) ((spS H wdD false p).2)).1) ((fgP H ((spS H wdD false p).1) ((spS H wdD false p).2)).2.1)).2)).2.2.map encM) mo) B).1 51 (by decide)) (by decide) rfl rfl rfl (Nat.le_of_ble_eq_true rfl) (by rw [hr]; exact ⟨by decide, by decide⟩) (by rw [hr]; exact ⟨Nat.le_of_ble_eq_true rfl, Nat.le_of_ble_eq_true rfl⟩) ?_
  intro rv h' hp_
  rw [hp_.1, hp_.2]
  show AW V 0 0 (mpH h B a ((soP H 5 ((muP H 32 ((fgP H ((spS H wdD false p).1) ((spS H wdD false p).2)).1) ((fgP H ((spS H wdD false p).1) ((spS H wdD false p).2)).2.1)).1) ((muP H 32 ((fgP H ((spS H wdD false p).1) ((spS H wdD false p).2)).1) ((fgP H ((spS H wdD false p).1) ((spS H wdD false p).2)).2.1)).2)).2.1) ((soP H 5 ((muP H 32 ((fgP H ((spS H wdD false p).1) ((spS H wdD false p).2)).1) ((fgP H ((spS H wdD false p).1) ((spS H wdD false p).2)).2.1)).1) ((muP H 32 ((fgP H ((spS H wdD false p).1) ((spS H wdD false p).2)).1) ((fgP H ((spS H wdD false p).1) ((spS H wdD false p).2)).2.1)).2)).1) 0 (emL ((soP H 5 ((muP H 32 ((fgP H ((spS H wdD false p).1) ((spS H wdD false p).2)).1) ((fgP H ((spS H wdD false p).1) ((spS H wdD false p).2)).2.1)).1) ((muP H 32 ((fgP H ((spS H wdD false p).1) ((spS H wdD false p).2)).1) ((fgP H ((spS H wdD false p).1) ((spS H wdD false p).2)).2.1)).2)).1) (l ++ (soP H 5 ((muP H 32 ((fgP H ((spS H wdD false p).1) ((spS H wdD false p).2)).1) ((fgP H ((spS H wdD false p).1) ((spS H wdD false p).2)).2.1)).1) ((muP H 32 ((fgP H ((spS H wdD false p).1) ((spS H wdD false p).2)).1) ((fgP H ((spS H wdD false p).1) ((spS H wdD false p).2)).2.1)).2)).2.2.map encM) ((-10) - (nI (fgP H ((spS H wdD false p).1) ((spS H wdD false p).2)).2.2))) mo) 27 [(3, .int (nI (fgP H ((spS H wdD false p).1) ((spS H wdD false p).2)).2.2)), (0, .ref (B + 51)), (1, .int (-10)), (2, .ref (gS V.1 (2 + 4)))] []
  exact a_return hb hz dX12_much_27 hret (by rw [hr]; exact Nat.le_of_ble_eq_true rfl) (by rw [hr]; exact Nat.le_of_ble_eq_true rfl) (⟨rfl, rfl⟩)
set_option maxRecDepth 100000 in
theorem m_much3 (g : GG) (h : AH) (B : Nat) (hL : LY h B) (a n : Nat) (ha : a < 5) (hac : hI h (B + 51) 4 = nI a) (he : hI h (B + 51) 6 = nI n) (hn : n ≤ 120) (H : Nat → Int32) (hH : H = hrT (fun i => hI h (B + 52) (10 + i)) n) (p : Nat) (l : List Int32) (mo : Int32) (hp : p ≤ n) (hll : l.length ≤ p) : AM g 24 0 0 mX12_much [.ref (B + 51), .int (-2000), .ref (gS g (2 + 3))] (mpH h B a p false 0 l mo) (fun rv h' => rv = none ∧ h' = mpL h B a ((mcS H wdE p).1, (mcS H wdE p).2.1, emL (mcS H wdE p).1 (l ++ (mcS H wdE p).2.2.1.map encM) ((-2000) - nI (mcS H wdE p).2.2.2), mo)) := by
  refine AM.of [(0, .ref (B + 51)), (1, .int (-2000)), (2, .ref (gS g (2 + 3)))] (by decide) (Nat.le_of_ble_eq_true rfl) rfl ?_
  intro V hV
  have hb : V.2.1.2.1 = cX12_much := by subst hV; rfl
  have ow : V.2.1.1.cls = RX12 := by subst hV; rfl
  have hr : V.2.2.1 = aw_rm 24 0 0 := by subst hV; rfl
  have hz : V.2.2.2 = aw_Z V.1 (fun rv h' => rv = none ∧ h' = mpL h B a ((mcS H wdE p).1, (mcS H wdE p).2.1, emL (mcS H wdE p).1 (l ++ (mcS H wdE p).2.2.1.map encM) ((-2000) - nI (mcS H wdE p).2.2.2), mo)) V.2.2.1 := by subst hV; rfl
  have hg : V.1 = g := by subst hV; rfl
  have hret : V.2.1.2.2.2 = none := by subst hV; rfl
  have hml : V.2.1.2.2.1 = 4 := by subst hV; rfl
  clear hV
  rw [← hg]
  refine a_aload_n hb dX12_much_0 rfl 0 rfl ?_
  refine a_aload_n hb dX12_much_1 rfl 2 rfl ?_
  refine a_callV hb dX12_much_2 (by have z_ := m_spells3 g h B hL a n ha hac he hn H hH p 0 false l mo hp; rw [← hg] at z_; exact z_) (by rw [ow]; exact clv_RX12_117) ((LY.mp hL : LY (mpH h B a p false 0 l mo) B).1 51 (by decide)) (by decide) rfl rfl rfl (Nat.le_of_ble_eq_true rfl) (by rw [hr]; exact ⟨by decide, by decide⟩) (by rw [hr]; exact ⟨Nat.le_of_ble_eq_true rfl, Nat.le_of_ble_eq_true rfl⟩) ?_
  intro rv h' hp_
  rw [hp_.1, hp_.2]
  show AW V 0 0 (mpH h B a ((spS H wdE false p).2) ((spS H wdE false p).1) 0 l mo) 5 [(0, .ref (B + 51)), (1, .int (-2000)), (2, .ref (gS V.1 (2 + 3)))] []
  refine a_aload_n hb dX12_much_5 rfl 0 rfl ?_
  refine a_callV hb dX12_much_6 (by rw [hg]; exact m_figures g h B hL a n ha hac he hn H hH ((spS H wdE false p).2) 0 ((spS H wdE false p).1) l mo (spG hH (l := wdE) (by decide) (w := false) hp)) (by rw [ow]; exact clv_RX12_111) ((LY.mp hL : LY (mpH h B a ((spS H wdE false p).2) ((spS H wdE false p).1) 0 l mo) B).1 51 (by decide)) (by decide) rfl rfl rfl (Nat.le_of_ble_eq_true rfl) (by rw [hr]; exact ⟨by decide, by decide⟩) (by rw [hr]; exact ⟨Nat.le_of_ble_eq_true rfl, Nat.le_of_ble_eq_true rfl⟩) ?_
  intro rv h' hp_
  rw [hp_.1, hp_.2]
  show AW V 0 0 (mpH h B a ((fgP H ((spS H wdE false p).1) ((spS H wdE false p).2)).2.1) ((fgP H ((spS H wdE false p).1) ((spS H wdE false p).2)).1) 0 l mo) 9 [(0, .ref (B + 51)), (1, .int (-2000)), (2, .ref (gS V.1 (2 + 3)))] [.int (nI (fgP H ((spS H wdE false p).1) ((spS H wdE false p).2)).2.2)]
  refine a_istore_n (L' := [(3, .int (nI (fgP H ((spS H wdE false p).1) ((spS H wdE false p).2)).2.2)), (0, .ref (B + 51)), (1, .int (-2000)), (2, .ref (gS V.1 (2 + 3)))]) hb dX12_much_9 rfl (by rw [hml]; decide) rfl ?_
  refine a_aload_n hb dX12_much_10 rfl 1 rfl ?_
  refine a_bipush (v := 32) hb dX12_much_11 (by decide) ?_
  refine a_callV hb dX12_much_13 (by rw [hg]; exact m_must g h B hL a n ha hac he hn H hH ((fgP H ((spS H wdE false p).1) ((spS H wdE false p).2)).2.1) 0 ((fgP H ((spS H wdE false p).1) ((spS H wdE false p).2)).1) l mo (fgG hH (w := (spS H wdE false p).1) (spG hH (l := wdE) (by decide) (w := false) hp)) 32) (by rw [ow]; exact clv_RX12_84) ((LY.mp hL : LY (mpH h B a ((fgP H ((spS H wdE false p).1) ((spS H wdE false p).2)).2.1) ((fgP H ((spS H wdE false p).1) ((spS H wdE false p).2)).1) 0 l mo) B).1 51 (by decide)) (by decide) rfl rfl rfl (Nat.le_of_ble_eq_true rfl) (by rw [hr]; exact ⟨by decide, by decide⟩) (by rw [hr]; exact ⟨Nat.le_of_ble_eq_true rfl, Nat.le_of_ble_eq_true rfl⟩) ?_
  intro rv h' hp_
  rw [hp_.1, hp_.2]
  show AW V 0 0 (mpH h B a ((muP H 32 ((fgP H ((spS H wdE false p).1) ((spS H wdE false p).2)).1) ((fgP H ((spS H wdE false p).1) ((spS H wdE false p).2)).2.1)).2) ((muP H 32 ((fgP H ((spS H wdE false p).1) ((spS H wdE false p).2)).1) ((fgP H ((spS H wdE false p).1) ((spS H wdE false p).2)).2.1)).1) 0 l mo) 16 [(3, .int (nI (fgP H ((spS H wdE false p).1) ((spS H wdE false p).2)).2.2)), (0, .ref (B + 51)), (1, .int (-2000)), (2, .ref (gS V.1 (2 + 3)))] []
  refine a_aload_n hb dX12_much_16 rfl 1 rfl ?_
  refine a_callV hb dX12_much_17 (by rw [hg]; exact m_soA g h B hL a n ha hac he hn H hH ((muP H 32 ((fgP H ((spS H wdE false p).1) ((spS H wdE false p).2)).1) ((fgP H ((spS H wdE false p).1) ((spS H wdE false p).2)).2.1)).2) ((muP H 32 ((fgP H ((spS H wdE false p).1) ((spS H wdE false p).2)).1) ((fgP H ((spS H wdE false p).1) ((spS H wdE false p).2)).2.1)).1) l mo (muG hH (c := 32) (by decide) (w := (fgP H ((spS H wdE false p).1) ((spS H wdE false p).2)).1) (fgG hH (w := (spS H wdE false p).1) (spG hH (l := wdE) (by decide) (w := false) hp))) (Nat.le_trans (Nat.le_trans (Nat.le_trans hll (spK hH (by decide))) (fgK hH)) (muK hH (c := 32) (by decide)))) (by rw [ow]; exact clv_RX12_100) ((LY.mp hL : LY (mpH h B a ((muP H 32 ((fgP H ((spS H wdE false p).1) ((spS H wdE false p).2)).1) ((fgP H ((spS H wdE false p).1) ((spS H wdE false p).2)).2.1)).2) ((muP H 32 ((fgP H ((spS H wdE false p).1) ((spS H wdE false p).2)).1) ((fgP H ((spS H wdE false p).1) ((spS H wdE false p).2)).2.1)).1) 0 l mo) B).1 51 (by decide)) (by decide) rfl rfl rfl (Nat.le_of_ble_eq_true rfl) (by rw [hr]; exact ⟨by decide, by decide⟩) (by rw [hr]; exact ⟨Nat.le_of_ble_eq_true rfl, Nat.le_of_ble_eq_true rfl⟩) ?_
  intro rv h' hp_
  rw [hp_.1, hp_.2]
  show AW V 0 0 (mpH h B a ((soP H 5 ((muP H 32 ((fgP H ((spS H wdE false p).1) ((spS H wdE false p).2)).1) ((fgP H ((spS H wdE false p).1) ((spS H wdE false p).2)).2.1)).1) ((muP H 32 ((fgP H ((spS H wdE false p).1) ((spS H wdE false p).2)).1) ((fgP H ((spS H wdE false p).1) ((spS H wdE false p).2)).2.1)).2)).2.1) ((soP H 5 ((muP H 32 ((fgP H ((spS H wdE false p).1) ((spS H wdE false p).2)).1) ((fgP H ((spS H wdE false p).1) ((spS H wdE false p).2)).2.1)).1) ((muP H 32 ((fgP H ((spS H wdE false p).1) ((spS H wdE false p).2)).1) ((fgP H ((spS H wdE false p).1) ((spS H wdE false p).2)).2.1)).2)).1) 0 (l ++ (soP H 5 ((muP H 32 ((fgP H ((spS H wdE false p).1) ((spS H wdE false p).2)).1) ((fgP H ((spS H wdE false p).1) ((spS H wdE false p).2)).2.1)).1) ((muP H 32 ((fgP H ((spS H wdE false p).1) ((spS H wdE false p).2)).1) ((fgP H ((spS H wdE false p).1) ((spS H wdE false p).2)).2.1)).2)).2.2.map encM) mo) 20 [(3, .int (nI (fgP H ((spS H wdE false p).1) ((spS H wdE false p).2)).2.2)), (0, .ref (B + 51)), (1, .int (-2000)), (2, .ref (gS V.1 (2 + 3)))] []
  refine a_aload_n hb dX12_much_20 rfl 1 rfl ?_
  refine a_iload_n hb dX12_much_21 rfl 2 rfl ?_
  refine a_iload_n hb dX12_much_22 rfl 0 rfl ?_
  refine a_isub hb dX12_much_23 ?_
  refine a_callV hb dX12_much_24 (by rw [hg]; exact m_emits g h B hL a n ha hac he hn H hH ((soP H 5 ((muP H 32 ((fgP H ((spS H wdE false p).1) ((spS H wdE false p).2)).1) ((fgP H ((spS H wdE false p).1) ((spS H wdE false p).2)).2.1)).1) ((muP H 32 ((fgP H ((spS H wdE false p).1) ((spS H wdE false p).2)).1) ((fgP H ((spS H wdE false p).1) ((spS H wdE false p).2)).2.1)).2)).2.1) 0 ((soP H 5 ((muP H 32 ((fgP H ((spS H wdE false p).1) ((spS H wdE false p).2)).1) ((fgP H ((spS H wdE false p).1) ((spS H wdE false p).2)).2.1)).1) ((muP H 32 ((fgP H ((spS H wdE false p).1) ((spS H wdE false p).2)).1) ((fgP H ((spS H wdE false p).1) ((spS H wdE false p).2)).2.1)).2)).1) (l ++ (soP H 5 ((muP H 32 ((fgP H ((spS H wdE false p).1) ((spS H wdE false p).2)).1) ((fgP H ((spS H wdE false p).1) ((spS H wdE false p).2)).2.1)).1) ((muP H 32 ((fgP H ((spS H wdE false p).1) ((spS H wdE false p).2)).1) ((fgP H ((spS H wdE false p).1) ((spS H wdE false p).2)).2.1)).2)).2.2.map encM) mo ((soPgH hH 5 _ _).2 (muG hH (c := 32) (by decide) (w := (fgP H ((spS H wdE false p).1) ((spS H wdE false p).2)).1) (fgG hH (w := (spS H wdE false p).1) (spG hH (l := wdE) (by decide) (w := false) hp)))) ((-2000) - (nI (fgP H ((spS H wdE false p).1) ((spS H wdE false p).2)).2.2)) (Nat.lt_of_le_of_lt (Nat.le_trans hll (Nat.le_trans hp hn)) (by decide))) (by rw [ow]; exact clv_RX12_97) ((LY.mp hL : LY (mpH h B a ((soP H 5 ((muP H 32 ((fgP H ((spS H wdE false p).1) ((spS H wdE false p).2)).1) ((fgP H ((spS H wdE false p).1) ((spS H wdE false p).2)).2.1)).1) ((muP H 32 ((fgP H ((spS H wdE false p).1) ((spS H wdE false p).2)).1) ((fgP H ((spS H wdE false p).1) ((spS H wdE false p).2)).2.1)).2)).2.1) ((soP H 5 ((muP H 32 ((fgP H ((spS H wdE false p).1) ((spS H wdE false p).2)).1) ((fgP H ((spS H wdE false p).1) ((spS H wdE false p).2)).2.1)).1) ((muP H 32 ((fgP H ((spS H wdE false p).1) ((spS H wdE false p).2)).1) ((fgP H ((spS H wdE false p).1) ((spS H wdE false p).2)).2.1)).2)).1) 0 (l ++ (soP H 5 ((muP H 32 ((fgP H ((spS H wdE false p).1) ((spS H wdE false p).2)).1) ((fgP H ((spS H wdE false p).1) ((spS H wdE false p).2)).2.1)).1) ((muP H 32 ((fgP H ((spS H wdE false p).1) ((spS H wdE false p).2)).1) ((fgP H ((spS H wdE false p).1) ((spS H wdE false p).2)).2.1)).2)).2.2.map encM) mo) B).1 51 (by decide)) (by decide) rfl rfl rfl (Nat.le_of_ble_eq_true rfl) (by rw [hr]; exact ⟨by decide, by decide⟩) (by rw [hr]; exact ⟨Nat.le_of_ble_eq_true rfl, Nat.le_of_ble_eq_true rfl⟩) ?_
  intro rv h' hp_
  rw [hp_.1, hp_.2]
  show AW V 0 0 (mpH h B a ((soP H 5 ((muP H 32 ((fgP H ((spS H wdE false p).1) ((spS H wdE false p).2)).1) ((fgP H ((spS H wdE false p).1) ((spS H wdE false p).2)).2.1)).1) ((muP H 32 ((fgP H ((spS H wdE false p).1) ((spS H wdE false p).2)).1) ((fgP H ((spS H wdE false p).1) ((spS H wdE false p).2)).2.1)).2)).2.1) ((soP H 5 ((muP H 32 ((fgP H ((spS H wdE false p).1) ((spS H wdE false p).2)).1) ((fgP H ((spS H wdE false p).1) ((spS H wdE false p).2)).2.1)).1) ((muP H 32 ((fgP H ((spS H wdE false p).1) ((spS H wdE false p).2)).1) ((fgP H ((spS H wdE false p).1) ((spS H wdE false p).2)).2.1)).2)).1) 0 (emL ((soP H 5 ((muP H 32 ((fgP H ((spS H wdE false p).1) ((spS H wdE false p).2)).1) ((fgP H ((spS H wdE false p).1) ((spS H wdE false p).2)).2.1)).1) ((muP H 32 ((fgP H ((spS H wdE false p).1) ((spS H wdE false p).2)).1) ((fgP H ((spS H wdE false p).1) ((spS H wdE false p).2)).2.1)).2)).1) (l ++ (soP H 5 ((muP H 32 ((fgP H ((spS H wdE false p).1) ((spS H wdE false p).2)).1) ((fgP H ((spS H wdE false p).1) ((spS H wdE false p).2)).2.1)).1) ((muP H 32 ((fgP H ((spS H wdE false p).1) ((spS H wdE false p).2)).1) ((fgP H ((spS H wdE false p).1) ((spS H wdE false p).2)).2.1)).2)).2.2.map encM) ((-2000) - (nI (fgP H ((spS H wdE false p).1) ((spS H wdE false p).2)).2.2))) mo) 27 [(3, .int (nI (fgP H ((spS H wdE false p).1) ((spS H wdE false p).2)).2.2)), (0, .ref (B + 51)), (1, .int (-2000)), (2, .ref (gS V.1 (2 + 3)))] []
  exact a_return hb hz dX12_much_27 hret (by rw [hr]; exact Nat.le_of_ble_eq_true rfl) (by rw [hr]; exact Nat.le_of_ble_eq_true rfl) (⟨rfl, rfl⟩)
set_option maxRecDepth 100000 in
theorem m_clauseHere (g : GG) (h : AH) (B : Nat) (hL : LY h B) (a n : Nat) (ha : a < 5) (hac : hI h (B + 51) 4 = nI a) (he : hI h (B + 51) 6 = nI n) (hn : n ≤ 120) (H : Nat → Int32) (hH : H = hrT (fun i => hI h (B + 52) (10 + i)) n) (p : Nat) (l : List Int32) (mo : Int32) (hp : p ≤ n) (hll : l.length ≤ p) : AM g 25 0 0 mX12_clauseHere [.ref (B + 51)] (mpH h B a p false 0 l mo) (fun rv h' => rv = none ∧ h' = mpL h B a (clP H p l mo)) := by
  refine AM.of [(0, .ref (B + 51))] (by decide) (Nat.le_of_ble_eq_true rfl) rfl ?_
  intro V hV
  have hb : V.2.1.2.1 = cX12_clauseHere := by subst hV; rfl
  have ow : V.2.1.1.cls = RX12 := by subst hV; rfl
  have hr : V.2.2.1 = aw_rm 25 0 0 := by subst hV; rfl
  have hz : V.2.2.2 = aw_Z V.1 (fun rv h' => rv = none ∧ h' = mpL h B a (clP H p l mo)) V.2.2.1 := by subst hV; rfl
  have hg : V.1 = g := by subst hV; rfl
  have hret : V.2.1.2.2.2 = none := by subst hV; rfl
  have hml : V.2.1.2.2.1 = 2 := by subst hV; rfl
  clear hV
  refine a_aload_n hb dX12_clauseHere_0 rfl 0 rfl ?_
  refine a_callV hb dX12_clauseHere_1 (by rw [hg]; exact m_here g h B hL a n ha hac he hn H hH p 0 false l mo hp) (by rw [ow]; exact clv_RX12_71) ((LY.mp hL : LY (mpH h B a p false 0 l mo) B).1 51 (by decide)) (by decide) rfl rfl rfl (Nat.le_of_ble_eq_true rfl) (by rw [hr]; exact ⟨by decide, by decide⟩) (by rw [hr]; exact ⟨Nat.le_of_ble_eq_true rfl, Nat.le_of_ble_eq_true rfl⟩) ?_
  intro rv h' hp_
  rw [hp_.1, hp_.2]
  show AW V 0 0 (mpH h B a p false 0 l mo) 4 [(0, .ref (B + 51))] [.int (H p)]
  by_cases q4_100 : (H p) = 100
  · refine a_lookup (off := 36) hb 40 dX12_clauseHere_4 (by decide) (by rw [q4_100]; decide) (by decide) ?_
    refine a_aload_n hb dX12_clauseHere_40 rfl 0 rfl ?_
    refine a_bipush (v := (-10)) hb dX12_clauseHere_41 (by decide) ?_
    refine a_ldcS (i := 4) hb dX12_clauseHere_43 (by rw [ow]; exact List.mem_of_getElem? (i := 9) rfl) ?_
    refine a_callV hb dX12_clauseHere_45 (by have z_ := m_much4 g h B hL a n ha hac he hn H hH p l mo hp hll; rw [← hg] at z_; exact z_) (by rw [ow]; exact clv_RX12_123) ((LY.mp hL : LY (mpH h B a p false 0 l mo) B).1 51 (by decide)) (by decide) rfl rfl rfl (Nat.le_of_ble_eq_true rfl) (by rw [hr]; exact ⟨by decide, by decide⟩) (by rw [hr]; exact ⟨Nat.le_of_ble_eq_true rfl, Nat.le_of_ble_eq_true rfl⟩) ?_
    intro rv h' hp_
    rw [hp_.1, hp_.2]
    show AW V 0 0 _ 48 [(0, .ref (B + 51))] []
    refine a_goto hb 119 dX12_clauseHere_48 (by decide) ?_
    exact a_return hb hz dX12_clauseHere_119 hret (by rw [hr]; exact Nat.le_of_ble_eq_true rfl) (by rw [hr]; exact Nat.le_of_ble_eq_true rfl) (⟨rfl, by rw [clP, if_pos q4_100]⟩)
  by_cases q4_101 : (H p) = 101
  · refine a_lookup (off := 47) hb 51 dX12_clauseHere_4 (by decide) (by rw [q4_101]; decide) (by decide) ?_
    refine a_aload_n hb dX12_clauseHere_51 rfl 0 rfl ?_
    refine a_sipush (v := (-2000)) hb dX12_clauseHere_52 (by decide) ?_
    refine a_ldcS (i := 3) hb dX12_clauseHere_55 (by rw [ow]; exact List.mem_of_getElem? (i := 8) rfl) ?_
    refine a_callV hb dX12_clauseHere_57 (by have z_ := m_much3 g h B hL a n ha hac he hn H hH p l mo hp hll; rw [← hg] at z_; exact z_) (by rw [ow]; exact clv_RX12_123) ((LY.mp hL : LY (mpH h B a p false 0 l mo) B).1 51 (by decide)) (by decide) rfl rfl rfl (Nat.le_of_ble_eq_true rfl) (by rw [hr]; exact ⟨by decide, by decide⟩) (by rw [hr]; exact ⟨Nat.le_of_ble_eq_true rfl, Nat.le_of_ble_eq_true rfl⟩) ?_
    intro rv h' hp_
    rw [hp_.1, hp_.2]
    show AW V 0 0 _ 60 [(0, .ref (B + 51))] []
    refine a_goto hb 119 dX12_clauseHere_60 (by decide) ?_
    exact a_return hb hz dX12_clauseHere_119 hret (by rw [hr]; exact Nat.le_of_ble_eq_true rfl) (by rw [hr]; exact Nat.le_of_ble_eq_true rfl) (⟨rfl, by rw [clP, if_neg (by rw [q4_101]; decide), if_pos q4_101]⟩)
  by_cases q4_109 : (H p) = 109
  · refine a_lookup (off := 59) hb 63 dX12_clauseHere_4 (by decide) (by rw [q4_109]; decide) (by decide) ?_
    refine a_aload_n hb dX12_clauseHere_63 rfl 0 rfl ?_
    refine a_ldcS (i := 2) hb dX12_clauseHere_64 (by rw [ow]; exact List.mem_of_getElem? (i := 7) rfl) ?_
    refine a_callV hb dX12_clauseHere_66 (by have z_ := m_spells2 g h B hL a n ha hac he hn H hH p 0 false l mo hp; rw [← hg] at z_; exact z_) (by rw [ow]; exact clv_RX12_117) ((LY.mp hL : LY (mpH h B a p false 0 l mo) B).1 51 (by decide)) (by decide) rfl rfl rfl (Nat.le_of_ble_eq_true rfl) (by rw [hr]; exact ⟨by decide, by decide⟩) (by rw [hr]; exact ⟨Nat.le_of_ble_eq_true rfl, Nat.le_of_ble_eq_true rfl⟩) ?_
    intro rv h' hp_
    rw [hp_.1, hp_.2]
    show AW V 0 0 (mpH h B a ((spS H wdM false p).2) ((spS H wdM false p).1) 0 l mo) 69 [(0, .ref (B + 51))] []
    refine a_aload_n hb dX12_clauseHere_69 rfl 0 rfl ?_
    refine a_callV hb dX12_clauseHere_70 (by rw [hg]; exact m_figures g h B hL a n ha hac he hn H hH ((spS H wdM false p).2) 0 ((spS H wdM false p).1) l mo (spG hH (l := wdM) (by decide) (w := false) hp)) (by rw [ow]; exact clv_RX12_111) ((LY.mp hL : LY (mpH h B a ((spS H wdM false p).2) ((spS H wdM false p).1) 0 l mo) B).1 51 (by decide)) (by decide) rfl rfl rfl (Nat.le_of_ble_eq_true rfl) (by rw [hr]; exact ⟨by decide, by decide⟩) (by rw [hr]; exact ⟨Nat.le_of_ble_eq_true rfl, Nat.le_of_ble_eq_true rfl⟩) ?_
    intro rv h' hp_
    rw [hp_.1, hp_.2]
    show AW V 0 0 (mpH h B a ((fgP H ((spS H wdM false p).1) ((spS H wdM false p).2)).2.1) ((fgP H ((spS H wdM false p).1) ((spS H wdM false p).2)).1) 0 l mo) 73 [(0, .ref (B + 51))] [.int (nI (fgP H ((spS H wdM false p).1) ((spS H wdM false p).2)).2.2)]
    refine a_istore_n (L' := [(1, .int (nI (fgP H ((spS H wdM false p).1) ((spS H wdM false p).2)).2.2)), (0, .ref (B + 51))]) hb dX12_clauseHere_73 rfl (by rw [hml]; decide) rfl ?_
    refine a_aload_n hb dX12_clauseHere_74 rfl 1 rfl ?_
    refine a_getQ (q := (B + 52)) hb dX12_clauseHere_75 (by rw [ow]; exact fl_RX12_9_12) ((LY.mp hL : LY (mpH h B a ((fgP H ((spS H wdM false p).1) ((spS H wdM false p).2)).2.1) ((fgP H ((spS H wdM false p).1) ((spS H wdM false p).2)).1) 0 l mo) B).1 51 (by decide)) ((LY.mp hL : LY (mpH h B a ((fgP H ((spS H wdM false p).1) ((spS H wdM false p).2)).2.1) ((fgP H ((spS H wdM false p).1) ((spS H wdM false p).2)).1) 0 l mo) B).2.1 (51, 1, 52) (by decide)) ?_
    refine a_sipush (v := 208) hb dX12_clauseHere_78 (by decide) ?_
    refine a_aload_n hb dX12_clauseHere_81 rfl 1 rfl ?_
    refine a_getI hb dX12_clauseHere_82 (by rw [ow]; exact fl_RX12_88_12) ((LY.mp hL : LY (mpH h B a ((fgP H ((spS H wdM false p).1) ((spS H wdM false p).2)).2.1) ((fgP H ((spS H wdM false p).1) ((spS H wdM false p).2)).1) 0 l mo) B).1 51 (by decide)) ?_
    rw [mp_f4, hac]
    show AW V 0 0 (mpH h B a ((fgP H ((spS H wdM false p).1) ((spS H wdM false p).2)).2.1) ((fgP H ((spS H wdM false p).1) ((spS H wdM false p).2)).1) 0 l mo) 85 [(1, .int (nI (fgP H ((spS H wdM false p).1) ((spS H wdM false p).2)).2.2)), (0, .ref (B + 51))] [.int (nI a), .int 208, .ref (B + 52)]
    refine a_iadd hb dX12_clauseHere_85 ?_
    refine a_aload_n hb dX12_clauseHere_86 rfl 1 rfl ?_
    refine a_getI hb dX12_clauseHere_87 (by rw [ow]; exact fl_RX12_67_12) ((LY.mp hL : LY (mpH h B a ((fgP H ((spS H wdM false p).1) ((spS H wdM false p).2)).2.1) ((fgP H ((spS H wdM false p).1) ((spS H wdM false p).2)).1) 0 l mo) B).1 51 (by decide)) ?_
    rw [mp_f7]
    show AW V 0 0 (mpH h B a ((fgP H ((spS H wdM false p).1) ((spS H wdM false p).2)).2.1) ((fgP H ((spS H wdM false p).1) ((spS H wdM false p).2)).1) 0 l mo) 90 [(1, .int (nI (fgP H ((spS H wdM false p).1) ((spS H wdM false p).2)).2.2)), (0, .ref (B + 51))] [.int (b2i ((fgP H ((spS H wdM false p).1) ((spS H wdM false p).2)).1)), .int (208 + (nI a)), .ref (B + 52)]
    refine a_if_eq hb 109 dX12_clauseHere_90 (by decide) (fun c90 => ?_) (fun c90 => ?_)
    · simp [b2i_0] at c90
      refine a_iload_n hb dX12_clauseHere_109 rfl 0 rfl ?_
      refine b_iast (j := (208 + a)) hb dX12_clauseHere_110 ((LY.mp hL : LY (mpH h B a ((fgP H ((spS H wdM false p).1) ((spS H wdM false p).2)).2.1) ((fgP H ((spS H wdM false p).1) ((spS H wdM false p).2)).1) 0 l mo) B).1 52 (by decide)) (IX.add ⟨by decide, by decide⟩ (IX.n (by omega)) (by omega)) (by omega) ?_
      rw [mp_m]
      show AW V 0 0 (mpH h B a ((fgP H ((spS H wdM false p).1) ((spS H wdM false p).2)).2.1) ((fgP H ((spS H wdM false p).1) ((spS H wdM false p).2)).1) 0 l (nI (fgP H ((spS H wdM false p).1) ((spS H wdM false p).2)).2.2)) 111 [(1, .int (nI (fgP H ((spS H wdM false p).1) ((spS H wdM false p).2)).2.2)), (0, .ref (B + 51))] []
      refine a_goto hb 119 dX12_clauseHere_111 (by decide) ?_
      exact a_return hb hz dX12_clauseHere_119 hret (by rw [hr]; exact Nat.le_of_ble_eq_true rfl) (by rw [hr]; exact Nat.le_of_ble_eq_true rfl) (⟨rfl, by rw [clP, if_neg (by rw [q4_109]; decide), if_neg (by rw [q4_109]; decide), if_pos q4_109]; unfold moS; simp only [c90]; rfl⟩)
    · simp [b2i_0] at c90
      refine a_aload_n hb dX12_clauseHere_93 rfl 1 rfl ?_
      refine a_getQ (q := (B + 52)) hb dX12_clauseHere_94 (by rw [ow]; exact fl_RX12_9_12) ((LY.mp hL : LY (mpH h B a ((fgP H ((spS H wdM false p).1) ((spS H wdM false p).2)).2.1) ((fgP H ((spS H wdM false p).1) ((spS H wdM false p).2)).1) 0 l mo) B).1 51 (by decide)) ((LY.mp hL : LY (mpH h B a ((fgP H ((spS H wdM false p).1) ((spS H wdM false p).2)).2.1) ((fgP H ((spS H wdM false p).1) ((spS H wdM false p).2)).1) 0 l mo) B).2.1 (51, 1, 52) (by decide)) ?_
      refine a_sipush (v := 208) hb dX12_clauseHere_97 (by decide) ?_
      refine a_aload_n hb dX12_clauseHere_100 rfl 1 rfl ?_
      refine a_getI hb dX12_clauseHere_101 (by rw [ow]; exact fl_RX12_88_12) ((LY.mp hL : LY (mpH h B a ((fgP H ((spS H wdM false p).1) ((spS H wdM false p).2)).2.1) ((fgP H ((spS H wdM false p).1) ((spS H wdM false p).2)).1) 0 l mo) B).1 51 (by decide)) ?_
      rw [mp_f4, hac]
      show AW V 0 0 (mpH h B a ((fgP H ((spS H wdM false p).1) ((spS H wdM false p).2)).2.1) ((fgP H ((spS H wdM false p).1) ((spS H wdM false p).2)).1) 0 l mo) 104 [(1, .int (nI (fgP H ((spS H wdM false p).1) ((spS H wdM false p).2)).2.2)), (0, .ref (B + 51))] [.int (nI a), .int 208, .ref (B + 52), .int (208 + (nI a)), .ref (B + 52)]
      refine a_iadd hb dX12_clauseHere_104 ?_
      refine b_iald (j := (208 + a)) hb dX12_clauseHere_105 ((LY.mp hL : LY (mpH h B a ((fgP H ((spS H wdM false p).1) ((spS H wdM false p).2)).2.1) ((fgP H ((spS H wdM false p).1) ((spS H wdM false p).2)).1) 0 l mo) B).1 52 (by decide)) (IX.add ⟨by decide, by decide⟩ (IX.n (by omega)) (by omega)) (by omega) ?_
      rw [mp_2, mpR_08]
      show AW V 0 0 (mpH h B a ((fgP H ((spS H wdM false p).1) ((spS H wdM false p).2)).2.1) ((fgP H ((spS H wdM false p).1) ((spS H wdM false p).2)).1) 0 l mo) 106 [(1, .int (nI (fgP H ((spS H wdM false p).1) ((spS H wdM false p).2)).2.2)), (0, .ref (B + 51))] [.int mo, .int (208 + (nI a)), .ref (B + 52)]
      refine a_goto hb 110 dX12_clauseHere_106 (by decide) ?_
      refine b_iast (j := (208 + a)) hb dX12_clauseHere_110 ((LY.mp hL : LY (mpH h B a ((fgP H ((spS H wdM false p).1) ((spS H wdM false p).2)).2.1) ((fgP H ((spS H wdM false p).1) ((spS H wdM false p).2)).1) 0 l mo) B).1 52 (by decide)) (IX.add ⟨by decide, by decide⟩ (IX.n (by omega)) (by omega)) (by omega) ?_
      rw [mp_m]
      show AW V 0 0 (mpH h B a ((fgP H ((spS H wdM false p).1) ((spS H wdM false p).2)).2.1) ((fgP H ((spS H wdM false p).1) ((spS H wdM false p).2)).1) 0 l mo) 111 [(1, .int (nI (fgP H ((spS H wdM false p).1) ((spS H wdM false p).2)).2.2)), (0, .ref (B + 51))] []
      refine a_goto hb 119 dX12_clauseHere_111 (by decide) ?_
      exact a_return hb hz dX12_clauseHere_119 hret (by rw [hr]; exact Nat.le_of_ble_eq_true rfl) (by rw [hr]; exact Nat.le_of_ble_eq_true rfl) (⟨rfl, by rw [clP, if_neg (by rw [q4_109]; decide), if_neg (by rw [q4_109]; decide), if_pos q4_109]; unfold moS; simp only [c90]; rfl⟩)
  refine a_lookup (off := 110) hb 114 dX12_clauseHere_4 (by decide) (by have z100 := lv_neT (k := 100) (a := 100) q4_100 (by decide); have z101 := lv_neT (k := 101) (a := 101) q4_101 (by decide); have z109 := lv_neT (k := 109) (a := 109) q4_109 (by decide); simp [Op.lookupswitch.offset]; omega) (by decide) ?_
  refine a_aload_n hb dX12_clauseHere_114 rfl 0 rfl ?_
  refine a_iconst (v := 1) hb dX12_clauseHere_115 (by decide) ?_
  refine a_putI (fty := .boolean) hb dX12_clauseHere_116 (by rw [ow]; exact fp_RX12_67_12) (Or.inr (fun C T N hq => by cases hq; rfl)) ((LY.mp hL : LY (mpH h B a p false 0 l mo) B).1 51 (by decide)) rfl rfl ?_
  rw [mp_7 (q := true) (v := 1) rfl]
  show AW V 0 0 (mpH h B a p true 0 l mo) 119 [(0, .ref (B + 51))] []
  exact a_return hb hz dX12_clauseHere_119 hret (by rw [hr]; exact Nat.le_of_ble_eq_true rfl) (by rw [hr]; exact Nat.le_of_ble_eq_true rfl) (⟨rfl, by rw [clP, if_neg q4_100, if_neg q4_101, if_neg q4_109]; rfl⟩)
theorem mp_start {h : AH} {B a n : Nat} (ha : a < 5) : setI (setI (setI (setI (setI (setI (setI (setI h (B + 51) 4 (nI a)) (B + 51) 6 (nI n)) (B + 52) 4 0) (B + 52) (208 + a) 999) (B + 52) (213 + a) 0) (B + 51) 5 0) (B + 51) 7 0) (B + 51) 8 0 = mpH (setI (setI (setI h (B + 51) 4 (nI a)) (B + 51) 6 (nI n)) (B + 52) 4 0) B a 0 false 0 [] 999 := by
  refine AH_ext rfl rfl (fun b => ?_) rfl rfl
  by_cases e1 : b = B + 51
  · subst e1
    rw [mp_1]
    simp only [hI_setI_s, hI_setI_n (show B + 51 ≠ B + 52 by omega)]
    rfl
  · by_cases e2 : b = B + 52
    · subst e2
      rw [mp_2]
      simp only [hI_setI_s, hI_setI_n (show B + 52 ≠ B + 51 by omega)]
      unfold mpR
      rw [upd_c (i := 208 + a) (by omega)]
      rfl
    · rw [mp_n e1 e2]
      simp only [hI_setI_n e1, hI_setI_n e2]
theorem clL_g {tx : Nat → Int32} {n : Nat} : ∀ k (r : LR), r.2.1 ≤ n → r.2.2.1.length ≤ r.2.1 → (clL (hrT tx n) k r).2.1 ≤ n ∧ (clL (hrT tx n) k r).2.2.1.length ≤ (clL (hrT tx n) k r).2.1
  | 0, r, h1, h2 => ⟨h1, h2⟩
  | k + 1, r, h1, h2 => by
    unfold clL
    split
    · exact ⟨h1, h2⟩
    · split
      · rename_i q
        have hp := hrT_n (by decide) q
        have h := clP_g (tx := tx) (n := n) (r.2.1 + 1) r.2.2.1 r.2.2.2 (by omega)
        exact clL_g k _ (h.1 (by omega)) h.2.2
      · exact ⟨h1, h2⟩
theorem clPH {tx : Nat → Int32} {n : Nat} {H : Nat → Int32} (hH : H = hrT tx n) (p : Nat) (l : List Int32) (mo : Int32) (hl : l.length ≤ p) : (p ≤ n → (clP H p l mo).2.1 ≤ n) ∧ p ≤ (clP H p l mo).2.1 ∧ (clP H p l mo).2.2.1.length ≤ (clP H p l mo).2.1 := by subst hH; exact clP_g p l mo hl
set_option maxRecDepth 100000 in
theorem m_law (g : GG) (h : AH) (B : Nat) (hL : LY h B) (a n : Nat) (ha2 : hI h (B + 52) 2 = nI a) (ha : a ≤ 5) (hn4 : hI h (B + 52) 4 = nI n) (hn : n ≤ 120) : AM g 26 0 0 mX12_law [.ref (B + 51)] h (fun rv h' => (a = 5 ∧ rv = some (.int (-4)) ∧ h' = h) ∨ (a < 5 ∧ ((lawP (hrT (fun i => hI h (B + 52) (10 + i)) n)).1 = true ∨ ¬ (lawP (hrT (fun i => hI h (B + 52) (10 + i)) n)).2.1 = n) ∧ rv = some (.int (-10 - nI (lawP (hrT (fun i => hI h (B + 52) (10 + i)) n)).2.1)) ∧ h' = mpL (setI (setI (setI h (B + 51) 4 (nI a)) (B + 51) 6 (nI n)) (B + 52) 4 0) B a (lawP (hrT (fun i => hI h (B + 52) (10 + i)) n))) ∨ (a < 5 ∧ (lawP (hrT (fun i => hI h (B + 52) (10 + i)) n)).1 = false ∧ (lawP (hrT (fun i => hI h (B + 52) (10 + i)) n)).2.1 = n ∧ rv = some (.int (nI a)) ∧ h' = setI (setI (mpL (setI (setI (setI h (B + 51) 4 (nI a)) (B + 51) 6 (nI n)) (B + 52) 4 0) B a (lawP (hrT (fun i => hI h (B + 52) (10 + i)) n))) (B + 52) 2 (nI a + 1)) (B + 52) 8 (nI a))) := by
  refine AM.of [(0, .ref (B + 51))] (by decide) (Nat.le_of_ble_eq_true rfl) rfl ?_
  intro V hV
  have hb : V.2.1.2.1 = cX12_law := by subst hV; rfl
  have ow : V.2.1.1.cls = RX12 := by subst hV; rfl
  have hr : V.2.2.1 = aw_rm 26 0 0 := by subst hV; rfl
  have hz : V.2.2.2 = aw_Z V.1 (fun rv h' => (a = 5 ∧ rv = some (.int (-4)) ∧ h' = h) ∨ (a < 5 ∧ ((lawP (hrT (fun i => hI h (B + 52) (10 + i)) n)).1 = true ∨ ¬ (lawP (hrT (fun i => hI h (B + 52) (10 + i)) n)).2.1 = n) ∧ rv = some (.int (-10 - nI (lawP (hrT (fun i => hI h (B + 52) (10 + i)) n)).2.1)) ∧ h' = mpL (setI (setI (setI h (B + 51) 4 (nI a)) (B + 51) 6 (nI n)) (B + 52) 4 0) B a (lawP (hrT (fun i => hI h (B + 52) (10 + i)) n))) ∨ (a < 5 ∧ (lawP (hrT (fun i => hI h (B + 52) (10 + i)) n)).1 = false ∧ (lawP (hrT (fun i => hI h (B + 52) (10 + i)) n)).2.1 = n ∧ rv = some (.int (nI a)) ∧ h' = setI (setI (mpL (setI (setI (setI h (B + 51) 4 (nI a)) (B + 51) 6 (nI n)) (B + 52) 4 0) B a (lawP (hrT (fun i => hI h (B + 52) (10 + i)) n))) (B + 52) 2 (nI a + 1)) (B + 52) 8 (nI a))) V.2.2.1 := by subst hV; rfl
  have hg : V.1 = g := by subst hV; rfl
  have hret : V.2.1.2.2.2 = (some .int) := by subst hV; rfl
  have hml : V.2.1.2.2.1 = 2 := by subst hV; rfl
  clear hV
  refine a_aload_n hb dX12_law_0 rfl 0 rfl ?_
  refine a_getQ (q := (B + 52)) hb dX12_law_1 (by rw [ow]; exact fl_RX12_9_12) (hL.1 51 (by decide)) (hL.2.1 (51, 1, 52) (by decide)) ?_
  refine a_iconst (v := 2) hb dX12_law_4 (by decide) ?_
  refine b_iald (j := 2) hb dX12_law_5 (hL.1 52 (by decide)) ⟨by decide, by decide⟩ (by decide) ?_
  rw [ha2]
  show AW V 0 0 h 6 [(0, .ref (B + 51))] [.int (nI a)]
  refine a_iconst (v := 5) hb dX12_law_6 (by decide) ?_
  refine a_icmp_ne hb 13 dX12_law_7 (by decide) (fun c7 => ?_) (fun c7 => ?_)
  · have a5 : a < 5 := by have q : a ≠ 5 := fun q => c7 (by rw [q]; rfl); omega
    refine a_aload_n hb dX12_law_13 rfl 0 rfl ?_
    refine a_aload_n hb dX12_law_14 rfl 0 rfl ?_
    refine a_getQ (q := (B + 52)) hb dX12_law_15 (by rw [ow]; exact fl_RX12_9_12) (hL.1 51 (by decide)) (hL.2.1 (51, 1, 52) (by decide)) ?_
    refine a_iconst (v := 2) hb dX12_law_18 (by decide) ?_
    refine b_iald (j := 2) hb dX12_law_19 (hL.1 52 (by decide)) ⟨by decide, by decide⟩ (by decide) ?_
    rw [ha2]
    show AW V 0 0 h 20 [(0, .ref (B + 51))] [.int (nI a), .ref (B + 51)]
    refine a_putI (fty := .int) hb dX12_law_20 (by rw [ow]; exact fp_RX12_88_12) (Or.inr (fun C T N hq => by cases hq; rfl)) (hL.1 51 (by decide)) rfl rfl ?_
    refine a_aload_n hb dX12_law_23 rfl 0 rfl ?_
    refine a_aload_n hb dX12_law_24 rfl 0 rfl ?_
    refine a_getQ (q := (B + 52)) hb dX12_law_25 (by rw [ow]; exact fl_RX12_9_12) (hL.1 51 (by decide)) (hL.2.1 (51, 1, 52) (by decide)) ?_
    refine a_iconst (v := 4) hb dX12_law_28 (by decide) ?_
    refine b_iald (j := 4) hb dX12_law_29 (hL.1 52 (by decide)) ⟨by decide, by decide⟩ (by decide) ?_
    rw [hI_setI_n (by omega), hn4]
    show AW V 0 0 (setI h (B + 51) 4 (nI a)) 30 [(0, .ref (B + 51))] [.int (nI n), .ref (B + 51)]
    refine a_putI (fty := .int) hb dX12_law_30 (by rw [ow]; exact fp_RX12_64_12) (Or.inr (fun C T N hq => by cases hq; rfl)) (hL.1 51 (by decide)) rfl rfl ?_
    refine a_aload_n hb dX12_law_33 rfl 0 rfl ?_
    refine a_getQ (q := (B + 52)) hb dX12_law_34 (by rw [ow]; exact fl_RX12_9_12) (hL.1 51 (by decide)) (hL.2.1 (51, 1, 52) (by decide)) ?_
    refine a_iconst (v := 4) hb dX12_law_37 (by decide) ?_
    refine a_iconst (v := 0) hb dX12_law_38 (by decide) ?_
    refine b_iast (j := 4) hb dX12_law_39 (hL.1 52 (by decide)) ⟨by decide, by decide⟩ (by decide) ?_
    refine a_aload_n hb dX12_law_40 rfl 0 rfl ?_
    refine a_getQ (q := (B + 52)) hb dX12_law_41 (by rw [ow]; exact fl_RX12_9_12) (hL.1 51 (by decide)) (hL.2.1 (51, 1, 52) (by decide)) ?_
    refine a_sipush (v := 208) hb dX12_law_44 (by decide) ?_
    refine a_aload_n hb dX12_law_47 rfl 0 rfl ?_
    refine a_getI hb dX12_law_48 (by rw [ow]; exact fl_RX12_88_12) (hL.1 51 (by decide)) ?_
    rw [show hI (setI (setI (setI h (B + 51) 4 (nI a)) (B + 51) 6 (nI n)) (B + 52) 4 0) (B + 51) 4 = nI a from by simp [hI_setI_s, hI_setI_n, upd]]
    show AW V 0 0 (setI (setI (setI h (B + 51) 4 (nI a)) (B + 51) 6 (nI n)) (B + 52) 4 0) 51 [(0, .ref (B + 51))] [.int (nI a), .int 208, .ref (B + 52)]
    refine a_iadd hb dX12_law_51 ?_
    refine a_sipush (v := 999) hb dX12_law_52 (by decide) ?_
    refine b_iast (j := (208 + a)) hb dX12_law_55 (hL.1 52 (by decide)) (IX.add ⟨by decide, by decide⟩ (IX.n (by omega)) (by omega)) (by omega) ?_
    refine a_aload_n hb dX12_law_56 rfl 0 rfl ?_
    refine a_getQ (q := (B + 52)) hb dX12_law_57 (by rw [ow]; exact fl_RX12_9_12) (hL.1 51 (by decide)) (hL.2.1 (51, 1, 52) (by decide)) ?_
    refine a_sipush (v := 213) hb dX12_law_60 (by decide) ?_
    refine a_aload_n hb dX12_law_63 rfl 0 rfl ?_
    refine a_getI hb dX12_law_64 (by rw [ow]; exact fl_RX12_88_12) (hL.1 51 (by decide)) ?_
    rw [show hI (setI (setI (setI (setI h (B + 51) 4 (nI a)) (B + 51) 6 (nI n)) (B + 52) 4 0) (B + 52) (208 + a) 999) (B + 51) 4 = nI a from by simp [hI_setI_s, hI_setI_n, upd]]
    show AW V 0 0 (setI (setI (setI (setI h (B + 51) 4 (nI a)) (B + 51) 6 (nI n)) (B + 52) 4 0) (B + 52) (208 + a) 999) 67 [(0, .ref (B + 51))] [.int (nI a), .int 213, .ref (B + 52)]
    refine a_iadd hb dX12_law_67 ?_
    refine a_iconst (v := 0) hb dX12_law_68 (by decide) ?_
    refine b_iast (j := (213 + a)) hb dX12_law_69 (hL.1 52 (by decide)) (IX.add ⟨by decide, by decide⟩ (IX.n (by omega)) (by omega)) (by omega) ?_
    refine a_aload_n hb dX12_law_70 rfl 0 rfl ?_
    refine a_iconst (v := 0) hb dX12_law_71 (by decide) ?_
    refine a_putI (fty := .int) hb dX12_law_72 (by rw [ow]; exact fp_RX12_61_12) (Or.inr (fun C T N hq => by cases hq; rfl)) (hL.1 51 (by decide)) rfl rfl ?_
    refine a_aload_n hb dX12_law_75 rfl 0 rfl ?_
    refine a_iconst (v := 0) hb dX12_law_76 (by decide) ?_
    refine a_putI (fty := .boolean) hb dX12_law_77 (by rw [ow]; exact fp_RX12_67_12) (Or.inr (fun C T N hq => by cases hq; rfl)) (hL.1 51 (by decide)) rfl rfl ?_
    refine a_aload_n hb dX12_law_80 rfl 0 rfl ?_
    refine a_iconst (v := 0) hb dX12_law_81 (by decide) ?_
    refine a_putI (fty := .int) hb dX12_law_82 (by rw [ow]; exact fp_RX12_91_12) (Or.inr (fun C T N hq => by cases hq; rfl)) (hL.1 51 (by decide)) rfl rfl ?_
    rw [mp_start a5]
    generalize eh1 : (setI (setI (setI h (B + 51) 4 (nI a)) (B + 51) 6 (nI n)) (B + 52) 4 0) = h1
    have hL1 : LY h1 B := by rw [← eh1]; exact hL
    have hac : hI h1 (B + 51) 4 = nI a := by rw [← eh1]; simp [hI_setI_s, hI_setI_n, upd]
    have he : hI h1 (B + 51) 6 = nI n := by rw [← eh1]; simp [hI_setI_s, hI_setI_n, upd]
    have hS1 : ∀ k, k ≠ 4 → hI h1 (B + 52) k = hI h (B + 52) k := by intro k q; rw [← eh1, hI_setI_s, upd_n q, hI_setI_n (by omega), hI_setI_n (by omega)]
    generalize eH : (hrT (fun i => hI h (B + 52) (10 + i)) n) = H at *
    have hH : H = hrT (fun i => hI h1 (B + 52) (10 + i)) n := by rw [← eH]; congr 1; funext i; rw [hS1 (10 + i) (by omega)]
    have hlp : clL H 7 (clP H 0 [] 999) = lawP H := rfl
    generalize lawP H = R at *
    clear eH
    refine a_iconst (v := 1) hb dX12_law_85 (by decide) ?_
    refine a_istore_n (L' := [(1, .int 1), (0, .ref (B + 51))]) hb dX12_law_86 rfl (by rw [hml]; decide) rfl ?_
    have fin : ∀ v : Int32, AW V 0 0 (mpL h1 B a R) 133 [(0, .ref (B + 51)), (1, .int v)] [] := by
      intro v
      have R1 : R.2.1 ≤ n := by rw [← hlp, hH]; exact (clL_g 7 _ ((clP_g 0 [] 999 (Nat.le_refl _)).1 (Nat.zero_le _)) (clP_g (n := n) 0 [] 999 (Nat.le_refl _)).2.2).1
      refine a_aload_n hb dX12_law_133 rfl 0 rfl ?_
      refine a_getI hb dX12_law_134 (by rw [ow]; exact fl_RX12_67_12) ((LY.mp hL1).1 51 (by decide)) ?_
      rw [show hI (mpL h1 B a R) (B + 51) 7 = b2i R.1 from mp_f7]
      show AW V 0 0 (mpL h1 B a R) 137 [(0, .ref (B + 51)), (1, .int v)] [.int (b2i R.1)]
      refine a_if_ne hb 151 dX12_law_137 (by decide) (fun c137 => ?_) (fun c137 => ?_)
      · simp [b2i_0] at c137
        refine a_bipush (v := (-10)) hb dX12_law_151 (by decide) ?_
        refine a_aload_n hb dX12_law_153 rfl 0 rfl ?_
        refine a_getI hb dX12_law_154 (by rw [ow]; exact fl_RX12_61_12) ((LY.mp hL1).1 51 (by decide)) ?_
        rw [show hI (mpL h1 B a R) (B + 51) 5 = nI R.2.1 from mp_f5]
        show AW V 0 0 (mpL h1 B a R) 157 [(0, .ref (B + 51)), (1, .int v)] [.int (nI R.2.1), .int (-10)]
        refine a_isub hb dX12_law_157 ?_
        exact a_ireturn (ty := .int) hb hz dX12_law_158 hret rfl (by rw [hr]; exact Nat.le_of_ble_eq_true rfl) (by rw [hr]; exact Nat.le_of_ble_eq_true rfl) (Or.inr (Or.inl ⟨a5, Or.inl c137, rfl, rfl⟩))
      · simp [b2i_0] at c137
        refine a_aload_n hb dX12_law_140 rfl 0 rfl ?_
        refine a_getI hb dX12_law_141 (by rw [ow]; exact fl_RX12_61_12) ((LY.mp hL1).1 51 (by decide)) ?_
        rw [show hI (mpL h1 B a R) (B + 51) 5 = nI R.2.1 from mp_f5]
        show AW V 0 0 (mpL h1 B a R) 144 [(0, .ref (B + 51)), (1, .int v)] [.int (nI R.2.1)]
        refine a_aload_n hb dX12_law_144 rfl 0 rfl ?_
        refine a_getI hb dX12_law_145 (by rw [ow]; exact fl_RX12_64_12) ((LY.mp hL1).1 51 (by decide)) ?_
        rw [show hI (mpL h1 B a R) (B + 51) 6 = nI n from mp_f6.trans he]
        show AW V 0 0 (mpL h1 B a R) 148 [(0, .ref (B + 51)), (1, .int v)] [.int (nI n), .int (nI R.2.1)]
        refine a_icmp_eq hb 159 dX12_law_148 (by decide) (fun c148 => ?_) (fun c148 => ?_)
        · have pn : R.2.1 = n := nI_inj (by omega) (by omega) c148
          refine a_aload_n hb dX12_law_159 rfl 0 rfl ?_
          refine a_getQ (q := (B + 52)) hb dX12_law_160 (by rw [ow]; exact fl_RX12_9_12) ((LY.mp hL1).1 51 (by decide)) ((LY.mp hL1).2.1 (51, 1, 52) (by decide)) ?_
          refine a_iconst (v := 2) hb dX12_law_163 (by decide) ?_
          refine a_dup2_11 hb dX12_law_164 rfl rfl ?_
          refine b_iald (j := 2) hb dX12_law_165 ((LY.mp hL1).1 52 (by decide)) ⟨by decide, by decide⟩ (by decide) ?_
          rw [show hI (mpL h1 B a R) (B + 52) 2 = nI a from by unfold mpL; rw [mp_2, mpR_lo (by omega), hS1 2 (by omega), ha2]]
          show AW V 0 0 (mpL h1 B a R) 166 [(0, .ref (B + 51)), (1, .int v)] [.int (nI a), .int 2, .ref (B + 52)]
          refine a_iconst (v := 1) hb dX12_law_166 (by decide) ?_
          refine a_iadd hb dX12_law_167 ?_
          refine b_iast (j := 2) hb dX12_law_168 ((LY.mp hL1).1 52 (by decide)) ⟨by decide, by decide⟩ (by decide) ?_
          refine a_aload_n hb dX12_law_169 rfl 0 rfl ?_
          refine a_getQ (q := (B + 52)) hb dX12_law_170 (by rw [ow]; exact fl_RX12_9_12) ((LY.mp hL1).1 51 (by decide)) ((LY.mp hL1).2.1 (51, 1, 52) (by decide)) ?_
          refine a_bipush (v := 8) hb dX12_law_173 (by decide) ?_
          refine a_aload_n hb dX12_law_175 rfl 0 rfl ?_
          refine a_getI hb dX12_law_176 (by rw [ow]; exact fl_RX12_88_12) ((LY.mp hL1).1 51 (by decide)) ?_
          rw [show hI (setI (mpL h1 B a R) (B + 52) 2 ((nI a) + 1)) (B + 51) 4 = nI a from by simp only [hI_setI_n (show B + 51 ≠ B + 52 by omega)]; exact mp_f4.trans hac]
          show AW V 0 0 (setI (mpL h1 B a R) (B + 52) 2 ((nI a) + 1)) 179 [(0, .ref (B + 51)), (1, .int v)] [.int (nI a), .int 8, .ref (B + 52)]
          refine b_iast (j := 8) hb dX12_law_179 ((LY.mp hL1).1 52 (by decide)) ⟨by decide, by decide⟩ (by decide) ?_
          refine a_aload_n hb dX12_law_180 rfl 0 rfl ?_
          refine a_getI hb dX12_law_181 (by rw [ow]; exact fl_RX12_88_12) ((LY.mp hL1).1 51 (by decide)) ?_
          rw [show hI (setI (setI (mpL h1 B a R) (B + 52) 2 ((nI a) + 1)) (B + 52) 8 (nI a)) (B + 51) 4 = nI a from by simp only [hI_setI_n (show B + 51 ≠ B + 52 by omega)]; exact mp_f4.trans hac]
          show AW V 0 0 (setI (setI (mpL h1 B a R) (B + 52) 2 ((nI a) + 1)) (B + 52) 8 (nI a)) 184 [(0, .ref (B + 51)), (1, .int v)] [.int (nI a)]
          exact a_ireturn (ty := .int) hb hz dX12_law_184 hret rfl (by rw [hr]; exact Nat.le_of_ble_eq_true rfl) (by rw [hr]; exact Nat.le_of_ble_eq_true rfl) (Or.inr (Or.inr ⟨a5, c137, pn, rfl, rfl⟩))
        · have pn : ¬ R.2.1 = n := fun q => c148 (by rw [q])
          refine a_bipush (v := (-10)) hb dX12_law_151 (by decide) ?_
          refine a_aload_n hb dX12_law_153 rfl 0 rfl ?_
          refine a_getI hb dX12_law_154 (by rw [ow]; exact fl_RX12_61_12) ((LY.mp hL1).1 51 (by decide)) ?_
          rw [show hI (mpL h1 B a R) (B + 51) 5 = nI R.2.1 from mp_f5]
          show AW V 0 0 (mpL h1 B a R) 157 [(0, .ref (B + 51)), (1, .int v)] [.int (nI R.2.1), .int (-10)]
          refine a_isub hb dX12_law_157 ?_
          exact a_ireturn (ty := .int) hb hz dX12_law_158 hret rfl (by rw [hr]; exact Nat.le_of_ble_eq_true rfl) (by rw [hr]; exact Nat.le_of_ble_eq_true rfl) (Or.inr (Or.inl ⟨a5, Or.inr pn, rfl, rfl⟩))
    have loop : ∀ (k i : Nat) (r : LR), i + k = 8 → r.2.1 ≤ n → r.2.2.1.length ≤ r.2.1 → clL H k r = R → AW V 0 0 (mpL h1 B a r) 91 [(0, .ref (B + 51)), (1, .int (nI i))] [] := by
      intro k
      induction k with
      | zero =>
        intro i r hi h1_ h2_ h4
        refine a_aload_n hb dX12_law_91 rfl 0 rfl ?_
        refine a_getI hb dX12_law_92 (by rw [ow]; exact fl_RX12_67_12) ((LY.mp hL1).1 51 (by decide)) ?_
        rw [show hI (mpL h1 B a r) (B + 51) 7 = b2i r.1 from mp_f7]
        show AW V 0 0 (mpL h1 B a r) 95 [(0, .ref (B + 51)), (1, .int (nI i))] [.int (b2i r.1)]
        refine a_if_ne hb 133 dX12_law_95 (by decide) (fun c95 => ?_) (fun c95 => ?_)
        · simp [b2i_0] at c95
          rw [show r = R from by rw [← h4]; rfl]
          exact fin _
        · simp [b2i_0] at c95
          refine a_iload_n hb dX12_law_98 rfl 1 rfl ?_
          refine a_bipush (v := 8) hb dX12_law_99 (by decide) ?_
          refine a_icmp_ge hb 133 dX12_law_101 (by decide) (fun c101 => ?_) (fun c101 => absurd (by rw [show i = 8 by omega]; decide) c101)
          rw [show r = R from by rw [← h4]; rfl]
          exact fin _
      | succ k ih =>
        intro i r hi h1_ h2_ h4
        refine a_aload_n hb dX12_law_91 rfl 0 rfl ?_
        refine a_getI hb dX12_law_92 (by rw [ow]; exact fl_RX12_67_12) ((LY.mp hL1).1 51 (by decide)) ?_
        rw [show hI (mpL h1 B a r) (B + 51) 7 = b2i r.1 from mp_f7]
        show AW V 0 0 (mpL h1 B a r) 95 [(0, .ref (B + 51)), (1, .int (nI i))] [.int (b2i r.1)]
        refine a_if_ne hb 133 dX12_law_95 (by decide) (fun c95 => ?_) (fun c95 => ?_)
        · simp [b2i_0] at c95
          rw [show r = R from by simp only [clL, c95] at h4; simpa using h4]
          exact fin _
        · simp [b2i_0] at c95
          refine a_iload_n hb dX12_law_98 rfl 1 rfl ?_
          refine a_bipush (v := 8) hb dX12_law_99 (by decide) ?_
          refine a_icmp_ge hb 133 dX12_law_101 (by decide) (fun c101 => absurd c101 (by exact nI_ge (b := 8) (a := i) (by omega) (by omega))) (fun c101 => ?_)
          refine a_aload_n hb dX12_law_104 rfl 0 rfl ?_
          refine a_callV hb dX12_law_105 (by rw [hg]; exact m_here g h1 B hL1 a n a5 hac he hn H hH r.2.1 0 r.1 r.2.2.1 r.2.2.2 h1_) (by rw [ow]; exact clv_RX12_71) ((LY.mp hL1).1 51 (by decide)) (by decide) rfl rfl rfl (Nat.le_of_ble_eq_true rfl) (by rw [hr]; exact ⟨by decide, by decide⟩) (by rw [hr]; exact ⟨Nat.le_of_ble_eq_true rfl, Nat.le_of_ble_eq_true rfl⟩) ?_
          intro rv h' hp_
          rw [hp_.1, hp_.2]
          show AW V 0 0 (mpL h1 B a r) 108 [(0, .ref (B + 51)), (1, .int (nI i))] [.int (H r.2.1)]
          refine a_bipush (v := 59) hb dX12_law_108 (by decide) ?_
          refine a_icmp_ne hb 133 dX12_law_110 (by decide) (fun c110 => ?_) (fun c110 => ?_)
          · rw [show r = R from by simp only [clL, c95, if_neg c110] at h4; simpa using h4]
            exact fin _
          · have rl : r.2.1 < n := by rw [hH] at c110; exact hrT_n (by decide) c110
            refine a_aload_n hb dX12_law_113 rfl 0 rfl ?_
            refine a_dup hb dX12_law_114 rfl ?_
            refine a_getI hb dX12_law_115 (by rw [ow]; exact fl_RX12_61_12) ((LY.mp hL1).1 51 (by decide)) ?_
            rw [show hI (mpL h1 B a r) (B + 51) 5 = nI r.2.1 from mp_f5]
            show AW V 0 0 (mpL h1 B a r) 118 [(0, .ref (B + 51)), (1, .int (nI i))] [.int (nI r.2.1), .ref (B + 51)]
            refine a_iconst (v := 1) hb dX12_law_118 (by decide) ?_
            refine a_iadd hb dX12_law_119 ?_
            refine a_putI (fty := .int) hb dX12_law_120 (by rw [ow]; exact fp_RX12_61_12) (Or.inr (fun C T N hq => by cases hq; rfl)) ((LY.mp hL1).1 51 (by decide)) rfl rfl ?_
            rw [show setI (mpL h1 B a r) (B + 51) 5 (nI r.2.1 + 1) = mpH h1 B a (r.2.1 + 1) r.1 0 r.2.2.1 r.2.2.2 from mp_5 (by rw [nI_1]), c95]
            show AW V 0 0 (mpH h1 B a (r.2.1 + 1) false 0 r.2.2.1 r.2.2.2) 123 [(0, .ref (B + 51)), (1, .int (nI i))] []
            refine a_aload_n hb dX12_law_123 rfl 0 rfl ?_
            refine a_callV hb dX12_law_124 (by rw [hg]; exact m_clauseHere g h1 B hL1 a n a5 hac he hn H hH (r.2.1 + 1) r.2.2.1 r.2.2.2 (by omega) (by omega)) (by rw [ow]; exact clv_RX12_131) ((LY.mp hL1).1 51 (by decide)) (by decide) rfl rfl rfl (Nat.le_of_ble_eq_true rfl) (by rw [hr]; exact ⟨by decide, by decide⟩) (by rw [hr]; exact ⟨Nat.le_of_ble_eq_true rfl, Nat.le_of_ble_eq_true rfl⟩) ?_
            intro rv h' hp_
            rw [hp_.1, hp_.2]
            show AW V 0 0 (mpL h1 B a (clP H (r.2.1 + 1) r.2.2.1 r.2.2.2)) 127 [(0, .ref (B + 51)), (1, .int (nI i))] []
            refine a_iinc (v := ((nI i) + 1)) (L' := [(1, .int ((nI i) + 1)), (0, .ref (B + 51))]) hb dX12_law_127 1 rfl rfl (by rw [hml]; decide) rfl ?_
            refine a_goto hb 91 dX12_law_130 (by decide) ?_
            refine AW.sub (L' := [(0, .ref (B + 51)), (1, .int ((nI i) + 1))]) [1, 0] rfl ?_
            have gg := clPH hH (r.2.1 + 1) r.2.2.1 r.2.2.2 (by omega)
            exact AW.eq (ih (i + 1) _ (by omega) (gg.1 (by omega)) gg.2.2 (by simp only [clL, c95, if_pos c110] at h4; simpa using h4)) rfl rfl (by rw [nI_1]) rfl
    show AW V 0 0 (mpH h1 B a 0 false 0 [] 999) 87 [(1, .int 1), (0, .ref (B + 51))] []
    refine a_aload_n hb dX12_law_87 rfl 1 rfl ?_
    refine a_callV hb dX12_law_88 (by rw [hg]; exact m_clauseHere g h1 B hL1 a n a5 hac he hn H hH 0 [] 999 (Nat.zero_le _) (Nat.le_refl _)) (by rw [ow]; exact clv_RX12_131) ((LY.mp hL1).1 51 (by decide)) (by decide) rfl rfl rfl (Nat.le_of_ble_eq_true rfl) (by rw [hr]; exact ⟨by decide, by decide⟩) (by rw [hr]; exact ⟨Nat.le_of_ble_eq_true rfl, Nat.le_of_ble_eq_true rfl⟩) ?_
    intro rv h' hp_
    rw [hp_.1, hp_.2]
    show AW V 0 0 (mpL h1 B a (clP H 0 [] 999)) 91 [(1, .int 1), (0, .ref (B + 51))] []
    have gg := clPH hH 0 [] 999 (Nat.le_refl _)
    exact AW.eq (loop 7 1 _ (by omega) (gg.1 (Nat.zero_le _)) gg.2.2 hlp) rfl rfl rfl rfl
  · have a5 : a = 5 := nI_inj (by omega) (by omega) c7
    refine a_bipush (v := (-4)) hb dX12_law_10 (by decide) ?_
    exact a_ireturn (ty := .int) hb hz dX12_law_12 hret rfl (by rw [hr]; exact Nat.le_of_ble_eq_true rfl) (by rw [hr]; exact Nat.le_of_ble_eq_true rfl) (Or.inl ⟨a5, rfl, rfl⟩)
