/-! ===== the model: best ===== -/
def Az (B : Nat) (a : Nat) : Prop := a = B + 52 ∨ a = B + 54 ∨ a = B + 55 ∨ a = B + 57 ∨ a = B + 58 ∨ a = B + 59
/-- the model's row with work w called at t for n -/
def sbS (S : Nat → Int32) (w t n : Nat) : Nat → Int32 := upd (upd S (198 + w) (nI t)) (203 + w) (nI n)
theorem sbS_n {S : Nat → Int32} {w t n k : Nat} (h1 : k ≠ 198 + w) (h2 : k ≠ 203 + w) : sbS S w t n k = S k := by unfold sbS; rw [upd_n h2, upd_n h1]
theorem upd_4 {S : Nat → Int32} {a b : Nat} {v v' x y : Int32} (h : a ≠ b) : upd (upd (upd (upd S a v) b v') a x) b y = upd (upd S a x) b y := by
  funext j
  by_cases e : j = b
  · subst e; rw [upd_s, upd_s]
  · rw [upd_n e, upd_n e]
    by_cases f : j = a
    · subst f; rw [upd_s, upd_s]
    · rw [upd_n f, upd_n f, upd_n e, upd_n f]
theorem upd_5 {S : Nat → Int32} {a b : Nat} : upd (upd S a (S a)) b (S b) = S := by
  rw [upd_i (f := S) rfl, upd_i rfl]
/-- what the plan costs -/
def coS (S : Nat → Int32) (w n z t : Nat) : Int32 := cst (sbS S w t (z + 1)) n
/-- the first tick at which the plan isn't kept, or -5 -/
def hoS (S dm : Nat → Int32) (w n : Nat) (c : Int32) (z t : Nat) : Int32 := fbF (fun u => btS (fun u => mdB (sbS S w t (z + 1)) (-1) (nI u) n) dm (S 7) (u + 1)) c 0 40
def bsI (co ho : Nat → Nat → Int32) (st : Int32 × Int32 × Int32) (z : Nat) : Nat → Int32 × Int32 × Int32
  | 0 => st
  | t + 1 => if ((bsI co ho st z t).2.2 = -5 ∨ co z t < (bsI co ho st z t).2.2) ∧ ho z t = -5 then (nI t, nI (z + 1), co z t) else bsI co ho st z t
def bsO (co ho : Nat → Nat → Int32) : Nat → Int32 × Int32 × Int32
  | 0 => (-5, -5, -5)
  | z + 1 => bsI co ho (bsO co ho z) z 40
set_option maxRecDepth 100000 in
theorem m_best (g : GG) (h : AH) (B : Nat) (hL : LY h B) (P : PF) (hP : PcM g B h P) (h6 : ¬ hI h (B + 52) 6 = 0) (hl : Nat) (hhl : IX (hI h (B + 52) 8) hl) (lhl : hl < 5) (np : Nat) (hnp : IX (hI h (B + 52) 0) np) (lnp : np ≤ 8) (n : Nat) (hn : IX (hI h (B + 52) 1) n) (ln : n ≤ 5) (h7 : ¬ (hI h (B + 52) 7).toInt64 = 0) (hla : ¬ hI h (B + 52) 8 = -1) (w c x : Int32) : AM g 8 0 0 mX12_best [.ref (B + 51), .int w, .int c, .int x] h (fun rv h' => rv = some (.int (if oO w 0 (hI h (B + 52) 1 - 1) then -1 else if oO x 0 2 then -1 else if oO c 0 999 then -2 else if x = 0 then (bsO (coS (hI h (B + 52)) w.toNatClampNeg n) (hoS (hI h (B + 52)) (fun t => dmS P (hI h (B + 52)) (hI h (B + 56)) hl (nI t) np) w.toNatClampNeg n c) 20).1 else if x = 1 then (bsO (coS (hI h (B + 52)) w.toNatClampNeg n) (hoS (hI h (B + 52)) (fun t => dmS P (hI h (B + 52)) (hI h (B + 56)) hl (nI t) np) w.toNatClampNeg n c) 20).2.1 else (bsO (coS (hI h (B + 52)) w.toNatClampNeg n) (hoS (hI h (B + 52)) (fun t => dmS P (hI h (B + 52)) (hI h (B + 56)) hl (nI t) np) w.toNatClampNeg n c) 20).2.2)) ∧ FR (Az B) h h' ∧ hI h' (B + 52) = hI h (B + 52)) := by
  refine AM.of [(0, .ref (B + 51)), (1, .int w), (2, .int c), (3, .int x)] (by decide) (Nat.le_of_ble_eq_true rfl) rfl ?_
  intro V hV
  have hb : V.2.1.2.1 = cX12_best := by subst hV; rfl
  have ow : V.2.1.1.cls = RX12 := by subst hV; rfl
  have hr : V.2.2.1 = aw_rm 8 0 0 := by subst hV; rfl
  have hz : V.2.2.2 = aw_Z V.1 (fun rv h' => rv = some (.int (if oO w 0 (hI h (B + 52) 1 - 1) then -1 else if oO x 0 2 then -1 else if oO c 0 999 then -2 else if x = 0 then (bsO (coS (hI h (B + 52)) w.toNatClampNeg n) (hoS (hI h (B + 52)) (fun t => dmS P (hI h (B + 52)) (hI h (B + 56)) hl (nI t) np) w.toNatClampNeg n c) 20).1 else if x = 1 then (bsO (coS (hI h (B + 52)) w.toNatClampNeg n) (hoS (hI h (B + 52)) (fun t => dmS P (hI h (B + 52)) (hI h (B + 56)) hl (nI t) np) w.toNatClampNeg n c) 20).2.1 else (bsO (coS (hI h (B + 52)) w.toNatClampNeg n) (hoS (hI h (B + 52)) (fun t => dmS P (hI h (B + 52)) (hI h (B + 56)) hl (nI t) np) w.toNatClampNeg n c) 20).2.2)) ∧ FR (Az B) h h' ∧ hI h' (B + 52) = hI h (B + 52)) V.2.2.1 := by subst hV; rfl
  have hg : V.1 = g := by subst hV; rfl
  have hret : V.2.1.2.2.2 = (some .int) := by subst hV; rfl
  have hml : V.2.1.2.2.1 = 13 := by subst hV; rfl
  clear hV
  refine a_aload_n hb dX12_best_0 rfl 0 rfl ?_
  refine a_iload_n hb dX12_best_1 rfl 1 rfl ?_
  refine a_callV hb dX12_best_2 (by rw [hg]; exact w_isWork g h B hL w) (by rw [ow]; exact clv_RX12_160) (hL.1 51 (by decide)) (by decide) rfl rfl rfl (Nat.le_of_ble_eq_true rfl) (by rw [hr]; exact ⟨by decide, by decide⟩) (by rw [hr]; exact ⟨Nat.le_of_ble_eq_true rfl, Nat.le_of_ble_eq_true rfl⟩) ?_
  intro rv h' hp
  rw [hp.1, hp.2]
  show AW V 0 0 h 5 [(0, .ref (B + 51)), (1, .int w), (2, .int c), (3, .int x)] [.int (b2i (!oO w 0 (hI h (B + 52) 1 - 1)))]
  refine a_if_eq hb 24 dX12_best_5 (by decide) (fun c5 => ?_) (fun c5 => ?_)
  · simp [b2i_0] at c5
    refine a_iconst (v := (-1)) hb dX12_best_24 (by decide) ?_
    exact a_ireturn (ty := .int) hb hz dX12_best_25 hret rfl (by rw [hr]; exact Nat.le_of_ble_eq_true rfl) (by rw [hr]; exact Nat.le_of_ble_eq_true rfl) (⟨by first | (rw [if_pos (by assumption)]; done) | (rw [if_neg (by simp [c5]), if_pos (by assumption)]; done) | (rw [if_neg (by simp [c5]), if_neg (by simp [c14]), if_pos (by assumption)]; done), FR.rf, rfl⟩)
  · simp [b2i_0] at c5
    obtain ⟨ix_w, lt_w⟩ : IX w w.toNatClampNeg ∧ w.toNatClampNeg < n := oO_lt hn c5
    refine a_iload_n hb dX12_best_8 rfl 3 rfl ?_
    refine a_iconst (v := 0) hb dX12_best_9 (by decide) ?_
    refine a_iconst (v := 2) hb dX12_best_10 (by decide) ?_
    refine a_callS hb dX12_best_11 (by rw [hg]; exact w_in g h x 0 2) (by rw [ow]; exact cls_RX12_48) rfl rfl (Nat.le_of_ble_eq_true rfl) (by rw [hr]; exact ⟨by decide, by decide⟩) (by rw [hr]; exact ⟨Nat.le_of_ble_eq_true rfl, Nat.le_of_ble_eq_true rfl⟩) ?_
    intro rv h' hp
    rw [hp.1, hp.2]
    show AW V 0 0 h 14 [(0, .ref (B + 51)), (1, .int w), (2, .int c), (3, .int x)] [.int (b2i (!oO x 0 2))]
    refine a_if_eq hb 24 dX12_best_14 (by decide) (fun c14 => ?_) (fun c14 => ?_)
    · simp [b2i_0] at c14
      refine a_iconst (v := (-1)) hb dX12_best_24 (by decide) ?_
      exact a_ireturn (ty := .int) hb hz dX12_best_25 hret rfl (by rw [hr]; exact Nat.le_of_ble_eq_true rfl) (by rw [hr]; exact Nat.le_of_ble_eq_true rfl) (⟨by first | (rw [if_pos (by assumption)]; done) | (rw [if_neg (by simp [c5]), if_pos (by assumption)]; done) | (rw [if_neg (by simp [c5]), if_neg (by simp [c14]), if_pos (by assumption)]; done), FR.rf, rfl⟩)
    · simp [b2i_0] at c14
      refine a_aload_n hb dX12_best_17 rfl 0 rfl ?_
      refine a_callV hb dX12_best_18 (by rw [hg]; exact w_isLaw g h B hL) (by rw [ow]; exact clv_RX12_152) (hL.1 51 (by decide)) (by decide) rfl rfl rfl (Nat.le_of_ble_eq_true rfl) (by rw [hr]; exact ⟨by decide, by decide⟩) (by rw [hr]; exact ⟨Nat.le_of_ble_eq_true rfl, Nat.le_of_ble_eq_true rfl⟩) ?_
      intro rv h' hp
      rw [hp.1, hp.2]
      show AW V 0 0 h 21 [(0, .ref (B + 51)), (1, .int w), (2, .int c), (3, .int x)] [.int (b2i (!decide (hI h (B + 52) 8 = -1)))]
      refine a_if_ne hb 26 dX12_best_21 (by decide) (fun c21 => ?_) (fun c21 => absurd c21 (by simp [b2i, hla]))
      refine a_iload_n hb dX12_best_26 rfl 2 rfl ?_
      refine a_callS hb dX12_best_27 (by rw [hg]; exact w_isBound g h c) (by rw [ow]; exact cls_RX12_189) rfl rfl (Nat.le_of_ble_eq_true rfl) (by rw [hr]; exact ⟨by decide, by decide⟩) (by rw [hr]; exact ⟨Nat.le_of_ble_eq_true rfl, Nat.le_of_ble_eq_true rfl⟩) ?_
      intro rv h' hp
      rw [hp.1, hp.2]
      show AW V 0 0 h 30 [(0, .ref (B + 51)), (1, .int w), (2, .int c), (3, .int x)] [.int (b2i (!oO c 0 999))]
      refine a_if_ne hb 36 dX12_best_30 (by decide) (fun c30 => ?_) (fun c30 => ?_)
      · simp [b2i_0] at c30
        refine a_aload_n hb dX12_best_36 rfl 0 rfl ?_
        refine a_getQ (q := (B + 52)) hb dX12_best_37 (by rw [ow]; exact fl_RX12_9_12) (hL.1 51 (by decide)) (hL.2.1 (51, 1, 52) (by decide)) ?_
        refine a_sipush (v := 198) hb dX12_best_40 (by decide) ?_
        refine a_iload_n hb dX12_best_43 rfl 1 rfl ?_
        refine a_iadd hb dX12_best_44 ?_
        refine b_iald (j := (198 + w.toNatClampNeg)) hb dX12_best_45 (hL.1 52 (by decide)) (IX.add ⟨by decide, by decide⟩ ix_w (by omega)) (by omega) ?_
        refine a_istore (L' := [(4, .int (hI h (B + 52) (198 + w.toNatClampNeg))), (0, .ref (B + 51)), (1, .int w), (2, .int c), (3, .int x)]) hb dX12_best_46 (by rw [hml]; decide) rfl ?_
        refine a_aload_n hb dX12_best_48 rfl 1 rfl ?_
        refine a_getQ (q := (B + 52)) hb dX12_best_49 (by rw [ow]; exact fl_RX12_9_12) (hL.1 51 (by decide)) (hL.2.1 (51, 1, 52) (by decide)) ?_
        refine a_sipush (v := 203) hb dX12_best_52 (by decide) ?_
        refine a_iload_n hb dX12_best_55 rfl 2 rfl ?_
        refine a_iadd hb dX12_best_56 ?_
        refine b_iald (j := (203 + w.toNatClampNeg)) hb dX12_best_57 (hL.1 52 (by decide)) (IX.add ⟨by decide, by decide⟩ ix_w (by omega)) (by omega) ?_
        refine a_istore (L' := [(5, .int (hI h (B + 52) (203 + w.toNatClampNeg))), (4, .int (hI h (B + 52) (198 + w.toNatClampNeg))), (0, .ref (B + 51)), (1, .int w), (2, .int c), (3, .int x)]) hb dX12_best_58 (by rw [hml]; decide) rfl ?_
        refine a_bipush (v := (-5)) hb dX12_best_60 (by decide) ?_
        refine a_istore (L' := [(6, .int (-5)), (5, .int (hI h (B + 52) (203 + w.toNatClampNeg))), (4, .int (hI h (B + 52) (198 + w.toNatClampNeg))), (0, .ref (B + 51)), (1, .int w), (2, .int c), (3, .int x)]) hb dX12_best_62 (by rw [hml]; decide) rfl ?_
        refine a_bipush (v := (-5)) hb dX12_best_64 (by decide) ?_
        refine a_istore (L' := [(7, .int (-5)), (6, .int (-5)), (5, .int (hI h (B + 52) (203 + w.toNatClampNeg))), (4, .int (hI h (B + 52) (198 + w.toNatClampNeg))), (0, .ref (B + 51)), (1, .int w), (2, .int c), (3, .int x)]) hb dX12_best_66 (by rw [hml]; decide) rfl ?_
        refine a_bipush (v := (-5)) hb dX12_best_68 (by decide) ?_
        refine a_istore (L' := [(8, .int (-5)), (7, .int (-5)), (6, .int (-5)), (5, .int (hI h (B + 52) (203 + w.toNatClampNeg))), (4, .int (hI h (B + 52) (198 + w.toNatClampNeg))), (0, .ref (B + 51)), (1, .int w), (2, .int c), (3, .int x)]) hb dX12_best_70 (by rw [hml]; decide) rfl ?_
        refine a_aload_n hb dX12_best_72 rfl 5 rfl ?_
        refine a_callV hb dX12_best_73 (by rw [hg]; exact m_looksAtDemand g h B hL P (hP.mv (FR.mo (A := Ad B) (A' := Ax B) FR.rf (by intro a; unfold Ad Ax; omega))) h6 hl hhl lhl np hnp lnp) (by rw [ow]; exact clv_RX12_175) (hL.1 51 (by decide)) (by decide) rfl rfl rfl (Nat.le_of_ble_eq_true rfl) (by rw [hr]; exact ⟨by decide, by decide⟩) (by rw [hr]; exact ⟨Nat.le_of_ble_eq_true rfl, Nat.le_of_ble_eq_true rfl⟩) ?_
        intro rv h1_ hp
        obtain ⟨hv, hf1, hx1_0⟩ := hp
        rw [hv]
        have hF1 := FR.tr FR.rf hf1
        have hL1 : LY h1_ B := FR.ly hF1 hL
        have hS1_56 : hI h1_ (B + 56) = hI h (B + 56) := hF1.2.2.2.2 _ (by unfold Ad; omega)
        have hT1_52 : hI h1_ (B + 52) = hI h (B + 52) := hf1.2.2.2.2 _ (by unfold Ad; omega)
        have hT1_57 : hI h1_ (B + 57) = hI h (B + 57) := hf1.2.2.2.2 _ (by unfold Ad; omega)
        clear hv
        show AW V 0 0 h1_ 76 [(8, .int (-5)), (7, .int (-5)), (6, .int (-5)), (5, .int (hI h (B + 52) (203 + w.toNatClampNeg))), (4, .int (hI h (B + 52) (198 + w.toNatClampNeg))), (0, .ref (B + 51)), (1, .int w), (2, .int c), (3, .int x)] []
        refine a_iconst (v := 1) hb dX12_best_76 (by decide) ?_
        refine a_istore (L' := [(9, .int 1), (8, .int (-5)), (7, .int (-5)), (6, .int (-5)), (5, .int (hI h (B + 52) (203 + w.toNatClampNeg))), (4, .int (hI h (B + 52) (198 + w.toNatClampNeg))), (0, .ref (B + 51)), (1, .int w), (2, .int c), (3, .int x)]) hb dX12_best_77 (by rw [hml]; decide) rfl ?_
        have hFz : FR (Az B) h h1_ := FR.mo (A := Ad B) (A' := Az B) hF1 (by intro a; unfold Ad Az; omega)
        have inner : ∀ (st : Int32 × Int32 × Int32) (z : Nat) (lz : z < 20) (K : ∀ h2, FR (Az B) h h2 → (∃ v v2, hI h2 (B + 52) = upd (upd (hI h (B + 52)) (198 + w.toNatClampNeg) v) (203 + w.toNatClampNeg) v2 ∧ hI h2 (B + 58) = hI h1_ (B + 58)) → AW V 0 0 h2 220 [(0, .ref (B + 51)), (1, .int w), (2, .int c), (3, .int x), (4, .int (hI h (B + 52) (198 + w.toNatClampNeg))), (5, .int (hI h (B + 52) (203 + w.toNatClampNeg))), (6, .int ((bsI (coS (hI h (B + 52)) w.toNatClampNeg n) (hoS (hI h (B + 52)) (fun t => dmS P (hI h (B + 52)) (hI h (B + 56)) hl (nI t) np) w.toNatClampNeg n c) st z 40).1)), (7, .int ((bsI (coS (hI h (B + 52)) w.toNatClampNeg n) (hoS (hI h (B + 52)) (fun t => dmS P (hI h (B + 52)) (hI h (B + 56)) hl (nI t) np) w.toNatClampNeg n c) st z 40).2.1)), (8, .int ((bsI (coS (hI h (B + 52)) w.toNatClampNeg n) (hoS (hI h (B + 52)) (fun t => dmS P (hI h (B + 52)) (hI h (B + 56)) hl (nI t) np) w.toNatClampNeg n c) st z 40).2.2)), (9, .int (nI (z + 1))), (10, .int (nI 40))] []) (k i : Nat) (h1 : AH) (hF1 : FR (Az B) h h1) (iv : ∃ v v2, hI h1 (B + 52) = upd (upd (hI h (B + 52)) (198 + w.toNatClampNeg) v) (203 + w.toNatClampNeg) v2 ∧ hI h1 (B + 58) = hI h1_ (B + 58)), i + k = 40 → AW V 0 0 h1 89 [(0, .ref (B + 51)), (1, .int w), (2, .int c), (3, .int x), (4, .int (hI h (B + 52) (198 + w.toNatClampNeg))), (5, .int (hI h (B + 52) (203 + w.toNatClampNeg))), (6, .int ((bsI (coS (hI h (B + 52)) w.toNatClampNeg n) (hoS (hI h (B + 52)) (fun t => dmS P (hI h (B + 52)) (hI h (B + 56)) hl (nI t) np) w.toNatClampNeg n c) st z i).1)), (7, .int ((bsI (coS (hI h (B + 52)) w.toNatClampNeg n) (hoS (hI h (B + 52)) (fun t => dmS P (hI h (B + 52)) (hI h (B + 56)) hl (nI t) np) w.toNatClampNeg n c) st z i).2.1)), (8, .int ((bsI (coS (hI h (B + 52)) w.toNatClampNeg n) (hoS (hI h (B + 52)) (fun t => dmS P (hI h (B + 52)) (hI h (B + 56)) hl (nI t) np) w.toNatClampNeg n c) st z i).2.2)), (9, .int (nI (z + 1))), (10, .int (nI i))] [] := by
          intro st z lz K
          have lp : ∀ (k i : Nat) (h1 : AH) (hF1 : FR (Az B) h h1) (iv : ∃ v v2, hI h1 (B + 52) = upd (upd (hI h (B + 52)) (198 + w.toNatClampNeg) v) (203 + w.toNatClampNeg) v2 ∧ hI h1 (B + 58) = hI h1_ (B + 58)), i + k = 40 → AW V 0 0 h1 89 [(0, .ref (B + 51)), (1, .int w), (2, .int c), (3, .int x), (4, .int (hI h (B + 52) (198 + w.toNatClampNeg))), (5, .int (hI h (B + 52) (203 + w.toNatClampNeg))), (6, .int ((bsI (coS (hI h (B + 52)) w.toNatClampNeg n) (hoS (hI h (B + 52)) (fun t => dmS P (hI h (B + 52)) (hI h (B + 56)) hl (nI t) np) w.toNatClampNeg n c) st z i).1)), (7, .int ((bsI (coS (hI h (B + 52)) w.toNatClampNeg n) (hoS (hI h (B + 52)) (fun t => dmS P (hI h (B + 52)) (hI h (B + 56)) hl (nI t) np) w.toNatClampNeg n c) st z i).2.1)), (8, .int ((bsI (coS (hI h (B + 52)) w.toNatClampNeg n) (hoS (hI h (B + 52)) (fun t => dmS P (hI h (B + 52)) (hI h (B + 56)) hl (nI t) np) w.toNatClampNeg n c) st z i).2.2)), (9, .int (nI (z + 1))), (10, .int (nI i))] [] := by
            intro k
            induction k with
            | zero =>
              intro i h1 hF1 iv hi
              have hL0_ : LY h1 B := FR.ly hF1 hL
              have hS0_56 : hI h1 (B + 56) = hI h (B + 56) := hF1.2.2.2.2 _ (by unfold Az; omega)
              have hiv := iv
              obtain ⟨v0, v1, hv0, hv58⟩ := hiv
              refine a_iload hb dX12_best_89 10 rfl ?_
              refine a_bipush (v := 40) hb dX12_best_91 (by decide) ?_
              refine a_icmp_ge hb 220 dX12_best_93 (by decide) (fun c93 => ?_) (fun c93 => absurd (by exact nI_le (b := i) (a := 40) (by omega) (by omega)) c93)
              refine AW.sub (L' := [(0, .ref (B + 51)), (1, .int w), (2, .int c), (3, .int x), (4, .int (hI h (B + 52) (198 + w.toNatClampNeg))), (5, .int (hI h (B + 52) (203 + w.toNatClampNeg))), (6, .int ((bsI (coS (hI h (B + 52)) w.toNatClampNeg n) (hoS (hI h (B + 52)) (fun t => dmS P (hI h (B + 52)) (hI h (B + 56)) hl (nI t) np) w.toNatClampNeg n c) st z i).1)), (7, .int ((bsI (coS (hI h (B + 52)) w.toNatClampNeg n) (hoS (hI h (B + 52)) (fun t => dmS P (hI h (B + 52)) (hI h (B + 56)) hl (nI t) np) w.toNatClampNeg n c) st z i).2.1)), (8, .int ((bsI (coS (hI h (B + 52)) w.toNatClampNeg n) (hoS (hI h (B + 52)) (fun t => dmS P (hI h (B + 52)) (hI h (B + 56)) hl (nI t) np) w.toNatClampNeg n c) st z i).2.2)), (9, .int (nI (z + 1))), (10, .int (nI i))]) [0, 1, 2, 3, 4, 5, 6, 7, 8, 9, 10] rfl ?_
              exact AW.eq (K h1 hF1 iv) rfl rfl (by rw [show (40 : Nat) = i by omega]) rfl
            | succ k ih =>
              intro i h1 hF1 iv hi
              have hL0_ : LY h1 B := FR.ly hF1 hL
              have hS0_56 : hI h1 (B + 56) = hI h (B + 56) := hF1.2.2.2.2 _ (by unfold Az; omega)
              have hiv := iv
              obtain ⟨v0, v1, hv0, hv58⟩ := hiv
              refine a_iload hb dX12_best_89 10 rfl ?_
              refine a_bipush (v := 40) hb dX12_best_91 (by decide) ?_
              refine a_icmp_ge hb 220 dX12_best_93 (by decide) (fun c93 => absurd c93 (by exact nI_ge (b := 40) (a := i) (by omega) (by omega))) (fun c93 => ?_)
              refine a_aload_n hb dX12_best_96 rfl 0 rfl ?_
              refine a_getQ (q := (B + 52)) hb dX12_best_97 (by rw [ow]; exact fl_RX12_9_12) (hL0_.1 51 (by decide)) (hL0_.2.1 (51, 1, 52) (by decide)) ?_
              refine a_sipush (v := 198) hb dX12_best_100 (by decide) ?_
              refine a_iload_n hb dX12_best_103 rfl 1 rfl ?_
              refine a_iadd hb dX12_best_104 ?_
              refine a_iload hb dX12_best_105 10 rfl ?_
              refine b_iast (j := (198 + w.toNatClampNeg)) hb dX12_best_107 (hL0_.1 52 (by decide)) (IX.add ⟨by decide, by decide⟩ ix_w (by omega)) (by omega) ?_
              generalize eh2 : (setI h1 (B + 52) (198 + w.toNatClampNeg) (nI i)) = h2_
              have hF2 : FR (Az B) h h2_ := by rw [← eh2]; exact (FR.I hF1 (by unfold Az; omega))
              have hL2 : LY h2_ B := FR.ly hF2 hL
              have hW2 : hI h2_ (B + 52) = upd (hI h1 (B + 52)) (198 + w.toNatClampNeg) (nI i) := by rw [← eh2]; exact hI_setI_s
              have hS2_56 : hI h2_ (B + 56) = hI h (B + 56) := hF2.2.2.2.2 _ (by unfold Az; omega)
              have hT2_57 : hI h2_ (B + 57) = hI h1 (B + 57) := by rw [← eh2]; exact hI_setI_n (by omega)
              have hT2_58 : hI h2_ (B + 58) = hI h1 (B + 58) := by rw [← eh2]; exact hI_setI_n (by omega)
              clear eh2
              refine a_aload_n hb dX12_best_108 rfl 0 rfl ?_
              refine a_getQ (q := (B + 52)) hb dX12_best_109 (by rw [ow]; exact fl_RX12_9_12) (hL2.1 51 (by decide)) (hL2.2.1 (51, 1, 52) (by decide)) ?_
              refine a_sipush (v := 203) hb dX12_best_112 (by decide) ?_
              refine a_iload_n hb dX12_best_115 rfl 1 rfl ?_
              refine a_iadd hb dX12_best_116 ?_
              refine a_iload hb dX12_best_117 9 rfl ?_
              refine b_iast (j := (203 + w.toNatClampNeg)) hb dX12_best_119 (hL2.1 52 (by decide)) (IX.add ⟨by decide, by decide⟩ ix_w (by omega)) (by omega) ?_
              generalize eh3 : (setI h2_ (B + 52) (203 + w.toNatClampNeg) (nI (z + 1))) = h3_
              have hF3 : FR (Az B) h h3_ := by rw [← eh3]; exact (FR.I hF2 (by unfold Az; omega))
              have hL3 : LY h3_ B := FR.ly hF3 hL
              have hW3 : hI h3_ (B + 52) = upd (hI h2_ (B + 52)) (203 + w.toNatClampNeg) (nI (z + 1)) := by rw [← eh3]; exact hI_setI_s
              have hS3_56 : hI h3_ (B + 56) = hI h (B + 56) := hF3.2.2.2.2 _ (by unfold Az; omega)
              have hT3_57 : hI h3_ (B + 57) = hI h2_ (B + 57) := by rw [← eh3]; exact hI_setI_n (by omega)
              have hT3_58 : hI h3_ (B + 58) = hI h2_ (B + 58) := by rw [← eh3]; exact hI_setI_n (by omega)
              clear eh3
              have hR : hI h3_ (B + 52) = (sbS (hI h (B + 52)) w.toNatClampNeg i (z + 1)) := by rw [hW3, hW2, hv0]; exact upd_4 (by omega)
              refine a_aload_n hb dX12_best_120 rfl 0 rfl ?_
              refine a_callV hb dX12_best_121 (by rw [hg]; have h0 := m_costs g h3_ B hL3 n (by rw [hR, sbS_n (by omega) (by omega)]; exact hn) ln; rw [hR] at h0; exact h0) (by rw [ow]; exact clv_RX12_195) (hL3.1 51 (by decide)) (by decide) rfl rfl rfl (Nat.le_of_ble_eq_true rfl) (by rw [hr]; exact ⟨by decide, by decide⟩) (by rw [hr]; exact ⟨Nat.le_of_ble_eq_true rfl, Nat.le_of_ble_eq_true rfl⟩) ?_
              intro rv h' hp
              rw [hp.1, hp.2]
              show AW V 0 0 h3_ 124 [(0, .ref (B + 51)), (1, .int w), (2, .int c), (3, .int x), (4, .int (hI h (B + 52) (198 + w.toNatClampNeg))), (5, .int (hI h (B + 52) (203 + w.toNatClampNeg))), (6, .int ((bsI (coS (hI h (B + 52)) w.toNatClampNeg n) (hoS (hI h (B + 52)) (fun t => dmS P (hI h (B + 52)) (hI h (B + 56)) hl (nI t) np) w.toNatClampNeg n c) st z i).1)), (7, .int ((bsI (coS (hI h (B + 52)) w.toNatClampNeg n) (hoS (hI h (B + 52)) (fun t => dmS P (hI h (B + 52)) (hI h (B + 56)) hl (nI t) np) w.toNatClampNeg n c) st z i).2.1)), (8, .int ((bsI (coS (hI h (B + 52)) w.toNatClampNeg n) (hoS (hI h (B + 52)) (fun t => dmS P (hI h (B + 52)) (hI h (B + 56)) hl (nI t) np) w.toNatClampNeg n c) st z i).2.2)), (9, .int (nI (z + 1))), (10, .int (nI i))] [.int (coS (hI h (B + 52)) w.toNatClampNeg n z i)]
              refine a_istore (L' := [(11, .int (coS (hI h (B + 52)) w.toNatClampNeg n z i)), (0, .ref (B + 51)), (1, .int w), (2, .int c), (3, .int x), (4, .int (hI h (B + 52) (198 + w.toNatClampNeg))), (5, .int (hI h (B + 52) (203 + w.toNatClampNeg))), (6, .int ((bsI (coS (hI h (B + 52)) w.toNatClampNeg n) (hoS (hI h (B + 52)) (fun t => dmS P (hI h (B + 52)) (hI h (B + 56)) hl (nI t) np) w.toNatClampNeg n c) st z i).1)), (7, .int ((bsI (coS (hI h (B + 52)) w.toNatClampNeg n) (hoS (hI h (B + 52)) (fun t => dmS P (hI h (B + 52)) (hI h (B + 56)) hl (nI t) np) w.toNatClampNeg n c) st z i).2.1)), (8, .int ((bsI (coS (hI h (B + 52)) w.toNatClampNeg n) (hoS (hI h (B + 52)) (fun t => dmS P (hI h (B + 52)) (hI h (B + 56)) hl (nI t) np) w.toNatClampNeg n c) st z i).2.2)), (9, .int (nI (z + 1))), (10, .int (nI i))]) hb dX12_best_124 (by rw [hml]; decide) rfl ?_
              refine a_iload hb dX12_best_126 9 rfl ?_
              refine a_bipush (v := (-5)) hb dX12_best_128 (by decide) ?_
              refine a_icmp_eq hb 140 dX12_best_130 (by decide) (fun c130 => ?_) (fun c130 => ?_)
              · have y0 : (bsI (coS (hI h (B + 52)) w.toNatClampNeg n) (hoS (hI h (B + 52)) (fun t => dmS P (hI h (B + 52)) (hI h (B + 56)) hl (nI t) np) w.toNatClampNeg n c) st z i).2.2 = -5 ∨ (coS (hI h (B + 52)) w.toNatClampNeg n) z i < (bsI (coS (hI h (B + 52)) w.toNatClampNeg n) (hoS (hI h (B + 52)) (fun t => dmS P (hI h (B + 52)) (hI h (B + 56)) hl (nI t) np) w.toNatClampNeg n c) st z i).2.2 := Or.inl c130
                refine a_aload_n hb dX12_best_140 rfl 1 rfl ?_
                refine a_callV hb dX12_best_141 (by rw [hg]; have h0 := m_looksAtMade g h3_ B hL3 n (by rw [hR, sbS_n (by omega) (by omega)]; exact hn) ln; (try rw [hS3_56] at h0); (try rw [hR] at h0); exact h0) (by rw [ow]; exact clv_RX12_178) (hL3.1 51 (by decide)) (by decide) rfl rfl rfl (Nat.le_of_ble_eq_true rfl) (by rw [hr]; exact ⟨by decide, by decide⟩) (by rw [hr]; exact ⟨Nat.le_of_ble_eq_true rfl, Nat.le_of_ble_eq_true rfl⟩) ?_
                intro rv h4_ hp
                obtain ⟨hv, hf4, hx4_0⟩ := hp
                rw [hv]
                have hF4 := FR.tr hF3 (FR.mo (A := Ag B) (A' := Az B) hf4 (by intro a; unfold Ag Az; omega))
                have hL4 : LY h4_ B := FR.ly hF4 hL
                have hS4_56 : hI h4_ (B + 56) = hI h (B + 56) := hF4.2.2.2.2 _ (by unfold Az; omega)
                have hT4_52 : hI h4_ (B + 52) = hI h3_ (B + 52) := hf4.2.2.2.2 _ (by unfold Ag; omega)
                have hT4_58 : hI h4_ (B + 58) = hI h3_ (B + 58) := hf4.2.2.2.2 _ (by unfold Ag; omega)
                clear hv
                show AW V 0 0 h4_ 144 [(11, .int (coS (hI h (B + 52)) w.toNatClampNeg n z i)), (0, .ref (B + 51)), (1, .int w), (2, .int c), (3, .int x), (4, .int (hI h (B + 52) (198 + w.toNatClampNeg))), (5, .int (hI h (B + 52) (203 + w.toNatClampNeg))), (6, .int ((bsI (coS (hI h (B + 52)) w.toNatClampNeg n) (hoS (hI h (B + 52)) (fun t => dmS P (hI h (B + 52)) (hI h (B + 56)) hl (nI t) np) w.toNatClampNeg n c) st z i).1)), (7, .int ((bsI (coS (hI h (B + 52)) w.toNatClampNeg n) (hoS (hI h (B + 52)) (fun t => dmS P (hI h (B + 52)) (hI h (B + 56)) hl (nI t) np) w.toNatClampNeg n c) st z i).2.1)), (8, .int ((bsI (coS (hI h (B + 52)) w.toNatClampNeg n) (hoS (hI h (B + 52)) (fun t => dmS P (hI h (B + 52)) (hI h (B + 56)) hl (nI t) np) w.toNatClampNeg n c) st z i).2.2)), (9, .int (nI (z + 1))), (10, .int (nI i))] []
                refine a_aload_n hb dX12_best_144 rfl 1 rfl ?_
                refine a_aload_n hb dX12_best_145 rfl 1 rfl ?_
                refine a_getQ (q := (B + 52)) hb dX12_best_146 (by rw [ow]; exact fl_RX12_9_12) (hL4.1 51 (by decide)) (hL4.2.1 (51, 1, 52) (by decide)) ?_
                refine a_bipush (v := 7) hb dX12_best_149 (by decide) ?_
                refine b_iald (j := 7) hb dX12_best_151 (hL4.1 52 (by decide)) ⟨by decide, by decide⟩ (by decide) ?_
                refine a_callV hb dX12_best_152 (by rw [hg]; have h0 := m_goes g h4_ B hL4 (hI h4_ (B + 52) 7) (by rw [hT4_52, hR, sbS_n (by omega) (by omega)]; exact h7); (try rw [hS4_56] at h0); (try rw [hR] at h0); exact h0) (by rw [ow]; exact clv_RX12_181) (hL4.1 51 (by decide)) (by decide) rfl rfl rfl (Nat.le_of_ble_eq_true rfl) (by rw [hr]; exact ⟨by decide, by decide⟩) (by rw [hr]; exact ⟨Nat.le_of_ble_eq_true rfl, Nat.le_of_ble_eq_true rfl⟩) ?_
                intro rv h5_ hp
                obtain ⟨hv, hf5, hx5_0⟩ := hp
                rw [hv]
                have hF5 := FR.tr hF4 (FR.mo (A := Ab B) (A' := Az B) hf5 (by intro a; unfold Ab Az; omega))
                have hL5 : LY h5_ B := FR.ly hF5 hL
                have hS5_56 : hI h5_ (B + 56) = hI h (B + 56) := hF5.2.2.2.2 _ (by unfold Az; omega)
                have hT5_52 : hI h5_ (B + 52) = hI h4_ (B + 52) := hf5.2.2.2.2 _ (by unfold Ab; omega)
                have hT5_57 : hI h5_ (B + 57) = hI h4_ (B + 57) := hf5.2.2.2.2 _ (by unfold Ab; omega)
                have hT5_58 : hI h5_ (B + 58) = hI h4_ (B + 58) := hf5.2.2.2.2 _ (by unfold Ab; omega)
                clear hv
                show AW V 0 0 h5_ 155 [(11, .int (coS (hI h (B + 52)) w.toNatClampNeg n z i)), (0, .ref (B + 51)), (1, .int w), (2, .int c), (3, .int x), (4, .int (hI h (B + 52) (198 + w.toNatClampNeg))), (5, .int (hI h (B + 52) (203 + w.toNatClampNeg))), (6, .int ((bsI (coS (hI h (B + 52)) w.toNatClampNeg n) (hoS (hI h (B + 52)) (fun t => dmS P (hI h (B + 52)) (hI h (B + 56)) hl (nI t) np) w.toNatClampNeg n c) st z i).1)), (7, .int ((bsI (coS (hI h (B + 52)) w.toNatClampNeg n) (hoS (hI h (B + 52)) (fun t => dmS P (hI h (B + 52)) (hI h (B + 56)) hl (nI t) np) w.toNatClampNeg n c) st z i).2.1)), (8, .int ((bsI (coS (hI h (B + 52)) w.toNatClampNeg n) (hoS (hI h (B + 52)) (fun t => dmS P (hI h (B + 52)) (hI h (B + 56)) hl (nI t) np) w.toNatClampNeg n c) st z i).2.2)), (9, .int (nI (z + 1))), (10, .int (nI i))] []
                refine a_aload_n hb dX12_best_155 rfl 1 rfl ?_
                refine a_iload_n hb dX12_best_156 rfl 3 rfl ?_
                refine a_callV hb dX12_best_157 (by rw [hg]; exact m_firstBeyond g h5_ B hL5 c) (by rw [ow]; exact clv_RX12_192) (hL5.1 51 (by decide)) (by decide) rfl rfl rfl (Nat.le_of_ble_eq_true rfl) (by rw [hr]; exact ⟨by decide, by decide⟩) (by rw [hr]; exact ⟨Nat.le_of_ble_eq_true rfl, Nat.le_of_ble_eq_true rfl⟩) ?_
                intro rv h' hp
                rw [hp.1, hp.2]
                show AW V 0 0 h5_ 160 [(11, .int (coS (hI h (B + 52)) w.toNatClampNeg n z i)), (0, .ref (B + 51)), (1, .int w), (2, .int c), (3, .int x), (4, .int (hI h (B + 52) (198 + w.toNatClampNeg))), (5, .int (hI h (B + 52) (203 + w.toNatClampNeg))), (6, .int ((bsI (coS (hI h (B + 52)) w.toNatClampNeg n) (hoS (hI h (B + 52)) (fun t => dmS P (hI h (B + 52)) (hI h (B + 56)) hl (nI t) np) w.toNatClampNeg n c) st z i).1)), (7, .int ((bsI (coS (hI h (B + 52)) w.toNatClampNeg n) (hoS (hI h (B + 52)) (fun t => dmS P (hI h (B + 52)) (hI h (B + 56)) hl (nI t) np) w.toNatClampNeg n c) st z i).2.1)), (8, .int ((bsI (coS (hI h (B + 52)) w.toNatClampNeg n) (hoS (hI h (B + 52)) (fun t => dmS P (hI h (B + 52)) (hI h (B + 56)) hl (nI t) np) w.toNatClampNeg n c) st z i).2.2)), (9, .int (nI (z + 1))), (10, .int (nI i))] [.int (fbF (hJ h5_ (B + 59)) c 0 40)]
                refine a_bipush (v := (-5)) hb dX12_best_160 (by decide) ?_
                refine a_icmp_ne hb 169 dX12_best_162 (by decide) (fun c162 => ?_) (fun c162 => ?_)
                · have eH : fbF (hJ h5_ (B + 59)) c 0 40 = (hoS (hI h (B + 52)) (fun t => dmS P (hI h (B + 52)) (hI h (B + 56)) hl (nI t) np) w.toNatClampNeg n c) z i := fbF_c 40 0 (fun t q => (hx5_0 t (by omega)).trans (by rw [hT4_52, hR, sbS_n (by omega) (by omega), hT4_58, hT3_58, hT2_58, hv58]; exact btS_c _ (fun u r => hx4_0 u (by omega)) (fun u r => hx1_0 u (by omega))))
                  have nn : ¬ (((bsI (coS (hI h (B + 52)) w.toNatClampNeg n) (hoS (hI h (B + 52)) (fun t => dmS P (hI h (B + 52)) (hI h (B + 56)) hl (nI t) np) w.toNatClampNeg n c) st z i).2.2 = -5 ∨ (coS (hI h (B + 52)) w.toNatClampNeg n) z i < (bsI (coS (hI h (B + 52)) w.toNatClampNeg n) (hoS (hI h (B + 52)) (fun t => dmS P (hI h (B + 52)) (hI h (B + 56)) hl (nI t) np) w.toNatClampNeg n c) st z i).2.2) ∧ (hoS (hI h (B + 52)) (fun t => dmS P (hI h (B + 52)) (hI h (B + 56)) hl (nI t) np) w.toNatClampNeg n c) z i = -5) := fun e => c162 (eH.trans e.2)
                  refine a_iconst (v := 0) hb dX12_best_169 (by decide) ?_
                  refine a_istore (L' := [(12, .int 0), (11, .int (coS (hI h (B + 52)) w.toNatClampNeg n z i)), (0, .ref (B + 51)), (1, .int w), (2, .int c), (3, .int x), (4, .int (hI h (B + 52) (198 + w.toNatClampNeg))), (5, .int (hI h (B + 52) (203 + w.toNatClampNeg))), (6, .int ((bsI (coS (hI h (B + 52)) w.toNatClampNeg n) (hoS (hI h (B + 52)) (fun t => dmS P (hI h (B + 52)) (hI h (B + 56)) hl (nI t) np) w.toNatClampNeg n c) st z i).1)), (7, .int ((bsI (coS (hI h (B + 52)) w.toNatClampNeg n) (hoS (hI h (B + 52)) (fun t => dmS P (hI h (B + 52)) (hI h (B + 56)) hl (nI t) np) w.toNatClampNeg n c) st z i).2.1)), (8, .int ((bsI (coS (hI h (B + 52)) w.toNatClampNeg n) (hoS (hI h (B + 52)) (fun t => dmS P (hI h (B + 52)) (hI h (B + 56)) hl (nI t) np) w.toNatClampNeg n c) st z i).2.2)), (9, .int (nI (z + 1))), (10, .int (nI i))]) hb dX12_best_170 (by rw [hml]; decide) rfl ?_
                  refine a_iload hb dX12_best_172 0 rfl ?_
                  refine a_if_eq hb 182 dX12_best_174 (by decide) (fun c174 => ?_) (fun c174 => absurd (by decide) c174)
                  refine a_iload hb dX12_best_182 8 rfl ?_
                  refine a_istore (L' := [(6, .int ((bsI (coS (hI h (B + 52)) w.toNatClampNeg n) (hoS (hI h (B + 52)) (fun t => dmS P (hI h (B + 52)) (hI h (B + 56)) hl (nI t) np) w.toNatClampNeg n c) st z i).1)), (12, .int 0), (11, .int (coS (hI h (B + 52)) w.toNatClampNeg n z i)), (0, .ref (B + 51)), (1, .int w), (2, .int c), (3, .int x), (4, .int (hI h (B + 52) (198 + w.toNatClampNeg))), (5, .int (hI h (B + 52) (203 + w.toNatClampNeg))), (7, .int ((bsI (coS (hI h (B + 52)) w.toNatClampNeg n) (hoS (hI h (B + 52)) (fun t => dmS P (hI h (B + 52)) (hI h (B + 56)) hl (nI t) np) w.toNatClampNeg n c) st z i).2.1)), (8, .int ((bsI (coS (hI h (B + 52)) w.toNatClampNeg n) (hoS (hI h (B + 52)) (fun t => dmS P (hI h (B + 52)) (hI h (B + 56)) hl (nI t) np) w.toNatClampNeg n c) st z i).2.2)), (9, .int (nI (z + 1))), (10, .int (nI i))]) hb dX12_best_184 (by rw [hml]; decide) rfl ?_
                  refine a_iload hb dX12_best_186 1 rfl ?_
                  refine a_if_eq hb 196 dX12_best_188 (by decide) (fun c188 => ?_) (fun c188 => absurd (by decide) c188)
                  refine a_iload hb dX12_best_196 9 rfl ?_
                  refine a_istore (L' := [(7, .int ((bsI (coS (hI h (B + 52)) w.toNatClampNeg n) (hoS (hI h (B + 52)) (fun t => dmS P (hI h (B + 52)) (hI h (B + 56)) hl (nI t) np) w.toNatClampNeg n c) st z i).2.1)), (6, .int ((bsI (coS (hI h (B + 52)) w.toNatClampNeg n) (hoS (hI h (B + 52)) (fun t => dmS P (hI h (B + 52)) (hI h (B + 56)) hl (nI t) np) w.toNatClampNeg n c) st z i).1)), (12, .int 0), (11, .int (coS (hI h (B + 52)) w.toNatClampNeg n z i)), (0, .ref (B + 51)), (1, .int w), (2, .int c), (3, .int x), (4, .int (hI h (B + 52) (198 + w.toNatClampNeg))), (5, .int (hI h (B + 52) (203 + w.toNatClampNeg))), (8, .int ((bsI (coS (hI h (B + 52)) w.toNatClampNeg n) (hoS (hI h (B + 52)) (fun t => dmS P (hI h (B + 52)) (hI h (B + 56)) hl (nI t) np) w.toNatClampNeg n c) st z i).2.2)), (9, .int (nI (z + 1))), (10, .int (nI i))]) hb dX12_best_198 (by rw [hml]; decide) rfl ?_
                  refine a_iload hb dX12_best_200 2 rfl ?_
                  refine a_if_eq hb 210 dX12_best_202 (by decide) (fun c202 => ?_) (fun c202 => absurd (by decide) c202)
                  refine a_iload hb dX12_best_210 10 rfl ?_
                  refine a_istore (L' := [(8, .int ((bsI (coS (hI h (B + 52)) w.toNatClampNeg n) (hoS (hI h (B + 52)) (fun t => dmS P (hI h (B + 52)) (hI h (B + 56)) hl (nI t) np) w.toNatClampNeg n c) st z i).2.2)), (7, .int ((bsI (coS (hI h (B + 52)) w.toNatClampNeg n) (hoS (hI h (B + 52)) (fun t => dmS P (hI h (B + 52)) (hI h (B + 56)) hl (nI t) np) w.toNatClampNeg n c) st z i).2.1)), (6, .int ((bsI (coS (hI h (B + 52)) w.toNatClampNeg n) (hoS (hI h (B + 52)) (fun t => dmS P (hI h (B + 52)) (hI h (B + 56)) hl (nI t) np) w.toNatClampNeg n c) st z i).1)), (12, .int 0), (11, .int (coS (hI h (B + 52)) w.toNatClampNeg n z i)), (0, .ref (B + 51)), (1, .int w), (2, .int c), (3, .int x), (4, .int (hI h (B + 52) (198 + w.toNatClampNeg))), (5, .int (hI h (B + 52) (203 + w.toNatClampNeg))), (9, .int (nI (z + 1))), (10, .int (nI i))]) hb dX12_best_212 (by rw [hml]; decide) rfl ?_
                  refine a_iinc (v := ((nI i) + 1)) (L' := [(10, .int ((nI i) + 1)), (8, .int ((bsI (coS (hI h (B + 52)) w.toNatClampNeg n) (hoS (hI h (B + 52)) (fun t => dmS P (hI h (B + 52)) (hI h (B + 56)) hl (nI t) np) w.toNatClampNeg n c) st z i).2.2)), (7, .int ((bsI (coS (hI h (B + 52)) w.toNatClampNeg n) (hoS (hI h (B + 52)) (fun t => dmS P (hI h (B + 52)) (hI h (B + 56)) hl (nI t) np) w.toNatClampNeg n c) st z i).2.1)), (6, .int ((bsI (coS (hI h (B + 52)) w.toNatClampNeg n) (hoS (hI h (B + 52)) (fun t => dmS P (hI h (B + 52)) (hI h (B + 56)) hl (nI t) np) w.toNatClampNeg n c) st z i).1)), (12, .int 0), (11, .int (coS (hI h (B + 52)) w.toNatClampNeg n z i)), (0, .ref (B + 51)), (1, .int w), (2, .int c), (3, .int x), (4, .int (hI h (B + 52) (198 + w.toNatClampNeg))), (5, .int (hI h (B + 52) (203 + w.toNatClampNeg))), (9, .int (nI (z + 1)))]) hb dX12_best_214 12 rfl rfl (by rw [hml]; decide) rfl ?_
                  refine a_goto hb 89 dX12_best_217 (by decide) ?_
                  refine AW.sub (L' := [(0, .ref (B + 51)), (1, .int w), (2, .int c), (3, .int x), (4, .int (hI h (B + 52) (198 + w.toNatClampNeg))), (5, .int (hI h (B + 52) (203 + w.toNatClampNeg))), (6, .int ((bsI (coS (hI h (B + 52)) w.toNatClampNeg n) (hoS (hI h (B + 52)) (fun t => dmS P (hI h (B + 52)) (hI h (B + 56)) hl (nI t) np) w.toNatClampNeg n c) st z i).1)), (7, .int ((bsI (coS (hI h (B + 52)) w.toNatClampNeg n) (hoS (hI h (B + 52)) (fun t => dmS P (hI h (B + 52)) (hI h (B + 56)) hl (nI t) np) w.toNatClampNeg n c) st z i).2.1)), (8, .int ((bsI (coS (hI h (B + 52)) w.toNatClampNeg n) (hoS (hI h (B + 52)) (fun t => dmS P (hI h (B + 52)) (hI h (B + 56)) hl (nI t) np) w.toNatClampNeg n c) st z i).2.2)), (9, .int (nI (z + 1))), (10, .int ((nI i) + 1))]) [6, 7, 8, 9, 10, 11, 3, 2, 1, 12, 0] rfl ?_
                  exact AW.eq (ih (i + 1) h5_ hF5 (⟨_, _, by rw [hT5_52, hT4_52]; exact hR, by rw [hT5_58, hT4_58, hT3_58, hT2_58]; exact hv58⟩) (by omega)) rfl rfl (by first | (simp only [nI_1, bsI, if_pos yy]; done) | (simp only [nI_1, bsI, if_neg nn]; done)) rfl
                · have eH : fbF (hJ h5_ (B + 59)) c 0 40 = (hoS (hI h (B + 52)) (fun t => dmS P (hI h (B + 52)) (hI h (B + 56)) hl (nI t) np) w.toNatClampNeg n c) z i := fbF_c 40 0 (fun t q => (hx5_0 t (by omega)).trans (by rw [hT4_52, hR, sbS_n (by omega) (by omega), hT4_58, hT3_58, hT2_58, hv58]; exact btS_c _ (fun u r => hx4_0 u (by omega)) (fun u r => hx1_0 u (by omega))))
                  have yy : ((bsI (coS (hI h (B + 52)) w.toNatClampNeg n) (hoS (hI h (B + 52)) (fun t => dmS P (hI h (B + 52)) (hI h (B + 56)) hl (nI t) np) w.toNatClampNeg n c) st z i).2.2 = -5 ∨ (coS (hI h (B + 52)) w.toNatClampNeg n) z i < (bsI (coS (hI h (B + 52)) w.toNatClampNeg n) (hoS (hI h (B + 52)) (fun t => dmS P (hI h (B + 52)) (hI h (B + 56)) hl (nI t) np) w.toNatClampNeg n c) st z i).2.2) ∧ (hoS (hI h (B + 52)) (fun t => dmS P (hI h (B + 52)) (hI h (B + 56)) hl (nI t) np) w.toNatClampNeg n c) z i = -5 := ⟨y0, eH.symm.trans c162⟩
                  refine a_iconst (v := 1) hb dX12_best_165 (by decide) ?_
                  refine a_goto hb 170 dX12_best_166 (by decide) ?_
                  refine a_istore (L' := [(12, .int 1), (11, .int (coS (hI h (B + 52)) w.toNatClampNeg n z i)), (0, .ref (B + 51)), (1, .int w), (2, .int c), (3, .int x), (4, .int (hI h (B + 52) (198 + w.toNatClampNeg))), (5, .int (hI h (B + 52) (203 + w.toNatClampNeg))), (6, .int ((bsI (coS (hI h (B + 52)) w.toNatClampNeg n) (hoS (hI h (B + 52)) (fun t => dmS P (hI h (B + 52)) (hI h (B + 56)) hl (nI t) np) w.toNatClampNeg n c) st z i).1)), (7, .int ((bsI (coS (hI h (B + 52)) w.toNatClampNeg n) (hoS (hI h (B + 52)) (fun t => dmS P (hI h (B + 52)) (hI h (B + 56)) hl (nI t) np) w.toNatClampNeg n c) st z i).2.1)), (8, .int ((bsI (coS (hI h (B + 52)) w.toNatClampNeg n) (hoS (hI h (B + 52)) (fun t => dmS P (hI h (B + 52)) (hI h (B + 56)) hl (nI t) np) w.toNatClampNeg n c) st z i).2.2)), (9, .int (nI (z + 1))), (10, .int (nI i))]) hb dX12_best_170 (by rw [hml]; decide) rfl ?_
                  refine a_iload hb dX12_best_172 0 rfl ?_
                  refine a_if_eq hb 182 dX12_best_174 (by decide) (fun c174 => absurd c174 (by decide)) (fun c174 => ?_)
                  refine a_iload hb dX12_best_177 12 rfl ?_
                  refine a_goto hb 184 dX12_best_179 (by decide) ?_
                  refine a_istore (L' := [(6, .int (nI i)), (12, .int 1), (11, .int (coS (hI h (B + 52)) w.toNatClampNeg n z i)), (0, .ref (B + 51)), (1, .int w), (2, .int c), (3, .int x), (4, .int (hI h (B + 52) (198 + w.toNatClampNeg))), (5, .int (hI h (B + 52) (203 + w.toNatClampNeg))), (7, .int ((bsI (coS (hI h (B + 52)) w.toNatClampNeg n) (hoS (hI h (B + 52)) (fun t => dmS P (hI h (B + 52)) (hI h (B + 56)) hl (nI t) np) w.toNatClampNeg n c) st z i).2.1)), (8, .int ((bsI (coS (hI h (B + 52)) w.toNatClampNeg n) (hoS (hI h (B + 52)) (fun t => dmS P (hI h (B + 52)) (hI h (B + 56)) hl (nI t) np) w.toNatClampNeg n c) st z i).2.2)), (9, .int (nI (z + 1))), (10, .int (nI i))]) hb dX12_best_184 (by rw [hml]; decide) rfl ?_
                  refine a_iload hb dX12_best_186 1 rfl ?_
                  refine a_if_eq hb 196 dX12_best_188 (by decide) (fun c188 => absurd c188 (by decide)) (fun c188 => ?_)
                  refine a_iload hb dX12_best_191 11 rfl ?_
                  refine a_goto hb 198 dX12_best_193 (by decide) ?_
                  refine a_istore (L' := [(7, .int (nI (z + 1))), (6, .int (nI i)), (12, .int 1), (11, .int (coS (hI h (B + 52)) w.toNatClampNeg n z i)), (0, .ref (B + 51)), (1, .int w), (2, .int c), (3, .int x), (4, .int (hI h (B + 52) (198 + w.toNatClampNeg))), (5, .int (hI h (B + 52) (203 + w.toNatClampNeg))), (8, .int ((bsI (coS (hI h (B + 52)) w.toNatClampNeg n) (hoS (hI h (B + 52)) (fun t => dmS P (hI h (B + 52)) (hI h (B + 56)) hl (nI t) np) w.toNatClampNeg n c) st z i).2.2)), (9, .int (nI (z + 1))), (10, .int (nI i))]) hb dX12_best_198 (by rw [hml]; decide) rfl ?_
                  refine a_iload hb dX12_best_200 2 rfl ?_
                  refine a_if_eq hb 210 dX12_best_202 (by decide) (fun c202 => absurd c202 (by decide)) (fun c202 => ?_)
                  refine a_iload hb dX12_best_205 3 rfl ?_
                  refine a_goto hb 212 dX12_best_207 (by decide) ?_
                  refine a_istore (L' := [(8, .int (coS (hI h (B + 52)) w.toNatClampNeg n z i)), (7, .int (nI (z + 1))), (6, .int (nI i)), (12, .int 1), (11, .int (coS (hI h (B + 52)) w.toNatClampNeg n z i)), (0, .ref (B + 51)), (1, .int w), (2, .int c), (3, .int x), (4, .int (hI h (B + 52) (198 + w.toNatClampNeg))), (5, .int (hI h (B + 52) (203 + w.toNatClampNeg))), (9, .int (nI (z + 1))), (10, .int (nI i))]) hb dX12_best_212 (by rw [hml]; decide) rfl ?_
                  refine a_iinc (v := ((nI i) + 1)) (L' := [(10, .int ((nI i) + 1)), (8, .int (coS (hI h (B + 52)) w.toNatClampNeg n z i)), (7, .int (nI (z + 1))), (6, .int (nI i)), (12, .int 1), (11, .int (coS (hI h (B + 52)) w.toNatClampNeg n z i)), (0, .ref (B + 51)), (1, .int w), (2, .int c), (3, .int x), (4, .int (hI h (B + 52) (198 + w.toNatClampNeg))), (5, .int (hI h (B + 52) (203 + w.toNatClampNeg))), (9, .int (nI (z + 1)))]) hb dX12_best_214 12 rfl rfl (by rw [hml]; decide) rfl ?_
                  refine a_goto hb 89 dX12_best_217 (by decide) ?_
                  refine AW.sub (L' := [(0, .ref (B + 51)), (1, .int w), (2, .int c), (3, .int x), (4, .int (hI h (B + 52) (198 + w.toNatClampNeg))), (5, .int (hI h (B + 52) (203 + w.toNatClampNeg))), (6, .int (nI i)), (7, .int (nI (z + 1))), (8, .int (coS (hI h (B + 52)) w.toNatClampNeg n z i)), (9, .int (nI (z + 1))), (10, .int ((nI i) + 1))]) [6, 7, 8, 9, 10, 11, 3, 2, 1, 12, 0] rfl ?_
                  exact AW.eq (ih (i + 1) h5_ hF5 (⟨_, _, by rw [hT5_52, hT4_52]; exact hR, by rw [hT5_58, hT4_58, hT3_58, hT2_58]; exact hv58⟩) (by omega)) rfl rfl (by first | (simp only [nI_1, bsI, if_pos yy]; done) | (simp only [nI_1, bsI, if_neg nn]; done)) rfl
              · refine a_iload hb dX12_best_133 0 rfl ?_
                refine a_iload hb dX12_best_135 9 rfl ?_
                refine a_icmp_ge hb 214 dX12_best_137 (by decide) (fun c137 => ?_) (fun c137 => ?_)
                · have c137' := Int32.not_lt.mpr c137
                  have nn : ¬ (((bsI (coS (hI h (B + 52)) w.toNatClampNeg n) (hoS (hI h (B + 52)) (fun t => dmS P (hI h (B + 52)) (hI h (B + 56)) hl (nI t) np) w.toNatClampNeg n c) st z i).2.2 = -5 ∨ (coS (hI h (B + 52)) w.toNatClampNeg n) z i < (bsI (coS (hI h (B + 52)) w.toNatClampNeg n) (hoS (hI h (B + 52)) (fun t => dmS P (hI h (B + 52)) (hI h (B + 56)) hl (nI t) np) w.toNatClampNeg n c) st z i).2.2) ∧ (hoS (hI h (B + 52)) (fun t => dmS P (hI h (B + 52)) (hI h (B + 56)) hl (nI t) np) w.toNatClampNeg n c) z i = -5) := by rintro ⟨e | e, _⟩; exact c130 e; exact c137' e
                  refine a_iinc (v := ((nI i) + 1)) (L' := [(10, .int ((nI i) + 1)), (11, .int (coS (hI h (B + 52)) w.toNatClampNeg n z i)), (0, .ref (B + 51)), (1, .int w), (2, .int c), (3, .int x), (4, .int (hI h (B + 52) (198 + w.toNatClampNeg))), (5, .int (hI h (B + 52) (203 + w.toNatClampNeg))), (6, .int ((bsI (coS (hI h (B + 52)) w.toNatClampNeg n) (hoS (hI h (B + 52)) (fun t => dmS P (hI h (B + 52)) (hI h (B + 56)) hl (nI t) np) w.toNatClampNeg n c) st z i).1)), (7, .int ((bsI (coS (hI h (B + 52)) w.toNatClampNeg n) (hoS (hI h (B + 52)) (fun t => dmS P (hI h (B + 52)) (hI h (B + 56)) hl (nI t) np) w.toNatClampNeg n c) st z i).2.1)), (8, .int ((bsI (coS (hI h (B + 52)) w.toNatClampNeg n) (hoS (hI h (B + 52)) (fun t => dmS P (hI h (B + 52)) (hI h (B + 56)) hl (nI t) np) w.toNatClampNeg n c) st z i).2.2)), (9, .int (nI (z + 1)))]) hb dX12_best_214 11 rfl rfl (by rw [hml]; decide) rfl ?_
                  refine a_goto hb 89 dX12_best_217 (by decide) ?_
                  refine AW.sub (L' := [(0, .ref (B + 51)), (1, .int w), (2, .int c), (3, .int x), (4, .int (hI h (B + 52) (198 + w.toNatClampNeg))), (5, .int (hI h (B + 52) (203 + w.toNatClampNeg))), (6, .int ((bsI (coS (hI h (B + 52)) w.toNatClampNeg n) (hoS (hI h (B + 52)) (fun t => dmS P (hI h (B + 52)) (hI h (B + 56)) hl (nI t) np) w.toNatClampNeg n c) st z i).1)), (7, .int ((bsI (coS (hI h (B + 52)) w.toNatClampNeg n) (hoS (hI h (B + 52)) (fun t => dmS P (hI h (B + 52)) (hI h (B + 56)) hl (nI t) np) w.toNatClampNeg n c) st z i).2.1)), (8, .int ((bsI (coS (hI h (B + 52)) w.toNatClampNeg n) (hoS (hI h (B + 52)) (fun t => dmS P (hI h (B + 52)) (hI h (B + 56)) hl (nI t) np) w.toNatClampNeg n c) st z i).2.2)), (9, .int (nI (z + 1))), (10, .int ((nI i) + 1))]) [2, 3, 4, 5, 6, 7, 8, 9, 10, 11, 0] rfl ?_
                  exact AW.eq (ih (i + 1) h3_ hF3 (⟨_, _, hR, by rw [hT3_58, hT2_58]; exact hv58⟩) (by omega)) rfl rfl (by first | (simp only [nI_1, bsI, if_pos yy]; done) | (simp only [nI_1, bsI, if_neg nn]; done)) rfl
                · have c137' := Int32.not_le.mp c137
                  have y0 : (bsI (coS (hI h (B + 52)) w.toNatClampNeg n) (hoS (hI h (B + 52)) (fun t => dmS P (hI h (B + 52)) (hI h (B + 56)) hl (nI t) np) w.toNatClampNeg n c) st z i).2.2 = -5 ∨ (coS (hI h (B + 52)) w.toNatClampNeg n) z i < (bsI (coS (hI h (B + 52)) w.toNatClampNeg n) (hoS (hI h (B + 52)) (fun t => dmS P (hI h (B + 52)) (hI h (B + 56)) hl (nI t) np) w.toNatClampNeg n c) st z i).2.2 := Or.inr c137'
                  refine a_aload_n hb dX12_best_140 rfl 1 rfl ?_
                  refine a_callV hb dX12_best_141 (by rw [hg]; have h0 := m_looksAtMade g h3_ B hL3 n (by rw [hR, sbS_n (by omega) (by omega)]; exact hn) ln; (try rw [hS3_56] at h0); (try rw [hR] at h0); exact h0) (by rw [ow]; exact clv_RX12_178) (hL3.1 51 (by decide)) (by decide) rfl rfl rfl (Nat.le_of_ble_eq_true rfl) (by rw [hr]; exact ⟨by decide, by decide⟩) (by rw [hr]; exact ⟨Nat.le_of_ble_eq_true rfl, Nat.le_of_ble_eq_true rfl⟩) ?_
                  intro rv h6_ hp
                  obtain ⟨hv, hf6, hx6_0⟩ := hp
                  rw [hv]
                  have hF6 := FR.tr hF3 (FR.mo (A := Ag B) (A' := Az B) hf6 (by intro a; unfold Ag Az; omega))
                  have hL6 : LY h6_ B := FR.ly hF6 hL
                  have hS6_56 : hI h6_ (B + 56) = hI h (B + 56) := hF6.2.2.2.2 _ (by unfold Az; omega)
                  have hT6_52 : hI h6_ (B + 52) = hI h3_ (B + 52) := hf6.2.2.2.2 _ (by unfold Ag; omega)
                  have hT6_58 : hI h6_ (B + 58) = hI h3_ (B + 58) := hf6.2.2.2.2 _ (by unfold Ag; omega)
                  clear hv
                  show AW V 0 0 h6_ 144 [(11, .int (coS (hI h (B + 52)) w.toNatClampNeg n z i)), (0, .ref (B + 51)), (1, .int w), (2, .int c), (3, .int x), (4, .int (hI h (B + 52) (198 + w.toNatClampNeg))), (5, .int (hI h (B + 52) (203 + w.toNatClampNeg))), (6, .int ((bsI (coS (hI h (B + 52)) w.toNatClampNeg n) (hoS (hI h (B + 52)) (fun t => dmS P (hI h (B + 52)) (hI h (B + 56)) hl (nI t) np) w.toNatClampNeg n c) st z i).1)), (7, .int ((bsI (coS (hI h (B + 52)) w.toNatClampNeg n) (hoS (hI h (B + 52)) (fun t => dmS P (hI h (B + 52)) (hI h (B + 56)) hl (nI t) np) w.toNatClampNeg n c) st z i).2.1)), (8, .int ((bsI (coS (hI h (B + 52)) w.toNatClampNeg n) (hoS (hI h (B + 52)) (fun t => dmS P (hI h (B + 52)) (hI h (B + 56)) hl (nI t) np) w.toNatClampNeg n c) st z i).2.2)), (9, .int (nI (z + 1))), (10, .int (nI i))] []
                  refine a_aload_n hb dX12_best_144 rfl 1 rfl ?_
                  refine a_aload_n hb dX12_best_145 rfl 1 rfl ?_
                  refine a_getQ (q := (B + 52)) hb dX12_best_146 (by rw [ow]; exact fl_RX12_9_12) (hL6.1 51 (by decide)) (hL6.2.1 (51, 1, 52) (by decide)) ?_
                  refine a_bipush (v := 7) hb dX12_best_149 (by decide) ?_
                  refine b_iald (j := 7) hb dX12_best_151 (hL6.1 52 (by decide)) ⟨by decide, by decide⟩ (by decide) ?_
                  refine a_callV hb dX12_best_152 (by rw [hg]; have h0 := m_goes g h6_ B hL6 (hI h6_ (B + 52) 7) (by rw [hT6_52, hR, sbS_n (by omega) (by omega)]; exact h7); (try rw [hS6_56] at h0); (try rw [hR] at h0); exact h0) (by rw [ow]; exact clv_RX12_181) (hL6.1 51 (by decide)) (by decide) rfl rfl rfl (Nat.le_of_ble_eq_true rfl) (by rw [hr]; exact ⟨by decide, by decide⟩) (by rw [hr]; exact ⟨Nat.le_of_ble_eq_true rfl, Nat.le_of_ble_eq_true rfl⟩) ?_
                  intro rv h7_ hp
                  obtain ⟨hv, hf7, hx7_0⟩ := hp
                  rw [hv]
                  have hF7 := FR.tr hF6 (FR.mo (A := Ab B) (A' := Az B) hf7 (by intro a; unfold Ab Az; omega))
                  have hL7 : LY h7_ B := FR.ly hF7 hL
                  have hS7_56 : hI h7_ (B + 56) = hI h (B + 56) := hF7.2.2.2.2 _ (by unfold Az; omega)
                  have hT7_52 : hI h7_ (B + 52) = hI h6_ (B + 52) := hf7.2.2.2.2 _ (by unfold Ab; omega)
                  have hT7_57 : hI h7_ (B + 57) = hI h6_ (B + 57) := hf7.2.2.2.2 _ (by unfold Ab; omega)
                  have hT7_58 : hI h7_ (B + 58) = hI h6_ (B + 58) := hf7.2.2.2.2 _ (by unfold Ab; omega)
                  clear hv
                  show AW V 0 0 h7_ 155 [(11, .int (coS (hI h (B + 52)) w.toNatClampNeg n z i)), (0, .ref (B + 51)), (1, .int w), (2, .int c), (3, .int x), (4, .int (hI h (B + 52) (198 + w.toNatClampNeg))), (5, .int (hI h (B + 52) (203 + w.toNatClampNeg))), (6, .int ((bsI (coS (hI h (B + 52)) w.toNatClampNeg n) (hoS (hI h (B + 52)) (fun t => dmS P (hI h (B + 52)) (hI h (B + 56)) hl (nI t) np) w.toNatClampNeg n c) st z i).1)), (7, .int ((bsI (coS (hI h (B + 52)) w.toNatClampNeg n) (hoS (hI h (B + 52)) (fun t => dmS P (hI h (B + 52)) (hI h (B + 56)) hl (nI t) np) w.toNatClampNeg n c) st z i).2.1)), (8, .int ((bsI (coS (hI h (B + 52)) w.toNatClampNeg n) (hoS (hI h (B + 52)) (fun t => dmS P (hI h (B + 52)) (hI h (B + 56)) hl (nI t) np) w.toNatClampNeg n c) st z i).2.2)), (9, .int (nI (z + 1))), (10, .int (nI i))] []
                  refine a_aload_n hb dX12_best_155 rfl 1 rfl ?_
                  refine a_iload_n hb dX12_best_156 rfl 3 rfl ?_
                  refine a_callV hb dX12_best_157 (by rw [hg]; exact m_firstBeyond g h7_ B hL7 c) (by rw [ow]; exact clv_RX12_192) (hL7.1 51 (by decide)) (by decide) rfl rfl rfl (Nat.le_of_ble_eq_true rfl) (by rw [hr]; exact ⟨by decide, by decide⟩) (by rw [hr]; exact ⟨Nat.le_of_ble_eq_true rfl, Nat.le_of_ble_eq_true rfl⟩) ?_
                  intro rv h' hp
                  rw [hp.1, hp.2]
                  show AW V 0 0 h7_ 160 [(11, .int (coS (hI h (B + 52)) w.toNatClampNeg n z i)), (0, .ref (B + 51)), (1, .int w), (2, .int c), (3, .int x), (4, .int (hI h (B + 52) (198 + w.toNatClampNeg))), (5, .int (hI h (B + 52) (203 + w.toNatClampNeg))), (6, .int ((bsI (coS (hI h (B + 52)) w.toNatClampNeg n) (hoS (hI h (B + 52)) (fun t => dmS P (hI h (B + 52)) (hI h (B + 56)) hl (nI t) np) w.toNatClampNeg n c) st z i).1)), (7, .int ((bsI (coS (hI h (B + 52)) w.toNatClampNeg n) (hoS (hI h (B + 52)) (fun t => dmS P (hI h (B + 52)) (hI h (B + 56)) hl (nI t) np) w.toNatClampNeg n c) st z i).2.1)), (8, .int ((bsI (coS (hI h (B + 52)) w.toNatClampNeg n) (hoS (hI h (B + 52)) (fun t => dmS P (hI h (B + 52)) (hI h (B + 56)) hl (nI t) np) w.toNatClampNeg n c) st z i).2.2)), (9, .int (nI (z + 1))), (10, .int (nI i))] [.int (fbF (hJ h7_ (B + 59)) c 0 40)]
                  refine a_bipush (v := (-5)) hb dX12_best_160 (by decide) ?_
                  refine a_icmp_ne hb 169 dX12_best_162 (by decide) (fun c162 => ?_) (fun c162 => ?_)
                  · have eH : fbF (hJ h7_ (B + 59)) c 0 40 = (hoS (hI h (B + 52)) (fun t => dmS P (hI h (B + 52)) (hI h (B + 56)) hl (nI t) np) w.toNatClampNeg n c) z i := fbF_c 40 0 (fun t q => (hx7_0 t (by omega)).trans (by rw [hT6_52, hR, sbS_n (by omega) (by omega), hT6_58, hT3_58, hT2_58, hv58]; exact btS_c _ (fun u r => hx6_0 u (by omega)) (fun u r => hx1_0 u (by omega))))
                    have nn : ¬ (((bsI (coS (hI h (B + 52)) w.toNatClampNeg n) (hoS (hI h (B + 52)) (fun t => dmS P (hI h (B + 52)) (hI h (B + 56)) hl (nI t) np) w.toNatClampNeg n c) st z i).2.2 = -5 ∨ (coS (hI h (B + 52)) w.toNatClampNeg n) z i < (bsI (coS (hI h (B + 52)) w.toNatClampNeg n) (hoS (hI h (B + 52)) (fun t => dmS P (hI h (B + 52)) (hI h (B + 56)) hl (nI t) np) w.toNatClampNeg n c) st z i).2.2) ∧ (hoS (hI h (B + 52)) (fun t => dmS P (hI h (B + 52)) (hI h (B + 56)) hl (nI t) np) w.toNatClampNeg n c) z i = -5) := fun e => c162 (eH.trans e.2)
                    refine a_iconst (v := 0) hb dX12_best_169 (by decide) ?_
                    refine a_istore (L' := [(12, .int 0), (11, .int (coS (hI h (B + 52)) w.toNatClampNeg n z i)), (0, .ref (B + 51)), (1, .int w), (2, .int c), (3, .int x), (4, .int (hI h (B + 52) (198 + w.toNatClampNeg))), (5, .int (hI h (B + 52) (203 + w.toNatClampNeg))), (6, .int ((bsI (coS (hI h (B + 52)) w.toNatClampNeg n) (hoS (hI h (B + 52)) (fun t => dmS P (hI h (B + 52)) (hI h (B + 56)) hl (nI t) np) w.toNatClampNeg n c) st z i).1)), (7, .int ((bsI (coS (hI h (B + 52)) w.toNatClampNeg n) (hoS (hI h (B + 52)) (fun t => dmS P (hI h (B + 52)) (hI h (B + 56)) hl (nI t) np) w.toNatClampNeg n c) st z i).2.1)), (8, .int ((bsI (coS (hI h (B + 52)) w.toNatClampNeg n) (hoS (hI h (B + 52)) (fun t => dmS P (hI h (B + 52)) (hI h (B + 56)) hl (nI t) np) w.toNatClampNeg n c) st z i).2.2)), (9, .int (nI (z + 1))), (10, .int (nI i))]) hb dX12_best_170 (by rw [hml]; decide) rfl ?_
                    refine a_iload hb dX12_best_172 0 rfl ?_
                    refine a_if_eq hb 182 dX12_best_174 (by decide) (fun c174 => ?_) (fun c174 => absurd (by decide) c174)
                    refine a_iload hb dX12_best_182 8 rfl ?_
                    refine a_istore (L' := [(6, .int ((bsI (coS (hI h (B + 52)) w.toNatClampNeg n) (hoS (hI h (B + 52)) (fun t => dmS P (hI h (B + 52)) (hI h (B + 56)) hl (nI t) np) w.toNatClampNeg n c) st z i).1)), (12, .int 0), (11, .int (coS (hI h (B + 52)) w.toNatClampNeg n z i)), (0, .ref (B + 51)), (1, .int w), (2, .int c), (3, .int x), (4, .int (hI h (B + 52) (198 + w.toNatClampNeg))), (5, .int (hI h (B + 52) (203 + w.toNatClampNeg))), (7, .int ((bsI (coS (hI h (B + 52)) w.toNatClampNeg n) (hoS (hI h (B + 52)) (fun t => dmS P (hI h (B + 52)) (hI h (B + 56)) hl (nI t) np) w.toNatClampNeg n c) st z i).2.1)), (8, .int ((bsI (coS (hI h (B + 52)) w.toNatClampNeg n) (hoS (hI h (B + 52)) (fun t => dmS P (hI h (B + 52)) (hI h (B + 56)) hl (nI t) np) w.toNatClampNeg n c) st z i).2.2)), (9, .int (nI (z + 1))), (10, .int (nI i))]) hb dX12_best_184 (by rw [hml]; decide) rfl ?_
                    refine a_iload hb dX12_best_186 1 rfl ?_
                    refine a_if_eq hb 196 dX12_best_188 (by decide) (fun c188 => ?_) (fun c188 => absurd (by decide) c188)
                    refine a_iload hb dX12_best_196 9 rfl ?_
                    refine a_istore (L' := [(7, .int ((bsI (coS (hI h (B + 52)) w.toNatClampNeg n) (hoS (hI h (B + 52)) (fun t => dmS P (hI h (B + 52)) (hI h (B + 56)) hl (nI t) np) w.toNatClampNeg n c) st z i).2.1)), (6, .int ((bsI (coS (hI h (B + 52)) w.toNatClampNeg n) (hoS (hI h (B + 52)) (fun t => dmS P (hI h (B + 52)) (hI h (B + 56)) hl (nI t) np) w.toNatClampNeg n c) st z i).1)), (12, .int 0), (11, .int (coS (hI h (B + 52)) w.toNatClampNeg n z i)), (0, .ref (B + 51)), (1, .int w), (2, .int c), (3, .int x), (4, .int (hI h (B + 52) (198 + w.toNatClampNeg))), (5, .int (hI h (B + 52) (203 + w.toNatClampNeg))), (8, .int ((bsI (coS (hI h (B + 52)) w.toNatClampNeg n) (hoS (hI h (B + 52)) (fun t => dmS P (hI h (B + 52)) (hI h (B + 56)) hl (nI t) np) w.toNatClampNeg n c) st z i).2.2)), (9, .int (nI (z + 1))), (10, .int (nI i))]) hb dX12_best_198 (by rw [hml]; decide) rfl ?_
                    refine a_iload hb dX12_best_200 2 rfl ?_
                    refine a_if_eq hb 210 dX12_best_202 (by decide) (fun c202 => ?_) (fun c202 => absurd (by decide) c202)
                    refine a_iload hb dX12_best_210 10 rfl ?_
                    refine a_istore (L' := [(8, .int ((bsI (coS (hI h (B + 52)) w.toNatClampNeg n) (hoS (hI h (B + 52)) (fun t => dmS P (hI h (B + 52)) (hI h (B + 56)) hl (nI t) np) w.toNatClampNeg n c) st z i).2.2)), (7, .int ((bsI (coS (hI h (B + 52)) w.toNatClampNeg n) (hoS (hI h (B + 52)) (fun t => dmS P (hI h (B + 52)) (hI h (B + 56)) hl (nI t) np) w.toNatClampNeg n c) st z i).2.1)), (6, .int ((bsI (coS (hI h (B + 52)) w.toNatClampNeg n) (hoS (hI h (B + 52)) (fun t => dmS P (hI h (B + 52)) (hI h (B + 56)) hl (nI t) np) w.toNatClampNeg n c) st z i).1)), (12, .int 0), (11, .int (coS (hI h (B + 52)) w.toNatClampNeg n z i)), (0, .ref (B + 51)), (1, .int w), (2, .int c), (3, .int x), (4, .int (hI h (B + 52) (198 + w.toNatClampNeg))), (5, .int (hI h (B + 52) (203 + w.toNatClampNeg))), (9, .int (nI (z + 1))), (10, .int (nI i))]) hb dX12_best_212 (by rw [hml]; decide) rfl ?_
                    refine a_iinc (v := ((nI i) + 1)) (L' := [(10, .int ((nI i) + 1)), (8, .int ((bsI (coS (hI h (B + 52)) w.toNatClampNeg n) (hoS (hI h (B + 52)) (fun t => dmS P (hI h (B + 52)) (hI h (B + 56)) hl (nI t) np) w.toNatClampNeg n c) st z i).2.2)), (7, .int ((bsI (coS (hI h (B + 52)) w.toNatClampNeg n) (hoS (hI h (B + 52)) (fun t => dmS P (hI h (B + 52)) (hI h (B + 56)) hl (nI t) np) w.toNatClampNeg n c) st z i).2.1)), (6, .int ((bsI (coS (hI h (B + 52)) w.toNatClampNeg n) (hoS (hI h (B + 52)) (fun t => dmS P (hI h (B + 52)) (hI h (B + 56)) hl (nI t) np) w.toNatClampNeg n c) st z i).1)), (12, .int 0), (11, .int (coS (hI h (B + 52)) w.toNatClampNeg n z i)), (0, .ref (B + 51)), (1, .int w), (2, .int c), (3, .int x), (4, .int (hI h (B + 52) (198 + w.toNatClampNeg))), (5, .int (hI h (B + 52) (203 + w.toNatClampNeg))), (9, .int (nI (z + 1)))]) hb dX12_best_214 12 rfl rfl (by rw [hml]; decide) rfl ?_
                    refine a_goto hb 89 dX12_best_217 (by decide) ?_
                    refine AW.sub (L' := [(0, .ref (B + 51)), (1, .int w), (2, .int c), (3, .int x), (4, .int (hI h (B + 52) (198 + w.toNatClampNeg))), (5, .int (hI h (B + 52) (203 + w.toNatClampNeg))), (6, .int ((bsI (coS (hI h (B + 52)) w.toNatClampNeg n) (hoS (hI h (B + 52)) (fun t => dmS P (hI h (B + 52)) (hI h (B + 56)) hl (nI t) np) w.toNatClampNeg n c) st z i).1)), (7, .int ((bsI (coS (hI h (B + 52)) w.toNatClampNeg n) (hoS (hI h (B + 52)) (fun t => dmS P (hI h (B + 52)) (hI h (B + 56)) hl (nI t) np) w.toNatClampNeg n c) st z i).2.1)), (8, .int ((bsI (coS (hI h (B + 52)) w.toNatClampNeg n) (hoS (hI h (B + 52)) (fun t => dmS P (hI h (B + 52)) (hI h (B + 56)) hl (nI t) np) w.toNatClampNeg n c) st z i).2.2)), (9, .int (nI (z + 1))), (10, .int ((nI i) + 1))]) [6, 7, 8, 9, 10, 11, 3, 2, 1, 12, 0] rfl ?_
                    exact AW.eq (ih (i + 1) h7_ hF7 (⟨_, _, by rw [hT7_52, hT6_52]; exact hR, by rw [hT7_58, hT6_58, hT3_58, hT2_58]; exact hv58⟩) (by omega)) rfl rfl (by first | (simp only [nI_1, bsI, if_pos yy]; done) | (simp only [nI_1, bsI, if_neg nn]; done)) rfl
                  · have eH : fbF (hJ h7_ (B + 59)) c 0 40 = (hoS (hI h (B + 52)) (fun t => dmS P (hI h (B + 52)) (hI h (B + 56)) hl (nI t) np) w.toNatClampNeg n c) z i := fbF_c 40 0 (fun t q => (hx7_0 t (by omega)).trans (by rw [hT6_52, hR, sbS_n (by omega) (by omega), hT6_58, hT3_58, hT2_58, hv58]; exact btS_c _ (fun u r => hx6_0 u (by omega)) (fun u r => hx1_0 u (by omega))))
                    have yy : ((bsI (coS (hI h (B + 52)) w.toNatClampNeg n) (hoS (hI h (B + 52)) (fun t => dmS P (hI h (B + 52)) (hI h (B + 56)) hl (nI t) np) w.toNatClampNeg n c) st z i).2.2 = -5 ∨ (coS (hI h (B + 52)) w.toNatClampNeg n) z i < (bsI (coS (hI h (B + 52)) w.toNatClampNeg n) (hoS (hI h (B + 52)) (fun t => dmS P (hI h (B + 52)) (hI h (B + 56)) hl (nI t) np) w.toNatClampNeg n c) st z i).2.2) ∧ (hoS (hI h (B + 52)) (fun t => dmS P (hI h (B + 52)) (hI h (B + 56)) hl (nI t) np) w.toNatClampNeg n c) z i = -5 := ⟨y0, eH.symm.trans c162⟩
                    refine a_iconst (v := 1) hb dX12_best_165 (by decide) ?_
                    refine a_goto hb 170 dX12_best_166 (by decide) ?_
                    refine a_istore (L' := [(12, .int 1), (11, .int (coS (hI h (B + 52)) w.toNatClampNeg n z i)), (0, .ref (B + 51)), (1, .int w), (2, .int c), (3, .int x), (4, .int (hI h (B + 52) (198 + w.toNatClampNeg))), (5, .int (hI h (B + 52) (203 + w.toNatClampNeg))), (6, .int ((bsI (coS (hI h (B + 52)) w.toNatClampNeg n) (hoS (hI h (B + 52)) (fun t => dmS P (hI h (B + 52)) (hI h (B + 56)) hl (nI t) np) w.toNatClampNeg n c) st z i).1)), (7, .int ((bsI (coS (hI h (B + 52)) w.toNatClampNeg n) (hoS (hI h (B + 52)) (fun t => dmS P (hI h (B + 52)) (hI h (B + 56)) hl (nI t) np) w.toNatClampNeg n c) st z i).2.1)), (8, .int ((bsI (coS (hI h (B + 52)) w.toNatClampNeg n) (hoS (hI h (B + 52)) (fun t => dmS P (hI h (B + 52)) (hI h (B + 56)) hl (nI t) np) w.toNatClampNeg n c) st z i).2.2)), (9, .int (nI (z + 1))), (10, .int (nI i))]) hb dX12_best_170 (by rw [hml]; decide) rfl ?_
                    refine a_iload hb dX12_best_172 0 rfl ?_
                    refine a_if_eq hb 182 dX12_best_174 (by decide) (fun c174 => absurd c174 (by decide)) (fun c174 => ?_)
                    refine a_iload hb dX12_best_177 12 rfl ?_
                    refine a_goto hb 184 dX12_best_179 (by decide) ?_
                    refine a_istore (L' := [(6, .int (nI i)), (12, .int 1), (11, .int (coS (hI h (B + 52)) w.toNatClampNeg n z i)), (0, .ref (B + 51)), (1, .int w), (2, .int c), (3, .int x), (4, .int (hI h (B + 52) (198 + w.toNatClampNeg))), (5, .int (hI h (B + 52) (203 + w.toNatClampNeg))), (7, .int ((bsI (coS (hI h (B + 52)) w.toNatClampNeg n) (hoS (hI h (B + 52)) (fun t => dmS P (hI h (B + 52)) (hI h (B + 56)) hl (nI t) np) w.toNatClampNeg n c) st z i).2.1)), (8, .int ((bsI (coS (hI h (B + 52)) w.toNatClampNeg n) (hoS (hI h (B + 52)) (fun t => dmS P (hI h (B + 52)) (hI h (B + 56)) hl (nI t) np) w.toNatClampNeg n c) st z i).2.2)), (9, .int (nI (z + 1))), (10, .int (nI i))]) hb dX12_best_184 (by rw [hml]; decide) rfl ?_
                    refine a_iload hb dX12_best_186 1 rfl ?_
                    refine a_if_eq hb 196 dX12_best_188 (by decide) (fun c188 => absurd c188 (by decide)) (fun c188 => ?_)
                    refine a_iload hb dX12_best_191 11 rfl ?_
                    refine a_goto hb 198 dX12_best_193 (by decide) ?_
                    refine a_istore (L' := [(7, .int (nI (z + 1))), (6, .int (nI i)), (12, .int 1), (11, .int (coS (hI h (B + 52)) w.toNatClampNeg n z i)), (0, .ref (B + 51)), (1, .int w), (2, .int c), (3, .int x), (4, .int (hI h (B + 52) (198 + w.toNatClampNeg))), (5, .int (hI h (B + 52) (203 + w.toNatClampNeg))), (8, .int ((bsI (coS (hI h (B + 52)) w.toNatClampNeg n) (hoS (hI h (B + 52)) (fun t => dmS P (hI h (B + 52)) (hI h (B + 56)) hl (nI t) np) w.toNatClampNeg n c) st z i).2.2)), (9, .int (nI (z + 1))), (10, .int (nI i))]) hb dX12_best_198 (by rw [hml]; decide) rfl ?_
                    refine a_iload hb dX12_best_200 2 rfl ?_
                    refine a_if_eq hb 210 dX12_best_202 (by decide) (fun c202 => absurd c202 (by decide)) (fun c202 => ?_)
                    refine a_iload hb dX12_best_205 3 rfl ?_
                    refine a_goto hb 212 dX12_best_207 (by decide) ?_
                    refine a_istore (L' := [(8, .int (coS (hI h (B + 52)) w.toNatClampNeg n z i)), (7, .int (nI (z + 1))), (6, .int (nI i)), (12, .int 1), (11, .int (coS (hI h (B + 52)) w.toNatClampNeg n z i)), (0, .ref (B + 51)), (1, .int w), (2, .int c), (3, .int x), (4, .int (hI h (B + 52) (198 + w.toNatClampNeg))), (5, .int (hI h (B + 52) (203 + w.toNatClampNeg))), (9, .int (nI (z + 1))), (10, .int (nI i))]) hb dX12_best_212 (by rw [hml]; decide) rfl ?_
                    refine a_iinc (v := ((nI i) + 1)) (L' := [(10, .int ((nI i) + 1)), (8, .int (coS (hI h (B + 52)) w.toNatClampNeg n z i)), (7, .int (nI (z + 1))), (6, .int (nI i)), (12, .int 1), (11, .int (coS (hI h (B + 52)) w.toNatClampNeg n z i)), (0, .ref (B + 51)), (1, .int w), (2, .int c), (3, .int x), (4, .int (hI h (B + 52) (198 + w.toNatClampNeg))), (5, .int (hI h (B + 52) (203 + w.toNatClampNeg))), (9, .int (nI (z + 1)))]) hb dX12_best_214 12 rfl rfl (by rw [hml]; decide) rfl ?_
                    refine a_goto hb 89 dX12_best_217 (by decide) ?_
                    refine AW.sub (L' := [(0, .ref (B + 51)), (1, .int w), (2, .int c), (3, .int x), (4, .int (hI h (B + 52) (198 + w.toNatClampNeg))), (5, .int (hI h (B + 52) (203 + w.toNatClampNeg))), (6, .int (nI i)), (7, .int (nI (z + 1))), (8, .int (coS (hI h (B + 52)) w.toNatClampNeg n z i)), (9, .int (nI (z + 1))), (10, .int ((nI i) + 1))]) [6, 7, 8, 9, 10, 11, 3, 2, 1, 12, 0] rfl ?_
                    exact AW.eq (ih (i + 1) h7_ hF7 (⟨_, _, by rw [hT7_52, hT6_52]; exact hR, by rw [hT7_58, hT6_58, hT3_58, hT2_58]; exact hv58⟩) (by omega)) rfl rfl (by first | (simp only [nI_1, bsI, if_pos yy]; done) | (simp only [nI_1, bsI, if_neg nn]; done)) rfl
          exact lp
        have loop : ∀ (k i : Nat) (h1 : AH) (hF1 : FR (Az B) h h1) (iv : ∃ v v2, hI h1 (B + 52) = upd (upd (hI h (B + 52)) (198 + w.toNatClampNeg) v) (203 + w.toNatClampNeg) v2 ∧ hI h1 (B + 58) = hI h1_ (B + 58)), i + k = 20 → AW V 0 0 h1 79 [(0, .ref (B + 51)), (1, .int w), (2, .int c), (3, .int x), (4, .int (hI h (B + 52) (198 + w.toNatClampNeg))), (5, .int (hI h (B + 52) (203 + w.toNatClampNeg))), (6, .int ((bsO (coS (hI h (B + 52)) w.toNatClampNeg n) (hoS (hI h (B + 52)) (fun t => dmS P (hI h (B + 52)) (hI h (B + 56)) hl (nI t) np) w.toNatClampNeg n c) i).1)), (7, .int ((bsO (coS (hI h (B + 52)) w.toNatClampNeg n) (hoS (hI h (B + 52)) (fun t => dmS P (hI h (B + 52)) (hI h (B + 56)) hl (nI t) np) w.toNatClampNeg n c) i).2.1)), (8, .int ((bsO (coS (hI h (B + 52)) w.toNatClampNeg n) (hoS (hI h (B + 52)) (fun t => dmS P (hI h (B + 52)) (hI h (B + 56)) hl (nI t) np) w.toNatClampNeg n c) i).2.2)), (9, .int (nI (i + 1)))] [] := by
          intro k
          induction k with
          | zero =>
            intro i h1 hF1 iv hi
            have hL0_ : LY h1 B := FR.ly hF1 hL
            have hS0_56 : hI h1 (B + 56) = hI h (B + 56) := hF1.2.2.2.2 _ (by unfold Az; omega)
            have hiv := iv
            obtain ⟨v0, v1, hv0, hv58⟩ := hiv
            refine a_iload hb dX12_best_79 9 rfl ?_
            refine a_bipush (v := 20) hb dX12_best_81 (by decide) ?_
            refine a_icmp_gt hb 226 dX12_best_83 (by decide) (fun c83 => ?_) (fun c83 => absurd (by rw [← Int32.not_le]; exact nI_ge (b := i + 1) (a := 20) (by omega) (by omega)) c83)
            refine a_aload_n hb dX12_best_226 rfl 0 rfl ?_
            refine a_getQ (q := (B + 52)) hb dX12_best_227 (by rw [ow]; exact fl_RX12_9_12) (hL0_.1 51 (by decide)) (hL0_.2.1 (51, 1, 52) (by decide)) ?_
            refine a_sipush (v := 198) hb dX12_best_230 (by decide) ?_
            refine a_iload_n hb dX12_best_233 rfl 1 rfl ?_
            refine a_iadd hb dX12_best_234 ?_
            refine a_iload hb dX12_best_235 4 rfl ?_
            refine b_iast (j := (198 + w.toNatClampNeg)) hb dX12_best_237 (hL0_.1 52 (by decide)) (IX.add ⟨by decide, by decide⟩ ix_w (by omega)) (by omega) ?_
            generalize eh2 : (setI h1 (B + 52) (198 + w.toNatClampNeg) (hI h (B + 52) (198 + w.toNatClampNeg))) = h2_
            have hF2 : FR (Az B) h h2_ := by rw [← eh2]; exact (FR.I hF1 (by unfold Az; omega))
            have hL2 : LY h2_ B := FR.ly hF2 hL
            have hW2 : hI h2_ (B + 52) = upd (hI h1 (B + 52)) (198 + w.toNatClampNeg) (hI h (B + 52) (198 + w.toNatClampNeg)) := by rw [← eh2]; exact hI_setI_s
            have hS2_56 : hI h2_ (B + 56) = hI h (B + 56) := hF2.2.2.2.2 _ (by unfold Az; omega)
            have hT2_57 : hI h2_ (B + 57) = hI h1 (B + 57) := by rw [← eh2]; exact hI_setI_n (by omega)
            have hT2_58 : hI h2_ (B + 58) = hI h1 (B + 58) := by rw [← eh2]; exact hI_setI_n (by omega)
            clear eh2
            refine a_aload_n hb dX12_best_238 rfl 0 rfl ?_
            refine a_getQ (q := (B + 52)) hb dX12_best_239 (by rw [ow]; exact fl_RX12_9_12) (hL2.1 51 (by decide)) (hL2.2.1 (51, 1, 52) (by decide)) ?_
            refine a_sipush (v := 203) hb dX12_best_242 (by decide) ?_
            refine a_iload_n hb dX12_best_245 rfl 1 rfl ?_
            refine a_iadd hb dX12_best_246 ?_
            refine a_iload hb dX12_best_247 5 rfl ?_
            refine b_iast (j := (203 + w.toNatClampNeg)) hb dX12_best_249 (hL2.1 52 (by decide)) (IX.add ⟨by decide, by decide⟩ ix_w (by omega)) (by omega) ?_
            generalize eh3 : (setI h2_ (B + 52) (203 + w.toNatClampNeg) (hI h (B + 52) (203 + w.toNatClampNeg))) = h3_
            have hF3 : FR (Az B) h h3_ := by rw [← eh3]; exact (FR.I hF2 (by unfold Az; omega))
            have hL3 : LY h3_ B := FR.ly hF3 hL
            have hW3 : hI h3_ (B + 52) = upd (hI h2_ (B + 52)) (203 + w.toNatClampNeg) (hI h (B + 52) (203 + w.toNatClampNeg)) := by rw [← eh3]; exact hI_setI_s
            have hS3_56 : hI h3_ (B + 56) = hI h (B + 56) := hF3.2.2.2.2 _ (by unfold Az; omega)
            have hT3_57 : hI h3_ (B + 57) = hI h2_ (B + 57) := by rw [← eh3]; exact hI_setI_n (by omega)
            have hT3_58 : hI h3_ (B + 58) = hI h2_ (B + 58) := by rw [← eh3]; exact hI_setI_n (by omega)
            clear eh3
            refine a_iload_n hb dX12_best_250 rfl 3 rfl ?_
            refine a_if_ne hb 259 dX12_best_251 (by decide) (fun c251 => ?_) (fun c251 => ?_)
            · refine a_iload_n hb dX12_best_259 rfl 3 rfl ?_
              refine a_iconst (v := 1) hb dX12_best_260 (by decide) ?_
              refine a_icmp_ne hb 269 dX12_best_261 (by decide) (fun c261 => ?_) (fun c261 => ?_)
              · refine a_iload hb dX12_best_269 8 rfl ?_
                exact a_ireturn (ty := .int) hb hz dX12_best_271 hret rfl (by rw [hr]; exact Nat.le_of_ble_eq_true rfl) (by rw [hr]; exact Nat.le_of_ble_eq_true rfl) (⟨by rw [if_neg (by simp [c5]), if_neg (by simp [c14]), if_neg (by simp [c30])]; rw [show (20 : Nat) = i by omega]; simp [*], hF3, by rw [hW3, hW2, hv0]; exact (upd_4 (by omega)).trans upd_5⟩)
              · refine a_iload hb dX12_best_264 7 rfl ?_
                refine a_goto hb 271 dX12_best_266 (by decide) ?_
                exact a_ireturn (ty := .int) hb hz dX12_best_271 hret rfl (by rw [hr]; exact Nat.le_of_ble_eq_true rfl) (by rw [hr]; exact Nat.le_of_ble_eq_true rfl) (⟨by rw [if_neg (by simp [c5]), if_neg (by simp [c14]), if_neg (by simp [c30])]; rw [show (20 : Nat) = i by omega]; simp [*], hF3, by rw [hW3, hW2, hv0]; exact (upd_4 (by omega)).trans upd_5⟩)
            · refine a_iload hb dX12_best_254 6 rfl ?_
              refine a_goto hb 271 dX12_best_256 (by decide) ?_
              exact a_ireturn (ty := .int) hb hz dX12_best_271 hret rfl (by rw [hr]; exact Nat.le_of_ble_eq_true rfl) (by rw [hr]; exact Nat.le_of_ble_eq_true rfl) (⟨by rw [if_neg (by simp [c5]), if_neg (by simp [c14]), if_neg (by simp [c30])]; rw [show (20 : Nat) = i by omega]; simp [*], hF3, by rw [hW3, hW2, hv0]; exact (upd_4 (by omega)).trans upd_5⟩)
          | succ k ih =>
            intro i h1 hF1 iv hi
            have hL0_ : LY h1 B := FR.ly hF1 hL
            have hS0_56 : hI h1 (B + 56) = hI h (B + 56) := hF1.2.2.2.2 _ (by unfold Az; omega)
            have hiv := iv
            obtain ⟨v0, v1, hv0, hv58⟩ := hiv
            refine a_iload hb dX12_best_79 9 rfl ?_
            refine a_bipush (v := 20) hb dX12_best_81 (by decide) ?_
            refine a_icmp_gt hb 226 dX12_best_83 (by decide) (fun c83 => absurd c83 (by rw [Int32.not_lt]; exact nI_le (b := 20) (a := i + 1) (by omega) (by omega))) (fun c83 => ?_)
            refine a_iconst (v := 0) hb dX12_best_86 (by decide) ?_
            refine a_istore (L' := [(10, .int 0), (0, .ref (B + 51)), (1, .int w), (2, .int c), (3, .int x), (4, .int (hI h (B + 52) (198 + w.toNatClampNeg))), (5, .int (hI h (B + 52) (203 + w.toNatClampNeg))), (6, .int ((bsO (coS (hI h (B + 52)) w.toNatClampNeg n) (hoS (hI h (B + 52)) (fun t => dmS P (hI h (B + 52)) (hI h (B + 56)) hl (nI t) np) w.toNatClampNeg n c) i).1)), (7, .int ((bsO (coS (hI h (B + 52)) w.toNatClampNeg n) (hoS (hI h (B + 52)) (fun t => dmS P (hI h (B + 52)) (hI h (B + 56)) hl (nI t) np) w.toNatClampNeg n c) i).2.1)), (8, .int ((bsO (coS (hI h (B + 52)) w.toNatClampNeg n) (hoS (hI h (B + 52)) (fun t => dmS P (hI h (B + 52)) (hI h (B + 56)) hl (nI t) np) w.toNatClampNeg n c) i).2.2)), (9, .int (nI (i + 1)))]) hb dX12_best_87 (by rw [hml]; decide) rfl ?_
            refine AW.sub (L' := [(0, .ref (B + 51)), (1, .int w), (2, .int c), (3, .int x), (4, .int (hI h (B + 52) (198 + w.toNatClampNeg))), (5, .int (hI h (B + 52) (203 + w.toNatClampNeg))), (6, .int ((bsO (coS (hI h (B + 52)) w.toNatClampNeg n) (hoS (hI h (B + 52)) (fun t => dmS P (hI h (B + 52)) (hI h (B + 56)) hl (nI t) np) w.toNatClampNeg n c) i).1)), (7, .int ((bsO (coS (hI h (B + 52)) w.toNatClampNeg n) (hoS (hI h (B + 52)) (fun t => dmS P (hI h (B + 52)) (hI h (B + 56)) hl (nI t) np) w.toNatClampNeg n c) i).2.1)), (8, .int ((bsO (coS (hI h (B + 52)) w.toNatClampNeg n) (hoS (hI h (B + 52)) (fun t => dmS P (hI h (B + 52)) (hI h (B + 56)) hl (nI t) np) w.toNatClampNeg n c) i).2.2)), (9, .int (nI (i + 1))), (10, .int 0)]) [1, 2, 3, 4, 5, 6, 7, 8, 9, 10, 0] rfl ?_
            refine AW.eq (inner (bsO (coS (hI h (B + 52)) w.toNatClampNeg n) (hoS (hI h (B + 52)) (fun t => dmS P (hI h (B + 52)) (hI h (B + 56)) hl (nI t) np) w.toNatClampNeg n c) i) i (by omega) (fun h2 hF2 iv2 => ?_) 40 0 h1 hF1 iv (by omega)) rfl rfl rfl rfl
            have hL2x : LY h2 B := FR.ly hF2 hL
            have hS2x_56 : hI h2 (B + 56) = hI h (B + 56) := hF2.2.2.2.2 _ (by unfold Az; omega)
            show AW V 0 0 h2 220 [(0, .ref (B + 51)), (1, .int w), (2, .int c), (3, .int x), (4, .int (hI h (B + 52) (198 + w.toNatClampNeg))), (5, .int (hI h (B + 52) (203 + w.toNatClampNeg))), (6, .int ((bsI (coS (hI h (B + 52)) w.toNatClampNeg n) (hoS (hI h (B + 52)) (fun t => dmS P (hI h (B + 52)) (hI h (B + 56)) hl (nI t) np) w.toNatClampNeg n c) (bsO (coS (hI h (B + 52)) w.toNatClampNeg n) (hoS (hI h (B + 52)) (fun t => dmS P (hI h (B + 52)) (hI h (B + 56)) hl (nI t) np) w.toNatClampNeg n c) i) i 40).1)), (7, .int ((bsI (coS (hI h (B + 52)) w.toNatClampNeg n) (hoS (hI h (B + 52)) (fun t => dmS P (hI h (B + 52)) (hI h (B + 56)) hl (nI t) np) w.toNatClampNeg n c) (bsO (coS (hI h (B + 52)) w.toNatClampNeg n) (hoS (hI h (B + 52)) (fun t => dmS P (hI h (B + 52)) (hI h (B + 56)) hl (nI t) np) w.toNatClampNeg n c) i) i 40).2.1)), (8, .int ((bsI (coS (hI h (B + 52)) w.toNatClampNeg n) (hoS (hI h (B + 52)) (fun t => dmS P (hI h (B + 52)) (hI h (B + 56)) hl (nI t) np) w.toNatClampNeg n c) (bsO (coS (hI h (B + 52)) w.toNatClampNeg n) (hoS (hI h (B + 52)) (fun t => dmS P (hI h (B + 52)) (hI h (B + 56)) hl (nI t) np) w.toNatClampNeg n c) i) i 40).2.2)), (9, .int (nI (i + 1))), (10, .int (nI 40))] []
            refine a_iinc (v := ((nI (i + 1)) + 1)) (L' := [(9, .int ((nI (i + 1)) + 1)), (0, .ref (B + 51)), (1, .int w), (2, .int c), (3, .int x), (4, .int (hI h (B + 52) (198 + w.toNatClampNeg))), (5, .int (hI h (B + 52) (203 + w.toNatClampNeg))), (6, .int ((bsI (coS (hI h (B + 52)) w.toNatClampNeg n) (hoS (hI h (B + 52)) (fun t => dmS P (hI h (B + 52)) (hI h (B + 56)) hl (nI t) np) w.toNatClampNeg n c) (bsO (coS (hI h (B + 52)) w.toNatClampNeg n) (hoS (hI h (B + 52)) (fun t => dmS P (hI h (B + 52)) (hI h (B + 56)) hl (nI t) np) w.toNatClampNeg n c) i) i 40).1)), (7, .int ((bsI (coS (hI h (B + 52)) w.toNatClampNeg n) (hoS (hI h (B + 52)) (fun t => dmS P (hI h (B + 52)) (hI h (B + 56)) hl (nI t) np) w.toNatClampNeg n c) (bsO (coS (hI h (B + 52)) w.toNatClampNeg n) (hoS (hI h (B + 52)) (fun t => dmS P (hI h (B + 52)) (hI h (B + 56)) hl (nI t) np) w.toNatClampNeg n c) i) i 40).2.1)), (8, .int ((bsI (coS (hI h (B + 52)) w.toNatClampNeg n) (hoS (hI h (B + 52)) (fun t => dmS P (hI h (B + 52)) (hI h (B + 56)) hl (nI t) np) w.toNatClampNeg n c) (bsO (coS (hI h (B + 52)) w.toNatClampNeg n) (hoS (hI h (B + 52)) (fun t => dmS P (hI h (B + 52)) (hI h (B + 56)) hl (nI t) np) w.toNatClampNeg n c) i) i 40).2.2)), (10, .int (nI 40))]) hb dX12_best_220 9 rfl rfl (by rw [hml]; decide) rfl ?_
            refine a_goto hb 79 dX12_best_223 (by decide) ?_
            refine AW.sub (L' := [(0, .ref (B + 51)), (1, .int w), (2, .int c), (3, .int x), (4, .int (hI h (B + 52) (198 + w.toNatClampNeg))), (5, .int (hI h (B + 52) (203 + w.toNatClampNeg))), (6, .int ((bsI (coS (hI h (B + 52)) w.toNatClampNeg n) (hoS (hI h (B + 52)) (fun t => dmS P (hI h (B + 52)) (hI h (B + 56)) hl (nI t) np) w.toNatClampNeg n c) (bsO (coS (hI h (B + 52)) w.toNatClampNeg n) (hoS (hI h (B + 52)) (fun t => dmS P (hI h (B + 52)) (hI h (B + 56)) hl (nI t) np) w.toNatClampNeg n c) i) i 40).1)), (7, .int ((bsI (coS (hI h (B + 52)) w.toNatClampNeg n) (hoS (hI h (B + 52)) (fun t => dmS P (hI h (B + 52)) (hI h (B + 56)) hl (nI t) np) w.toNatClampNeg n c) (bsO (coS (hI h (B + 52)) w.toNatClampNeg n) (hoS (hI h (B + 52)) (fun t => dmS P (hI h (B + 52)) (hI h (B + 56)) hl (nI t) np) w.toNatClampNeg n c) i) i 40).2.1)), (8, .int ((bsI (coS (hI h (B + 52)) w.toNatClampNeg n) (hoS (hI h (B + 52)) (fun t => dmS P (hI h (B + 52)) (hI h (B + 56)) hl (nI t) np) w.toNatClampNeg n c) (bsO (coS (hI h (B + 52)) w.toNatClampNeg n) (hoS (hI h (B + 52)) (fun t => dmS P (hI h (B + 52)) (hI h (B + 56)) hl (nI t) np) w.toNatClampNeg n c) i) i 40).2.2)), (9, .int ((nI (i + 1)) + 1))]) [1, 2, 3, 4, 5, 6, 7, 8, 9, 0] rfl ?_
            exact AW.eq (ih (i + 1) h2 hF2 (iv2) (by omega)) rfl rfl (by simp only [nI_1, bsO]) rfl
        refine AW.sub (L' := [(0, .ref (B + 51)), (1, .int w), (2, .int c), (3, .int x), (4, .int (hI h (B + 52) (198 + w.toNatClampNeg))), (5, .int (hI h (B + 52) (203 + w.toNatClampNeg))), (6, .int (-5)), (7, .int (-5)), (8, .int (-5)), (9, .int 1)]) [6, 7, 8, 9, 5, 4, 3, 2, 1, 0] rfl ?_
        exact AW.eq (loop 20 0 h1_ hFz ⟨_, _, by rw [hT1_52]; exact upd_5.symm, rfl⟩ (by omega)) rfl rfl (rfl) rfl
      · simp [b2i_0] at c30
        refine a_bipush (v := (-2)) hb dX12_best_33 (by decide) ?_
        exact a_ireturn (ty := .int) hb hz dX12_best_35 hret rfl (by rw [hr]; exact Nat.le_of_ble_eq_true rfl) (by rw [hr]; exact Nat.le_of_ble_eq_true rfl) (⟨by first | (rw [if_pos (by assumption)]; done) | (rw [if_neg (by simp [c5]), if_pos (by assumption)]; done) | (rw [if_neg (by simp [c5]), if_neg (by simp [c14]), if_pos (by assumption)]; done), FR.rf, rfl⟩)
