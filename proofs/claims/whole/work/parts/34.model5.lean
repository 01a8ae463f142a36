/-! ===== what stays; the model's demand ===== -/
/-- all stays but the numbers of the rows A -/
def FR (A : Nat → Prop) (h h' : AH) : Prop := hN h' = hN h ∧ hT h' = hT h ∧ hQ h' = hQ h ∧ (∀ a, ¬ A a → hJ h' a = hJ h a) ∧ ∀ a, ¬ A a → hI h' a = hI h a
theorem FR.rf {A : Nat → Prop} {h : AH} : FR A h h := ⟨rfl, rfl, rfl, fun _ _ => rfl, fun _ _ => rfl⟩
theorem FR.tr {A : Nat → Prop} {h h1 h2 : AH} (x : FR A h h1) (y : FR A h1 h2) : FR A h h2 := ⟨y.1.trans x.1, y.2.1.trans x.2.1, y.2.2.1.trans x.2.2.1, fun a q => (y.2.2.2.1 a q).trans (x.2.2.2.1 a q), fun a q => (y.2.2.2.2 a q).trans (x.2.2.2.2 a q)⟩
theorem FR.mo {A A' : Nat → Prop} {h h1 : AH} (x : FR A h h1) (m : ∀ a, A a → A' a) : FR A' h h1 := ⟨x.1, x.2.1, x.2.2.1, fun a q => x.2.2.2.1 a (fun z => q (m a z)), fun a q => x.2.2.2.2 a (fun z => q (m a z))⟩
theorem FR.ly {A : Nat → Prop} {h h1 : AH} {B : Nat} (x : FR A h h1) (hL : LY h B) : LY h1 B := ⟨fun i hi => by rw [x.2.1]; exact hL.1 i hi, fun q hq => by rw [x.2.2.1]; exact hL.2.1 q hq, by rw [x.1]; exact hL.2.2⟩
theorem FR.I {A : Nat → Prop} {h h1 : AH} {a k : Nat} {v : Int32} (x : FR A h h1) (ha : A a) : FR A h (setI h1 a k v) := ⟨x.1, x.2.1, x.2.2.1, x.2.2.2.1, fun b q => by
  rw [← x.2.2.2.2 b q]
  have e : b ≠ a := fun e => q (by rw [e]; exact ha)
  funext j
  exact u2_a e⟩
theorem FR.J {A : Nat → Prop} {h h1 : AH} {a k : Nat} {v : Int64} (x : FR A h h1) (ha : A a) : FR A h (setJ h1 a k v) := ⟨x.1, x.2.1, x.2.2.1, fun b q => by
  rw [← x.2.2.2.1 b q]
  have e : b ≠ a := fun e => q (by rw [e]; exact ha)
  funext j
  exact u2_a e, x.2.2.2.2⟩
theorem FR.R {A : Nat → Prop} {h h1 : AH} {a : Nat} {f : Nat → Int32} (x : FR A h h1) (ha : A a) : FR A h (setR h1 a f) := ⟨x.1, x.2.1, x.2.2.1, x.2.2.2.1, fun b q => by
  rw [← x.2.2.2.2 b q]
  exact hI_Rn (fun e => q (by rw [e]; exact ha))⟩
abbrev PF : Type := Int32 → Int32 → Int32 → Int32 → Int32 → Int32
/-- the rows that percent writes -/
def Am (B : Nat) (a : Nat) : Prop := a = B + 54 ∨ a = B + 55
/-- all of the model's cells but s and the image -/
def Ax (B : Nat) (a : Nat) : Prop := a = B + 51 ∨ (B + 54 ≤ a ∧ a ≤ B + 61)
/-- percent answers P, of age, cold, size, kind, tick -/
def PcM (g : GG) (B : Nat) (h : AH) (P : PF) : Prop := ∀ h1, FR (Ax B) h h1 → AM g 1 0 0 mX12_percent [.ref (B + 51)] h1 (fun rv h' => rv = some (.int (P (hI h1 (B + 54) 0) (hI h1 (B + 54) 1) (hI h1 (B + 54) 2) (hI h1 (B + 54) 3) (hI h1 (B + 54) 4))) ∧ FR (Am B) h1 h')
theorem PcM.mv {g : GG} {B : Nat} {h h1 : AH} {P : PF} (x : PcM g B h P) (f : FR (Ax B) h h1) : PcM g B h1 P := fun h2 f2 => x h2 (f.tr f2)
def plS (P : PF) (S : Nat → Int32) (hl : Nat) (kind size age tick : Int32) : Int32 := if age < 0 then 0 else if S (208 + hl) < size / S 6 * P age (S 5) size kind tick / 100 then S (208 + hl) else size / S 6 * P age (S 5) size kind tick / 100
def drS (P : PF) (S : Nat → Int32) (hl : Nat) (kind size v age tick : Int32) : Int32 :=
  if kind = 2 then plS P S hl kind size (age - v) tick
  else if kind = 3 then plS P S hl kind size age tick + (if 0 ≤ age then (if 0 < P age (S 5) size kind tick then v else 0) else 0)
  else if kind = 4 ∨ kind = 5 then (if oO age 0 (v - 1) then plS P S hl kind size (age - v) tick else if kind = 4 then -(size / S 6) else size / S 6)
  else if kind = 6 then plS P S hl kind size age tick / 2 + plS P S hl kind size (age - v) (tick - v) / 2
  else plS P S hl kind size age tick
def dwS (P : PF) (S dl : Nat → Int32) (hl : Nat) (t : Int32) (b : Nat) : Int32 := drS P S hl (S (130 + b)) (S (146 + b)) (S (154 + b)) (t - S (138 + b) - dl b) t
def dmS (P : PF) (S dl : Nat → Int32) (hl : Nat) (t : Int32) : Nat → Int32
  | 0 => 0
  | b + 1 => dmS P S dl hl t b + dwS P S dl hl t b
set_option maxRecDepth 100000 in
theorem m_percentAt (g : GG) (h : AH) (B : Nat) (hL : LY h B) (P : PF) (hP : PcM g B h P) (k z a t : Int32) : AM g 2 0 0 mX12_percentAt [.ref (B + 51), .int k, .int z, .int a, .int t] h (fun rv h' => rv = some (.int (P a (hI h (B + 52) 5) z k t)) ∧ FR (Am B) h h') := by
  refine AM.of [(0, .ref (B + 51)), (1, .int k), (2, .int z), (3, .int a), (4, .int t)] (by decide) (Nat.le_of_ble_eq_true rfl) rfl ?_
  intro V hV
  have hb : V.2.1.2.1 = cX12_percentAt := by subst hV; rfl
  have ow : V.2.1.1.cls = RX12 := by subst hV; rfl
  have hr : V.2.2.1 = aw_rm 2 0 0 := by subst hV; rfl
  have hz : V.2.2.2 = aw_Z V.1 (fun rv h' => rv = some (.int (P a (hI h (B + 52) 5) z k t)) ∧ FR (Am B) h h') V.2.2.1 := by subst hV; rfl
  have hg : V.1 = g := by subst hV; rfl
  have hret : V.2.1.2.2.2 = (some .int) := by subst hV; rfl
  have hml : V.2.1.2.2.1 = 5 := by subst hV; rfl
  clear hV
  refine a_aload_n hb dX12_percentAt_0 rfl 0 rfl ?_
  refine a_getQ (q := (B + 54)) hb dX12_percentAt_1 (by rw [ow]; exact fl_RX12_18_12) (hL.1 51 (by decide)) (hL.2.1 (51, 9, 54) (by decide)) ?_
  refine a_iconst (v := 0) hb dX12_percentAt_4 (by decide) ?_
  refine a_iload_n hb dX12_percentAt_5 rfl 3 rfl ?_
  refine b_iast (j := 0) hb dX12_percentAt_6 (hL.1 54 (by decide)) ⟨by decide, by decide⟩ (by decide) ?_
  refine a_aload_n hb dX12_percentAt_7 rfl 0 rfl ?_
  refine a_getQ (q := (B + 54)) hb dX12_percentAt_8 (by rw [ow]; exact fl_RX12_18_12) (hL.1 51 (by decide)) (hL.2.1 (51, 9, 54) (by decide)) ?_
  refine a_iconst (v := 1) hb dX12_percentAt_11 (by decide) ?_
  refine a_aload_n hb dX12_percentAt_12 rfl 0 rfl ?_
  refine a_getQ (q := (B + 52)) hb dX12_percentAt_13 (by rw [ow]; exact fl_RX12_9_12) (hL.1 51 (by decide)) (hL.2.1 (51, 1, 52) (by decide)) ?_
  refine a_iconst (v := 5) hb dX12_percentAt_16 (by decide) ?_
  refine b_iald (j := 5) hb dX12_percentAt_17 (hL.1 52 (by decide)) ⟨by decide, by decide⟩ (by decide) ?_
  refine b_iast (j := 1) hb dX12_percentAt_18 (hL.1 54 (by decide)) ⟨by decide, by decide⟩ (by decide) ?_
  refine a_aload_n hb dX12_percentAt_19 rfl 0 rfl ?_
  refine a_getQ (q := (B + 54)) hb dX12_percentAt_20 (by rw [ow]; exact fl_RX12_18_12) (hL.1 51 (by decide)) (hL.2.1 (51, 9, 54) (by decide)) ?_
  refine a_iconst (v := 2) hb dX12_percentAt_23 (by decide) ?_
  refine a_iload_n hb dX12_percentAt_24 rfl 2 rfl ?_
  refine b_iast (j := 2) hb dX12_percentAt_25 (hL.1 54 (by decide)) ⟨by decide, by decide⟩ (by decide) ?_
  refine a_aload_n hb dX12_percentAt_26 rfl 0 rfl ?_
  refine a_getQ (q := (B + 54)) hb dX12_percentAt_27 (by rw [ow]; exact fl_RX12_18_12) (hL.1 51 (by decide)) (hL.2.1 (51, 9, 54) (by decide)) ?_
  refine a_iconst (v := 3) hb dX12_percentAt_30 (by decide) ?_
  refine a_iload_n hb dX12_percentAt_31 rfl 1 rfl ?_
  refine b_iast (j := 3) hb dX12_percentAt_32 (hL.1 54 (by decide)) ⟨by decide, by decide⟩ (by decide) ?_
  refine a_aload_n hb dX12_percentAt_33 rfl 0 rfl ?_
  refine a_getQ (q := (B + 54)) hb dX12_percentAt_34 (by rw [ow]; exact fl_RX12_18_12) (hL.1 51 (by decide)) (hL.2.1 (51, 9, 54) (by decide)) ?_
  refine a_iconst (v := 4) hb dX12_percentAt_37 (by decide) ?_
  refine a_iload hb dX12_percentAt_38 4 rfl ?_
  refine b_iast (j := 4) hb dX12_percentAt_40 (hL.1 54 (by decide)) ⟨by decide, by decide⟩ (by decide) ?_
  refine a_aload_n hb dX12_percentAt_41 rfl 0 rfl ?_
  refine a_callV hb dX12_percentAt_42 ((by rw [hg]; have h0 := hP (setI (setI (setI (setI (setI h (B + 54) 0 a) (B + 54) 1 (hI (setI h (B + 54) 0 a) (B + 52) 5)) (B + 54) 2 z) (B + 54) 3 k) (B + 54) 4 t) (FR.mo (A := Am B) (A' := Ax B) (FR.I (FR.I (FR.I (FR.I (FR.I FR.rf (by unfold Am; omega)) (by unfold Am; omega)) (by unfold Am; omega)) (by unfold Am; omega)) (by unfold Am; omega)) (by intro a; unfold Am Ax; omega)); have hne : B + 52 ≠ B + 54 := (by omega); simp only [setI_R, hI_R, setR_R] at h0 ⊢; simpa [upd, hI_Rn hne] using h0) : AM V.1 1 0 0 mX12_percent [.ref (B + 51)] (setI (setI (setI (setI (setI h (B + 54) 0 a) (B + 54) 1 (hI (setI h (B + 54) 0 a) (B + 52) 5)) (B + 54) 2 z) (B + 54) 3 k) (B + 54) 4 t) (fun rv h' => rv = some (.int (P a (hI h (B + 52) 5) z k t)) ∧ FR (Am B) (setI (setI (setI (setI (setI h (B + 54) 0 a) (B + 54) 1 (hI (setI h (B + 54) 0 a) (B + 52) 5)) (B + 54) 2 z) (B + 54) 3 k) (B + 54) 4 t) h')) (by rw [ow]; exact clv_RX12_134) (hL.1 51 (by decide)) (by decide) rfl rfl rfl (Nat.le_of_ble_eq_true rfl) (by rw [hr]; exact ⟨by decide, by decide⟩) (by rw [hr]; exact ⟨Nat.le_of_ble_eq_true rfl, Nat.le_of_ble_eq_true rfl⟩) ?_
  intro rv h1_ hp
  obtain ⟨hv, hf1⟩ := hp
  rw [hv]
  have hF1 := FR.tr (FR.I (FR.I (FR.I (FR.I (FR.I FR.rf (by unfold Am; omega)) (by unfold Am; omega)) (by unfold Am; omega)) (by unfold Am; omega)) (by unfold Am; omega)) hf1
  have hL1 : LY h1_ B := FR.ly hF1 hL
  have hS1_52 : hI h1_ (B + 52) = hI h (B + 52) := hF1.2.2.2.2 _ (by unfold Am; omega)
  have hS1_56 : hI h1_ (B + 56) = hI h (B + 56) := hF1.2.2.2.2 _ (by unfold Am; omega)
  clear hv hf1
  show AW V 0 0 h1_ 45 [(0, .ref (B + 51)), (1, .int k), (2, .int z), (3, .int a), (4, .int t)] [.int (P a (hI h (B + 52) 5) z k t)]
  exact a_ireturn (ty := .int) hb hz dX12_percentAt_45 hret rfl (by rw [hr]; exact Nat.le_of_ble_eq_true rfl) (by rw [hr]; exact Nat.le_of_ble_eq_true rfl) (⟨rfl, hF1⟩)
set_option maxRecDepth 100000 in
theorem m_plain (g : GG) (h : AH) (B : Nat) (hL : LY h B) (P : PF) (hP : PcM g B h P) (h6 : ¬ hI h (B + 52) 6 = 0) (hl : Nat) (hhl : IX (hI h (B + 52) 8) hl) (lhl : hl < 5) (k z a t : Int32) : AM g 3 0 0 mX12_plain [.ref (B + 51), .int k, .int z, .int a, .int t] h (fun rv h' => rv = some (.int (plS P (hI h (B + 52)) hl k z a t)) ∧ FR (Am B) h h') := by
  refine AM.of [(0, .ref (B + 51)), (1, .int k), (2, .int z), (3, .int a), (4, .int t)] (by decide) (Nat.le_of_ble_eq_true rfl) rfl ?_
  intro V hV
  have hb : V.2.1.2.1 = cX12_plain := by subst hV; rfl
  have ow : V.2.1.1.cls = RX12 := by subst hV; rfl
  have hr : V.2.2.1 = aw_rm 3 0 0 := by subst hV; rfl
  have hz : V.2.2.2 = aw_Z V.1 (fun rv h' => rv = some (.int (plS P (hI h (B + 52)) hl k z a t)) ∧ FR (Am B) h h') V.2.2.1 := by subst hV; rfl
  have hg : V.1 = g := by subst hV; rfl
  have hret : V.2.1.2.2.2 = (some .int) := by subst hV; rfl
  have hml : V.2.1.2.2.1 = 7 := by subst hV; rfl
  clear hV
  refine a_iload_n hb dX12_plain_0 rfl 3 rfl ?_
  refine a_if_ge hb 6 dX12_plain_1 (by decide) (fun c1 => ?_) (fun c1 => ?_)
  · have c1' := Int32.not_lt.mpr c1
    refine a_iload_n hb dX12_plain_6 rfl 2 rfl ?_
    refine a_aload_n hb dX12_plain_7 rfl 0 rfl ?_
    refine a_getQ (q := (B + 52)) hb dX12_plain_8 (by rw [ow]; exact fl_RX12_9_12) (hL.1 51 (by decide)) (hL.2.1 (51, 1, 52) (by decide)) ?_
    refine a_bipush (v := 6) hb dX12_plain_11 (by decide) ?_
    refine b_iald (j := 6) hb dX12_plain_13 (hL.1 52 (by decide)) ⟨by decide, by decide⟩ (by decide) ?_
    refine a_idiv hb dX12_plain_14 h6 ?_
    refine a_aload_n hb dX12_plain_15 rfl 0 rfl ?_
    refine a_iload_n hb dX12_plain_16 rfl 1 rfl ?_
    refine a_iload_n hb dX12_plain_17 rfl 2 rfl ?_
    refine a_iload_n hb dX12_plain_18 rfl 3 rfl ?_
    refine a_iload hb dX12_plain_19 4 rfl ?_
    refine a_callV hb dX12_plain_21 (by rw [hg]; exact m_percentAt g h B hL P (hP.mv (FR.mo (A := Am B) (A' := Ax B) FR.rf (by intro a; unfold Am Ax; omega))) k z a t) (by rw [ow]; exact clv_RX12_137) (hL.1 51 (by decide)) (by decide) rfl rfl rfl (Nat.le_of_ble_eq_true rfl) (by rw [hr]; exact ⟨by decide, by decide⟩) (by rw [hr]; exact ⟨Nat.le_of_ble_eq_true rfl, Nat.le_of_ble_eq_true rfl⟩) ?_
    intro rv h1_ hp
    obtain ⟨hv, hf1⟩ := hp
    rw [hv]
    have hF1 := FR.tr FR.rf hf1
    have hL1 : LY h1_ B := FR.ly hF1 hL
    have hS1_52 : hI h1_ (B + 52) = hI h (B + 52) := hF1.2.2.2.2 _ (by unfold Am; omega)
    have hS1_56 : hI h1_ (B + 56) = hI h (B + 56) := hF1.2.2.2.2 _ (by unfold Am; omega)
    clear hv hf1
    show AW V 0 0 h1_ 24 [(0, .ref (B + 51)), (1, .int k), (2, .int z), (3, .int a), (4, .int t)] [.int (P a (hI h (B + 52) 5) z k t), .int (z / (hI h (B + 52) 6))]
    refine a_imul hb dX12_plain_24 ?_
    refine a_bipush (v := 100) hb dX12_plain_25 (by decide) ?_
    refine a_idiv hb dX12_plain_27 (by decide) ?_
    refine a_istore (L' := [(5, .int (((z / (hI h (B + 52) 6)) * (P a (hI h (B + 52) 5) z k t)) / 100)), (0, .ref (B + 51)), (1, .int k), (2, .int z), (3, .int a), (4, .int t)]) hb dX12_plain_28 (by rw [hml]; decide) rfl ?_
    refine a_aload_n hb dX12_plain_30 rfl 1 rfl ?_
    refine a_getQ (q := (B + 52)) hb dX12_plain_31 (by rw [ow]; exact fl_RX12_9_12) (hL1.1 51 (by decide)) (hL1.2.1 (51, 1, 52) (by decide)) ?_
    refine a_sipush (v := 208) hb dX12_plain_34 (by decide) ?_
    refine a_aload_n hb dX12_plain_37 rfl 1 rfl ?_
    refine a_getQ (q := (B + 52)) hb dX12_plain_38 (by rw [ow]; exact fl_RX12_9_12) (hL1.1 51 (by decide)) (hL1.2.1 (51, 1, 52) (by decide)) ?_
    refine a_bipush (v := 8) hb dX12_plain_41 (by decide) ?_
    refine b_iald (j := 8) hb dX12_plain_43 (hL1.1 52 (by decide)) ⟨by decide, by decide⟩ (by decide) ?_
    rw [hS1_52]
    refine a_iadd hb dX12_plain_44 ?_
    refine b_iald (j := (208 + hl)) hb dX12_plain_45 (hL1.1 52 (by decide)) (IX.add ⟨by decide, by decide⟩ hhl (by omega)) (by omega) ?_
    rw [hS1_52]
    refine a_istore (L' := [(6, .int (hI h (B + 52) (208 + hl))), (5, .int (((z / (hI h (B + 52) 6)) * (P a (hI h (B + 52) 5) z k t)) / 100)), (0, .ref (B + 51)), (1, .int k), (2, .int z), (3, .int a), (4, .int t)]) hb dX12_plain_46 (by rw [hml]; decide) rfl ?_
    refine a_iload hb dX12_plain_48 1 rfl ?_
    refine a_iload hb dX12_plain_50 0 rfl ?_
    refine a_icmp_le hb 60 dX12_plain_52 (by decide) (fun c52 => ?_) (fun c52 => ?_)
    · have c52' := Int32.not_lt.mpr c52
      refine a_iload hb dX12_plain_60 1 rfl ?_
      exact a_ireturn (ty := .int) hb hz dX12_plain_62 hret rfl (by rw [hr]; exact Nat.le_of_ble_eq_true rfl) (by rw [hr]; exact Nat.le_of_ble_eq_true rfl) (⟨by simp [plS, *], hF1⟩)
    · have c52' := Int32.not_le.mp c52
      refine a_iload hb dX12_plain_55 0 rfl ?_
      refine a_goto hb 62 dX12_plain_57 (by decide) ?_
      exact a_ireturn (ty := .int) hb hz dX12_plain_62 hret rfl (by rw [hr]; exact Nat.le_of_ble_eq_true rfl) (by rw [hr]; exact Nat.le_of_ble_eq_true rfl) (⟨by simp [plS, *], hF1⟩)
  · have c1' := Int32.not_le.mp c1
    refine a_iconst (v := 0) hb dX12_plain_4 (by decide) ?_
    exact a_ireturn (ty := .int) hb hz dX12_plain_5 hret rfl (by rw [hr]; exact Nat.le_of_ble_eq_true rfl) (by rw [hr]; exact Nat.le_of_ble_eq_true rfl) (⟨by simp [plS, *], FR.rf⟩)
set_option maxRecDepth 100000 in
theorem m_drawnBy (g : GG) (h : AH) (B : Nat) (hL : LY h B) (P : PF) (hP : PcM g B h P) (h6 : ¬ hI h (B + 52) 6 = 0) (hl : Nat) (hhl : IX (hI h (B + 52) 8) hl) (lhl : hl < 5) (k z v a t : Int32) : AM g 4 0 0 mX12_drawnBy [.ref (B + 51), .int k, .int z, .int v, .int a, .int t] h (fun rv h' => rv = some (.int (drS P (hI h (B + 52)) hl k z v a t)) ∧ FR (Am B) h h') := by
  refine AM.of [(0, .ref (B + 51)), (1, .int k), (2, .int z), (3, .int v), (4, .int a), (5, .int t)] (by decide) (Nat.le_of_ble_eq_true rfl) rfl ?_
  intro V hV
  have hb : V.2.1.2.1 = cX12_drawnBy := by subst hV; rfl
  have ow : V.2.1.1.cls = RX12 := by subst hV; rfl
  have hr : V.2.2.1 = aw_rm 4 0 0 := by subst hV; rfl
  have hz : V.2.2.2 = aw_Z V.1 (fun rv h' => rv = some (.int (drS P (hI h (B + 52)) hl k z v a t)) ∧ FR (Am B) h h') V.2.2.1 := by subst hV; rfl
  have hg : V.1 = g := by subst hV; rfl
  have hret : V.2.1.2.2.2 = (some .int) := by subst hV; rfl
  have hml : V.2.1.2.2.1 = 7 := by subst hV; rfl
  clear hV
  refine a_iload_n hb dX12_drawnBy_0 rfl 2 rfl ?_
  refine a_aload_n hb dX12_drawnBy_1 rfl 0 rfl ?_
  refine a_getQ (q := (B + 52)) hb dX12_drawnBy_2 (by rw [ow]; exact fl_RX12_9_12) (hL.1 51 (by decide)) (hL.2.1 (51, 1, 52) (by decide)) ?_
  refine a_bipush (v := 6) hb dX12_drawnBy_5 (by decide) ?_
  refine b_iald (j := 6) hb dX12_drawnBy_7 (hL.1 52 (by decide)) ⟨by decide, by decide⟩ (by decide) ?_
  refine a_idiv hb dX12_drawnBy_8 h6 ?_
  refine a_istore (L' := [(6, .int (z / (hI h (B + 52) 6))), (0, .ref (B + 51)), (1, .int k), (2, .int z), (3, .int v), (4, .int a), (5, .int t)]) hb dX12_drawnBy_9 (by rw [hml]; decide) rfl ?_
  refine a_iload_n hb dX12_drawnBy_11 rfl 2 rfl ?_
  by_cases q12_2 : k = 2
  · refine a_tableIn (off := 36) hb 48 dX12_drawnBy_12 (by rw [q12_2]; decide) (by rw [q12_2]; decide) (by rw [q12_2]; decide) (by decide) ?_
    refine a_aload_n hb dX12_drawnBy_48 rfl 1 rfl ?_
    refine a_iload_n hb dX12_drawnBy_49 rfl 2 rfl ?_
    refine a_iload_n hb dX12_drawnBy_50 rfl 3 rfl ?_
    refine a_iload hb dX12_drawnBy_51 5 rfl ?_
    refine a_iload_n hb dX12_drawnBy_53 rfl 4 rfl ?_
    refine a_isub hb dX12_drawnBy_54 ?_
    refine a_iload hb dX12_drawnBy_55 6 rfl ?_
    refine a_callV hb dX12_drawnBy_57 (by rw [hg]; exact m_plain g h B hL P (hP.mv (FR.mo (A := Am B) (A' := Ax B) FR.rf (by intro a; unfold Am Ax; omega))) h6 hl hhl lhl k z (a - v) t) (by rw [ow]; exact clv_RX12_141) (hL.1 51 (by decide)) (by decide) rfl rfl rfl (Nat.le_of_ble_eq_true rfl) (by rw [hr]; exact ⟨by decide, by decide⟩) (by rw [hr]; exact ⟨Nat.le_of_ble_eq_true rfl, Nat.le_of_ble_eq_true rfl⟩) ?_
    intro rv h1_ hp
    obtain ⟨hv, hf1⟩ := hp
    rw [hv]
    have hF1 := FR.tr FR.rf hf1
    have hL1 : LY h1_ B := FR.ly hF1 hL
    have hS1_52 : hI h1_ (B + 52) = hI h (B + 52) := hF1.2.2.2.2 _ (by unfold Am; omega)
    have hS1_56 : hI h1_ (B + 56) = hI h (B + 56) := hF1.2.2.2.2 _ (by unfold Am; omega)
    clear hv hf1
    show AW V 0 0 h1_ 60 [(6, .int (z / (hI h (B + 52) 6))), (0, .ref (B + 51)), (1, .int k), (2, .int z), (3, .int v), (4, .int a), (5, .int t)] [.int (plS P (hI h (B + 52)) hl k z (a - v) t)]
    exact a_ireturn (ty := .int) hb hz dX12_drawnBy_60 hret rfl (by rw [hr]; exact Nat.le_of_ble_eq_true rfl) (by rw [hr]; exact Nat.le_of_ble_eq_true rfl) (⟨by first | (simp [drS, *]; done) | (rw [drS, if_neg q12_2, if_pos q12_3, if_pos c73', if_pos c86']; done) | (rw [drS, if_neg q12_2, if_pos q12_3, if_pos c73', if_neg c86']; done) | (exfalso; clear hz hb ow hr hg hret hml; simp_all), hF1⟩)
  by_cases q12_3 : k = 3
  · refine a_tableIn (off := 49) hb 61 dX12_drawnBy_12 (by rw [q12_3]; decide) (by rw [q12_3]; decide) (by rw [q12_3]; decide) (by decide) ?_
    refine a_aload_n hb dX12_drawnBy_61 rfl 1 rfl ?_
    refine a_iload_n hb dX12_drawnBy_62 rfl 2 rfl ?_
    refine a_iload_n hb dX12_drawnBy_63 rfl 3 rfl ?_
    refine a_iload hb dX12_drawnBy_64 5 rfl ?_
    refine a_iload hb dX12_drawnBy_66 6 rfl ?_
    refine a_callV hb dX12_drawnBy_68 (by rw [hg]; exact m_plain g h B hL P (hP.mv (FR.mo (A := Am B) (A' := Ax B) FR.rf (by intro a; unfold Am Ax; omega))) h6 hl hhl lhl k z a t) (by rw [ow]; exact clv_RX12_141) (hL.1 51 (by decide)) (by decide) rfl rfl rfl (Nat.le_of_ble_eq_true rfl) (by rw [hr]; exact ⟨by decide, by decide⟩) (by rw [hr]; exact ⟨Nat.le_of_ble_eq_true rfl, Nat.le_of_ble_eq_true rfl⟩) ?_
    intro rv h2_ hp
    obtain ⟨hv, hf2⟩ := hp
    rw [hv]
    have hF2 := FR.tr FR.rf hf2
    have hL2 : LY h2_ B := FR.ly hF2 hL
    have hS2_52 : hI h2_ (B + 52) = hI h (B + 52) := hF2.2.2.2.2 _ (by unfold Am; omega)
    have hS2_56 : hI h2_ (B + 56) = hI h (B + 56) := hF2.2.2.2.2 _ (by unfold Am; omega)
    clear hv hf2
    show AW V 0 0 h2_ 71 [(6, .int (z / (hI h (B + 52) 6))), (0, .ref (B + 51)), (1, .int k), (2, .int z), (3, .int v), (4, .int a), (5, .int t)] [.int (plS P (hI h (B + 52)) hl k z a t)]
    refine a_iload hb dX12_drawnBy_71 5 rfl ?_
    refine a_if_lt hb 93 dX12_drawnBy_73 (by decide) (fun c73 => ?_) (fun c73 => ?_)
    · have c73' := Int32.not_le.mpr c73
      refine a_iconst (v := 0) hb dX12_drawnBy_93 (by decide) ?_
      refine a_iadd hb dX12_drawnBy_94 ?_
      exact a_ireturn (ty := .int) hb hz dX12_drawnBy_95 hret rfl (by rw [hr]; exact Nat.le_of_ble_eq_true rfl) (by rw [hr]; exact Nat.le_of_ble_eq_true rfl) (⟨by first | (simp [drS, *]; done) | (rw [drS, if_neg q12_2, if_pos q12_3, if_pos c73', if_pos c86']; done) | (rw [drS, if_neg q12_2, if_pos q12_3, if_pos c73', if_neg c86']; done) | (exfalso; clear hz hb ow hr hg hret hml; simp_all), hF2⟩)
    · have c73' := Int32.not_lt.mp c73
      refine a_aload_n hb dX12_drawnBy_76 rfl 1 rfl ?_
      refine a_iload_n hb dX12_drawnBy_77 rfl 2 rfl ?_
      refine a_iload_n hb dX12_drawnBy_78 rfl 3 rfl ?_
      refine a_iload hb dX12_drawnBy_79 5 rfl ?_
      refine a_iload hb dX12_drawnBy_81 6 rfl ?_
      refine a_callV hb dX12_drawnBy_83 (by rw [hg]; have h0 := m_percentAt g h2_ B hL2 P (hP.mv (FR.mo (A := Am B) (A' := Ax B) hF2 (by intro a; unfold Am Ax; omega))) k z a t; (try rw [hS2_52] at h0); (try rw [hS2_56] at h0); exact h0) (by rw [ow]; exact clv_RX12_137) (hL2.1 51 (by decide)) (by decide) rfl rfl rfl (Nat.le_of_ble_eq_true rfl) (by rw [hr]; exact ⟨by decide, by decide⟩) (by rw [hr]; exact ⟨Nat.le_of_ble_eq_true rfl, Nat.le_of_ble_eq_true rfl⟩) ?_
      intro rv h3_ hp
      obtain ⟨hv, hf3⟩ := hp
      rw [hv]
      have hF3 := FR.tr hF2 hf3
      have hL3 : LY h3_ B := FR.ly hF3 hL
      have hS3_52 : hI h3_ (B + 52) = hI h (B + 52) := hF3.2.2.2.2 _ (by unfold Am; omega)
      have hS3_56 : hI h3_ (B + 56) = hI h (B + 56) := hF3.2.2.2.2 _ (by unfold Am; omega)
      clear hv hf3
      show AW V 0 0 h3_ 86 [(6, .int (z / (hI h (B + 52) 6))), (0, .ref (B + 51)), (1, .int k), (2, .int z), (3, .int v), (4, .int a), (5, .int t)] [.int (P a (hI h (B + 52) 5) z k t), .int (plS P (hI h (B + 52)) hl k z a t)]
      refine a_if_le hb 93 dX12_drawnBy_86 (by decide) (fun c86 => ?_) (fun c86 => ?_)
      · have c86' := Int32.not_lt.mpr c86
        refine a_iconst (v := 0) hb dX12_drawnBy_93 (by decide) ?_
        refine a_iadd hb dX12_drawnBy_94 ?_
        exact a_ireturn (ty := .int) hb hz dX12_drawnBy_95 hret rfl (by rw [hr]; exact Nat.le_of_ble_eq_true rfl) (by rw [hr]; exact Nat.le_of_ble_eq_true rfl) (⟨by first | (simp [drS, *]; done) | (rw [drS, if_neg q12_2, if_pos q12_3, if_pos c73', if_pos c86']; done) | (rw [drS, if_neg q12_2, if_pos q12_3, if_pos c73', if_neg c86']; done) | (exfalso; clear hz hb ow hr hg hret hml; simp_all), hF3⟩)
      · have c86' := Int32.not_le.mp c86
        refine a_iload_n hb dX12_drawnBy_89 rfl 4 rfl ?_
        refine a_goto hb 94 dX12_drawnBy_90 (by decide) ?_
        refine a_iadd hb dX12_drawnBy_94 ?_
        exact a_ireturn (ty := .int) hb hz dX12_drawnBy_95 hret rfl (by rw [hr]; exact Nat.le_of_ble_eq_true rfl) (by rw [hr]; exact Nat.le_of_ble_eq_true rfl) (⟨by first | (simp [drS, *]; done) | (rw [drS, if_neg q12_2, if_pos q12_3, if_pos c73', if_pos c86']; done) | (rw [drS, if_neg q12_2, if_pos q12_3, if_pos c73', if_neg c86']; done) | (exfalso; clear hz hb ow hr hg hret hml; simp_all), hF3⟩)
  by_cases q12_4 : k = 4
  · refine a_tableIn (off := 84) hb 96 dX12_drawnBy_12 (by rw [q12_4]; decide) (by rw [q12_4]; decide) (by rw [q12_4]; decide) (by decide) ?_
    refine a_iload hb dX12_drawnBy_96 5 rfl ?_
    refine a_iconst (v := 0) hb dX12_drawnBy_98 (by decide) ?_
    refine a_iload_n hb dX12_drawnBy_99 rfl 4 rfl ?_
    refine a_iconst (v := 1) hb dX12_drawnBy_100 (by decide) ?_
    refine a_isub hb dX12_drawnBy_101 ?_
    refine a_callS hb dX12_drawnBy_102 (by rw [hg]; exact w_in g h a 0 (v - 1)) (by rw [ow]; exact cls_RX12_48) rfl rfl (Nat.le_of_ble_eq_true rfl) (by rw [hr]; exact ⟨by decide, by decide⟩) (by rw [hr]; exact ⟨Nat.le_of_ble_eq_true rfl, Nat.le_of_ble_eq_true rfl⟩) ?_
    intro rv h' hp
    rw [hp.1, hp.2]
    show AW V 0 0 h 105 [(6, .int (z / (hI h (B + 52) 6))), (0, .ref (B + 51)), (1, .int k), (2, .int z), (3, .int v), (4, .int a), (5, .int t)] [.int (b2i (!oO a 0 (v - 1)))]
    refine a_if_eq hb 124 dX12_drawnBy_105 (by decide) (fun c105 => ?_) (fun c105 => ?_)
    · simp [b2i_0] at c105
      refine a_aload_n hb dX12_drawnBy_124 rfl 1 rfl ?_
      refine a_iload_n hb dX12_drawnBy_125 rfl 2 rfl ?_
      refine a_iload_n hb dX12_drawnBy_126 rfl 3 rfl ?_
      refine a_iload hb dX12_drawnBy_127 5 rfl ?_
      refine a_iload_n hb dX12_drawnBy_129 rfl 4 rfl ?_
      refine a_isub hb dX12_drawnBy_130 ?_
      refine a_iload hb dX12_drawnBy_131 6 rfl ?_
      refine a_callV hb dX12_drawnBy_133 (by rw [hg]; exact m_plain g h B hL P (hP.mv (FR.mo (A := Am B) (A' := Ax B) FR.rf (by intro a; unfold Am Ax; omega))) h6 hl hhl lhl k z (a - v) t) (by rw [ow]; exact clv_RX12_141) (hL.1 51 (by decide)) (by decide) rfl rfl rfl (Nat.le_of_ble_eq_true rfl) (by rw [hr]; exact ⟨by decide, by decide⟩) (by rw [hr]; exact ⟨Nat.le_of_ble_eq_true rfl, Nat.le_of_ble_eq_true rfl⟩) ?_
      intro rv h4_ hp
      obtain ⟨hv, hf4⟩ := hp
      rw [hv]
      have hF4 := FR.tr FR.rf hf4
      have hL4 : LY h4_ B := FR.ly hF4 hL
      have hS4_52 : hI h4_ (B + 52) = hI h (B + 52) := hF4.2.2.2.2 _ (by unfold Am; omega)
      have hS4_56 : hI h4_ (B + 56) = hI h (B + 56) := hF4.2.2.2.2 _ (by unfold Am; omega)
      clear hv hf4
      show AW V 0 0 h4_ 136 [(6, .int (z / (hI h (B + 52) 6))), (0, .ref (B + 51)), (1, .int k), (2, .int z), (3, .int v), (4, .int a), (5, .int t)] [.int (plS P (hI h (B + 52)) hl k z (a - v) t)]
      exact a_ireturn (ty := .int) hb hz dX12_drawnBy_136 hret rfl (by rw [hr]; exact Nat.le_of_ble_eq_true rfl) (by rw [hr]; exact Nat.le_of_ble_eq_true rfl) (⟨by first | (simp [drS, *]; done) | (rw [drS, if_neg q12_2, if_pos q12_3, if_pos c73', if_pos c86']; done) | (rw [drS, if_neg q12_2, if_pos q12_3, if_pos c73', if_neg c86']; done) | (exfalso; clear hz hb ow hr hg hret hml; simp_all), hF4⟩)
    · simp [b2i_0] at c105
      refine a_iload_n hb dX12_drawnBy_108 rfl 2 rfl ?_
      refine a_iconst (v := 4) hb dX12_drawnBy_109 (by decide) ?_
      refine a_icmp_ne hb 119 dX12_drawnBy_110 (by decide) (fun c110 => ?_) (fun c110 => ?_)
      · refine a_iload hb dX12_drawnBy_119 0 rfl ?_
        refine a_goto hb 136 dX12_drawnBy_121 (by decide) ?_
        exact a_ireturn (ty := .int) hb hz dX12_drawnBy_136 hret rfl (by rw [hr]; exact Nat.le_of_ble_eq_true rfl) (by rw [hr]; exact Nat.le_of_ble_eq_true rfl) (⟨by first | (simp [drS, *]; done) | (rw [drS, if_neg q12_2, if_pos q12_3, if_pos c73', if_pos c86']; done) | (rw [drS, if_neg q12_2, if_pos q12_3, if_pos c73', if_neg c86']; done) | (exfalso; clear hz hb ow hr hg hret hml; simp_all), FR.rf⟩)
      · refine a_iload hb dX12_drawnBy_113 0 rfl ?_
        refine a_ineg hb dX12_drawnBy_115 ?_
        refine a_goto hb 136 dX12_drawnBy_116 (by decide) ?_
        exact a_ireturn (ty := .int) hb hz dX12_drawnBy_136 hret rfl (by rw [hr]; exact Nat.le_of_ble_eq_true rfl) (by rw [hr]; exact Nat.le_of_ble_eq_true rfl) (⟨by first | (simp [drS, *]; done) | (rw [drS, if_neg q12_2, if_pos q12_3, if_pos c73', if_pos c86']; done) | (rw [drS, if_neg q12_2, if_pos q12_3, if_pos c73', if_neg c86']; done) | (exfalso; clear hz hb ow hr hg hret hml; simp_all), FR.rf⟩)
  by_cases q12_5 : k = 5
  · refine a_tableIn (off := 84) hb 96 dX12_drawnBy_12 (by rw [q12_5]; decide) (by rw [q12_5]; decide) (by rw [q12_5]; decide) (by decide) ?_
    refine a_iload hb dX12_drawnBy_96 5 rfl ?_
    refine a_iconst (v := 0) hb dX12_drawnBy_98 (by decide) ?_
    refine a_iload_n hb dX12_drawnBy_99 rfl 4 rfl ?_
    refine a_iconst (v := 1) hb dX12_drawnBy_100 (by decide) ?_
    refine a_isub hb dX12_drawnBy_101 ?_
    refine a_callS hb dX12_drawnBy_102 (by rw [hg]; exact w_in g h a 0 (v - 1)) (by rw [ow]; exact cls_RX12_48) rfl rfl (Nat.le_of_ble_eq_true rfl) (by rw [hr]; exact ⟨by decide, by decide⟩) (by rw [hr]; exact ⟨Nat.le_of_ble_eq_true rfl, Nat.le_of_ble_eq_true rfl⟩) ?_
    intro rv h' hp
    rw [hp.1, hp.2]
    show AW V 0 0 h 105 [(6, .int (z / (hI h (B + 52) 6))), (0, .ref (B + 51)), (1, .int k), (2, .int z), (3, .int v), (4, .int a), (5, .int t)] [.int (b2i (!oO a 0 (v - 1)))]
    refine a_if_eq hb 124 dX12_drawnBy_105 (by decide) (fun c105 => ?_) (fun c105 => ?_)
    · simp [b2i_0] at c105
      refine a_aload_n hb dX12_drawnBy_124 rfl 1 rfl ?_
      refine a_iload_n hb dX12_drawnBy_125 rfl 2 rfl ?_
      refine a_iload_n hb dX12_drawnBy_126 rfl 3 rfl ?_
      refine a_iload hb dX12_drawnBy_127 5 rfl ?_
      refine a_iload_n hb dX12_drawnBy_129 rfl 4 rfl ?_
      refine a_isub hb dX12_drawnBy_130 ?_
      refine a_iload hb dX12_drawnBy_131 6 rfl ?_
      refine a_callV hb dX12_drawnBy_133 (by rw [hg]; exact m_plain g h B hL P (hP.mv (FR.mo (A := Am B) (A' := Ax B) FR.rf (by intro a; unfold Am Ax; omega))) h6 hl hhl lhl k z (a - v) t) (by rw [ow]; exact clv_RX12_141) (hL.1 51 (by decide)) (by decide) rfl rfl rfl (Nat.le_of_ble_eq_true rfl) (by rw [hr]; exact ⟨by decide, by decide⟩) (by rw [hr]; exact ⟨Nat.le_of_ble_eq_true rfl, Nat.le_of_ble_eq_true rfl⟩) ?_
      intro rv h5_ hp
      obtain ⟨hv, hf5⟩ := hp
      rw [hv]
      have hF5 := FR.tr FR.rf hf5
      have hL5 : LY h5_ B := FR.ly hF5 hL
      have hS5_52 : hI h5_ (B + 52) = hI h (B + 52) := hF5.2.2.2.2 _ (by unfold Am; omega)
      have hS5_56 : hI h5_ (B + 56) = hI h (B + 56) := hF5.2.2.2.2 _ (by unfold Am; omega)
      clear hv hf5
      show AW V 0 0 h5_ 136 [(6, .int (z / (hI h (B + 52) 6))), (0, .ref (B + 51)), (1, .int k), (2, .int z), (3, .int v), (4, .int a), (5, .int t)] [.int (plS P (hI h (B + 52)) hl k z (a - v) t)]
      exact a_ireturn (ty := .int) hb hz dX12_drawnBy_136 hret rfl (by rw [hr]; exact Nat.le_of_ble_eq_true rfl) (by rw [hr]; exact Nat.le_of_ble_eq_true rfl) (⟨by first | (simp [drS, *]; done) | (rw [drS, if_neg q12_2, if_pos q12_3, if_pos c73', if_pos c86']; done) | (rw [drS, if_neg q12_2, if_pos q12_3, if_pos c73', if_neg c86']; done) | (exfalso; clear hz hb ow hr hg hret hml; simp_all), hF5⟩)
    · simp [b2i_0] at c105
      refine a_iload_n hb dX12_drawnBy_108 rfl 2 rfl ?_
      refine a_iconst (v := 4) hb dX12_drawnBy_109 (by decide) ?_
      refine a_icmp_ne hb 119 dX12_drawnBy_110 (by decide) (fun c110 => ?_) (fun c110 => ?_)
      · refine a_iload hb dX12_drawnBy_119 0 rfl ?_
        refine a_goto hb 136 dX12_drawnBy_121 (by decide) ?_
        exact a_ireturn (ty := .int) hb hz dX12_drawnBy_136 hret rfl (by rw [hr]; exact Nat.le_of_ble_eq_true rfl) (by rw [hr]; exact Nat.le_of_ble_eq_true rfl) (⟨by first | (simp [drS, *]; done) | (rw [drS, if_neg q12_2, if_pos q12_3, if_pos c73', if_pos c86']; done) | (rw [drS, if_neg q12_2, if_pos q12_3, if_pos c73', if_neg c86']; done) | (exfalso; clear hz hb ow hr hg hret hml; simp_all), FR.rf⟩)
      · refine a_iload hb dX12_drawnBy_113 0 rfl ?_
        refine a_ineg hb dX12_drawnBy_115 ?_
        refine a_goto hb 136 dX12_drawnBy_116 (by decide) ?_
        exact a_ireturn (ty := .int) hb hz dX12_drawnBy_136 hret rfl (by rw [hr]; exact Nat.le_of_ble_eq_true rfl) (by rw [hr]; exact Nat.le_of_ble_eq_true rfl) (⟨by first | (simp [drS, *]; done) | (rw [drS, if_neg q12_2, if_pos q12_3, if_pos c73', if_pos c86']; done) | (rw [drS, if_neg q12_2, if_pos q12_3, if_pos c73', if_neg c86']; done) | (exfalso; clear hz hb ow hr hg hret hml; simp_all), FR.rf⟩)
  by_cases q12_6 : k = 6
  · refine a_tableIn (off := 125) hb 137 dX12_drawnBy_12 (by rw [q12_6]; decide) (by rw [q12_6]; decide) (by rw [q12_6]; decide) (by decide) ?_
    refine a_aload_n hb dX12_drawnBy_137 rfl 1 rfl ?_
    refine a_iload_n hb dX12_drawnBy_138 rfl 2 rfl ?_
    refine a_iload_n hb dX12_drawnBy_139 rfl 3 rfl ?_
    refine a_iload hb dX12_drawnBy_140 5 rfl ?_
    refine a_iload hb dX12_drawnBy_142 6 rfl ?_
    refine a_callV hb dX12_drawnBy_144 (by rw [hg]; exact m_plain g h B hL P (hP.mv (FR.mo (A := Am B) (A' := Ax B) FR.rf (by intro a; unfold Am Ax; omega))) h6 hl hhl lhl k z a t) (by rw [ow]; exact clv_RX12_141) (hL.1 51 (by decide)) (by decide) rfl rfl rfl (Nat.le_of_ble_eq_true rfl) (by rw [hr]; exact ⟨by decide, by decide⟩) (by rw [hr]; exact ⟨Nat.le_of_ble_eq_true rfl, Nat.le_of_ble_eq_true rfl⟩) ?_
    intro rv h6_ hp
    obtain ⟨hv, hf6⟩ := hp
    rw [hv]
    have hF6 := FR.tr FR.rf hf6
    have hL6 : LY h6_ B := FR.ly hF6 hL
    have hS6_52 : hI h6_ (B + 52) = hI h (B + 52) := hF6.2.2.2.2 _ (by unfold Am; omega)
    have hS6_56 : hI h6_ (B + 56) = hI h (B + 56) := hF6.2.2.2.2 _ (by unfold Am; omega)
    clear hv hf6
    show AW V 0 0 h6_ 147 [(6, .int (z / (hI h (B + 52) 6))), (0, .ref (B + 51)), (1, .int k), (2, .int z), (3, .int v), (4, .int a), (5, .int t)] [.int (plS P (hI h (B + 52)) hl k z a t)]
    refine a_iconst (v := 2) hb dX12_drawnBy_147 (by decide) ?_
    refine a_idiv hb dX12_drawnBy_148 (by decide) ?_
    refine a_aload_n hb dX12_drawnBy_149 rfl 1 rfl ?_
    refine a_iload_n hb dX12_drawnBy_150 rfl 2 rfl ?_
    refine a_iload_n hb dX12_drawnBy_151 rfl 3 rfl ?_
    refine a_iload hb dX12_drawnBy_152 5 rfl ?_
    refine a_iload_n hb dX12_drawnBy_154 rfl 4 rfl ?_
    refine a_isub hb dX12_drawnBy_155 ?_
    refine a_iload hb dX12_drawnBy_156 6 rfl ?_
    refine a_iload_n hb dX12_drawnBy_158 rfl 4 rfl ?_
    refine a_isub hb dX12_drawnBy_159 ?_
    refine a_callV hb dX12_drawnBy_160 (by rw [hg]; have h0 := m_plain g h6_ B hL6 P (hP.mv (FR.mo (A := Am B) (A' := Ax B) hF6 (by intro a; unfold Am Ax; omega))) (by rw [hS6_52]; exact h6) hl (by rw [hS6_52]; exact hhl) lhl k z (a - v) (t - v); (try rw [hS6_52] at h0); (try rw [hS6_56] at h0); exact h0) (by rw [ow]; exact clv_RX12_141) (hL6.1 51 (by decide)) (by decide) rfl rfl rfl (Nat.le_of_ble_eq_true rfl) (by rw [hr]; exact ⟨by decide, by decide⟩) (by rw [hr]; exact ⟨Nat.le_of_ble_eq_true rfl, Nat.le_of_ble_eq_true rfl⟩) ?_
    intro rv h7_ hp
    obtain ⟨hv, hf7⟩ := hp
    rw [hv]
    have hF7 := FR.tr hF6 hf7
    have hL7 : LY h7_ B := FR.ly hF7 hL
    have hS7_52 : hI h7_ (B + 52) = hI h (B + 52) := hF7.2.2.2.2 _ (by unfold Am; omega)
    have hS7_56 : hI h7_ (B + 56) = hI h (B + 56) := hF7.2.2.2.2 _ (by unfold Am; omega)
    clear hv hf7
    show AW V 0 0 h7_ 163 [(6, .int (z / (hI h (B + 52) 6))), (0, .ref (B + 51)), (1, .int k), (2, .int z), (3, .int v), (4, .int a), (5, .int t)] [.int (plS P (hI h (B + 52)) hl k z (a - v) (t - v)), .int ((plS P (hI h (B + 52)) hl k z a t) / 2)]
    refine a_iconst (v := 2) hb dX12_drawnBy_163 (by decide) ?_
    refine a_idiv hb dX12_drawnBy_164 (by decide) ?_
    refine a_iadd hb dX12_drawnBy_165 ?_
    exact a_ireturn (ty := .int) hb hz dX12_drawnBy_166 hret rfl (by rw [hr]; exact Nat.le_of_ble_eq_true rfl) (by rw [hr]; exact Nat.le_of_ble_eq_true rfl) (⟨by first | (simp [drS, *]; done) | (rw [drS, if_neg q12_2, if_pos q12_3, if_pos c73', if_pos c86']; done) | (rw [drS, if_neg q12_2, if_pos q12_3, if_pos c73', if_neg c86']; done) | (exfalso; clear hz hb ow hr hg hret hml; simp_all), hF7⟩)
  refine a_tableOut hb 167 dX12_drawnBy_12 (by have z2 := lv_neT (k := 2) (a := 2) q12_2 (by decide); have z3 := lv_neT (k := 3) (a := 3) q12_3 (by decide); have z4 := lv_neT (k := 4) (a := 4) q12_4 (by decide); have z5 := lv_neT (k := 5) (a := 5) q12_5 (by decide); have z6 := lv_neT (k := 6) (a := 6) q12_6 (by decide); omega) (by decide) ?_
  refine a_aload_n hb dX12_drawnBy_167 rfl 1 rfl ?_
  refine a_iload_n hb dX12_drawnBy_168 rfl 2 rfl ?_
  refine a_iload_n hb dX12_drawnBy_169 rfl 3 rfl ?_
  refine a_iload hb dX12_drawnBy_170 5 rfl ?_
  refine a_iload hb dX12_drawnBy_172 6 rfl ?_
  refine a_callV hb dX12_drawnBy_174 (by rw [hg]; exact m_plain g h B hL P (hP.mv (FR.mo (A := Am B) (A' := Ax B) FR.rf (by intro a; unfold Am Ax; omega))) h6 hl hhl lhl k z a t) (by rw [ow]; exact clv_RX12_141) (hL.1 51 (by decide)) (by decide) rfl rfl rfl (Nat.le_of_ble_eq_true rfl) (by rw [hr]; exact ⟨by decide, by decide⟩) (by rw [hr]; exact ⟨Nat.le_of_ble_eq_true rfl, Nat.le_of_ble_eq_true rfl⟩) ?_
  intro rv h8_ hp
  obtain ⟨hv, hf8⟩ := hp
  rw [hv]
  have hF8 := FR.tr FR.rf hf8
  have hL8 : LY h8_ B := FR.ly hF8 hL
  have hS8_52 : hI h8_ (B + 52) = hI h (B + 52) := hF8.2.2.2.2 _ (by unfold Am; omega)
  have hS8_56 : hI h8_ (B + 56) = hI h (B + 56) := hF8.2.2.2.2 _ (by unfold Am; omega)
  clear hv hf8
  show AW V 0 0 h8_ 177 [(6, .int (z / (hI h (B + 52) 6))), (0, .ref (B + 51)), (1, .int k), (2, .int z), (3, .int v), (4, .int a), (5, .int t)] [.int (plS P (hI h (B + 52)) hl k z a t)]
  exact a_ireturn (ty := .int) hb hz dX12_drawnBy_177 hret rfl (by rw [hr]; exact Nat.le_of_ble_eq_true rfl) (by rw [hr]; exact Nat.le_of_ble_eq_true rfl) (⟨by first | (simp [drS, *]; done) | (rw [drS, if_neg q12_2, if_pos q12_3, if_pos c73', if_pos c86']; done) | (rw [drS, if_neg q12_2, if_pos q12_3, if_pos c73', if_neg c86']; done) | (exfalso; clear hz hb ow hr hg hret hml; simp_all), hF8⟩)
set_option maxRecDepth 100000 in
theorem m_drawnAt (g : GG) (h : AH) (B : Nat) (hL : LY h B) (P : PF) (hP : PcM g B h P) (h6 : ¬ hI h (B + 52) 6 = 0) (hl : Nat) (hhl : IX (hI h (B + 52) 8) hl) (lhl : hl < 5) (b : Nat) (hb8 : b < 8) (t : Int32) : AM g 5 0 0 mX12_drawnAt [.ref (B + 51), .int (nI b), .int t] h (fun rv h' => rv = some (.int (dwS P (hI h (B + 52)) (hI h (B + 56)) hl t b)) ∧ FR (Am B) h h') := by
  refine AM.of [(0, .ref (B + 51)), (1, .int (nI b)), (2, .int t)] (by decide) (Nat.le_of_ble_eq_true rfl) rfl ?_
  intro V hV
  have hb : V.2.1.2.1 = cX12_drawnAt := by subst hV; rfl
  have ow : V.2.1.1.cls = RX12 := by subst hV; rfl
  have hr : V.2.2.1 = aw_rm 5 0 0 := by subst hV; rfl
  have hz : V.2.2.2 = aw_Z V.1 (fun rv h' => rv = some (.int (dwS P (hI h (B + 52)) (hI h (B + 56)) hl t b)) ∧ FR (Am B) h h') V.2.2.1 := by subst hV; rfl
  have hg : V.1 = g := by subst hV; rfl
  have hret : V.2.1.2.2.2 = (some .int) := by subst hV; rfl
  have hml : V.2.1.2.2.1 = 3 := by subst hV; rfl
  clear hV
  refine a_aload_n hb dX12_drawnAt_0 rfl 0 rfl ?_
  refine a_aload_n hb dX12_drawnAt_1 rfl 0 rfl ?_
  refine a_getQ (q := (B + 52)) hb dX12_drawnAt_2 (by rw [ow]; exact fl_RX12_9_12) (hL.1 51 (by decide)) (hL.2.1 (51, 1, 52) (by decide)) ?_
  refine a_sipush (v := 130) hb dX12_drawnAt_5 (by decide) ?_
  refine a_iload_n hb dX12_drawnAt_8 rfl 1 rfl ?_
  refine a_iadd hb dX12_drawnAt_9 ?_
  refine b_iald (j := (130 + b)) hb dX12_drawnAt_10 (hL.1 52 (by decide)) (IX.add ⟨by decide, by decide⟩ (IX.n (by omega)) (by omega)) (by omega) ?_
  refine a_aload_n hb dX12_drawnAt_11 rfl 0 rfl ?_
  refine a_getQ (q := (B + 52)) hb dX12_drawnAt_12 (by rw [ow]; exact fl_RX12_9_12) (hL.1 51 (by decide)) (hL.2.1 (51, 1, 52) (by decide)) ?_
  refine a_sipush (v := 146) hb dX12_drawnAt_15 (by decide) ?_
  refine a_iload_n hb dX12_drawnAt_18 rfl 1 rfl ?_
  refine a_iadd hb dX12_drawnAt_19 ?_
  refine b_iald (j := (146 + b)) hb dX12_drawnAt_20 (hL.1 52 (by decide)) (IX.add ⟨by decide, by decide⟩ (IX.n (by omega)) (by omega)) (by omega) ?_
  refine a_aload_n hb dX12_drawnAt_21 rfl 0 rfl ?_
  refine a_getQ (q := (B + 52)) hb dX12_drawnAt_22 (by rw [ow]; exact fl_RX12_9_12) (hL.1 51 (by decide)) (hL.2.1 (51, 1, 52) (by decide)) ?_
  refine a_sipush (v := 154) hb dX12_drawnAt_25 (by decide) ?_
  refine a_iload_n hb dX12_drawnAt_28 rfl 1 rfl ?_
  refine a_iadd hb dX12_drawnAt_29 ?_
  refine b_iald (j := (154 + b)) hb dX12_drawnAt_30 (hL.1 52 (by decide)) (IX.add ⟨by decide, by decide⟩ (IX.n (by omega)) (by omega)) (by omega) ?_
  refine a_iload_n hb dX12_drawnAt_31 rfl 2 rfl ?_
  refine a_aload_n hb dX12_drawnAt_32 rfl 0 rfl ?_
  refine a_getQ (q := (B + 52)) hb dX12_drawnAt_33 (by rw [ow]; exact fl_RX12_9_12) (hL.1 51 (by decide)) (hL.2.1 (51, 1, 52) (by decide)) ?_
  refine a_sipush (v := 138) hb dX12_drawnAt_36 (by decide) ?_
  refine a_iload_n hb dX12_drawnAt_39 rfl 1 rfl ?_
  refine a_iadd hb dX12_drawnAt_40 ?_
  refine b_iald (j := (138 + b)) hb dX12_drawnAt_41 (hL.1 52 (by decide)) (IX.add ⟨by decide, by decide⟩ (IX.n (by omega)) (by omega)) (by omega) ?_
  refine a_isub hb dX12_drawnAt_42 ?_
  refine a_aload_n hb dX12_drawnAt_43 rfl 0 rfl ?_
  refine a_getQ (q := (B + 56)) hb dX12_drawnAt_44 (by rw [ow]; exact fl_RX12_25_12) (hL.1 51 (by decide)) (hL.2.1 (51, 11, 56) (by decide)) ?_
  refine a_iload_n hb dX12_drawnAt_47 rfl 1 rfl ?_
  refine b_iald (j := b) hb dX12_drawnAt_48 (hL.1 56 (by decide)) (IX.n (by omega)) (by omega) ?_
  refine a_isub hb dX12_drawnAt_49 ?_
  refine a_iload_n hb dX12_drawnAt_50 rfl 2 rfl ?_
  refine a_callV hb dX12_drawnAt_51 (by rw [hg]; exact m_drawnBy g h B hL P (hP.mv (FR.mo (A := Am B) (A' := Ax B) FR.rf (by intro a; unfold Am Ax; omega))) h6 hl hhl lhl (hI h (B + 52) (130 + b)) (hI h (B + 52) (146 + b)) (hI h (B + 52) (154 + b)) ((t - (hI h (B + 52) (138 + b))) - (hI h (B + 56) b)) t) (by rw [ow]; exact clv_RX12_144) (hL.1 51 (by decide)) (by decide) rfl rfl rfl (Nat.le_of_ble_eq_true rfl) (by rw [hr]; exact ⟨by decide, by decide⟩) (by rw [hr]; exact ⟨Nat.le_of_ble_eq_true rfl, Nat.le_of_ble_eq_true rfl⟩) ?_
  intro rv h1_ hp
  obtain ⟨hv, hf1⟩ := hp
  rw [hv]
  have hF1 := FR.tr FR.rf hf1
  have hL1 : LY h1_ B := FR.ly hF1 hL
  have hS1_52 : hI h1_ (B + 52) = hI h (B + 52) := hF1.2.2.2.2 _ (by unfold Am; omega)
  have hS1_56 : hI h1_ (B + 56) = hI h (B + 56) := hF1.2.2.2.2 _ (by unfold Am; omega)
  clear hv hf1
  show AW V 0 0 h1_ 54 [(0, .ref (B + 51)), (1, .int (nI b)), (2, .int t)] [.int (drS P (hI h (B + 52)) hl (hI h (B + 52) (130 + b)) (hI h (B + 52) (146 + b)) (hI h (B + 52) (154 + b)) ((t - (hI h (B + 52) (138 + b))) - (hI h (B + 56) b)) t)]
  exact a_ireturn (ty := .int) hb hz dX12_drawnAt_54 hret rfl (by rw [hr]; exact Nat.le_of_ble_eq_true rfl) (by rw [hr]; exact Nat.le_of_ble_eq_true rfl) (⟨by simp [dwS], hF1⟩)
