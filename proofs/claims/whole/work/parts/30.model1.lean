/-! ===== the model's plain methods ===== -/
abbrev SM (h : AH) (B : Nat) : Nat → Int32 := hI h (B + 52)
def spPause (S : Nat → Int32) (n : Nat) (k t z v : Int32) : Int32 × (Nat → Int32) :=
  if oO k 0 6 then (-1, S) else if oO t 0 39 || oO z 0 99 || oO v 0 9 then (-2, S) else if S 0 = 8 then (-4, S)
  else (S 0, upd (upd (upd (upd (upd (upd (upd S (130 + n) k) (138 + n) t) (146 + n) z) (154 + n) v) (162 + n) 10) (170 + n) 0) 0 (S 0 + 1))

set_option maxRecDepth 100000 in
theorem m_pause (g : GG) (h : AH) (B : Nat) (hL : LY h B) (np : Nat) (hnp : IX (hI h (B + 52) 0) np) (lnp : np ≤ 8) (k t z v : Int32) : AM g 3 0 0 mX12_pause [.ref (B + 51), .int k, .int t, .int z, .int v] h (fun rv h' => rv = some (.int (spPause (SM h B) np k t z v).1) ∧ h' = setR h (B + 52) (spPause (SM h B) np k t z v).2) := by
  refine AM.of [(0, .ref (B + 51)), (1, .int k), (2, .int t), (3, .int z), (4, .int v)] (by decide) (Nat.le_of_ble_eq_true rfl) rfl ?_
  intro V hV
  have hb : V.2.1.2.1 = cX12_pause := by subst hV; rfl
  have ow : V.2.1.1.cls = RX12 := by subst hV; rfl
  have hr : V.2.2.1 = aw_rm 3 0 0 := by subst hV; rfl
  have hz : V.2.2.2 = aw_Z V.1 (fun rv h' => rv = some (.int (spPause (SM h B) np k t z v).1) ∧ h' = setR h (B + 52) (spPause (SM h B) np k t z v).2) V.2.2.1 := by subst hV; rfl
  have hg : V.1 = g := by subst hV; rfl
  have hret : V.2.1.2.2.2 = (some .int) := by subst hV; rfl
  have hml : V.2.1.2.2.1 = 6 := by subst hV; rfl
  clear hV
  have e130 : ¬ (0 = 130 + np) := by omega
  have e138 : ¬ (0 = 138 + np) := by omega
  have e146 : ¬ (0 = 146 + np) := by omega
  have e154 : ¬ (0 = 154 + np) := by omega
  have e162 : ¬ (0 = 162 + np) := by omega
  have e170 : ¬ (0 = 170 + np) := by omega
  refine a_iload_n hb dX12_pause_0 rfl 1 rfl ?_
  refine a_iconst (v := 0) hb dX12_pause_1 (by decide) ?_
  refine a_bipush (v := 6) hb dX12_pause_2 (by decide) ?_
  refine a_callS hb dX12_pause_4 (by rw [hg]; exact w_in g h k 0 6) (by rw [ow]; exact cls_RX12_48) rfl rfl (Nat.le_of_ble_eq_true rfl) (by rw [hr]; exact ⟨by decide, by decide⟩) (by rw [hr]; exact ⟨Nat.le_of_ble_eq_true rfl, Nat.le_of_ble_eq_true rfl⟩) ?_
  intro rv h' hp
  rw [hp.1, hp.2]
  show AW V 0 0 h 7 [(0, .ref (B + 51)), (1, .int k), (2, .int t), (3, .int z), (4, .int v)] [.int (b2i (!oO k 0 6))]
  refine a_if_ne hb 12 dX12_pause_7 (by decide) (fun c7 => ?_) (fun c7 => ?_)
  · simp [b2i_0] at c7
    refine a_iload_n hb dX12_pause_12 rfl 2 rfl ?_
    refine a_callS hb dX12_pause_13 (by rw [hg]; exact w_isTick g h t) (by rw [ow]; exact cls_RX12_52) rfl rfl (Nat.le_of_ble_eq_true rfl) (by rw [hr]; exact ⟨by decide, by decide⟩) (by rw [hr]; exact ⟨Nat.le_of_ble_eq_true rfl, Nat.le_of_ble_eq_true rfl⟩) ?_
    intro rv h' hp
    rw [hp.1, hp.2]
    show AW V 0 0 h 16 [(0, .ref (B + 51)), (1, .int k), (2, .int t), (3, .int z), (4, .int v)] [.int (b2i (!oO t 0 39))]
    refine a_if_eq hb 40 dX12_pause_16 (by decide) (fun c16 => ?_) (fun c16 => ?_)
    · simp [b2i_0] at c16
      refine a_bipush (v := (-2)) hb dX12_pause_40 (by decide) ?_
      exact a_ireturn (ty := .int) hb hz dX12_pause_42 hret rfl (by rw [hr]; exact Nat.le_of_ble_eq_true rfl) (by rw [hr]; exact Nat.le_of_ble_eq_true rfl) (⟨by simp [spPause, SM, setI_R, hI_R, setR_R, setR_id, upd, *], by simp [spPause, SM, setI_R, hI_R, setR_R, setR_id, upd, *]⟩)
    · simp [b2i_0] at c16
      refine a_iload_n hb dX12_pause_19 rfl 3 rfl ?_
      refine a_iconst (v := 0) hb dX12_pause_20 (by decide) ?_
      refine a_bipush (v := 99) hb dX12_pause_21 (by decide) ?_
      refine a_callS hb dX12_pause_23 (by rw [hg]; exact w_in g h z 0 99) (by rw [ow]; exact cls_RX12_48) rfl rfl (Nat.le_of_ble_eq_true rfl) (by rw [hr]; exact ⟨by decide, by decide⟩) (by rw [hr]; exact ⟨Nat.le_of_ble_eq_true rfl, Nat.le_of_ble_eq_true rfl⟩) ?_
      intro rv h' hp
      rw [hp.1, hp.2]
      show AW V 0 0 h 26 [(0, .ref (B + 51)), (1, .int k), (2, .int t), (3, .int z), (4, .int v)] [.int (b2i (!oO z 0 99))]
      refine a_if_eq hb 40 dX12_pause_26 (by decide) (fun c26 => ?_) (fun c26 => ?_)
      · simp [b2i_0] at c26
        refine a_bipush (v := (-2)) hb dX12_pause_40 (by decide) ?_
        exact a_ireturn (ty := .int) hb hz dX12_pause_42 hret rfl (by rw [hr]; exact Nat.le_of_ble_eq_true rfl) (by rw [hr]; exact Nat.le_of_ble_eq_true rfl) (⟨by simp [spPause, SM, setI_R, hI_R, setR_R, setR_id, upd, *], by simp [spPause, SM, setI_R, hI_R, setR_R, setR_id, upd, *]⟩)
      · simp [b2i_0] at c26
        refine a_iload hb dX12_pause_29 4 rfl ?_
        refine a_iconst (v := 0) hb dX12_pause_31 (by decide) ?_
        refine a_bipush (v := 9) hb dX12_pause_32 (by decide) ?_
        refine a_callS hb dX12_pause_34 (by rw [hg]; exact w_in g h v 0 9) (by rw [ow]; exact cls_RX12_48) rfl rfl (Nat.le_of_ble_eq_true rfl) (by rw [hr]; exact ⟨by decide, by decide⟩) (by rw [hr]; exact ⟨Nat.le_of_ble_eq_true rfl, Nat.le_of_ble_eq_true rfl⟩) ?_
        intro rv h' hp
        rw [hp.1, hp.2]
        show AW V 0 0 h 37 [(0, .ref (B + 51)), (1, .int k), (2, .int t), (3, .int z), (4, .int v)] [.int (b2i (!oO v 0 9))]
        refine a_if_ne hb 43 dX12_pause_37 (by decide) (fun c37 => ?_) (fun c37 => ?_)
        · simp [b2i_0] at c37
          refine a_aload_n hb dX12_pause_43 rfl 0 rfl ?_
          refine a_getQ (q := (B + 52)) hb dX12_pause_44 (by rw [ow]; exact fl_RX12_9_12) (hL.1 51 (by decide)) (hL.2.1 (51, 1, 52) (by decide)) ?_
          refine a_iconst (v := 0) hb dX12_pause_47 (by decide) ?_
          refine b_iald (j := 0) hb dX12_pause_48 (hL.1 52 (by decide)) ⟨by decide, by decide⟩ (by decide) ?_
          refine a_bipush (v := 8) hb dX12_pause_49 (by decide) ?_
          refine a_icmp_ne hb 57 dX12_pause_51 (by decide) (fun c51 => ?_) (fun c51 => ?_)
          · refine a_aload_n hb dX12_pause_57 rfl 0 rfl ?_
            refine a_getQ (q := (B + 52)) hb dX12_pause_58 (by rw [ow]; exact fl_RX12_9_12) (hL.1 51 (by decide)) (hL.2.1 (51, 1, 52) (by decide)) ?_
            refine a_iconst (v := 0) hb dX12_pause_61 (by decide) ?_
            refine b_iald (j := 0) hb dX12_pause_62 (hL.1 52 (by decide)) ⟨by decide, by decide⟩ (by decide) ?_
            refine a_istore (L' := [(5, .int (hI h (B + 52) 0)), (0, .ref (B + 51)), (1, .int k), (2, .int t), (3, .int z), (4, .int v)]) hb dX12_pause_63 (by rw [hml]; decide) rfl ?_
            refine a_aload_n hb dX12_pause_65 rfl 1 rfl ?_
            refine a_getQ (q := (B + 52)) hb dX12_pause_66 (by rw [ow]; exact fl_RX12_9_12) (hL.1 51 (by decide)) (hL.2.1 (51, 1, 52) (by decide)) ?_
            refine a_sipush (v := 130) hb dX12_pause_69 (by decide) ?_
            refine a_iload hb dX12_pause_72 0 rfl ?_
            refine a_iadd hb dX12_pause_74 ?_
            refine a_iload_n hb dX12_pause_75 rfl 2 rfl ?_
            refine b_iast (j := (130 + np)) hb dX12_pause_76 (hL.1 52 (by decide)) (IX.add ⟨by decide, by decide⟩ hnp (by omega)) (by omega) ?_
            refine a_aload_n hb dX12_pause_77 rfl 1 rfl ?_
            refine a_getQ (q := (B + 52)) hb dX12_pause_78 (by rw [ow]; exact fl_RX12_9_12) (hL.1 51 (by decide)) (hL.2.1 (51, 1, 52) (by decide)) ?_
            refine a_sipush (v := 138) hb dX12_pause_81 (by decide) ?_
            refine a_iload hb dX12_pause_84 0 rfl ?_
            refine a_iadd hb dX12_pause_86 ?_
            refine a_iload_n hb dX12_pause_87 rfl 3 rfl ?_
            refine b_iast (j := (138 + np)) hb dX12_pause_88 (hL.1 52 (by decide)) (IX.add ⟨by decide, by decide⟩ hnp (by omega)) (by omega) ?_
            refine a_aload_n hb dX12_pause_89 rfl 1 rfl ?_
            refine a_getQ (q := (B + 52)) hb dX12_pause_90 (by rw [ow]; exact fl_RX12_9_12) (hL.1 51 (by decide)) (hL.2.1 (51, 1, 52) (by decide)) ?_
            refine a_sipush (v := 146) hb dX12_pause_93 (by decide) ?_
            refine a_iload hb dX12_pause_96 0 rfl ?_
            refine a_iadd hb dX12_pause_98 ?_
            refine a_iload_n hb dX12_pause_99 rfl 4 rfl ?_
            refine b_iast (j := (146 + np)) hb dX12_pause_100 (hL.1 52 (by decide)) (IX.add ⟨by decide, by decide⟩ hnp (by omega)) (by omega) ?_
            refine a_aload_n hb dX12_pause_101 rfl 1 rfl ?_
            refine a_getQ (q := (B + 52)) hb dX12_pause_102 (by rw [ow]; exact fl_RX12_9_12) (hL.1 51 (by decide)) (hL.2.1 (51, 1, 52) (by decide)) ?_
            refine a_sipush (v := 154) hb dX12_pause_105 (by decide) ?_
            refine a_iload hb dX12_pause_108 0 rfl ?_
            refine a_iadd hb dX12_pause_110 ?_
            refine a_iload hb dX12_pause_111 5 rfl ?_
            refine b_iast (j := (154 + np)) hb dX12_pause_113 (hL.1 52 (by decide)) (IX.add ⟨by decide, by decide⟩ hnp (by omega)) (by omega) ?_
            refine a_aload_n hb dX12_pause_114 rfl 1 rfl ?_
            refine a_getQ (q := (B + 52)) hb dX12_pause_115 (by rw [ow]; exact fl_RX12_9_12) (hL.1 51 (by decide)) (hL.2.1 (51, 1, 52) (by decide)) ?_
            refine a_sipush (v := 162) hb dX12_pause_118 (by decide) ?_
            refine a_iload hb dX12_pause_121 0 rfl ?_
            refine a_iadd hb dX12_pause_123 ?_
            refine a_bipush (v := 10) hb dX12_pause_124 (by decide) ?_
            refine b_iast (j := (162 + np)) hb dX12_pause_126 (hL.1 52 (by decide)) (IX.add ⟨by decide, by decide⟩ hnp (by omega)) (by omega) ?_
            refine a_aload_n hb dX12_pause_127 rfl 1 rfl ?_
            refine a_getQ (q := (B + 52)) hb dX12_pause_128 (by rw [ow]; exact fl_RX12_9_12) (hL.1 51 (by decide)) (hL.2.1 (51, 1, 52) (by decide)) ?_
            refine a_sipush (v := 170) hb dX12_pause_131 (by decide) ?_
            refine a_iload hb dX12_pause_134 0 rfl ?_
            refine a_iadd hb dX12_pause_136 ?_
            refine a_iconst (v := 0) hb dX12_pause_137 (by decide) ?_
            refine b_iast (j := (170 + np)) hb dX12_pause_138 (hL.1 52 (by decide)) (IX.add ⟨by decide, by decide⟩ hnp (by omega)) (by omega) ?_
            refine a_aload_n hb dX12_pause_139 rfl 1 rfl ?_
            refine a_getQ (q := (B + 52)) hb dX12_pause_140 (by rw [ow]; exact fl_RX12_9_12) (hL.1 51 (by decide)) (hL.2.1 (51, 1, 52) (by decide)) ?_
            refine a_iconst (v := 0) hb dX12_pause_143 (by decide) ?_
            refine a_dup2_11 hb dX12_pause_144 rfl rfl ?_
            refine b_iald (j := 0) hb dX12_pause_145 (hL.1 52 (by decide)) ⟨by decide, by decide⟩ (by decide) ?_
            refine a_iconst (v := 1) hb dX12_pause_146 (by decide) ?_
            refine a_iadd hb dX12_pause_147 ?_
            refine b_iast (j := 0) hb dX12_pause_148 (hL.1 52 (by decide)) ⟨by decide, by decide⟩ (by decide) ?_
            refine a_iload hb dX12_pause_149 0 rfl ?_
            exact a_ireturn (ty := .int) hb hz dX12_pause_151 hret rfl (by rw [hr]; exact Nat.le_of_ble_eq_true rfl) (by rw [hr]; exact Nat.le_of_ble_eq_true rfl) (⟨by simp [spPause, SM, setI_R, hI_R, setR_R, setR_id, upd, *], by simp [spPause, SM, setI_R, hI_R, setR_R, setR_id, upd, *]⟩)
          · refine a_bipush (v := (-4)) hb dX12_pause_54 (by decide) ?_
            exact a_ireturn (ty := .int) hb hz dX12_pause_56 hret rfl (by rw [hr]; exact Nat.le_of_ble_eq_true rfl) (by rw [hr]; exact Nat.le_of_ble_eq_true rfl) (⟨by simp [spPause, SM, setI_R, hI_R, setR_R, setR_id, upd, *], by simp [spPause, SM, setI_R, hI_R, setR_R, setR_id, upd, *]⟩)
        · simp [b2i_0] at c37
          refine a_bipush (v := (-2)) hb dX12_pause_40 (by decide) ?_
          exact a_ireturn (ty := .int) hb hz dX12_pause_42 hret rfl (by rw [hr]; exact Nat.le_of_ble_eq_true rfl) (by rw [hr]; exact Nat.le_of_ble_eq_true rfl) (⟨by simp [spPause, SM, setI_R, hI_R, setR_R, setR_id, upd, *], by simp [spPause, SM, setI_R, hI_R, setR_R, setR_id, upd, *]⟩)
  · simp [b2i_0] at c7
    refine a_iconst (v := (-1)) hb dX12_pause_10 (by decide) ?_
    exact a_ireturn (ty := .int) hb hz dX12_pause_11 hret rfl (by rw [hr]; exact Nat.le_of_ble_eq_true rfl) (by rw [hr]; exact Nat.le_of_ble_eq_true rfl) (⟨by simp [spPause, SM, setI_R, hI_R, setR_R, setR_id, upd, *], by simp [spPause, SM, setI_R, hI_R, setR_R, setR_id, upd, *]⟩)
def spOf (S : Nat → Int32) (p w : Int32) : Int32 := if oO p 0 (S 0 - 1) then -1 else if oO w 0 3 then -1 else S (130 + 8 * w.toNatClampNeg + p.toNatClampNeg)
def spSet (S : Nat → Int32) (w n : Int32) : Int32 × (Nat → Int32) :=
  if oO w 0 2 then (-1, S) else if w = 0 then (if oO n 0 9 then (-2, S) else (S 5, upd S 5 n)) else if w = 1 then (if oO n 1 9 then (-2, S) else (S 6, upd S 6 n)) else (if oO n 1 999 then (-2, S) else (S (5 + w.toNatClampNeg), upd S (5 + w.toNatClampNeg) n))
def spLater (S : Nat → Int32) (p a b : Int32) : Int32 × (Nat → Int32) :=
  if oO p 0 (S 0 - 1) then (-1, S) else if oO a 0 10 || oO b 0 10 || decide (10 < a + b) then (-2, S) else (1, upd (upd S (162 + p.toNatClampNeg) a) (170 + p.toNatClampNeg) b)
def spWork (S : Nat → Int32) (n : Nat) (a b c d : Int32) : Int32 × (Nat → Int32) :=
  if oO a 0 9 || oO b 1 99 || oO c 1 40 || oO d 0 99 then (-2, S) else if S 1 = 5 then (-4, S)
  else (S 1, upd (upd (upd (upd (upd (upd (upd S (178 + n) a) (183 + n) b) (188 + n) c) (193 + n) d) (198 + n) 0) (203 + n) 0) 1 (S 1 + 1))
def spRow (S : Nat → Int32) (n : Nat) (v : Int32) : Int32 × (Nat → Int32) :=
  if v = -100 then (0, upd S 3 0) else if oO v (-99) 999 then (-2, S) else if S 3 = 20 then (-4, S) else (S 3 + 1, upd (upd S (918 + n) v) 3 (S 3 + 1))
set_option maxRecDepth 100000 in
theorem m_work (g : GG) (h : AH) (B : Nat) (hL : LY h B) (n : Nat) (hn : IX (hI h (B + 52) 1) n) (ln : n ≤ 5) (a b c d : Int32) : AM g 3 0 0 mX12_work [.ref (B + 51), .int a, .int b, .int c, .int d] h (fun rv h' => rv = some (.int (spWork (SM h B) n a b c d).1) ∧ h' = setR h (B + 52) (spWork (SM h B) n a b c d).2) := by
  refine AM.of [(0, .ref (B + 51)), (1, .int a), (2, .int b), (3, .int c), (4, .int d)] (by decide) (Nat.le_of_ble_eq_true rfl) rfl ?_
  intro V hV
  have hb : V.2.1.2.1 = cX12_work := by subst hV; rfl
  have ow : V.2.1.1.cls = RX12 := by subst hV; rfl
  have hr : V.2.2.1 = aw_rm 3 0 0 := by subst hV; rfl
  have hz : V.2.2.2 = aw_Z V.1 (fun rv h' => rv = some (.int (spWork (SM h B) n a b c d).1) ∧ h' = setR h (B + 52) (spWork (SM h B) n a b c d).2) V.2.2.1 := by subst hV; rfl
  have hg : V.1 = g := by subst hV; rfl
  have hret : V.2.1.2.2.2 = (some .int) := by subst hV; rfl
  have hml : V.2.1.2.2.1 = 6 := by subst hV; rfl
  clear hV
  have e178 : ¬ (1 = 178 + n) := by omega
  have e183 : ¬ (1 = 183 + n) := by omega
  have e188 : ¬ (1 = 188 + n) := by omega
  have e193 : ¬ (1 = 193 + n) := by omega
  have e198 : ¬ (1 = 198 + n) := by omega
  have e203 : ¬ (1 = 203 + n) := by omega
  refine a_iload_n hb dX12_work_0 rfl 1 rfl ?_
  refine a_iconst (v := 0) hb dX12_work_1 (by decide) ?_
  refine a_bipush (v := 9) hb dX12_work_2 (by decide) ?_
  refine a_callS hb dX12_work_4 (by rw [hg]; exact w_in g h a 0 9) (by rw [ow]; exact cls_RX12_48) rfl rfl (Nat.le_of_ble_eq_true rfl) (by rw [hr]; exact ⟨by decide, by decide⟩) (by rw [hr]; exact ⟨Nat.le_of_ble_eq_true rfl, Nat.le_of_ble_eq_true rfl⟩) ?_
  intro rv h' hp
  rw [hp.1, hp.2]
  show AW V 0 0 h 7 [(0, .ref (B + 51)), (1, .int a), (2, .int b), (3, .int c), (4, .int d)] [.int (b2i (!oO a 0 9))]
  refine a_if_eq hb 41 dX12_work_7 (by decide) (fun c7 => ?_) (fun c7 => ?_)
  · simp [b2i_0] at c7
    refine a_bipush (v := (-2)) hb dX12_work_41 (by decide) ?_
    exact a_ireturn (ty := .int) hb hz dX12_work_43 hret rfl (by rw [hr]; exact Nat.le_of_ble_eq_true rfl) (by rw [hr]; exact Nat.le_of_ble_eq_true rfl) (⟨by simp [spWork, SM, setI_R, hI_R, setR_R, setR_id, upd, *], by simp [spWork, SM, setI_R, hI_R, setR_R, setR_id, upd, *]⟩)
  · simp [b2i_0] at c7
    refine a_iload_n hb dX12_work_10 rfl 2 rfl ?_
    refine a_iconst (v := 1) hb dX12_work_11 (by decide) ?_
    refine a_bipush (v := 99) hb dX12_work_12 (by decide) ?_
    refine a_callS hb dX12_work_14 (by rw [hg]; exact w_in g h b 1 99) (by rw [ow]; exact cls_RX12_48) rfl rfl (Nat.le_of_ble_eq_true rfl) (by rw [hr]; exact ⟨by decide, by decide⟩) (by rw [hr]; exact ⟨Nat.le_of_ble_eq_true rfl, Nat.le_of_ble_eq_true rfl⟩) ?_
    intro rv h' hp
    rw [hp.1, hp.2]
    show AW V 0 0 h 17 [(0, .ref (B + 51)), (1, .int a), (2, .int b), (3, .int c), (4, .int d)] [.int (b2i (!oO b 1 99))]
    refine a_if_eq hb 41 dX12_work_17 (by decide) (fun c17 => ?_) (fun c17 => ?_)
    · simp [b2i_0] at c17
      refine a_bipush (v := (-2)) hb dX12_work_41 (by decide) ?_
      exact a_ireturn (ty := .int) hb hz dX12_work_43 hret rfl (by rw [hr]; exact Nat.le_of_ble_eq_true rfl) (by rw [hr]; exact Nat.le_of_ble_eq_true rfl) (⟨by simp [spWork, SM, setI_R, hI_R, setR_R, setR_id, upd, *], by simp [spWork, SM, setI_R, hI_R, setR_R, setR_id, upd, *]⟩)
    · simp [b2i_0] at c17
      refine a_iload_n hb dX12_work_20 rfl 3 rfl ?_
      refine a_iconst (v := 1) hb dX12_work_21 (by decide) ?_
      refine a_bipush (v := 40) hb dX12_work_22 (by decide) ?_
      refine a_callS hb dX12_work_24 (by rw [hg]; exact w_in g h c 1 40) (by rw [ow]; exact cls_RX12_48) rfl rfl (Nat.le_of_ble_eq_true rfl) (by rw [hr]; exact ⟨by decide, by decide⟩) (by rw [hr]; exact ⟨Nat.le_of_ble_eq_true rfl, Nat.le_of_ble_eq_true rfl⟩) ?_
      intro rv h' hp
      rw [hp.1, hp.2]
      show AW V 0 0 h 27 [(0, .ref (B + 51)), (1, .int a), (2, .int b), (3, .int c), (4, .int d)] [.int (b2i (!oO c 1 40))]
      refine a_if_eq hb 41 dX12_work_27 (by decide) (fun c27 => ?_) (fun c27 => ?_)
      · simp [b2i_0] at c27
        refine a_bipush (v := (-2)) hb dX12_work_41 (by decide) ?_
        exact a_ireturn (ty := .int) hb hz dX12_work_43 hret rfl (by rw [hr]; exact Nat.le_of_ble_eq_true rfl) (by rw [hr]; exact Nat.le_of_ble_eq_true rfl) (⟨by simp [spWork, SM, setI_R, hI_R, setR_R, setR_id, upd, *], by simp [spWork, SM, setI_R, hI_R, setR_R, setR_id, upd, *]⟩)
      · simp [b2i_0] at c27
        refine a_iload hb dX12_work_30 4 rfl ?_
        refine a_iconst (v := 0) hb dX12_work_32 (by decide) ?_
        refine a_bipush (v := 99) hb dX12_work_33 (by decide) ?_
        refine a_callS hb dX12_work_35 (by rw [hg]; exact w_in g h d 0 99) (by rw [ow]; exact cls_RX12_48) rfl rfl (Nat.le_of_ble_eq_true rfl) (by rw [hr]; exact ⟨by decide, by decide⟩) (by rw [hr]; exact ⟨Nat.le_of_ble_eq_true rfl, Nat.le_of_ble_eq_true rfl⟩) ?_
        intro rv h' hp
        rw [hp.1, hp.2]
        show AW V 0 0 h 38 [(0, .ref (B + 51)), (1, .int a), (2, .int b), (3, .int c), (4, .int d)] [.int (b2i (!oO d 0 99))]
        refine a_if_ne hb 44 dX12_work_38 (by decide) (fun c38 => ?_) (fun c38 => ?_)
        · simp [b2i_0] at c38
          refine a_aload_n hb dX12_work_44 rfl 0 rfl ?_
          refine a_getQ (q := (B + 52)) hb dX12_work_45 (by rw [ow]; exact fl_RX12_9_12) (hL.1 51 (by decide)) (hL.2.1 (51, 1, 52) (by decide)) ?_
          refine a_iconst (v := 1) hb dX12_work_48 (by decide) ?_
          refine b_iald (j := 1) hb dX12_work_49 (hL.1 52 (by decide)) ⟨by decide, by decide⟩ (by decide) ?_
          refine a_iconst (v := 5) hb dX12_work_50 (by decide) ?_
          refine a_icmp_ne hb 57 dX12_work_51 (by decide) (fun c51 => ?_) (fun c51 => ?_)
          · refine a_aload_n hb dX12_work_57 rfl 0 rfl ?_
            refine a_getQ (q := (B + 52)) hb dX12_work_58 (by rw [ow]; exact fl_RX12_9_12) (hL.1 51 (by decide)) (hL.2.1 (51, 1, 52) (by decide)) ?_
            refine a_iconst (v := 1) hb dX12_work_61 (by decide) ?_
            refine b_iald (j := 1) hb dX12_work_62 (hL.1 52 (by decide)) ⟨by decide, by decide⟩ (by decide) ?_
            refine a_istore (L' := [(5, .int (hI h (B + 52) 1)), (0, .ref (B + 51)), (1, .int a), (2, .int b), (3, .int c), (4, .int d)]) hb dX12_work_63 (by rw [hml]; decide) rfl ?_
            refine a_aload_n hb dX12_work_65 rfl 1 rfl ?_
            refine a_getQ (q := (B + 52)) hb dX12_work_66 (by rw [ow]; exact fl_RX12_9_12) (hL.1 51 (by decide)) (hL.2.1 (51, 1, 52) (by decide)) ?_
            refine a_sipush (v := 178) hb dX12_work_69 (by decide) ?_
            refine a_iload hb dX12_work_72 0 rfl ?_
            refine a_iadd hb dX12_work_74 ?_
            refine a_iload_n hb dX12_work_75 rfl 2 rfl ?_
            refine b_iast (j := (178 + n)) hb dX12_work_76 (hL.1 52 (by decide)) (IX.add ⟨by decide, by decide⟩ hn (by omega)) (by omega) ?_
            refine a_aload_n hb dX12_work_77 rfl 1 rfl ?_
            refine a_getQ (q := (B + 52)) hb dX12_work_78 (by rw [ow]; exact fl_RX12_9_12) (hL.1 51 (by decide)) (hL.2.1 (51, 1, 52) (by decide)) ?_
            refine a_sipush (v := 183) hb dX12_work_81 (by decide) ?_
            refine a_iload hb dX12_work_84 0 rfl ?_
            refine a_iadd hb dX12_work_86 ?_
            refine a_iload_n hb dX12_work_87 rfl 3 rfl ?_
            refine b_iast (j := (183 + n)) hb dX12_work_88 (hL.1 52 (by decide)) (IX.add ⟨by decide, by decide⟩ hn (by omega)) (by omega) ?_
            refine a_aload_n hb dX12_work_89 rfl 1 rfl ?_
            refine a_getQ (q := (B + 52)) hb dX12_work_90 (by rw [ow]; exact fl_RX12_9_12) (hL.1 51 (by decide)) (hL.2.1 (51, 1, 52) (by decide)) ?_
            refine a_sipush (v := 188) hb dX12_work_93 (by decide) ?_
            refine a_iload hb dX12_work_96 0 rfl ?_
            refine a_iadd hb dX12_work_98 ?_
            refine a_iload_n hb dX12_work_99 rfl 4 rfl ?_
            refine b_iast (j := (188 + n)) hb dX12_work_100 (hL.1 52 (by decide)) (IX.add ⟨by decide, by decide⟩ hn (by omega)) (by omega) ?_
            refine a_aload_n hb dX12_work_101 rfl 1 rfl ?_
            refine a_getQ (q := (B + 52)) hb dX12_work_102 (by rw [ow]; exact fl_RX12_9_12) (hL.1 51 (by decide)) (hL.2.1 (51, 1, 52) (by decide)) ?_
            refine a_sipush (v := 193) hb dX12_work_105 (by decide) ?_
            refine a_iload hb dX12_work_108 0 rfl ?_
            refine a_iadd hb dX12_work_110 ?_
            refine a_iload hb dX12_work_111 5 rfl ?_
            refine b_iast (j := (193 + n)) hb dX12_work_113 (hL.1 52 (by decide)) (IX.add ⟨by decide, by decide⟩ hn (by omega)) (by omega) ?_
            refine a_aload_n hb dX12_work_114 rfl 1 rfl ?_
            refine a_getQ (q := (B + 52)) hb dX12_work_115 (by rw [ow]; exact fl_RX12_9_12) (hL.1 51 (by decide)) (hL.2.1 (51, 1, 52) (by decide)) ?_
            refine a_sipush (v := 198) hb dX12_work_118 (by decide) ?_
            refine a_iload hb dX12_work_121 0 rfl ?_
            refine a_iadd hb dX12_work_123 ?_
            refine a_iconst (v := 0) hb dX12_work_124 (by decide) ?_
            refine b_iast (j := (198 + n)) hb dX12_work_125 (hL.1 52 (by decide)) (IX.add ⟨by decide, by decide⟩ hn (by omega)) (by omega) ?_
            refine a_aload_n hb dX12_work_126 rfl 1 rfl ?_
            refine a_getQ (q := (B + 52)) hb dX12_work_127 (by rw [ow]; exact fl_RX12_9_12) (hL.1 51 (by decide)) (hL.2.1 (51, 1, 52) (by decide)) ?_
            refine a_sipush (v := 203) hb dX12_work_130 (by decide) ?_
            refine a_iload hb dX12_work_133 0 rfl ?_
            refine a_iadd hb dX12_work_135 ?_
            refine a_iconst (v := 0) hb dX12_work_136 (by decide) ?_
            refine b_iast (j := (203 + n)) hb dX12_work_137 (hL.1 52 (by decide)) (IX.add ⟨by decide, by decide⟩ hn (by omega)) (by omega) ?_
            refine a_aload_n hb dX12_work_138 rfl 1 rfl ?_
            refine a_getQ (q := (B + 52)) hb dX12_work_139 (by rw [ow]; exact fl_RX12_9_12) (hL.1 51 (by decide)) (hL.2.1 (51, 1, 52) (by decide)) ?_
            refine a_iconst (v := 1) hb dX12_work_142 (by decide) ?_
            refine a_dup2_11 hb dX12_work_143 rfl rfl ?_
            refine b_iald (j := 1) hb dX12_work_144 (hL.1 52 (by decide)) ⟨by decide, by decide⟩ (by decide) ?_
            refine a_iconst (v := 1) hb dX12_work_145 (by decide) ?_
            refine a_iadd hb dX12_work_146 ?_
            refine b_iast (j := 1) hb dX12_work_147 (hL.1 52 (by decide)) ⟨by decide, by decide⟩ (by decide) ?_
            refine a_iload hb dX12_work_148 0 rfl ?_
            exact a_ireturn (ty := .int) hb hz dX12_work_150 hret rfl (by rw [hr]; exact Nat.le_of_ble_eq_true rfl) (by rw [hr]; exact Nat.le_of_ble_eq_true rfl) (⟨by simp [spWork, SM, setI_R, hI_R, setR_R, setR_id, upd, *], by simp [spWork, SM, setI_R, hI_R, setR_R, setR_id, upd, *]⟩)
          · refine a_bipush (v := (-4)) hb dX12_work_54 (by decide) ?_
            exact a_ireturn (ty := .int) hb hz dX12_work_56 hret rfl (by rw [hr]; exact Nat.le_of_ble_eq_true rfl) (by rw [hr]; exact Nat.le_of_ble_eq_true rfl) (⟨by simp [spWork, SM, setI_R, hI_R, setR_R, setR_id, upd, *], by simp [spWork, SM, setI_R, hI_R, setR_R, setR_id, upd, *]⟩)
        · simp [b2i_0] at c38
          refine a_bipush (v := (-2)) hb dX12_work_41 (by decide) ?_
          exact a_ireturn (ty := .int) hb hz dX12_work_43 hret rfl (by rw [hr]; exact Nat.le_of_ble_eq_true rfl) (by rw [hr]; exact Nat.le_of_ble_eq_true rfl) (⟨by simp [spWork, SM, setI_R, hI_R, setR_R, setR_id, upd, *], by simp [spWork, SM, setI_R, hI_R, setR_R, setR_id, upd, *]⟩)
set_option maxRecDepth 100000 in
theorem m_row (g : GG) (h : AH) (B : Nat) (hL : LY h B) (n : Nat) (hn : IX (hI h (B + 52) 3) n) (ln : n ≤ 20) (v : Int32) : AM g 3 0 0 mX12_row [.ref (B + 51), .int v] h (fun rv h' => rv = some (.int (spRow (SM h B) n v).1) ∧ h' = setR h (B + 52) (spRow (SM h B) n v).2) := by
  refine AM.of [(0, .ref (B + 51)), (1, .int v)] (by decide) (Nat.le_of_ble_eq_true rfl) rfl ?_
  intro V hV
  have hb : V.2.1.2.1 = cX12_row := by subst hV; rfl
  have ow : V.2.1.1.cls = RX12 := by subst hV; rfl
  have hr : V.2.2.1 = aw_rm 3 0 0 := by subst hV; rfl
  have hz : V.2.2.2 = aw_Z V.1 (fun rv h' => rv = some (.int (spRow (SM h B) n v).1) ∧ h' = setR h (B + 52) (spRow (SM h B) n v).2) V.2.2.1 := by subst hV; rfl
  have hg : V.1 = g := by subst hV; rfl
  have hret : V.2.1.2.2.2 = (some .int) := by subst hV; rfl
  have hml : V.2.1.2.2.1 = 2 := by subst hV; rfl
  clear hV
  have e918 : ¬ (3 = 918 + n) := by omega
  refine a_iload_n hb dX12_row_0 rfl 1 rfl ?_
  refine a_bipush (v := (-100)) hb dX12_row_1 (by decide) ?_
  refine a_icmp_ne hb 15 dX12_row_3 (by decide) (fun c3 => ?_) (fun c3 => ?_)
  · refine a_iload_n hb dX12_row_15 rfl 1 rfl ?_
    refine a_bipush (v := (-99)) hb dX12_row_16 (by decide) ?_
    refine a_sipush (v := 999) hb dX12_row_18 (by decide) ?_
    refine a_callS hb dX12_row_21 (by rw [hg]; exact w_in g h v (-99) 999) (by rw [ow]; exact cls_RX12_48) rfl rfl (Nat.le_of_ble_eq_true rfl) (by rw [hr]; exact ⟨by decide, by decide⟩) (by rw [hr]; exact ⟨Nat.le_of_ble_eq_true rfl, Nat.le_of_ble_eq_true rfl⟩) ?_
    intro rv h' hp
    rw [hp.1, hp.2]
    show AW V 0 0 h 24 [(0, .ref (B + 51)), (1, .int v)] [.int (b2i (!oO v (-99) 999))]
    refine a_if_ne hb 30 dX12_row_24 (by decide) (fun c24 => ?_) (fun c24 => ?_)
    · simp [b2i_0] at c24
      refine a_aload_n hb dX12_row_30 rfl 0 rfl ?_
      refine a_getQ (q := (B + 52)) hb dX12_row_31 (by rw [ow]; exact fl_RX12_9_12) (hL.1 51 (by decide)) (hL.2.1 (51, 1, 52) (by decide)) ?_
      refine a_iconst (v := 3) hb dX12_row_34 (by decide) ?_
      refine b_iald (j := 3) hb dX12_row_35 (hL.1 52 (by decide)) ⟨by decide, by decide⟩ (by decide) ?_
      refine a_bipush (v := 20) hb dX12_row_36 (by decide) ?_
      refine a_icmp_ne hb 44 dX12_row_38 (by decide) (fun c38 => ?_) (fun c38 => ?_)
      · have ln2 : n ≠ 20 := fun q => c38 (by rw [hn.eq.1, q]; decide)
        refine a_aload_n hb dX12_row_44 rfl 0 rfl ?_
        refine a_getQ (q := (B + 52)) hb dX12_row_45 (by rw [ow]; exact fl_RX12_9_12) (hL.1 51 (by decide)) (hL.2.1 (51, 1, 52) (by decide)) ?_
        refine a_sipush (v := 918) hb dX12_row_48 (by decide) ?_
        refine a_aload_n hb dX12_row_51 rfl 0 rfl ?_
        refine a_getQ (q := (B + 52)) hb dX12_row_52 (by rw [ow]; exact fl_RX12_9_12) (hL.1 51 (by decide)) (hL.2.1 (51, 1, 52) (by decide)) ?_
        refine a_iconst (v := 3) hb dX12_row_55 (by decide) ?_
        refine b_iald (j := 3) hb dX12_row_56 (hL.1 52 (by decide)) ⟨by decide, by decide⟩ (by decide) ?_
        refine a_iadd hb dX12_row_57 ?_
        refine a_iload_n hb dX12_row_58 rfl 1 rfl ?_
        refine b_iast (j := (918 + n)) hb dX12_row_59 (hL.1 52 (by decide)) (IX.add ⟨by decide, by decide⟩ hn (by omega)) (by omega) ?_
        refine a_aload_n hb dX12_row_60 rfl 0 rfl ?_
        refine a_getQ (q := (B + 52)) hb dX12_row_61 (by rw [ow]; exact fl_RX12_9_12) (hL.1 51 (by decide)) (hL.2.1 (51, 1, 52) (by decide)) ?_
        refine a_iconst (v := 3) hb dX12_row_64 (by decide) ?_
        refine a_dup2_11 hb dX12_row_65 rfl rfl ?_
        refine b_iald (j := 3) hb dX12_row_66 (hL.1 52 (by decide)) ⟨by decide, by decide⟩ (by decide) ?_
        refine a_iconst (v := 1) hb dX12_row_67 (by decide) ?_
        refine a_iadd hb dX12_row_68 ?_
        refine b_iast (j := 3) hb dX12_row_69 (hL.1 52 (by decide)) ⟨by decide, by decide⟩ (by decide) ?_
        refine a_aload_n hb dX12_row_70 rfl 0 rfl ?_
        refine a_getQ (q := (B + 52)) hb dX12_row_71 (by rw [ow]; exact fl_RX12_9_12) (hL.1 51 (by decide)) (hL.2.1 (51, 1, 52) (by decide)) ?_
        refine a_iconst (v := 3) hb dX12_row_74 (by decide) ?_
        refine b_iald (j := 3) hb dX12_row_75 (hL.1 52 (by decide)) ⟨by decide, by decide⟩ (by decide) ?_
        exact a_ireturn (ty := .int) hb hz dX12_row_76 hret rfl (by rw [hr]; exact Nat.le_of_ble_eq_true rfl) (by rw [hr]; exact Nat.le_of_ble_eq_true rfl) (⟨by simp [spRow, SM, setI_R, hI_R, setR_R, setR_id, upd, *], by simp [spRow, SM, setI_R, hI_R, setR_R, setR_id, upd, *]⟩)
      · refine a_bipush (v := (-4)) hb dX12_row_41 (by decide) ?_
        exact a_ireturn (ty := .int) hb hz dX12_row_43 hret rfl (by rw [hr]; exact Nat.le_of_ble_eq_true rfl) (by rw [hr]; exact Nat.le_of_ble_eq_true rfl) (⟨by simp [spRow, SM, setI_R, hI_R, setR_R, setR_id, upd, *], by simp [spRow, SM, setI_R, hI_R, setR_R, setR_id, upd, *]⟩)
    · simp [b2i_0] at c24
      refine a_bipush (v := (-2)) hb dX12_row_27 (by decide) ?_
      exact a_ireturn (ty := .int) hb hz dX12_row_29 hret rfl (by rw [hr]; exact Nat.le_of_ble_eq_true rfl) (by rw [hr]; exact Nat.le_of_ble_eq_true rfl) (⟨by simp [spRow, SM, setI_R, hI_R, setR_R, setR_id, upd, *], by simp [spRow, SM, setI_R, hI_R, setR_R, setR_id, upd, *]⟩)
  · refine a_aload_n hb dX12_row_6 rfl 0 rfl ?_
    refine a_getQ (q := (B + 52)) hb dX12_row_7 (by rw [ow]; exact fl_RX12_9_12) (hL.1 51 (by decide)) (hL.2.1 (51, 1, 52) (by decide)) ?_
    refine a_iconst (v := 3) hb dX12_row_10 (by decide) ?_
    refine a_iconst (v := 0) hb dX12_row_11 (by decide) ?_
    refine b_iast (j := 3) hb dX12_row_12 (hL.1 52 (by decide)) ⟨by decide, by decide⟩ (by decide) ?_
    refine a_iconst (v := 0) hb dX12_row_13 (by decide) ?_
    exact a_ireturn (ty := .int) hb hz dX12_row_14 hret rfl (by rw [hr]; exact Nat.le_of_ble_eq_true rfl) (by rw [hr]; exact Nat.le_of_ble_eq_true rfl) (⟨by simp [spRow, SM, setI_R, hI_R, setR_R, setR_id, upd, *], by simp [spRow, SM, setI_R, hI_R, setR_R, setR_id, upd, *]⟩)
set_option maxRecDepth 100000 in
theorem m_set (g : GG) (h : AH) (B : Nat) (hL : LY h B) (w n : Int32) : AM g 3 0 0 mX12_set [.ref (B + 51), .int w, .int n] h (fun rv h' => rv = some (.int (spSet (SM h B) w n).1) ∧ h' = setR h (B + 52) (spSet (SM h B) w n).2) := by
  refine AM.of [(0, .ref (B + 51)), (1, .int w), (2, .int n)] (by decide) (Nat.le_of_ble_eq_true rfl) rfl ?_
  intro V hV
  have hb : V.2.1.2.1 = cX12_set := by subst hV; rfl
  have ow : V.2.1.1.cls = RX12 := by subst hV; rfl
  have hr : V.2.2.1 = aw_rm 3 0 0 := by subst hV; rfl
  have hz : V.2.2.2 = aw_Z V.1 (fun rv h' => rv = some (.int (spSet (SM h B) w n).1) ∧ h' = setR h (B + 52) (spSet (SM h B) w n).2) V.2.2.1 := by subst hV; rfl
  have hg : V.1 = g := by subst hV; rfl
  have hret : V.2.1.2.2.2 = (some .int) := by subst hV; rfl
  have hml : V.2.1.2.2.1 = 4 := by subst hV; rfl
  clear hV
  refine a_iload_n hb dX12_set_0 rfl 1 rfl ?_
  refine a_iconst (v := 0) hb dX12_set_1 (by decide) ?_
  refine a_iconst (v := 2) hb dX12_set_2 (by decide) ?_
  refine a_callS hb dX12_set_3 (by rw [hg]; exact w_in g h w 0 2) (by rw [ow]; exact cls_RX12_48) rfl rfl (Nat.le_of_ble_eq_true rfl) (by rw [hr]; exact ⟨by decide, by decide⟩) (by rw [hr]; exact ⟨Nat.le_of_ble_eq_true rfl, Nat.le_of_ble_eq_true rfl⟩) ?_
  intro rv h' hp
  rw [hp.1, hp.2]
  show AW V 0 0 h 6 [(0, .ref (B + 51)), (1, .int w), (2, .int n)] [.int (b2i (!oO w 0 2))]
  refine a_if_ne hb 11 dX12_set_6 (by decide) (fun c6 => ?_) (fun c6 => ?_)
  · simp [b2i_0] at c6
    obtain ⟨ix_w, le_w⟩ : IX w w.toNatClampNeg ∧ w.toNatClampNeg ≤ 2 := oO_le (by decide) c6
    refine a_iload_n hb dX12_set_11 rfl 1 rfl ?_
    refine a_if_ne hb 28 dX12_set_12 (by decide) (fun c12 => ?_) (fun c12 => ?_)
    · refine a_iload_n hb dX12_set_28 rfl 1 rfl ?_
      refine a_iconst (v := 1) hb dX12_set_29 (by decide) ?_
      refine a_icmp_ne hb 46 dX12_set_30 (by decide) (fun c30 => ?_) (fun c30 => ?_)
      · refine a_iload_n hb dX12_set_46 rfl 2 rfl ?_
        refine a_iconst (v := 1) hb dX12_set_47 (by decide) ?_
        refine a_sipush (v := 999) hb dX12_set_48 (by decide) ?_
        refine a_callS hb dX12_set_51 (by rw [hg]; exact w_in g h n 1 999) (by rw [ow]; exact cls_RX12_48) rfl rfl (Nat.le_of_ble_eq_true rfl) (by rw [hr]; exact ⟨by decide, by decide⟩) (by rw [hr]; exact ⟨Nat.le_of_ble_eq_true rfl, Nat.le_of_ble_eq_true rfl⟩) ?_
        intro rv h' hp
        rw [hp.1, hp.2]
        show AW V 0 0 h 54 [(0, .ref (B + 51)), (1, .int w), (2, .int n)] [.int (b2i (!oO n 1 999))]
        refine a_if_ne hb 60 dX12_set_54 (by decide) (fun c54 => ?_) (fun c54 => ?_)
        · simp [b2i_0] at c54
          refine a_aload_n hb dX12_set_60 rfl 0 rfl ?_
          refine a_getQ (q := (B + 52)) hb dX12_set_61 (by rw [ow]; exact fl_RX12_9_12) (hL.1 51 (by decide)) (hL.2.1 (51, 1, 52) (by decide)) ?_
          refine a_iconst (v := 5) hb dX12_set_64 (by decide) ?_
          refine a_iload_n hb dX12_set_65 rfl 1 rfl ?_
          refine a_iadd hb dX12_set_66 ?_
          refine b_iald (j := (5 + w.toNatClampNeg)) hb dX12_set_67 (hL.1 52 (by decide)) (IX.add ⟨by decide, by decide⟩ ix_w (by omega)) (by omega) ?_
          refine a_istore_n (L' := [(3, .int (hI h (B + 52) (5 + w.toNatClampNeg))), (0, .ref (B + 51)), (1, .int w), (2, .int n)]) hb dX12_set_68 rfl (by rw [hml]; decide) rfl ?_
          refine a_aload_n hb dX12_set_69 rfl 1 rfl ?_
          refine a_getQ (q := (B + 52)) hb dX12_set_70 (by rw [ow]; exact fl_RX12_9_12) (hL.1 51 (by decide)) (hL.2.1 (51, 1, 52) (by decide)) ?_
          refine a_iconst (v := 5) hb dX12_set_73 (by decide) ?_
          refine a_iload_n hb dX12_set_74 rfl 2 rfl ?_
          refine a_iadd hb dX12_set_75 ?_
          refine a_iload_n hb dX12_set_76 rfl 3 rfl ?_
          refine b_iast (j := (5 + w.toNatClampNeg)) hb dX12_set_77 (hL.1 52 (by decide)) (IX.add ⟨by decide, by decide⟩ ix_w (by omega)) (by omega) ?_
          refine a_iload_n hb dX12_set_78 rfl 0 rfl ?_
          exact a_ireturn (ty := .int) hb hz dX12_set_79 hret rfl (by rw [hr]; exact Nat.le_of_ble_eq_true rfl) (by rw [hr]; exact Nat.le_of_ble_eq_true rfl) (⟨by simp [spSet, SM, setI_R, hI_R, setR_R, setR_id, upd, *, (by decide : oO 0 0 2 = false), (by decide : oO 1 0 2 = false)], by simp [spSet, SM, setI_R, hI_R, setR_R, setR_id, upd, *, (by decide : oO 0 0 2 = false), (by decide : oO 1 0 2 = false)]⟩)
        · simp [b2i_0] at c54
          refine a_bipush (v := (-2)) hb dX12_set_57 (by decide) ?_
          exact a_ireturn (ty := .int) hb hz dX12_set_59 hret rfl (by rw [hr]; exact Nat.le_of_ble_eq_true rfl) (by rw [hr]; exact Nat.le_of_ble_eq_true rfl) (⟨by simp [spSet, SM, setI_R, hI_R, setR_R, setR_id, upd, *, (by decide : oO 0 0 2 = false), (by decide : oO 1 0 2 = false)], by simp [spSet, SM, setI_R, hI_R, setR_R, setR_id, upd, *, (by decide : oO 0 0 2 = false), (by decide : oO 1 0 2 = false)]⟩)
      · refine a_iload_n hb dX12_set_33 rfl 2 rfl ?_
        refine a_iconst (v := 1) hb dX12_set_34 (by decide) ?_
        refine a_bipush (v := 9) hb dX12_set_35 (by decide) ?_
        refine a_callS hb dX12_set_37 (by rw [hg]; exact w_in g h n 1 9) (by rw [ow]; exact cls_RX12_48) rfl rfl (Nat.le_of_ble_eq_true rfl) (by rw [hr]; exact ⟨by decide, by decide⟩) (by rw [hr]; exact ⟨Nat.le_of_ble_eq_true rfl, Nat.le_of_ble_eq_true rfl⟩) ?_
        intro rv h' hp
        rw [hp.1, hp.2]
        show AW V 0 0 h 40 [(0, .ref (B + 51)), (1, .int w), (2, .int n)] [.int (b2i (!oO n 1 9))]
        refine a_if_ne hb 60 dX12_set_40 (by decide) (fun c40 => ?_) (fun c40 => ?_)
        · simp [b2i_0] at c40
          refine a_aload_n hb dX12_set_60 rfl 0 rfl ?_
          refine a_getQ (q := (B + 52)) hb dX12_set_61 (by rw [ow]; exact fl_RX12_9_12) (hL.1 51 (by decide)) (hL.2.1 (51, 1, 52) (by decide)) ?_
          refine a_iconst (v := 5) hb dX12_set_64 (by decide) ?_
          refine a_iload_n hb dX12_set_65 rfl 1 rfl ?_
          refine a_iadd hb dX12_set_66 ?_
          refine b_iald (j := (5 + w.toNatClampNeg)) hb dX12_set_67 (hL.1 52 (by decide)) (IX.add ⟨by decide, by decide⟩ ix_w (by omega)) (by omega) ?_
          refine a_istore_n (L' := [(3, .int (hI h (B + 52) (5 + w.toNatClampNeg))), (0, .ref (B + 51)), (1, .int w), (2, .int n)]) hb dX12_set_68 rfl (by rw [hml]; decide) rfl ?_
          refine a_aload_n hb dX12_set_69 rfl 1 rfl ?_
          refine a_getQ (q := (B + 52)) hb dX12_set_70 (by rw [ow]; exact fl_RX12_9_12) (hL.1 51 (by decide)) (hL.2.1 (51, 1, 52) (by decide)) ?_
          refine a_iconst (v := 5) hb dX12_set_73 (by decide) ?_
          refine a_iload_n hb dX12_set_74 rfl 2 rfl ?_
          refine a_iadd hb dX12_set_75 ?_
          refine a_iload_n hb dX12_set_76 rfl 3 rfl ?_
          refine b_iast (j := (5 + w.toNatClampNeg)) hb dX12_set_77 (hL.1 52 (by decide)) (IX.add ⟨by decide, by decide⟩ ix_w (by omega)) (by omega) ?_
          refine a_iload_n hb dX12_set_78 rfl 0 rfl ?_
          exact a_ireturn (ty := .int) hb hz dX12_set_79 hret rfl (by rw [hr]; exact Nat.le_of_ble_eq_true rfl) (by rw [hr]; exact Nat.le_of_ble_eq_true rfl) (⟨by simp [spSet, SM, setI_R, hI_R, setR_R, setR_id, upd, *, (by decide : oO 0 0 2 = false), (by decide : oO 1 0 2 = false)], by simp [spSet, SM, setI_R, hI_R, setR_R, setR_id, upd, *, (by decide : oO 0 0 2 = false), (by decide : oO 1 0 2 = false)]⟩)
        · simp [b2i_0] at c40
          refine a_goto hb 57 dX12_set_43 (by decide) ?_
          refine a_bipush (v := (-2)) hb dX12_set_57 (by decide) ?_
          exact a_ireturn (ty := .int) hb hz dX12_set_59 hret rfl (by rw [hr]; exact Nat.le_of_ble_eq_true rfl) (by rw [hr]; exact Nat.le_of_ble_eq_true rfl) (⟨by simp [spSet, SM, setI_R, hI_R, setR_R, setR_id, upd, *, (by decide : oO 0 0 2 = false), (by decide : oO 1 0 2 = false)], by simp [spSet, SM, setI_R, hI_R, setR_R, setR_id, upd, *, (by decide : oO 0 0 2 = false), (by decide : oO 1 0 2 = false)]⟩)
    · refine a_iload_n hb dX12_set_15 rfl 2 rfl ?_
      refine a_iconst (v := 0) hb dX12_set_16 (by decide) ?_
      refine a_bipush (v := 9) hb dX12_set_17 (by decide) ?_
      refine a_callS hb dX12_set_19 (by rw [hg]; exact w_in g h n 0 9) (by rw [ow]; exact cls_RX12_48) rfl rfl (Nat.le_of_ble_eq_true rfl) (by rw [hr]; exact ⟨by decide, by decide⟩) (by rw [hr]; exact ⟨Nat.le_of_ble_eq_true rfl, Nat.le_of_ble_eq_true rfl⟩) ?_
      intro rv h' hp
      rw [hp.1, hp.2]
      show AW V 0 0 h 22 [(0, .ref (B + 51)), (1, .int w), (2, .int n)] [.int (b2i (!oO n 0 9))]
      refine a_if_ne hb 60 dX12_set_22 (by decide) (fun c22 => ?_) (fun c22 => ?_)
      · simp [b2i_0] at c22
        refine a_aload_n hb dX12_set_60 rfl 0 rfl ?_
        refine a_getQ (q := (B + 52)) hb dX12_set_61 (by rw [ow]; exact fl_RX12_9_12) (hL.1 51 (by decide)) (hL.2.1 (51, 1, 52) (by decide)) ?_
        refine a_iconst (v := 5) hb dX12_set_64 (by decide) ?_
        refine a_iload_n hb dX12_set_65 rfl 1 rfl ?_
        refine a_iadd hb dX12_set_66 ?_
        refine b_iald (j := (5 + w.toNatClampNeg)) hb dX12_set_67 (hL.1 52 (by decide)) (IX.add ⟨by decide, by decide⟩ ix_w (by omega)) (by omega) ?_
        refine a_istore_n (L' := [(3, .int (hI h (B + 52) (5 + w.toNatClampNeg))), (0, .ref (B + 51)), (1, .int w), (2, .int n)]) hb dX12_set_68 rfl (by rw [hml]; decide) rfl ?_
        refine a_aload_n hb dX12_set_69 rfl 1 rfl ?_
        refine a_getQ (q := (B + 52)) hb dX12_set_70 (by rw [ow]; exact fl_RX12_9_12) (hL.1 51 (by decide)) (hL.2.1 (51, 1, 52) (by decide)) ?_
        refine a_iconst (v := 5) hb dX12_set_73 (by decide) ?_
        refine a_iload_n hb dX12_set_74 rfl 2 rfl ?_
        refine a_iadd hb dX12_set_75 ?_
        refine a_iload_n hb dX12_set_76 rfl 3 rfl ?_
        refine b_iast (j := (5 + w.toNatClampNeg)) hb dX12_set_77 (hL.1 52 (by decide)) (IX.add ⟨by decide, by decide⟩ ix_w (by omega)) (by omega) ?_
        refine a_iload_n hb dX12_set_78 rfl 0 rfl ?_
        exact a_ireturn (ty := .int) hb hz dX12_set_79 hret rfl (by rw [hr]; exact Nat.le_of_ble_eq_true rfl) (by rw [hr]; exact Nat.le_of_ble_eq_true rfl) (⟨by simp [spSet, SM, setI_R, hI_R, setR_R, setR_id, upd, *, (by decide : oO 0 0 2 = false), (by decide : oO 1 0 2 = false)], by simp [spSet, SM, setI_R, hI_R, setR_R, setR_id, upd, *, (by decide : oO 0 0 2 = false), (by decide : oO 1 0 2 = false)]⟩)
      · simp [b2i_0] at c22
        refine a_goto hb 57 dX12_set_25 (by decide) ?_
        refine a_bipush (v := (-2)) hb dX12_set_57 (by decide) ?_
        exact a_ireturn (ty := .int) hb hz dX12_set_59 hret rfl (by rw [hr]; exact Nat.le_of_ble_eq_true rfl) (by rw [hr]; exact Nat.le_of_ble_eq_true rfl) (⟨by simp [spSet, SM, setI_R, hI_R, setR_R, setR_id, upd, *, (by decide : oO 0 0 2 = false), (by decide : oO 1 0 2 = false)], by simp [spSet, SM, setI_R, hI_R, setR_R, setR_id, upd, *, (by decide : oO 0 0 2 = false), (by decide : oO 1 0 2 = false)]⟩)
  · simp [b2i_0] at c6
    refine a_iconst (v := (-1)) hb dX12_set_9 (by decide) ?_
    exact a_ireturn (ty := .int) hb hz dX12_set_10 hret rfl (by rw [hr]; exact Nat.le_of_ble_eq_true rfl) (by rw [hr]; exact Nat.le_of_ble_eq_true rfl) (⟨by simp [spSet, SM, setI_R, hI_R, setR_R, setR_id, upd, *, (by decide : oO 0 0 2 = false), (by decide : oO 1 0 2 = false)], by simp [spSet, SM, setI_R, hI_R, setR_R, setR_id, upd, *, (by decide : oO 0 0 2 = false), (by decide : oO 1 0 2 = false)]⟩)
set_option maxRecDepth 100000 in
theorem m_later (g : GG) (h : AH) (B : Nat) (hL : LY h B) (np : Nat) (hnp : IX (hI h (B + 52) 0) np) (lnp : np ≤ 8) (p a b : Int32) : AM g 3 0 0 mX12_later [.ref (B + 51), .int p, .int a, .int b] h (fun rv h' => rv = some (.int (spLater (SM h B) p a b).1) ∧ h' = setR h (B + 52) (spLater (SM h B) p a b).2) := by
  refine AM.of [(0, .ref (B + 51)), (1, .int p), (2, .int a), (3, .int b)] (by decide) (Nat.le_of_ble_eq_true rfl) rfl ?_
  intro V hV
  have hb : V.2.1.2.1 = cX12_later := by subst hV; rfl
  have ow : V.2.1.1.cls = RX12 := by subst hV; rfl
  have hr : V.2.2.1 = aw_rm 3 0 0 := by subst hV; rfl
  have hz : V.2.2.2 = aw_Z V.1 (fun rv h' => rv = some (.int (spLater (SM h B) p a b).1) ∧ h' = setR h (B + 52) (spLater (SM h B) p a b).2) V.2.2.1 := by subst hV; rfl
  have hg : V.1 = g := by subst hV; rfl
  have hret : V.2.1.2.2.2 = (some .int) := by subst hV; rfl
  have hml : V.2.1.2.2.1 = 4 := by subst hV; rfl
  clear hV
  refine a_aload_n hb dX12_later_0 rfl 0 rfl ?_
  refine a_iload_n hb dX12_later_1 rfl 1 rfl ?_
  refine a_callV hb dX12_later_2 (by rw [hg]; exact w_isBreak g h B hL p) (by rw [ow]; exact clv_RX12_56) (hL.1 51 (by decide)) (by decide) rfl rfl rfl (Nat.le_of_ble_eq_true rfl) (by rw [hr]; exact ⟨by decide, by decide⟩) (by rw [hr]; exact ⟨Nat.le_of_ble_eq_true rfl, Nat.le_of_ble_eq_true rfl⟩) ?_
  intro rv h' hp
  rw [hp.1, hp.2]
  show AW V 0 0 h 5 [(0, .ref (B + 51)), (1, .int p), (2, .int a), (3, .int b)] [.int (b2i (!oO p 0 (hI h (B + 52) 0 - 1)))]
  refine a_if_ne hb 10 dX12_later_5 (by decide) (fun c5 => ?_) (fun c5 => ?_)
  · simp [b2i_0] at c5
    obtain ⟨ix_p, lt_p⟩ : IX p p.toNatClampNeg ∧ p.toNatClampNeg < np := oO_lt hnp c5
    refine a_iload_n hb dX12_later_10 rfl 2 rfl ?_
    refine a_iconst (v := 0) hb dX12_later_11 (by decide) ?_
    refine a_bipush (v := 10) hb dX12_later_12 (by decide) ?_
    refine a_callS hb dX12_later_14 (by rw [hg]; exact w_in g h a 0 10) (by rw [ow]; exact cls_RX12_48) rfl rfl (Nat.le_of_ble_eq_true rfl) (by rw [hr]; exact ⟨by decide, by decide⟩) (by rw [hr]; exact ⟨Nat.le_of_ble_eq_true rfl, Nat.le_of_ble_eq_true rfl⟩) ?_
    intro rv h' hp
    rw [hp.1, hp.2]
    show AW V 0 0 h 17 [(0, .ref (B + 51)), (1, .int p), (2, .int a), (3, .int b)] [.int (b2i (!oO a 0 10))]
    refine a_if_eq hb 38 dX12_later_17 (by decide) (fun c17 => ?_) (fun c17 => ?_)
    · simp [b2i_0] at c17
      refine a_bipush (v := (-2)) hb dX12_later_38 (by decide) ?_
      exact a_ireturn (ty := .int) hb hz dX12_later_40 hret rfl (by rw [hr]; exact Nat.le_of_ble_eq_true rfl) (by rw [hr]; exact Nat.le_of_ble_eq_true rfl) (⟨by simp [spLater, SM, setI_R, hI_R, setR_R, setR_id, upd, *], by simp [spLater, SM, setI_R, hI_R, setR_R, setR_id, upd, *]⟩)
    · simp [b2i_0] at c17
      refine a_iload_n hb dX12_later_20 rfl 3 rfl ?_
      refine a_iconst (v := 0) hb dX12_later_21 (by decide) ?_
      refine a_bipush (v := 10) hb dX12_later_22 (by decide) ?_
      refine a_callS hb dX12_later_24 (by rw [hg]; exact w_in g h b 0 10) (by rw [ow]; exact cls_RX12_48) rfl rfl (Nat.le_of_ble_eq_true rfl) (by rw [hr]; exact ⟨by decide, by decide⟩) (by rw [hr]; exact ⟨Nat.le_of_ble_eq_true rfl, Nat.le_of_ble_eq_true rfl⟩) ?_
      intro rv h' hp
      rw [hp.1, hp.2]
      show AW V 0 0 h 27 [(0, .ref (B + 51)), (1, .int p), (2, .int a), (3, .int b)] [.int (b2i (!oO b 0 10))]
      refine a_if_eq hb 38 dX12_later_27 (by decide) (fun c27 => ?_) (fun c27 => ?_)
      · simp [b2i_0] at c27
        refine a_bipush (v := (-2)) hb dX12_later_38 (by decide) ?_
        exact a_ireturn (ty := .int) hb hz dX12_later_40 hret rfl (by rw [hr]; exact Nat.le_of_ble_eq_true rfl) (by rw [hr]; exact Nat.le_of_ble_eq_true rfl) (⟨by simp [spLater, SM, setI_R, hI_R, setR_R, setR_id, upd, *], by simp [spLater, SM, setI_R, hI_R, setR_R, setR_id, upd, *]⟩)
      · simp [b2i_0] at c27
        refine a_iload_n hb dX12_later_30 rfl 2 rfl ?_
        refine a_iload_n hb dX12_later_31 rfl 3 rfl ?_
        refine a_iadd hb dX12_later_32 ?_
        refine a_bipush (v := 10) hb dX12_later_33 (by decide) ?_
        refine a_icmp_le hb 41 dX12_later_35 (by decide) (fun c35 => ?_) (fun c35 => ?_)
        · have c35' := Int32.not_lt.mpr c35
          refine a_aload_n hb dX12_later_41 rfl 0 rfl ?_
          refine a_getQ (q := (B + 52)) hb dX12_later_42 (by rw [ow]; exact fl_RX12_9_12) (hL.1 51 (by decide)) (hL.2.1 (51, 1, 52) (by decide)) ?_
          refine a_sipush (v := 162) hb dX12_later_45 (by decide) ?_
          refine a_iload_n hb dX12_later_48 rfl 1 rfl ?_
          refine a_iadd hb dX12_later_49 ?_
          refine a_iload_n hb dX12_later_50 rfl 2 rfl ?_
          refine b_iast (j := (162 + p.toNatClampNeg)) hb dX12_later_51 (hL.1 52 (by decide)) (IX.add ⟨by decide, by decide⟩ ix_p (by omega)) (by omega) ?_
          refine a_aload_n hb dX12_later_52 rfl 0 rfl ?_
          refine a_getQ (q := (B + 52)) hb dX12_later_53 (by rw [ow]; exact fl_RX12_9_12) (hL.1 51 (by decide)) (hL.2.1 (51, 1, 52) (by decide)) ?_
          refine a_sipush (v := 170) hb dX12_later_56 (by decide) ?_
          refine a_iload_n hb dX12_later_59 rfl 1 rfl ?_
          refine a_iadd hb dX12_later_60 ?_
          refine a_iload_n hb dX12_later_61 rfl 3 rfl ?_
          refine b_iast (j := (170 + p.toNatClampNeg)) hb dX12_later_62 (hL.1 52 (by decide)) (IX.add ⟨by decide, by decide⟩ ix_p (by omega)) (by omega) ?_
          refine a_iconst (v := 1) hb dX12_later_63 (by decide) ?_
          exact a_ireturn (ty := .int) hb hz dX12_later_64 hret rfl (by rw [hr]; exact Nat.le_of_ble_eq_true rfl) (by rw [hr]; exact Nat.le_of_ble_eq_true rfl) (⟨by simp [spLater, SM, setI_R, hI_R, setR_R, setR_id, upd, *], by simp [spLater, SM, setI_R, hI_R, setR_R, setR_id, upd, *]⟩)
        · have c35' := Int32.not_le.mp c35
          refine a_bipush (v := (-2)) hb dX12_later_38 (by decide) ?_
          exact a_ireturn (ty := .int) hb hz dX12_later_40 hret rfl (by rw [hr]; exact Nat.le_of_ble_eq_true rfl) (by rw [hr]; exact Nat.le_of_ble_eq_true rfl) (⟨by simp [spLater, SM, setI_R, hI_R, setR_R, setR_id, upd, *], by simp [spLater, SM, setI_R, hI_R, setR_R, setR_id, upd, *]⟩)
  · simp [b2i_0] at c5
    refine a_iconst (v := (-1)) hb dX12_later_8 (by decide) ?_
    exact a_ireturn (ty := .int) hb hz dX12_later_9 hret rfl (by rw [hr]; exact Nat.le_of_ble_eq_true rfl) (by rw [hr]; exact Nat.le_of_ble_eq_true rfl) (⟨by simp [spLater, SM, setI_R, hI_R, setR_R, setR_id, upd, *], by simp [spLater, SM, setI_R, hI_R, setR_R, setR_id, upd, *]⟩)
