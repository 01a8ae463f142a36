/-! ===== the class: rows, the beat ===== -/
theorem c_lt {p : Int32} {n : Nat} (hn : n ≤ 20) (h : oO p 0 (nI n - 1) = false) : ∃ m : Nat, p = nI m ∧ m < n := by
  obtain ⟨h1, h2⟩ := oO_lt (IX.n (by omega)) h
  exact ⟨p.toNatClampNeg, h1.eq.1, h2⟩
theorem c_le {p z : Int32} {b : Nat} (hz : z.toInt = (b : Int)) (h : oO p 0 z = false) : ∃ m : Nat, p = nI m ∧ m ≤ b := by
  obtain ⟨h1, h2⟩ := oO_le hz h
  exact ⟨p.toNatClampNeg, h1.eq.1, h2⟩theorem fi_1 {bi : Nat → Int32} {c : Int32} {i k : Nat} (h : c < abS (bi i)) : fiS bi c i (k + 1) = nI i := if_pos h
theorem fi_0 {bi : Nat → Int32} {c : Int32} {i k : Nat} (h : ¬ c < abS (bi i)) : fiS bi c i (k + 1) = fiS bi c (i + 1) k := if_neg h
set_option maxRecDepth 100000 in
theorem x_noPause (g : GG) (h : AH) (B : Nat) (S : Nat → Int32) (N : NN) (hX : XN h B S N) (p : Int32) : AM g 2 0 0 mX11_noPause [.ref B, .int p] h (fun rv h' => rv = some (.int (b2i (oO p 0 (nI N.1 - 1)))) ∧ h' = h) := by
  refine AM.of [(0, .ref B), (1, .int p)] (by decide) (Nat.le_of_ble_eq_true rfl) rfl ?_
  intro V hV
  have hb : V.2.1.2.1 = cX11_noPause := by subst hV; rfl
  have ow : V.2.1.1.cls = RX11 := by subst hV; rfl
  have hr : V.2.2.1 = aw_rm 2 0 0 := by subst hV; rfl
  have hz : V.2.2.2 = aw_Z V.1 (fun rv h' => rv = some (.int (b2i (oO p 0 (nI N.1 - 1)))) ∧ h' = h) V.2.2.1 := by subst hV; rfl
  have hg : V.1 = g := by subst hV; rfl
  have hret : V.2.1.2.2.2 = (some .boolean) := by subst hV; rfl
  have hml : V.2.1.2.2.1 = 2 := by subst hV; rfl
  clear hV
  have hnp := hX.np
  have hnw := hX.nw
  refine a_iload_n hb dX11_noPause_0 rfl 1 rfl ?_
  refine a_iconst (v := 0) hb dX11_noPause_1 (by decide) ?_
  refine a_aload_n hb dX11_noPause_2 rfl 0 rfl ?_
  refine a_getQ (q := (B + 1)) hb dX11_noPause_3 (by rw [ow]; exact fl_RX11_12_11) (hX.1.1 0 (by decide)) (hX.1.2.1 (0, 0, 1) (by decide)) ?_
  refine a_getI hb dX11_noPause_6 (by rw [ow]; exact fl_RX11_61_7) (hX.1.1 1 (by decide)) ?_
  rw [hX.f3]
  show AW V 0 0 h 9 [(0, .ref B), (1, .int p)] [.int (nI N.1), .int 0, .int p]
  refine a_iconst (v := 1) hb dX11_noPause_9 (by decide) ?_
  refine a_isub hb dX11_noPause_10 ?_
  refine a_callS hb dX11_noPause_11 (by rw [hg]; exact w_outside g h p 0 ((nI N.1) - 1)) (by rw [ow]; exact cls_RX11_53) rfl rfl (Nat.le_of_ble_eq_true rfl) (by rw [hr]; exact ⟨by decide, by decide⟩) (by rw [hr]; exact ⟨Nat.le_of_ble_eq_true rfl, Nat.le_of_ble_eq_true rfl⟩) ?_
  intro rv h' hq_
  rw [hq_.1, hq_.2]
  show AW V 0 0 h 14 [(0, .ref B), (1, .int p)] [.int (b2i (oO p 0 ((nI N.1) - 1)))]
  exact a_ireturn (ty := .boolean) hb hz dX11_noPause_14 hret (b2i_nb _) (by rw [hr]; exact Nat.le_of_ble_eq_true rfl) (by rw [hr]; exact Nat.le_of_ble_eq_true rfl) (⟨rfl, rfl⟩)
set_option maxRecDepth 100000 in
theorem x_noWork (g : GG) (h : AH) (B : Nat) (S : Nat → Int32) (N : NN) (hX : XN h B S N) (p : Int32) : AM g 2 0 0 mX11_noWork [.ref B, .int p] h (fun rv h' => rv = some (.int (b2i (oO p 0 (nI N.2.1 - 1)))) ∧ h' = h) := by
  refine AM.of [(0, .ref B), (1, .int p)] (by decide) (Nat.le_of_ble_eq_true rfl) rfl ?_
  intro V hV
  have hb : V.2.1.2.1 = cX11_noWork := by subst hV; rfl
  have ow : V.2.1.1.cls = RX11 := by subst hV; rfl
  have hr : V.2.2.1 = aw_rm 2 0 0 := by subst hV; rfl
  have hz : V.2.2.2 = aw_Z V.1 (fun rv h' => rv = some (.int (b2i (oO p 0 (nI N.2.1 - 1)))) ∧ h' = h) V.2.2.1 := by subst hV; rfl
  have hg : V.1 = g := by subst hV; rfl
  have hret : V.2.1.2.2.2 = (some .boolean) := by subst hV; rfl
  have hml : V.2.1.2.2.1 = 2 := by subst hV; rfl
  clear hV
  have hnp := hX.np
  have hnw := hX.nw
  refine a_iload_n hb dX11_noWork_0 rfl 1 rfl ?_
  refine a_iconst (v := 0) hb dX11_noWork_1 (by decide) ?_
  refine a_aload_n hb dX11_noWork_2 rfl 0 rfl ?_
  refine a_getQ (q := (B + 1)) hb dX11_noWork_3 (by rw [ow]; exact fl_RX11_12_11) (hX.1.1 0 (by decide)) (hX.1.2.1 (0, 0, 1) (by decide)) ?_
  refine a_getI hb dX11_noWork_6 (by rw [ow]; exact fl_RX11_152_7) (hX.1.1 1 (by decide)) ?_
  rw [hX.f7]
  show AW V 0 0 h 9 [(0, .ref B), (1, .int p)] [.int (nI N.2.1), .int 0, .int p]
  refine a_iconst (v := 1) hb dX11_noWork_9 (by decide) ?_
  refine a_isub hb dX11_noWork_10 ?_
  refine a_callS hb dX11_noWork_11 (by rw [hg]; exact w_outside g h p 0 ((nI N.2.1) - 1)) (by rw [ow]; exact cls_RX11_53) rfl rfl (Nat.le_of_ble_eq_true rfl) (by rw [hr]; exact ⟨by decide, by decide⟩) (by rw [hr]; exact ⟨Nat.le_of_ble_eq_true rfl, Nat.le_of_ble_eq_true rfl⟩) ?_
  intro rv h' hq_
  rw [hq_.1, hq_.2]
  show AW V 0 0 h 14 [(0, .ref B), (1, .int p)] [.int (b2i (oO p 0 ((nI N.2.1) - 1)))]
  exact a_ireturn (ty := .boolean) hb hz dX11_noWork_14 hret (b2i_nb _) (by rw [hr]; exact Nat.le_of_ble_eq_true rfl) (by rw [hr]; exact Nat.le_of_ble_eq_true rfl) (⟨rfl, rfl⟩)
set_option maxRecDepth 100000 in
theorem x_noLaw (g : GG) (h : AH) (B : Nat) (S : Nat → Int32) (N : NN) (hX : XN h B S N) : AM g 1 0 0 mX11_noLaw [.ref B] h (fun rv h' => rv = some (.int (if N.2.2.1 = 0 then 1 else 0)) ∧ h' = h) := by
  refine AM.of [(0, .ref B)] (by decide) (Nat.le_of_ble_eq_true rfl) rfl ?_
  intro V hV
  have hb : V.2.1.2.1 = cX11_noLaw := by subst hV; rfl
  have ow : V.2.1.1.cls = RX11 := by subst hV; rfl
  have hr : V.2.2.1 = aw_rm 1 0 0 := by subst hV; rfl
  have hz : V.2.2.2 = aw_Z V.1 (fun rv h' => rv = some (.int (if N.2.2.1 = 0 then 1 else 0)) ∧ h' = h) V.2.2.1 := by subst hV; rfl
  have hg : V.1 = g := by subst hV; rfl
  have hret : V.2.1.2.2.2 = (some .boolean) := by subst hV; rfl
  have hml : V.2.1.2.2.1 = 1 := by subst hV; rfl
  clear hV
  have hnp := hX.np
  have hnw := hX.nw
  have hnl := hX.nl
  refine a_aload_n hb dX11_noLaw_0 rfl 0 rfl ?_
  refine a_getQ (q := (B + 1)) hb dX11_noLaw_1 (by rw [ow]; exact fl_RX11_12_11) (hX.1.1 0 (by decide)) (hX.1.2.1 (0, 0, 1) (by decide)) ?_
  refine a_getI hb dX11_noLaw_4 (by rw [ow]; exact fl_RX11_112_7) (hX.1.1 1 (by decide)) ?_
  rw [hX.f5]
  show AW V 0 0 h 7 [(0, .ref B)] [.int (nI N.2.2.1)]
  refine a_if_ne hb 14 dX11_noLaw_7 (by decide) (fun c7 => ?_) (fun c7 => ?_)
  · have e0 : ¬ N.2.2.1 = 0 := fun q => c7 (by rw [q]; rfl)
    refine a_iconst (v := 0) hb dX11_noLaw_14 (by decide) ?_
    exact a_ireturn (ty := .boolean) hb hz dX11_noLaw_15 hret (by first | rfl | (simp only [narrow]; done) | exact aw_nb _) (by rw [hr]; exact Nat.le_of_ble_eq_true rfl) (by rw [hr]; exact Nat.le_of_ble_eq_true rfl) (⟨by rw [if_neg e0], rfl⟩)
  · have e0 : N.2.2.1 = 0 := (nI_eq (a := N.2.2.1) (b := 0) (by omega) (by decide)).mp (show nI N.2.2.1 = 0 by simpa using c7)
    refine a_iconst (v := 1) hb dX11_noLaw_10 (by decide) ?_
    refine a_goto hb 15 dX11_noLaw_11 (by decide) ?_
    exact a_ireturn (ty := .boolean) hb hz dX11_noLaw_15 hret (by first | rfl | (simp only [narrow]; done) | exact aw_nb _) (by rw [hr]; exact Nat.le_of_ble_eq_true rfl) (by rw [hr]; exact Nat.le_of_ble_eq_true rfl) (⟨by rw [if_pos e0], rfl⟩)
set_option maxRecDepth 100000 in
theorem x_layDemand (g : GG) (h : AH) (B vq lq hl : Nat) (S : Nat → Int32) (N : NN) (P : PF) (hC : CX g h B vq lq hl S N P) : AM g 7 0 0 mX11_layDemand [.ref B] h (fun rv h' => rv = none ∧ FR (Xd B vq) h h' ∧ ∀ t, t < 40 → hI h' (B + 21) t = dmS P S (fun _ => 0) hl (nI t) N.1) := by
  refine AM.of [(0, .ref B)] (by decide) (Nat.le_of_ble_eq_true rfl) rfl ?_
  intro V hV
  have hb : V.2.1.2.1 = cX11_layDemand := by subst hV; rfl
  have ow : V.2.1.1.cls = RX11 := by subst hV; rfl
  have hr : V.2.2.1 = aw_rm 7 0 0 := by subst hV; rfl
  have hz : V.2.2.2 = aw_Z V.1 (fun rv h' => rv = none ∧ FR (Xd B vq) h h' ∧ ∀ t, t < 40 → hI h' (B + 21) t = dmS P S (fun _ => 0) hl (nI t) N.1) V.2.2.1 := by subst hV; rfl
  have hg : V.1 = g := by subst hV; rfl
  have hret : V.2.1.2.2.2 = none := by subst hV; rfl
  have hml : V.2.1.2.2.1 = 2 := by subst hV; rfl
  clear hV
  have hvq : B + 62 ≤ vq := hC.2.1.2.2.2.2.2.1
  have hnp := hC.1.np
  have hnw := hC.1.nw
  have loop : ∀ (k i : Nat) (h1 : AH) (hFh1 : FR (Xd B vq) h h1) (ivh1 : ∀ t, t < i → hI h1 (B + 21) t = dmS P S (fun _ => 0) hl (nI t) N.1), i + k = 40 → AW V 0 0 h1 2 [(0, .ref B), (1, .int (nI i))] [] := by
    intro k
    induction k with
    | zero =>
      intro i h1 hFh1 ivh1 hi
      have hClh1 : CX g h1 B vq lq hl S N P := hC.fr (FR.mo (A := Xd B vq) (A' := Ay B vq) hFh1 (by intro a; unfold Xd Ay; omega))
      refine a_iload_n hb dX11_layDemand_2 rfl 1 rfl ?_
      refine a_bipush (v := 40) hb dX11_layDemand_3 (by decide) ?_
      refine a_icmp_ge hb 25 dX11_layDemand_5 (by decide) (fun c5 => ?_) (fun c5 => absurd (nI_le (b := i) (a := 40) (by omega) (by omega)) c5)
      exact a_return hb hz dX11_layDemand_25 hret (by rw [hr]; exact Nat.le_of_ble_eq_true rfl) (by rw [hr]; exact Nat.le_of_ble_eq_true rfl) (⟨rfl, hFh1, by rw [show i = 40 by omega] at ivh1; exact ivh1⟩)
    | succ k ih =>
      intro i h1 hFh1 ivh1 hi
      have hClh1 : CX g h1 B vq lq hl S N P := hC.fr (FR.mo (A := Xd B vq) (A' := Ay B vq) hFh1 (by intro a; unfold Xd Ay; omega))
      refine a_iload_n hb dX11_layDemand_2 rfl 1 rfl ?_
      refine a_bipush (v := 40) hb dX11_layDemand_3 (by decide) ?_
      refine a_icmp_ge hb 25 dX11_layDemand_5 (by decide) (fun c5 => absurd c5 (nI_ge (b := 40) (a := i) (by omega) (by omega))) (fun c5 => ?_)
      refine a_aload_n hb dX11_layDemand_8 rfl 0 rfl ?_
      refine a_getQ (q := (B + 21)) hb dX11_layDemand_9 (by rw [ow]; exact fl_RX11_32_11) (hClh1.1.1.1 0 (by decide)) (hClh1.1.1.2.1 (0, 4, 21) (by decide)) ?_
      refine a_iload_n hb dX11_layDemand_12 rfl 1 rfl ?_
      refine a_aload_n hb dX11_layDemand_13 rfl 0 rfl ?_
      refine a_iload_n hb dX11_layDemand_14 rfl 1 rfl ?_
      refine a_callV hb dX11_layDemand_15 (by rw [hg]; exact x_demandAt g h1 B vq lq hl S N P hClh1 (nI i)) (by rw [ow]; exact clv_RX11_148) (hClh1.1.1.1 0 (by decide)) (by decide) rfl rfl rfl (Nat.le_of_ble_eq_true rfl) (by rw [hr]; exact ⟨by decide, by decide⟩) (by rw [hr]; exact ⟨Nat.le_of_ble_eq_true rfl, Nat.le_of_ble_eq_true rfl⟩) ?_
      intro rv h1_ hp
      obtain ⟨hv, hf1⟩ := hp
      rw [hv]
      have hF1 := FR.tr hFh1 (FR.mo (A := Xv B vq) (A' := Xd B vq) hf1 (by intro a; unfold Xv Xd; omega))
      have hC1 := hC.fr (FR.mo (A := Xd B vq) (A' := Ay B vq) hF1 (by intro a; unfold Xd Ay; omega))
      clear hv
      show AW V 0 0 h1_ 18 [(0, .ref B), (1, .int (nI i))] [.int (dmS P S (fun _ => 0) hl (nI i) N.1), .int (nI i), .ref (B + 21)]
      refine b_iast (j := i) hb dX11_layDemand_18 (hC1.1.1.1 21 (by decide)) (IX.n (by omega)) (by omega) ?_
      refine a_iinc (v := ((nI i) + 1)) (L' := [(1, .int ((nI i) + 1)), (0, .ref B)]) hb dX11_layDemand_19 1 rfl rfl (by rw [hml]; decide) rfl ?_
      refine a_goto hb 2 dX11_layDemand_22 (by decide) ?_
      refine AW.sub (L' := [(0, .ref B), (1, .int ((nI i) + 1))]) [1, 0] rfl ?_
      exact AW.eq (ih (i + 1) (setI h1_ (B + 21) i (dmS P S (fun _ => 0) hl (nI i) N.1)) (FR.I hF1 (by unfold Xd; omega)) (rowI (fun t q => by rw [hf1.2.2.2.2 (B + 21) (by unfold Xv; omega)]; exact ivh1 t q) rfl) (by omega)) rfl rfl (by first | (simp only [nI_1]; done) | (simp only [nI_1]; rfl)) rfl
  refine a_iconst (v := 0) hb dX11_layDemand_0 (by decide) ?_
  refine a_istore_n (L' := [(1, .int 0), (0, .ref B)]) hb dX11_layDemand_1 rfl (by rw [hml]; decide) rfl ?_
  refine AW.sub (L' := [(0, .ref B), (1, .int 0)]) [1, 0] rfl ?_
  exact AW.eq (loop 40 0 h FR.rf row0 (by omega)) rfl rfl (rfl) rfl
set_option maxRecDepth 100000 in
theorem x_layMade22 (g : GG) (h : AH) (B vq lq hl : Nat) (S : Nat → Int32) (N : NN) (P : PF) (hC : CX g h B vq lq hl S N P) (lo : Int32) : AM g 4 0 0 mX11_layMade [.ref B, .ref (B + 22), .int lo] h (fun rv h' => rv = none ∧ FR (Xm B vq) h h' ∧ ∀ t, t < 40 → hI h' (B + 22) t = mdB S lo (nI t) N.2.1) := by
  refine AM.of [(0, .ref B), (1, .ref (B + 22)), (2, .int lo)] (by decide) (Nat.le_of_ble_eq_true rfl) rfl ?_
  intro V hV
  have hb : V.2.1.2.1 = cX11_layMade := by subst hV; rfl
  have ow : V.2.1.1.cls = RX11 := by subst hV; rfl
  have hr : V.2.2.1 = aw_rm 4 0 0 := by subst hV; rfl
  have hz : V.2.2.2 = aw_Z V.1 (fun rv h' => rv = none ∧ FR (Xm B vq) h h' ∧ ∀ t, t < 40 → hI h' (B + 22) t = mdB S lo (nI t) N.2.1) V.2.2.1 := by subst hV; rfl
  have hg : V.1 = g := by subst hV; rfl
  have hret : V.2.1.2.2.2 = none := by subst hV; rfl
  have hml : V.2.1.2.2.1 = 4 := by subst hV; rfl
  clear hV
  have hvq : B + 62 ≤ vq := hC.2.1.2.2.2.2.2.1
  have hnp := hC.1.np
  have hnw := hC.1.nw
  have loop : ∀ (k i : Nat) (h1 : AH) (hFh1 : FR (Xm B vq) h h1) (ivh1 : ∀ t, t < i → hI h1 (B + 22) t = mdB S lo (nI t) N.2.1), i + k = 40 → AW V 0 0 h1 2 [(0, .ref B), (1, .ref (B + 22)), (2, .int lo), (3, .int (nI i))] [] := by
    intro k
    induction k with
    | zero =>
      intro i h1 hFh1 ivh1 hi
      have hClh1 : CX g h1 B vq lq hl S N P := hC.fr (FR.mo (A := Xm B vq) (A' := Ay B vq) hFh1 (by intro a; unfold Xm Ay; omega))
      refine a_iload_n hb dX11_layMade_2 rfl 3 rfl ?_
      refine a_bipush (v := 40) hb dX11_layMade_3 (by decide) ?_
      refine a_icmp_ge hb 23 dX11_layMade_5 (by decide) (fun c5 => ?_) (fun c5 => absurd (nI_le (b := i) (a := 40) (by omega) (by omega)) c5)
      exact a_return hb hz dX11_layMade_23 hret (by rw [hr]; exact Nat.le_of_ble_eq_true rfl) (by rw [hr]; exact Nat.le_of_ble_eq_true rfl) (⟨rfl, hFh1, by rw [show i = 40 by omega] at ivh1; exact ivh1⟩)
    | succ k ih =>
      intro i h1 hFh1 ivh1 hi
      have hClh1 : CX g h1 B vq lq hl S N P := hC.fr (FR.mo (A := Xm B vq) (A' := Ay B vq) hFh1 (by intro a; unfold Xm Ay; omega))
      refine a_iload_n hb dX11_layMade_2 rfl 3 rfl ?_
      refine a_bipush (v := 40) hb dX11_layMade_3 (by decide) ?_
      refine a_icmp_ge hb 23 dX11_layMade_5 (by decide) (fun c5 => absurd c5 (nI_ge (b := 40) (a := i) (by omega) (by omega))) (fun c5 => ?_)
      refine a_aload_n hb dX11_layMade_8 rfl 1 rfl ?_
      refine a_iload_n hb dX11_layMade_9 rfl 3 rfl ?_
      refine a_aload_n hb dX11_layMade_10 rfl 0 rfl ?_
      refine a_iload_n hb dX11_layMade_11 rfl 3 rfl ?_
      refine a_iload_n hb dX11_layMade_12 rfl 2 rfl ?_
      refine a_callV hb dX11_layMade_13 (by rw [hg]; exact x_madeAt g h1 B S N hClh1.1 (nI i) lo) (by rw [ow]; exact clv_RX11_182) (hClh1.1.1.1 0 (by decide)) (by decide) rfl rfl rfl (Nat.le_of_ble_eq_true rfl) (by rw [hr]; exact ⟨by decide, by decide⟩) (by rw [hr]; exact ⟨Nat.le_of_ble_eq_true rfl, Nat.le_of_ble_eq_true rfl⟩) ?_
      intro rv h' hq_
      rw [hq_.1, hq_.2]
      show AW V 0 0 h1 16 [(0, .ref B), (1, .ref (B + 22)), (2, .int lo), (3, .int (nI i))] [.int (mdB S lo (nI i) N.2.1), .int (nI i), .ref (B + 22)]
      refine b_iast (j := i) hb dX11_layMade_16 (hClh1.1.1.1 22 (by decide)) (IX.n (by omega)) (by omega) ?_
      refine a_iinc (v := ((nI i) + 1)) (L' := [(3, .int ((nI i) + 1)), (0, .ref B), (1, .ref (B + 22)), (2, .int lo)]) hb dX11_layMade_17 3 rfl rfl (by rw [hml]; decide) rfl ?_
      refine a_goto hb 2 dX11_layMade_20 (by decide) ?_
      refine AW.sub (L' := [(0, .ref B), (1, .ref (B + 22)), (2, .int lo), (3, .int ((nI i) + 1))]) [1, 2, 3, 0] rfl ?_
      exact AW.eq (ih (i + 1) (setI h1 (B + 22) i (mdB S lo (nI i) N.2.1)) (FR.I hFh1 (by unfold Xm; omega)) (rowI ivh1 rfl) (by omega)) rfl rfl (by first | (simp only [nI_1]; done) | (simp only [nI_1]; rfl)) rfl
  refine a_iconst (v := 0) hb dX11_layMade_0 (by decide) ?_
  refine a_istore_n (L' := [(3, .int 0), (0, .ref B), (1, .ref (B + 22)), (2, .int lo)]) hb dX11_layMade_1 rfl (by rw [hml]; decide) rfl ?_
  refine AW.sub (L' := [(0, .ref B), (1, .ref (B + 22)), (2, .int lo), (3, .int 0)]) [1, 2, 3, 0] rfl ?_
  exact AW.eq (loop 40 0 h FR.rf row0 (by omega)) rfl rfl (rfl) rfl
set_option maxRecDepth 100000 in
theorem x_layMade23 (g : GG) (h : AH) (B vq lq hl : Nat) (S : Nat → Int32) (N : NN) (P : PF) (hC : CX g h B vq lq hl S N P) (lo : Int32) : AM g 4 0 0 mX11_layMade [.ref B, .ref (B + 23), .int lo] h (fun rv h' => rv = none ∧ FR (Xo B vq) h h' ∧ ∀ t, t < 40 → hI h' (B + 23) t = mdB S lo (nI t) N.2.1) := by
  refine AM.of [(0, .ref B), (1, .ref (B + 23)), (2, .int lo)] (by decide) (Nat.le_of_ble_eq_true rfl) rfl ?_
  intro V hV
  have hb : V.2.1.2.1 = cX11_layMade := by subst hV; rfl
  have ow : V.2.1.1.cls = RX11 := by subst hV; rfl
  have hr : V.2.2.1 = aw_rm 4 0 0 := by subst hV; rfl
  have hz : V.2.2.2 = aw_Z V.1 (fun rv h' => rv = none ∧ FR (Xo B vq) h h' ∧ ∀ t, t < 40 → hI h' (B + 23) t = mdB S lo (nI t) N.2.1) V.2.2.1 := by subst hV; rfl
  have hg : V.1 = g := by subst hV; rfl
  have hret : V.2.1.2.2.2 = none := by subst hV; rfl
  have hml : V.2.1.2.2.1 = 4 := by subst hV; rfl
  clear hV
  have hvq : B + 62 ≤ vq := hC.2.1.2.2.2.2.2.1
  have hnp := hC.1.np
  have hnw := hC.1.nw
  have loop : ∀ (k i : Nat) (h1 : AH) (hFh1 : FR (Xo B vq) h h1) (ivh1 : ∀ t, t < i → hI h1 (B + 23) t = mdB S lo (nI t) N.2.1), i + k = 40 → AW V 0 0 h1 2 [(0, .ref B), (1, .ref (B + 23)), (2, .int lo), (3, .int (nI i))] [] := by
    intro k
    induction k with
    | zero =>
      intro i h1 hFh1 ivh1 hi
      have hClh1 : CX g h1 B vq lq hl S N P := hC.fr (FR.mo (A := Xo B vq) (A' := Ay B vq) hFh1 (by intro a; unfold Xo Ay; omega))
      refine a_iload_n hb dX11_layMade_2 rfl 3 rfl ?_
      refine a_bipush (v := 40) hb dX11_layMade_3 (by decide) ?_
      refine a_icmp_ge hb 23 dX11_layMade_5 (by decide) (fun c5 => ?_) (fun c5 => absurd (nI_le (b := i) (a := 40) (by omega) (by omega)) c5)
      exact a_return hb hz dX11_layMade_23 hret (by rw [hr]; exact Nat.le_of_ble_eq_true rfl) (by rw [hr]; exact Nat.le_of_ble_eq_true rfl) (⟨rfl, hFh1, by rw [show i = 40 by omega] at ivh1; exact ivh1⟩)
    | succ k ih =>
      intro i h1 hFh1 ivh1 hi
      have hClh1 : CX g h1 B vq lq hl S N P := hC.fr (FR.mo (A := Xo B vq) (A' := Ay B vq) hFh1 (by intro a; unfold Xo Ay; omega))
      refine a_iload_n hb dX11_layMade_2 rfl 3 rfl ?_
      refine a_bipush (v := 40) hb dX11_layMade_3 (by decide) ?_
      refine a_icmp_ge hb 23 dX11_layMade_5 (by decide) (fun c5 => absurd c5 (nI_ge (b := 40) (a := i) (by omega) (by omega))) (fun c5 => ?_)
      refine a_aload_n hb dX11_layMade_8 rfl 1 rfl ?_
      refine a_iload_n hb dX11_layMade_9 rfl 3 rfl ?_
      refine a_aload_n hb dX11_layMade_10 rfl 0 rfl ?_
      refine a_iload_n hb dX11_layMade_11 rfl 3 rfl ?_
      refine a_iload_n hb dX11_layMade_12 rfl 2 rfl ?_
      refine a_callV hb dX11_layMade_13 (by rw [hg]; exact x_madeAt g h1 B S N hClh1.1 (nI i) lo) (by rw [ow]; exact clv_RX11_182) (hClh1.1.1.1 0 (by decide)) (by decide) rfl rfl rfl (Nat.le_of_ble_eq_true rfl) (by rw [hr]; exact ⟨by decide, by decide⟩) (by rw [hr]; exact ⟨Nat.le_of_ble_eq_true rfl, Nat.le_of_ble_eq_true rfl⟩) ?_
      intro rv h' hq_
      rw [hq_.1, hq_.2]
      show AW V 0 0 h1 16 [(0, .ref B), (1, .ref (B + 23)), (2, .int lo), (3, .int (nI i))] [.int (mdB S lo (nI i) N.2.1), .int (nI i), .ref (B + 23)]
      refine b_iast (j := i) hb dX11_layMade_16 (hClh1.1.1.1 23 (by decide)) (IX.n (by omega)) (by omega) ?_
      refine a_iinc (v := ((nI i) + 1)) (L' := [(3, .int ((nI i) + 1)), (0, .ref B), (1, .ref (B + 23)), (2, .int lo)]) hb dX11_layMade_17 3 rfl rfl (by rw [hml]; decide) rfl ?_
      refine a_goto hb 2 dX11_layMade_20 (by decide) ?_
      refine AW.sub (L' := [(0, .ref B), (1, .ref (B + 23)), (2, .int lo), (3, .int ((nI i) + 1))]) [1, 2, 3, 0] rfl ?_
      exact AW.eq (ih (i + 1) (setI h1 (B + 23) i (mdB S lo (nI i) N.2.1)) (FR.I hFh1 (by unfold Xo; omega)) (rowI ivh1 rfl) (by omega)) rfl rfl (by first | (simp only [nI_1]; done) | (simp only [nI_1]; rfl)) rfl
  refine a_iconst (v := 0) hb dX11_layMade_0 (by decide) ?_
  refine a_istore_n (L' := [(3, .int 0), (0, .ref B), (1, .ref (B + 23)), (2, .int lo)]) hb dX11_layMade_1 rfl (by rw [hml]; decide) rfl ?_
  refine AW.sub (L' := [(0, .ref B), (1, .ref (B + 23)), (2, .int lo), (3, .int 0)]) [1, 2, 3, 0] rfl ?_
  exact AW.eq (loop 40 0 h FR.rf row0 (by omega)) rfl rfl (rfl) rfl
set_option maxRecDepth 100000 in
theorem x_pushAt (g : GG) (h : AH) (B vq lq hl : Nat) (S : Nat → Int32) (N : NN) (P : PF) (hC : CX g h B vq lq hl S N P) (t : Nat) (ht : t < 40) (ine : Int32) (hin : oO ine 1 999 = false) : AM g 1 0 0 mX11_pushAt [.ref B, .int (nI t), .int ine] h (fun rv h' => rv = some (.int (psh (hI h (B + 22)) (hI h (B + 21)) ine t)) ∧ h' = h) := by
  refine AM.of [(0, .ref B), (1, .int (nI t)), (2, .int ine)] (by decide) (Nat.le_of_ble_eq_true rfl) rfl ?_
  intro V hV
  have hb : V.2.1.2.1 = cX11_pushAt := by subst hV; rfl
  have ow : V.2.1.1.cls = RX11 := by subst hV; rfl
  have hr : V.2.2.1 = aw_rm 1 0 0 := by subst hV; rfl
  have hz : V.2.2.2 = aw_Z V.1 (fun rv h' => rv = some (.int (psh (hI h (B + 22)) (hI h (B + 21)) ine t)) ∧ h' = h) V.2.2.1 := by subst hV; rfl
  have hg : V.1 = g := by subst hV; rfl
  have hret : V.2.1.2.2.2 = (some .int) := by subst hV; rfl
  have hml : V.2.1.2.2.1 = 3 := by subst hV; rfl
  clear hV
  have hvq : B + 62 ≤ vq := hC.2.1.2.2.2.2.2.1
  have hnp := hC.1.np
  have hnw := hC.1.nw
  refine a_aload_n hb dX11_pushAt_0 rfl 0 rfl ?_
  refine a_getQ (q := (B + 22)) hb dX11_pushAt_1 (by rw [ow]; exact fl_RX11_36_11) (hC.1.1.1 0 (by decide)) (hC.1.1.2.1 (0, 5, 22) (by decide)) ?_
  refine a_iload_n hb dX11_pushAt_4 rfl 1 rfl ?_
  refine b_iald (j := t) hb dX11_pushAt_5 (hC.1.1.1 22 (by decide)) (IX.n (by omega)) (by omega) ?_
  refine a_aload_n hb dX11_pushAt_6 rfl 0 rfl ?_
  refine a_getQ (q := (B + 21)) hb dX11_pushAt_7 (by rw [ow]; exact fl_RX11_32_11) (hC.1.1.1 0 (by decide)) (hC.1.1.2.1 (0, 4, 21) (by decide)) ?_
  refine a_iload_n hb dX11_pushAt_10 rfl 1 rfl ?_
  refine b_iald (j := t) hb dX11_pushAt_11 (hC.1.1.1 21 (by decide)) (IX.n (by omega)) (by omega) ?_
  refine a_isub hb dX11_pushAt_12 ?_
  refine a_bipush (v := 10) hb dX11_pushAt_13 (by decide) ?_
  refine a_imul hb dX11_pushAt_15 ?_
  refine a_iconst (v := 1) hb dX11_pushAt_16 (by decide) ?_
  refine a_iload_n hb dX11_pushAt_17 rfl 2 rfl ?_
  refine a_mmax hb dX11_pushAt_18 (by rw [ow]; exact kw_787) kw_490 kw_94 kw_491 (by rw [hr]; exact ⟨by decide, Nat.le_of_ble_eq_true rfl⟩) (by rw [hr]; exact ⟨Nat.le_of_ble_eq_true rfl, Nat.le_of_ble_eq_true rfl⟩) ?_
  rw [mx1 hin]
  show AW V 0 0 h 21 [(0, .ref B), (1, .int (nI t)), (2, .int ine)] [.int ine, .int (((hI h (B + 22) t) - (hI h (B + 21) t)) * 10)]
  refine a_idiv hb dX11_pushAt_21 (ge1_ne hin) ?_
  exact a_ireturn (ty := .int) hb hz dX11_pushAt_22 hret rfl (by rw [hr]; exact Nat.le_of_ble_eq_true rfl) (by rw [hr]; exact Nat.le_of_ble_eq_true rfl) (⟨rfl, rfl⟩)
set_option maxRecDepth 100000 in
theorem x_firstBeyond (g : GG) (h : AH) (B vq lq hl : Nat) (S : Nat → Int32) (N : NN) (P : PF) (hC : CX g h B vq lq hl S N P) (c : Int32) (ine : Int32) (hin : oO ine 1 999 = false) : AM g 2 0 0 mX11_firstBeyond [.ref B, .int c, .int ine] h (fun rv h' => rv = some (.int (fiS (fun t => biS (hI h (B + 22)) (hI h (B + 21)) ine (t + 1)) c 0 40)) ∧ h' = h) := by
  refine AM.of [(0, .ref B), (1, .int c), (2, .int ine)] (by decide) (Nat.le_of_ble_eq_true rfl) rfl ?_
  intro V hV
  have hb : V.2.1.2.1 = cX11_firstBeyond := by subst hV; rfl
  have ow : V.2.1.1.cls = RX11 := by subst hV; rfl
  have hr : V.2.2.1 = aw_rm 2 0 0 := by subst hV; rfl
  have hz : V.2.2.2 = aw_Z V.1 (fun rv h' => rv = some (.int (fiS (fun t => biS (hI h (B + 22)) (hI h (B + 21)) ine (t + 1)) c 0 40)) ∧ h' = h) V.2.2.1 := by subst hV; rfl
  have hg : V.1 = g := by subst hV; rfl
  have hret : V.2.1.2.2.2 = (some .int) := by subst hV; rfl
  have hml : V.2.1.2.2.1 = 5 := by subst hV; rfl
  clear hV
  have hvq : B + 62 ≤ vq := hC.2.1.2.2.2.2.2.1
  have hnp := hC.1.np
  have hnw := hC.1.nw
  generalize hR : fiS (fun t => biS (hI h (B + 22)) (hI h (B + 21)) ine (t + 1)) c 0 40 = R at hz
  have loop : ∀ (k i : Nat) (iv : fiS (fun t => biS (hI h (B + 22)) (hI h (B + 21)) ine (t + 1)) c i k = R), i + k = 40 → AW V 0 0 h 5 [(0, .ref B), (1, .int c), (2, .int ine), (3, .int (biS (hI h (B + 22)) (hI h (B + 21)) ine i)), (4, .int (nI i))] [] := by
    intro k
    induction k with
    | zero =>
      intro i iv hi
      refine a_iload hb dX11_firstBeyond_5 4 rfl ?_
      refine a_bipush (v := 40) hb dX11_firstBeyond_7 (by decide) ?_
      refine a_icmp_ge hb 39 dX11_firstBeyond_9 (by decide) (fun c9 => ?_) (fun c9 => absurd (nI_le (b := i) (a := 40) (by omega) (by omega)) c9)
      refine a_bipush (v := (-5)) hb dX11_firstBeyond_39 (by decide) ?_
      exact a_ireturn (ty := .int) hb hz dX11_firstBeyond_41 hret rfl (by rw [hr]; exact Nat.le_of_ble_eq_true rfl) (by rw [hr]; exact Nat.le_of_ble_eq_true rfl) (⟨by rw [← iv]; rfl, rfl⟩)
    | succ k ih =>
      intro i iv hi
      refine a_iload hb dX11_firstBeyond_5 4 rfl ?_
      refine a_bipush (v := 40) hb dX11_firstBeyond_7 (by decide) ?_
      refine a_icmp_ge hb 39 dX11_firstBeyond_9 (by decide) (fun c9 => absurd c9 (nI_ge (b := 40) (a := i) (by omega) (by omega))) (fun c9 => ?_)
      refine a_iload_n hb dX11_firstBeyond_12 rfl 3 rfl ?_
      refine a_aload_n hb dX11_firstBeyond_13 rfl 0 rfl ?_
      refine a_iload hb dX11_firstBeyond_14 4 rfl ?_
      refine a_iload_n hb dX11_firstBeyond_16 rfl 2 rfl ?_
      refine a_callV hb dX11_firstBeyond_17 (by rw [hg]; exact x_pushAt g h B vq lq hl S N P hC i (by omega) ine hin) (by rw [ow]; exact clv_RX11_197) (hC.1.1.1 0 (by decide)) (by decide) rfl rfl rfl (Nat.le_of_ble_eq_true rfl) (by rw [hr]; exact ⟨by decide, by decide⟩) (by rw [hr]; exact ⟨Nat.le_of_ble_eq_true rfl, Nat.le_of_ble_eq_true rfl⟩) ?_
      intro rv h' hq_
      rw [hq_.1, hq_.2]
      show AW V 0 0 h 20 [(0, .ref B), (1, .int c), (2, .int ine), (3, .int (biS (hI h (B + 22)) (hI h (B + 21)) ine i)), (4, .int (nI i))] [.int (psh (hI h (B + 22)) (hI h (B + 21)) ine i), .int (biS (hI h (B + 22)) (hI h (B + 21)) ine i)]
      refine a_iadd hb dX11_firstBeyond_20 ?_
      refine a_istore_n (L' := [(3, .int ((biS (hI h (B + 22)) (hI h (B + 21)) ine i) + (psh (hI h (B + 22)) (hI h (B + 21)) ine i))), (0, .ref B), (1, .int c), (2, .int ine), (4, .int (nI i))]) hb dX11_firstBeyond_21 rfl (by rw [hml]; decide) rfl ?_
      refine a_iload_n hb dX11_firstBeyond_22 rfl 0 rfl ?_
      refine a_mabs hb dX11_firstBeyond_23 (by rw [ow]; exact kw_799) kw_800 kw_94 kw_801 (by rw [hr]; exact ⟨by decide, Nat.le_of_ble_eq_true rfl⟩) (by rw [hr]; exact ⟨Nat.le_of_ble_eq_true rfl, Nat.le_of_ble_eq_true rfl⟩) ?_
      refine a_iload_n hb dX11_firstBeyond_26 rfl 2 rfl ?_
      refine a_icmp_le hb 33 dX11_firstBeyond_27 (by decide) (fun c27 => ?_) (fun c27 => ?_)
      · refine a_iinc (v := ((nI i) + 1)) (L' := [(4, .int ((nI i) + 1)), (3, .int ((biS (hI h (B + 22)) (hI h (B + 21)) ine i) + (psh (hI h (B + 22)) (hI h (B + 21)) ine i))), (0, .ref B), (1, .int c), (2, .int ine)]) hb dX11_firstBeyond_33 4 rfl rfl (by rw [hml]; decide) rfl ?_
        refine a_goto hb 5 dX11_firstBeyond_36 (by decide) ?_
        refine AW.sub (L' := [(0, .ref B), (1, .int c), (2, .int ine), (3, .int ((biS (hI h (B + 22)) (hI h (B + 21)) ine i) + (psh (hI h (B + 22)) (hI h (B + 21)) ine i))), (4, .int ((nI i) + 1))]) [2, 3, 4, 1, 0] rfl ?_
        exact AW.eq (ih (i + 1) ((fi_0 (bi := fun t => biS (hI h (B + 22)) (hI h (B + 21)) ine (t + 1)) (Int32.not_lt.mpr c27)).symm.trans iv) (by omega)) rfl rfl (by first | (simp only [nI_1]; done) | (simp only [nI_1]; rfl)) rfl
      · refine a_iload hb dX11_firstBeyond_30 4 rfl ?_
        exact a_ireturn (ty := .int) hb hz dX11_firstBeyond_32 hret rfl (by rw [hr]; exact Nat.le_of_ble_eq_true rfl) (by rw [hr]; exact Nat.le_of_ble_eq_true rfl) (⟨by rw [← iv]; exact congrArg (fun v => some (Value.int v)) (fi_1 (bi := fun t => biS (hI h (B + 22)) (hI h (B + 21)) ine (t + 1)) (Int32.not_le.mp c27)).symm, rfl⟩)
  refine a_iconst (v := 0) hb dX11_firstBeyond_0 (by decide) ?_
  refine a_istore_n (L' := [(3, .int 0), (0, .ref B), (1, .int c), (2, .int ine)]) hb dX11_firstBeyond_1 rfl (by rw [hml]; decide) rfl ?_
  refine a_iconst (v := 0) hb dX11_firstBeyond_2 (by decide) ?_
  refine a_istore (L' := [(4, .int 0), (3, .int 0), (0, .ref B), (1, .int c), (2, .int ine)]) hb dX11_firstBeyond_3 (by rw [hml]; decide) rfl ?_
  refine AW.sub (L' := [(0, .ref B), (1, .int c), (2, .int ine), (3, .int 0), (4, .int 0)]) [2, 3, 4, 1, 0] rfl ?_
  exact AW.eq (loop 40 0 hR (by omega)) rfl rfl (rfl) rfl
set_option maxRecDepth 100000 in
theorem x_demand (g : GG) (h : AH) (B vq lq hl : Nat) (S : Nat → Int32) (N : NN) (P : PF) (hC : CX g h B vq lq hl S N P) (t : Int32) : AM g 7 0 0 mX11_demand [.ref B, .int t] h (fun rv h' => rv = some (.int (if oO t 0 39 then -10002 else dmS P S (fun _ => 0) hl t N.1)) ∧ FR (Xv B vq) h h') := by
  refine AM.of [(0, .ref B), (1, .int t)] (by decide) (Nat.le_of_ble_eq_true rfl) rfl ?_
  intro V hV
  have hb : V.2.1.2.1 = cX11_demand := by subst hV; rfl
  have ow : V.2.1.1.cls = RX11 := by subst hV; rfl
  have hr : V.2.2.1 = aw_rm 7 0 0 := by subst hV; rfl
  have hz : V.2.2.2 = aw_Z V.1 (fun rv h' => rv = some (.int (if oO t 0 39 then -10002 else dmS P S (fun _ => 0) hl t N.1)) ∧ FR (Xv B vq) h h') V.2.2.1 := by subst hV; rfl
  have hg : V.1 = g := by subst hV; rfl
  have hret : V.2.1.2.2.2 = (some .int) := by subst hV; rfl
  have hml : V.2.1.2.2.1 = 2 := by subst hV; rfl
  clear hV
  have hvq : B + 62 ≤ vq := hC.2.1.2.2.2.2.2.1
  have hnp := hC.1.np
  have hnw := hC.1.nw
  refine a_aload_n hb dX11_demand_0 rfl 0 rfl ?_
  refine a_callV hb dX11_demand_1 (by rw [hg]; exact x_noLaw g h B S N hC.1) (by rw [ow]; exact clv_RX11_136) (hC.1.1.1 0 (by decide)) (by decide) rfl rfl rfl (Nat.le_of_ble_eq_true rfl) (by rw [hr]; exact ⟨by decide, by decide⟩) (by rw [hr]; exact ⟨Nat.le_of_ble_eq_true rfl, Nat.le_of_ble_eq_true rfl⟩) ?_
  intro rv h' hq_
  rw [hq_.1, hq_.2, if_neg (by have := hC.2.1.1; omega)]
  show AW V 0 0 h 4 [(0, .ref B), (1, .int t)] [.int 0]
  refine a_if_eq hb 11 dX11_demand_4 (by decide) (fun c4 => ?_) (fun c4 => absurd (by decide) c4)
  refine a_iload_n hb dX11_demand_11 rfl 1 rfl ?_
  refine a_callS hb dX11_demand_12 (by rw [hg]; exact w_noTick g h t) (by rw [ow]; exact cls_RX11_57) rfl rfl (Nat.le_of_ble_eq_true rfl) (by rw [hr]; exact ⟨by decide, by decide⟩) (by rw [hr]; exact ⟨Nat.le_of_ble_eq_true rfl, Nat.le_of_ble_eq_true rfl⟩) ?_
  intro rv h' hq_
  rw [hq_.1, hq_.2]
  show AW V 0 0 h 15 [(0, .ref B), (1, .int t)] [.int (b2i (oO t 0 39))]
  refine a_if_eq hb 22 dX11_demand_15 (by decide) (fun c15 => ?_) (fun c15 => ?_)
  · simp [b2i_0] at c15
    refine a_aload_n hb dX11_demand_22 rfl 0 rfl ?_
    refine a_iload_n hb dX11_demand_23 rfl 1 rfl ?_
    refine a_callV hb dX11_demand_24 (by rw [hg]; exact x_demandAt g h B vq lq hl S N P hC t) (by rw [ow]; exact clv_RX11_148) (hC.1.1.1 0 (by decide)) (by decide) rfl rfl rfl (Nat.le_of_ble_eq_true rfl) (by rw [hr]; exact ⟨by decide, by decide⟩) (by rw [hr]; exact ⟨Nat.le_of_ble_eq_true rfl, Nat.le_of_ble_eq_true rfl⟩) ?_
    intro rv h1_ hp
    obtain ⟨hv, hf1⟩ := hp
    rw [hv]
    have hF1 := FR.tr FR.rf hf1
    have hC1 := hC.fr (FR.mo (A := Xv B vq) (A' := Ay B vq) hF1 (by intro a; unfold Xv Ay; omega))
    clear hv
    show AW V 0 0 h1_ 27 [(0, .ref B), (1, .int t)] [.int (dmS P S (fun _ => 0) hl t N.1)]
    exact a_ireturn (ty := .int) hb hz dX11_demand_27 hret rfl (by rw [hr]; exact Nat.le_of_ble_eq_true rfl) (by rw [hr]; exact Nat.le_of_ble_eq_true rfl) (⟨(by rw [if_neg (by simp [c15])]), hF1⟩)
  · simp [b2i_0] at c15
    refine a_sipush (v := (-10002)) hb dX11_demand_18 (by decide) ?_
    exact a_ireturn (ty := .int) hb hz dX11_demand_21 hret rfl (by rw [hr]; exact Nat.le_of_ble_eq_true rfl) (by rw [hr]; exact Nat.le_of_ble_eq_true rfl) (⟨(by rw [if_pos (by simp [c15])]), FR.rf⟩)
set_option maxRecDepth 100000 in
theorem x_drawn (g : GG) (h : AH) (B vq lq hl : Nat) (S : Nat → Int32) (N : NN) (P : PF) (hC : CX g h B vq lq hl S N P) (p t : Int32) : AM g 6 0 0 mX11_drawn [.ref B, .int p, .int t] h (fun rv h' => rv = some (.int (if oO p 0 (nI N.1 - 1) then -1001 else if oO t 0 39 then -1002 else dwS P S (fun _ => 0) hl t p.toNatClampNeg)) ∧ FR (Xv B vq) h h') := by
  refine AM.of [(0, .ref B), (1, .int p), (2, .int t)] (by decide) (Nat.le_of_ble_eq_true rfl) rfl ?_
  intro V hV
  have hb : V.2.1.2.1 = cX11_drawn := by subst hV; rfl
  have ow : V.2.1.1.cls = RX11 := by subst hV; rfl
  have hr : V.2.2.1 = aw_rm 6 0 0 := by subst hV; rfl
  have hz : V.2.2.2 = aw_Z V.1 (fun rv h' => rv = some (.int (if oO p 0 (nI N.1 - 1) then -1001 else if oO t 0 39 then -1002 else dwS P S (fun _ => 0) hl t p.toNatClampNeg)) ∧ FR (Xv B vq) h h') V.2.2.1 := by subst hV; rfl
  have hg : V.1 = g := by subst hV; rfl
  have hret : V.2.1.2.2.2 = (some .int) := by subst hV; rfl
  have hml : V.2.1.2.2.1 = 4 := by subst hV; rfl
  clear hV
  have hvq : B + 62 ≤ vq := hC.2.1.2.2.2.2.2.1
  have hnp := hC.1.np
  have hnw := hC.1.nw
  refine a_aload_n hb dX11_drawn_0 rfl 0 rfl ?_
  refine a_iload_n hb dX11_drawn_1 rfl 1 rfl ?_
  refine a_callV hb dX11_drawn_2 (by rw [hg]; exact x_noPause g h B S N hC.1 p) (by rw [ow]; exact clv_RX11_79) (hC.1.1.1 0 (by decide)) (by decide) rfl rfl rfl (Nat.le_of_ble_eq_true rfl) (by rw [hr]; exact ⟨by decide, by decide⟩) (by rw [hr]; exact ⟨Nat.le_of_ble_eq_true rfl, Nat.le_of_ble_eq_true rfl⟩) ?_
  intro rv h' hq_
  rw [hq_.1, hq_.2]
  show AW V 0 0 h 5 [(0, .ref B), (1, .int p), (2, .int t)] [.int (b2i (oO p 0 (nI N.1 - 1)))]
  refine a_if_ne hb 15 dX11_drawn_5 (by decide) (fun c5 => ?_) (fun c5 => ?_)
  · simp [b2i_0] at c5
    refine a_sipush (v := (-1001)) hb dX11_drawn_15 (by decide) ?_
    exact a_ireturn (ty := .int) hb hz dX11_drawn_18 hret rfl (by rw [hr]; exact Nat.le_of_ble_eq_true rfl) (by rw [hr]; exact Nat.le_of_ble_eq_true rfl) (⟨(by rw [if_pos (by simp [c5])]), FR.rf⟩)
  · simp [b2i_0] at c5
    obtain ⟨p_, rfl, lp⟩ := c_lt (n := N.1) (by omega) (by simpa using c5)
    refine a_aload_n hb dX11_drawn_8 rfl 0 rfl ?_
    refine a_callV hb dX11_drawn_9 (by rw [hg]; exact x_noLaw g h B S N hC.1) (by rw [ow]; exact clv_RX11_136) (hC.1.1.1 0 (by decide)) (by decide) rfl rfl rfl (Nat.le_of_ble_eq_true rfl) (by rw [hr]; exact ⟨by decide, by decide⟩) (by rw [hr]; exact ⟨Nat.le_of_ble_eq_true rfl, Nat.le_of_ble_eq_true rfl⟩) ?_
    intro rv h' hq_
    rw [hq_.1, hq_.2, if_neg (by have := hC.2.1.1; omega)]
    show AW V 0 0 h 12 [(0, .ref B), (1, .int (nI p_)), (2, .int t)] [.int 0]
    refine a_if_eq hb 19 dX11_drawn_12 (by decide) (fun c12 => ?_) (fun c12 => absurd (by decide) c12)
    refine a_iload_n hb dX11_drawn_19 rfl 2 rfl ?_
    refine a_callS hb dX11_drawn_20 (by rw [hg]; exact w_noTick g h t) (by rw [ow]; exact cls_RX11_57) rfl rfl (Nat.le_of_ble_eq_true rfl) (by rw [hr]; exact ⟨by decide, by decide⟩) (by rw [hr]; exact ⟨Nat.le_of_ble_eq_true rfl, Nat.le_of_ble_eq_true rfl⟩) ?_
    intro rv h' hq_
    rw [hq_.1, hq_.2]
    show AW V 0 0 h 23 [(0, .ref B), (1, .int (nI p_)), (2, .int t)] [.int (b2i (oO t 0 39))]
    refine a_if_eq hb 30 dX11_drawn_23 (by decide) (fun c23 => ?_) (fun c23 => ?_)
    · simp [b2i_0] at c23
      refine a_aload_n hb dX11_drawn_30 rfl 0 rfl ?_
      refine a_getQ (q := (B + 1)) hb dX11_drawn_31 (by rw [ow]; exact fl_RX11_12_11) (hC.1.1.1 0 (by decide)) (hC.1.1.2.1 (0, 0, 1) (by decide)) ?_
      refine a_getQ (q := (B + 2)) hb dX11_drawn_34 (by rw [ow]; exact fl_RX11_65_7) (hC.1.1.1 1 (by decide)) (hC.1.1.2.1 (1, 0, 2) (by decide)) ?_
      refine a_iload_n hb dX11_drawn_37 rfl 1 rfl ?_
      obtain ⟨q1, hq1, po1⟩ := hC.1.ps (p := p_) (by omega)
      refine b_aaldS (j := p_) (q := q1) hb dX11_drawn_38 (hC.1.1.1 2 (by decide)) (by decide) (by decide) (IX.n (by omega)) (by omega) hq1 ?_
      refine a_astore_n (L' := [(3, .ref q1), (0, .ref B), (1, .int (nI p_)), (2, .int t)]) hb dX11_drawn_39 rfl (by rw [hml]; decide) rfl ?_
      refine a_aload_n hb dX11_drawn_40 rfl 0 rfl ?_
      refine a_aload_n hb dX11_drawn_41 rfl 1 rfl ?_
      refine a_getQ (q := (B + 1)) hb dX11_drawn_42 (by rw [ow]; exact fl_RX11_12_11) (hC.1.1.1 0 (by decide)) (hC.1.1.2.1 (0, 0, 1) (by decide)) ?_
      refine a_aload_n hb dX11_drawn_45 rfl 0 rfl ?_
      refine a_iload_n hb dX11_drawn_46 rfl 3 rfl ?_
      refine a_iconst (v := 0) hb dX11_drawn_47 (by decide) ?_
      have kont2 : ∀ rv h', (fun rv h' => rv = some (.int (t - S (138 + p_) - 0)) ∧ h' = h) rv h' → AW V 0 0 h' 51 [(3, .ref q1), (0, .ref B), (1, .int (nI p_)), (2, .int t)] (rv.toList ++ [.ref (B + 1), .ref q1]) := by
        intro rv h' hq_
        rw [hq_.1, hq_.2]
        show AW V 0 0 h 51 [(3, .ref q1), (0, .ref B), (1, .int (nI p_)), (2, .int t)] [.int (t - S (138 + p_) - 0), .ref (B + 1), .ref q1]
        refine a_iload_n hb dX11_drawn_51 rfl 3 rfl ?_
        have kont3 : ∀ rv h', (fun rv h' => rv = some (.int (drS P S hl (S (130 + p_)) (S (146 + p_)) (S (154 + p_)) (t - S (138 + p_) - 0) t)) ∧ FR (Xv B vq) h h') rv h' → AW V 0 0 h' 55 [(3, .ref q1), (0, .ref B), (1, .int (nI p_)), (2, .int t)] (rv.toList ++ []) := by
          intro rv h4_ hp
          obtain ⟨hv, hf4⟩ := hp
          rw [hv]
          have hF4 := FR.tr FR.rf hf4
          have hC4 := hC.fr (FR.mo (A := Xv B vq) (A' := Ay B vq) hF4 (by intro a; unfold Xv Ay; omega))
          clear hv
          have po4_0 : PO h4_ B S p_ q1 := po1.fr (FR.mo (A := Xv B vq) (A' := Ay B vq) hF4 (by intro a; unfold Xv Ay; omega)) hC.2.1.2.2.2.2.2.2
          show AW V 0 0 h4_ 55 [(3, .ref q1), (0, .ref B), (1, .int (nI p_)), (2, .int t)] [.int (drS P S hl (S (130 + p_)) (S (146 + p_)) (S (154 + p_)) (t - S (138 + p_) - 0) t)]
          exact a_ireturn (ty := .int) hb hz dX11_drawn_55 hret rfl (by rw [hr]; exact Nat.le_of_ble_eq_true rfl) (by rw [hr]; exact Nat.le_of_ble_eq_true rfl) (⟨(by rw [if_neg (by simp [c5]), if_neg (by simp [c23])]; rw [nI_clamp (by omega)]; rfl), hF4⟩)
        rcases kd_c (hC.1.rp (p := p_) (by omega)).1 with ek0 | ek1 | ek2 | ek3 | ek4 | ek5 | ek6
        · exact a_callU (len := 0) (kd := 2) hb dX11_drawn_52 (by rw [hg]; exact x_dr0 g h B vq lq hl S N P hC p_ q1 (by omega) po1 ek0 (t - S (138 + p_) - 0) t) (by rw [ow]; exact clu_RX11_144_2) (by have z := po1.2.1; rw [ek0] at z; exact z) (by decide) rfl rfl rfl (Nat.le_of_ble_eq_true rfl) (by rw [hr]; exact ⟨by decide, by decide⟩) (by rw [hr]; exact ⟨Nat.le_of_ble_eq_true rfl, Nat.le_of_ble_eq_true rfl⟩) kont3
        · exact a_callU (len := 0) (kd := 9) hb dX11_drawn_52 (by rw [hg]; exact x_dr1 g h B vq lq hl S N P hC p_ q1 (by omega) po1 ek1 (t - S (138 + p_) - 0) t) (by rw [ow]; exact clu_RX11_144_9) (by have z := po1.2.1; rw [ek1] at z; exact z) (by decide) rfl rfl rfl (Nat.le_of_ble_eq_true rfl) (by rw [hr]; exact ⟨by decide, by decide⟩) (by rw [hr]; exact ⟨Nat.le_of_ble_eq_true rfl, Nat.le_of_ble_eq_true rfl⟩) kont3
        · exact a_callU (len := 0) (kd := 0) hb dX11_drawn_52 (by rw [hg]; exact x_dr2 g h B vq lq hl S N P hC p_ q1 (by omega) po1 ek2 (t - S (138 + p_) - 0) t) (by rw [ow]; exact clu_RX11_144_0) (by have z := po1.2.1; rw [ek2] at z; exact z) (by decide) rfl rfl rfl (Nat.le_of_ble_eq_true rfl) (by rw [hr]; exact ⟨by decide, by decide⟩) (by rw [hr]; exact ⟨Nat.le_of_ble_eq_true rfl, Nat.le_of_ble_eq_true rfl⟩) kont3
        · exact a_callU (len := 0) (kd := 3) hb dX11_drawn_52 (by rw [hg]; exact x_dr3 g h B vq lq hl S N P hC p_ q1 (by omega) po1 ek3 (t - S (138 + p_) - 0) t) (by rw [ow]; exact clu_RX11_144_3) (by have z := po1.2.1; rw [ek3] at z; exact z) (by decide) rfl rfl rfl (Nat.le_of_ble_eq_true rfl) (by rw [hr]; exact ⟨by decide, by decide⟩) (by rw [hr]; exact ⟨Nat.le_of_ble_eq_true rfl, Nat.le_of_ble_eq_true rfl⟩) kont3
        · exact a_callU (len := 0) (kd := 4) hb dX11_drawn_52 (by rw [hg]; exact x_dr4 g h B vq lq hl S N P hC p_ q1 (by omega) po1 ek4 (t - S (138 + p_) - 0) t) (by rw [ow]; exact clu_RX11_144_4) (by have z := po1.2.1; rw [ek4] at z; exact z) (by decide) rfl rfl rfl (Nat.le_of_ble_eq_true rfl) (by rw [hr]; exact ⟨by decide, by decide⟩) (by rw [hr]; exact ⟨Nat.le_of_ble_eq_true rfl, Nat.le_of_ble_eq_true rfl⟩) kont3
        · exact a_callU (len := 0) (kd := 5) hb dX11_drawn_52 (by rw [hg]; exact x_dr5 g h B vq lq hl S N P hC p_ q1 (by omega) po1 ek5 (t - S (138 + p_) - 0) t) (by rw [ow]; exact clu_RX11_144_5) (by have z := po1.2.1; rw [ek5] at z; exact z) (by decide) rfl rfl rfl (Nat.le_of_ble_eq_true rfl) (by rw [hr]; exact ⟨by decide, by decide⟩) (by rw [hr]; exact ⟨Nat.le_of_ble_eq_true rfl, Nat.le_of_ble_eq_true rfl⟩) kont3
        · exact a_callU (len := 0) (kd := 6) hb dX11_drawn_52 (by rw [hg]; exact x_dr6 g h B vq lq hl S N P hC p_ q1 (by omega) po1 ek6 (t - S (138 + p_) - 0) t) (by rw [ow]; exact clu_RX11_144_6) (by have z := po1.2.1; rw [ek6] at z; exact z) (by decide) rfl rfl rfl (Nat.le_of_ble_eq_true rfl) (by rw [hr]; exact ⟨by decide, by decide⟩) (by rw [hr]; exact ⟨Nat.le_of_ble_eq_true rfl, Nat.le_of_ble_eq_true rfl⟩) kont3
      rcases kd_c (hC.1.rp (p := p_) (by omega)).1 with ek0 | ek1 | ek2 | ek3 | ek4 | ek5 | ek6
      · exact a_callU (len := 0) (kd := 2) hb dX11_drawn_48 (by rw [hg]; exact x_age0 g h B vq lq hl S N P hC p_ q1 (by omega) po1 ek0 t 0) (by rw [ow]; exact clu_RX11_140_2) (by have z := po1.2.1; rw [ek0] at z; exact z) (by decide) rfl rfl rfl (Nat.le_of_ble_eq_true rfl) (by rw [hr]; exact ⟨by decide, by decide⟩) (by rw [hr]; exact ⟨Nat.le_of_ble_eq_true rfl, Nat.le_of_ble_eq_true rfl⟩) kont2
      · exact a_callU (len := 0) (kd := 9) hb dX11_drawn_48 (by rw [hg]; exact x_age1 g h B vq lq hl S N P hC p_ q1 (by omega) po1 ek1 t 0) (by rw [ow]; exact clu_RX11_140_9) (by have z := po1.2.1; rw [ek1] at z; exact z) (by decide) rfl rfl rfl (Nat.le_of_ble_eq_true rfl) (by rw [hr]; exact ⟨by decide, by decide⟩) (by rw [hr]; exact ⟨Nat.le_of_ble_eq_true rfl, Nat.le_of_ble_eq_true rfl⟩) kont2
      · exact a_callU (len := 0) (kd := 0) hb dX11_drawn_48 (by rw [hg]; exact x_age2 g h B vq lq hl S N P hC p_ q1 (by omega) po1 ek2 t 0) (by rw [ow]; exact clu_RX11_140_0) (by have z := po1.2.1; rw [ek2] at z; exact z) (by decide) rfl rfl rfl (Nat.le_of_ble_eq_true rfl) (by rw [hr]; exact ⟨by decide, by decide⟩) (by rw [hr]; exact ⟨Nat.le_of_ble_eq_true rfl, Nat.le_of_ble_eq_true rfl⟩) kont2
      · exact a_callU (len := 0) (kd := 3) hb dX11_drawn_48 (by rw [hg]; exact x_age3 g h B vq lq hl S N P hC p_ q1 (by omega) po1 ek3 t 0) (by rw [ow]; exact clu_RX11_140_3) (by have z := po1.2.1; rw [ek3] at z; exact z) (by decide) rfl rfl rfl (Nat.le_of_ble_eq_true rfl) (by rw [hr]; exact ⟨by decide, by decide⟩) (by rw [hr]; exact ⟨Nat.le_of_ble_eq_true rfl, Nat.le_of_ble_eq_true rfl⟩) kont2
      · exact a_callU (len := 0) (kd := 4) hb dX11_drawn_48 (by rw [hg]; exact x_age4 g h B vq lq hl S N P hC p_ q1 (by omega) po1 ek4 t 0) (by rw [ow]; exact clu_RX11_140_4) (by have z := po1.2.1; rw [ek4] at z; exact z) (by decide) rfl rfl rfl (Nat.le_of_ble_eq_true rfl) (by rw [hr]; exact ⟨by decide, by decide⟩) (by rw [hr]; exact ⟨Nat.le_of_ble_eq_true rfl, Nat.le_of_ble_eq_true rfl⟩) kont2
      · exact a_callU (len := 0) (kd := 5) hb dX11_drawn_48 (by rw [hg]; exact x_age5 g h B vq lq hl S N P hC p_ q1 (by omega) po1 ek5 t 0) (by rw [ow]; exact clu_RX11_140_5) (by have z := po1.2.1; rw [ek5] at z; exact z) (by decide) rfl rfl rfl (Nat.le_of_ble_eq_true rfl) (by rw [hr]; exact ⟨by decide, by decide⟩) (by rw [hr]; exact ⟨Nat.le_of_ble_eq_true rfl, Nat.le_of_ble_eq_true rfl⟩) kont2
      · exact a_callU (len := 0) (kd := 6) hb dX11_drawn_48 (by rw [hg]; exact x_age6 g h B vq lq hl S N P hC p_ q1 (by omega) po1 ek6 t 0) (by rw [ow]; exact clu_RX11_140_6) (by have z := po1.2.1; rw [ek6] at z; exact z) (by decide) rfl rfl rfl (Nat.le_of_ble_eq_true rfl) (by rw [hr]; exact ⟨by decide, by decide⟩) (by rw [hr]; exact ⟨Nat.le_of_ble_eq_true rfl, Nat.le_of_ble_eq_true rfl⟩) kont2
    · simp [b2i_0] at c23
      refine a_sipush (v := (-1002)) hb dX11_drawn_26 (by decide) ?_
      exact a_ireturn (ty := .int) hb hz dX11_drawn_29 hret rfl (by rw [hr]; exact Nat.le_of_ble_eq_true rfl) (by rw [hr]; exact Nat.le_of_ble_eq_true rfl) (⟨(by rw [if_neg (by simp [c5]), if_pos (by simp [c23])]), FR.rf⟩)
set_option maxRecDepth 100000 in
theorem x_made (g : GG) (h : AH) (B : Nat) (S : Nat → Int32) (N : NN) (hX : XN h B S N) (t : Int32) : AM g 4 0 0 mX11_made [.ref B, .int t] h (fun rv h' => rv = some (.int (if oO t 0 39 then -2 else mdB S (-1) t N.2.1)) ∧ h' = h) := by
  refine AM.of [(0, .ref B), (1, .int t)] (by decide) (Nat.le_of_ble_eq_true rfl) rfl ?_
  intro V hV
  have hb : V.2.1.2.1 = cX11_made := by subst hV; rfl
  have ow : V.2.1.1.cls = RX11 := by subst hV; rfl
  have hr : V.2.2.1 = aw_rm 4 0 0 := by subst hV; rfl
  have hz : V.2.2.2 = aw_Z V.1 (fun rv h' => rv = some (.int (if oO t 0 39 then -2 else mdB S (-1) t N.2.1)) ∧ h' = h) V.2.2.1 := by subst hV; rfl
  have hg : V.1 = g := by subst hV; rfl
  have hret : V.2.1.2.2.2 = (some .int) := by subst hV; rfl
  have hml : V.2.1.2.2.1 = 2 := by subst hV; rfl
  clear hV
  have hnp := hX.np
  have hnw := hX.nw
  refine a_iload_n hb dX11_made_0 rfl 1 rfl ?_
  refine a_callS hb dX11_made_1 (by rw [hg]; exact w_noTick g h t) (by rw [ow]; exact cls_RX11_57) rfl rfl (Nat.le_of_ble_eq_true rfl) (by rw [hr]; exact ⟨by decide, by decide⟩) (by rw [hr]; exact ⟨Nat.le_of_ble_eq_true rfl, Nat.le_of_ble_eq_true rfl⟩) ?_
  intro rv h' hq_
  rw [hq_.1, hq_.2]
  show AW V 0 0 h 4 [(0, .ref B), (1, .int t)] [.int (b2i (oO t 0 39))]
  refine a_if_eq hb 12 dX11_made_4 (by decide) (fun c4 => ?_) (fun c4 => ?_)
  · simp [b2i_0] at c4
    refine a_aload_n hb dX11_made_12 rfl 0 rfl ?_
    refine a_iload_n hb dX11_made_13 rfl 1 rfl ?_
    refine a_iconst (v := (-1)) hb dX11_made_14 (by decide) ?_
    refine a_callV hb dX11_made_15 (by rw [hg]; exact x_madeAt g h B S N hX t (-1)) (by rw [ow]; exact clv_RX11_182) (hX.1.1 0 (by decide)) (by decide) rfl rfl rfl (Nat.le_of_ble_eq_true rfl) (by rw [hr]; exact ⟨by decide, by decide⟩) (by rw [hr]; exact ⟨Nat.le_of_ble_eq_true rfl, Nat.le_of_ble_eq_true rfl⟩) ?_
    intro rv h' hq_
    rw [hq_.1, hq_.2]
    show AW V 0 0 h 18 [(0, .ref B), (1, .int t)] [.int (mdB S (-1) t N.2.1)]
    exact a_ireturn (ty := .int) hb hz dX11_made_18 hret rfl (by rw [hr]; exact Nat.le_of_ble_eq_true rfl) (by rw [hr]; exact Nat.le_of_ble_eq_true rfl) (⟨(by rw [if_neg (by simp [c4])]), rfl⟩)
  · simp [b2i_0] at c4
    refine a_bipush (v := (-2)) hb dX11_made_7 (by decide) ?_
    refine a_goto hb 18 dX11_made_9 (by decide) ?_
    exact a_ireturn (ty := .int) hb hz dX11_made_18 hret rfl (by rw [hr]; exact Nat.le_of_ble_eq_true rfl) (by rw [hr]; exact Nat.le_of_ble_eq_true rfl) (⟨(by rw [if_pos (by simp [c4])]), rfl⟩)
set_option maxRecDepth 100000 in
theorem x_costs (g : GG) (h : AH) (B : Nat) (S : Nat → Int32) (N : NN) (hX : XN h B S N) : AM g 3 0 0 mX11_costs [.ref B] h (fun rv h' => rv = some (.int (cst S N.2.1)) ∧ h' = h) := by
  refine AM.of [(0, .ref B)] (by decide) (Nat.le_of_ble_eq_true rfl) rfl ?_
  intro V hV
  have hb : V.2.1.2.1 = cX11_costs := by subst hV; rfl
  have ow : V.2.1.1.cls = RX11 := by subst hV; rfl
  have hr : V.2.2.1 = aw_rm 3 0 0 := by subst hV; rfl
  have hz : V.2.2.2 = aw_Z V.1 (fun rv h' => rv = some (.int (cst S N.2.1)) ∧ h' = h) V.2.2.1 := by subst hV; rfl
  have hg : V.1 = g := by subst hV; rfl
  have hret : V.2.1.2.2.2 = (some .int) := by subst hV; rfl
  have hml : V.2.1.2.2.1 = 1 := by subst hV; rfl
  clear hV
  have hnp := hX.np
  have hnw := hX.nw
  refine a_aload_n hb dX11_costs_0 rfl 0 rfl ?_
  refine a_iconst (v := (-1)) hb dX11_costs_1 (by decide) ?_
  refine a_callV hb dX11_costs_2 (by rw [hg]; exact x_costsBut g h B S N hX (-1)) (by rw [ow]; exact clv_RX11_185) (hX.1.1 0 (by decide)) (by decide) rfl rfl rfl (Nat.le_of_ble_eq_true rfl) (by rw [hr]; exact ⟨by decide, by decide⟩) (by rw [hr]; exact ⟨Nat.le_of_ble_eq_true rfl, Nat.le_of_ble_eq_true rfl⟩) ?_
  intro rv h' hq_
  rw [hq_.1, hq_.2]
  show AW V 0 0 h 5 [(0, .ref B)] [.int (csB S (-1) N.2.1)]
  exact a_ireturn (ty := .int) hb hz dX11_costs_5 hret rfl (by rw [hr]; exact Nat.le_of_ble_eq_true rfl) (by rw [hr]; exact Nat.le_of_ble_eq_true rfl) (⟨by rw [csB_m _ hnw], rfl⟩)
theorem fi_rows {g : GG} {h h2 : AH} {B vq lq hl : Nat} {S : Nat → Int32} {N : NN} {P : PF} (H : CX g h B vq lq hl S N P) {lo ine c : Int32} (hi : oO ine 1 999 = false) (hD : ∀ t, t < 40 → hI h2 (B + 21) t = dmS P S (fun _ => 0) hl (nI t) N.1) (hM : ∀ t, t < 40 → hI h2 (B + 22) t = mdB S lo (nI t) N.2.1) : fiS (fun t => biS (hI h2 (B + 22)) (hI h2 (B + 21)) ine (t + 1)) c 0 40 = fbF (fun t => btS (fun t => mdB S lo (nI t) N.2.1) (fun t => dmS P S (fun _ => 0) hl (nI t) N.1) ine (t + 1)) c 0 40 := by
  rw [← fi_j (H.sm lo _) (in1 hi) 40 0 (by omega)]
  exact fiS_c 40 0 (fun t _ ht => biS_c _ (fun u hu => hM u (by omega)) (fun u hu => hD u (by omega)))
theorem bi_rows {g : GG} {h h2 : AH} {B vq lq hl : Nat} {S : Nat → Int32} {N : NN} {P : PF} (H : CX g h B vq lq hl S N P) {lo ine : Int32} (hi : oO ine 1 999 = false) (hD : ∀ t, t < 40 → hI h2 (B + 21) t = dmS P S (fun _ => 0) hl (nI t) N.1) (hM : ∀ t, t < 40 → hI h2 (B + 22) t = mdB S lo (nI t) N.2.1) (k : Nat) (hk : k ≤ 40) : (biS (hI h2 (B + 22)) (hI h2 (B + 21)) ine k).toInt64 = btS (fun t => mdB S lo (nI t) N.2.1) (fun t => dmS P S (fun _ => 0) hl (nI t) N.1) ine k := by
  rw [← (bi_j (H.sm lo _) (in1 hi) k hk).1]
  exact congrArg Int32.toInt64 (biS_c k (fun u hu => hM u (by omega)) (fun u hu => hD u (by omega)))
set_option maxRecDepth 100000 in
theorem x_first (g : GG) (h : AH) (B vq lq hl : Nat) (S : Nat → Int32) (N : NN) (P : PF) (hC : CX g h B vq lq hl S N P) (c : Int32) : AM g 8 0 0 mX11_first [.ref B, .int c] h (fun rv h' => rv = some (.int (if oO c 0 999 then -2 else fbF (fun t => btS (fun t => mdB S (-1) (nI t) N.2.1) (fun t => dmS P S (fun _ => 0) hl (nI t) N.1) (S 7) (t + 1)) c 0 40)) ∧ FR (Xb B vq) h h') := by
  refine AM.of [(0, .ref B), (1, .int c)] (by decide) (Nat.le_of_ble_eq_true rfl) rfl ?_
  intro V hV
  have hb : V.2.1.2.1 = cX11_first := by subst hV; rfl
  have ow : V.2.1.1.cls = RX11 := by subst hV; rfl
  have hr : V.2.2.1 = aw_rm 8 0 0 := by subst hV; rfl
  have hz : V.2.2.2 = aw_Z V.1 (fun rv h' => rv = some (.int (if oO c 0 999 then -2 else fbF (fun t => btS (fun t => mdB S (-1) (nI t) N.2.1) (fun t => dmS P S (fun _ => 0) hl (nI t) N.1) (S 7) (t + 1)) c 0 40)) ∧ FR (Xb B vq) h h') V.2.2.1 := by subst hV; rfl
  have hg : V.1 = g := by subst hV; rfl
  have hret : V.2.1.2.2.2 = (some .int) := by subst hV; rfl
  have hml : V.2.1.2.2.1 = 2 := by subst hV; rfl
  clear hV
  have hvq : B + 62 ≤ vq := hC.2.1.2.2.2.2.2.1
  have hnp := hC.1.np
  have hnw := hC.1.nw
  refine a_aload_n hb dX11_first_0 rfl 0 rfl ?_
  refine a_callV hb dX11_first_1 (by rw [hg]; exact x_noLaw g h B S N hC.1) (by rw [ow]; exact clv_RX11_136) (hC.1.1.1 0 (by decide)) (by decide) rfl rfl rfl (Nat.le_of_ble_eq_true rfl) (by rw [hr]; exact ⟨by decide, by decide⟩) (by rw [hr]; exact ⟨Nat.le_of_ble_eq_true rfl, Nat.le_of_ble_eq_true rfl⟩) ?_
  intro rv h' hq_
  rw [hq_.1, hq_.2, if_neg (by have := hC.2.1.1; omega)]
  show AW V 0 0 h 4 [(0, .ref B), (1, .int c)] [.int 0]
  refine a_if_eq hb 9 dX11_first_4 (by decide) (fun c4 => ?_) (fun c4 => absurd (by decide) c4)
  refine a_iload_n hb dX11_first_9 rfl 1 rfl ?_
  refine a_callS hb dX11_first_10 (by rw [hg]; exact w_noBound g h c) (by rw [ow]; exact cls_RX11_200) rfl rfl (Nat.le_of_ble_eq_true rfl) (by rw [hr]; exact ⟨by decide, by decide⟩) (by rw [hr]; exact ⟨Nat.le_of_ble_eq_true rfl, Nat.le_of_ble_eq_true rfl⟩) ?_
  intro rv h' hq_
  rw [hq_.1, hq_.2]
  show AW V 0 0 h 13 [(0, .ref B), (1, .int c)] [.int (b2i (oO c 0 999))]
  refine a_if_eq hb 19 dX11_first_13 (by decide) (fun c13 => ?_) (fun c13 => ?_)
  · simp [b2i_0] at c13
    refine a_aload_n hb dX11_first_19 rfl 0 rfl ?_
    refine a_callV hb dX11_first_20 (by rw [hg]; exact x_layDemand g h B vq lq hl S N P hC) (by rw [ow]; exact clv_RX11_190) (hC.1.1.1 0 (by decide)) (by decide) rfl rfl rfl (Nat.le_of_ble_eq_true rfl) (by rw [hr]; exact ⟨by decide, by decide⟩) (by rw [hr]; exact ⟨Nat.le_of_ble_eq_true rfl, Nat.le_of_ble_eq_true rfl⟩) ?_
    intro rv h1_ hp
    obtain ⟨hv, hf1, hx1_0⟩ := hp
    rw [hv]
    have hF1 := FR.tr FR.rf (FR.mo (A := Xd B vq) (A' := Xb B vq) hf1 (by intro a; unfold Xd Xb; omega))
    have hC1 := hC.fr (FR.mo (A := Xb B vq) (A' := Ay B vq) hF1 (by intro a; unfold Xb Ay; omega))
    clear hv
    show AW V 0 0 h1_ 23 [(0, .ref B), (1, .int c)] []
    refine a_aload_n hb dX11_first_23 rfl 0 rfl ?_
    refine a_aload_n hb dX11_first_24 rfl 0 rfl ?_
    refine a_getQ (q := (B + 22)) hb dX11_first_25 (by rw [ow]; exact fl_RX11_36_11) (hC1.1.1.1 0 (by decide)) (hC1.1.1.2.1 (0, 5, 22) (by decide)) ?_
    refine a_iconst (v := (-1)) hb dX11_first_28 (by decide) ?_
    refine a_callV hb dX11_first_29 (by rw [hg]; exact x_layMade22 g h1_ B vq lq hl S N P hC1 (-1)) (by rw [ow]; exact clv_RX11_193) (hC1.1.1.1 0 (by decide)) (by decide) rfl rfl rfl (Nat.le_of_ble_eq_true rfl) (by rw [hr]; exact ⟨by decide, by decide⟩) (by rw [hr]; exact ⟨Nat.le_of_ble_eq_true rfl, Nat.le_of_ble_eq_true rfl⟩) ?_
    intro rv h2_ hp
    obtain ⟨hv, hf2, hx2_0⟩ := hp
    rw [hv]
    have hF2 := FR.tr hF1 (FR.mo (A := Xm B vq) (A' := Xb B vq) hf2 (by intro a; unfold Xm Xb; omega))
    have hC2 := hC.fr (FR.mo (A := Xb B vq) (A' := Ay B vq) hF2 (by intro a; unfold Xb Ay; omega))
    clear hv
    show AW V 0 0 h2_ 32 [(0, .ref B), (1, .int c)] []
    have hD : ∀ t, t < 40 → hI h2_ (B + 21) t = dmS P S (fun _ => 0) hl (nI t) N.1 := fun t q => by rw [hf2.2.2.2.2 (B + 21) (by unfold Xm; omega)]; exact hx1_0 t q
    have hM : ∀ t, t < 40 → hI h2_ (B + 22) t = mdB S (-1) (nI t) N.2.1 := hx2_0
    refine a_aload_n hb dX11_first_32 rfl 0 rfl ?_
    refine a_iload_n hb dX11_first_33 rfl 1 rfl ?_
    refine a_aload_n hb dX11_first_34 rfl 0 rfl ?_
    refine a_getQ (q := (B + 1)) hb dX11_first_35 (by rw [ow]; exact fl_RX11_12_11) (hC2.1.1.1 0 (by decide)) (hC2.1.1.2.1 (0, 0, 1) (by decide)) ?_
    refine a_getQ (q := (B + 9)) hb dX11_first_38 (by rw [ow]; exact fl_RX11_96_7) (hC2.1.1.1 1 (by decide)) (hC2.1.1.2.1 (1, 12, 9) (by decide)) ?_
    refine a_iconst (v := 2) hb dX11_first_41 (by decide) ?_
    refine b_iald (j := 2) hb dX11_first_42 (hC2.1.1.1 9 (by decide)) ⟨by decide, by decide⟩ (by decide) ?_
    rw [hC2.1.st (i := 2) (by decide)]
    show AW V 0 0 h2_ 43 [(0, .ref B), (1, .int c)] [.int (S 7), .int c, .ref B]
    refine a_callV hb dX11_first_43 (by rw [hg]; exact x_firstBeyond g h2_ B vq lq hl S N P hC2 c (S 7) hC.1.r7) (by rw [ow]; exact clv_RX11_203) (hC2.1.1.1 0 (by decide)) (by decide) rfl rfl rfl (Nat.le_of_ble_eq_true rfl) (by rw [hr]; exact ⟨by decide, by decide⟩) (by rw [hr]; exact ⟨Nat.le_of_ble_eq_true rfl, Nat.le_of_ble_eq_true rfl⟩) ?_
    intro rv h' hq_
    rw [hq_.1, hq_.2]
    show AW V 0 0 h2_ 46 [(0, .ref B), (1, .int c)] [.int (fiS (fun t => biS (hI h2_ (B + 22)) (hI h2_ (B + 21)) (S 7) (t + 1)) c 0 40)]
    exact a_ireturn (ty := .int) hb hz dX11_first_46 hret rfl (by rw [hr]; exact Nat.le_of_ble_eq_true rfl) (by rw [hr]; exact Nat.le_of_ble_eq_true rfl) (⟨(by rw [if_neg (by simp [c13])]; rw [fi_rows hC hC.1.r7 hD hM]), hF2⟩)
  · simp [b2i_0] at c13
    refine a_bipush (v := (-2)) hb dX11_first_16 (by decide) ?_
    exact a_ireturn (ty := .int) hb hz dX11_first_18 hret rfl (by rw [hr]; exact Nat.le_of_ble_eq_true rfl) (by rw [hr]; exact Nat.le_of_ble_eq_true rfl) (⟨(by rw [if_pos (by simp [c13])]), FR.rf⟩)
set_option maxRecDepth 100000 in
theorem x_beat (g : GG) (h : AH) (B vq lq hl : Nat) (S : Nat → Int32) (N : NN) (P : PF) (hC : CX g h B vq lq hl S N P) (t : Int32) : AM g 8 0 0 mX11_beat [.ref B, .int t] h (fun rv h' => rv = some (.long (if oO t 0 39 then (-9223372036854775808) else btS (fun t => mdB S (-1) (nI t) N.2.1) (fun t => dmS P S (fun _ => 0) hl (nI t) N.1) (S 7) (t.toNatClampNeg + 1))) ∧ FR (Xb B vq) h h') := by
  refine AM.of [(0, .ref B), (1, .int t)] (by decide) (Nat.le_of_ble_eq_true rfl) rfl ?_
  intro V hV
  have hb : V.2.1.2.1 = cX11_beat := by subst hV; rfl
  have ow : V.2.1.1.cls = RX11 := by subst hV; rfl
  have hr : V.2.2.1 = aw_rm 8 0 0 := by subst hV; rfl
  have hz : V.2.2.2 = aw_Z V.1 (fun rv h' => rv = some (.long (if oO t 0 39 then (-9223372036854775808) else btS (fun t => mdB S (-1) (nI t) N.2.1) (fun t => dmS P S (fun _ => 0) hl (nI t) N.1) (S 7) (t.toNatClampNeg + 1))) ∧ FR (Xb B vq) h h') V.2.2.1 := by subst hV; rfl
  have hg : V.1 = g := by subst hV; rfl
  have hret : V.2.1.2.2.2 = (some .long) := by subst hV; rfl
  have hml : V.2.1.2.2.1 = 4 := by subst hV; rfl
  clear hV
  have hvq : B + 62 ≤ vq := hC.2.1.2.2.2.2.2.1
  have hnp := hC.1.np
  have hnw := hC.1.nw
  refine a_aload_n hb dX11_beat_0 rfl 0 rfl ?_
  refine a_callV hb dX11_beat_1 (by rw [hg]; exact x_noLaw g h B S N hC.1) (by rw [ow]; exact clv_RX11_136) (hC.1.1.1 0 (by decide)) (by decide) rfl rfl rfl (Nat.le_of_ble_eq_true rfl) (by rw [hr]; exact ⟨by decide, by decide⟩) (by rw [hr]; exact ⟨Nat.le_of_ble_eq_true rfl, Nat.le_of_ble_eq_true rfl⟩) ?_
  intro rv h' hq_
  rw [hq_.1, hq_.2, if_neg (by have := hC.2.1.1; omega)]
  show AW V 0 0 h 4 [(0, .ref B), (1, .int t)] [.int 0]
  refine a_if_ne hb 14 dX11_beat_4 (by decide) (fun c4 => absurd c4 (by decide)) (fun c4 => ?_)
  refine a_iload_n hb dX11_beat_7 rfl 1 rfl ?_
  refine a_callS hb dX11_beat_8 (by rw [hg]; exact w_noTick g h t) (by rw [ow]; exact cls_RX11_57) rfl rfl (Nat.le_of_ble_eq_true rfl) (by rw [hr]; exact ⟨by decide, by decide⟩) (by rw [hr]; exact ⟨Nat.le_of_ble_eq_true rfl, Nat.le_of_ble_eq_true rfl⟩) ?_
  intro rv h' hq_
  rw [hq_.1, hq_.2]
  show AW V 0 0 h 11 [(0, .ref B), (1, .int t)] [.int (b2i (oO t 0 39))]
  refine a_if_eq hb 18 dX11_beat_11 (by decide) (fun c11 => ?_) (fun c11 => ?_)
  · simp [b2i_0] at c11
    obtain ⟨t_, rfl, lt⟩ := c_le (z := 39) (b := 39) (by decide) (by simpa using c11)
    refine a_aload_n hb dX11_beat_18 rfl 0 rfl ?_
    refine a_callV hb dX11_beat_19 (by rw [hg]; exact x_layDemand g h B vq lq hl S N P hC) (by rw [ow]; exact clv_RX11_190) (hC.1.1.1 0 (by decide)) (by decide) rfl rfl rfl (Nat.le_of_ble_eq_true rfl) (by rw [hr]; exact ⟨by decide, by decide⟩) (by rw [hr]; exact ⟨Nat.le_of_ble_eq_true rfl, Nat.le_of_ble_eq_true rfl⟩) ?_
    intro rv h1_ hp
    obtain ⟨hv, hf1, hx1_0⟩ := hp
    rw [hv]
    have hF1 := FR.tr FR.rf (FR.mo (A := Xd B vq) (A' := Xb B vq) hf1 (by intro a; unfold Xd Xb; omega))
    have hC1 := hC.fr (FR.mo (A := Xb B vq) (A' := Ay B vq) hF1 (by intro a; unfold Xb Ay; omega))
    clear hv
    show AW V 0 0 h1_ 22 [(0, .ref B), (1, .int (nI t_))] []
    refine a_aload_n hb dX11_beat_22 rfl 0 rfl ?_
    refine a_aload_n hb dX11_beat_23 rfl 0 rfl ?_
    refine a_getQ (q := (B + 22)) hb dX11_beat_24 (by rw [ow]; exact fl_RX11_36_11) (hC1.1.1.1 0 (by decide)) (hC1.1.1.2.1 (0, 5, 22) (by decide)) ?_
    refine a_iconst (v := (-1)) hb dX11_beat_27 (by decide) ?_
    refine a_callV hb dX11_beat_28 (by rw [hg]; exact x_layMade22 g h1_ B vq lq hl S N P hC1 (-1)) (by rw [ow]; exact clv_RX11_193) (hC1.1.1.1 0 (by decide)) (by decide) rfl rfl rfl (Nat.le_of_ble_eq_true rfl) (by rw [hr]; exact ⟨by decide, by decide⟩) (by rw [hr]; exact ⟨Nat.le_of_ble_eq_true rfl, Nat.le_of_ble_eq_true rfl⟩) ?_
    intro rv h2_ hp
    obtain ⟨hv, hf2, hx2_0⟩ := hp
    rw [hv]
    have hF2 := FR.tr hF1 (FR.mo (A := Xm B vq) (A' := Xb B vq) hf2 (by intro a; unfold Xm Xb; omega))
    have hC2 := hC.fr (FR.mo (A := Xb B vq) (A' := Ay B vq) hF2 (by intro a; unfold Xb Ay; omega))
    clear hv
    show AW V 0 0 h2_ 31 [(0, .ref B), (1, .int (nI t_))] []
    have hD : ∀ t, t < 40 → hI h2_ (B + 21) t = dmS P S (fun _ => 0) hl (nI t) N.1 := fun t q => by rw [hf2.2.2.2.2 (B + 21) (by unfold Xm; omega)]; exact hx1_0 t q
    have hM : ∀ t, t < 40 → hI h2_ (B + 22) t = mdB S (-1) (nI t) N.2.1 := hx2_0
    refine a_iconst (v := 0) hb dX11_beat_31 (by decide) ?_
    refine a_istore_n (L' := [(2, .int 0), (0, .ref B), (1, .int (nI t_))]) hb dX11_beat_32 rfl (by rw [hml]; decide) rfl ?_
    refine a_iconst (v := 0) hb dX11_beat_33 (by decide) ?_
    refine a_istore_n (L' := [(3, .int 0), (2, .int 0), (0, .ref B), (1, .int (nI t_))]) hb dX11_beat_34 rfl (by rw [hml]; decide) rfl ?_
    have loop : ∀ (k i : Nat), i + k = t_ + 1 → AW V 0 0 h2_ 35 [(0, .ref B), (1, .int (nI t_)), (2, .int (biS (hI h2_ (B + 22)) (hI h2_ (B + 21)) (S 7) i)), (3, .int (nI i))] [] := by
      intro k
      induction k with
      | zero =>
        intro i hi
        refine a_iload_n hb dX11_beat_35 rfl 3 rfl ?_
        refine a_iload_n hb dX11_beat_36 rfl 1 rfl ?_
        refine a_icmp_gt hb 63 dX11_beat_37 (by decide) (fun c37 => ?_) (fun c37 => absurd ((nI_ltI (by omega) (by omega)).mpr (by omega)) c37)
        refine a_iload_n hb dX11_beat_63 rfl 2 rfl ?_
        refine a_i2l hb dX11_beat_64 rfl ?_
        exact a_lreturn hb hz dX11_beat_65 hret (by rw [hr]; exact Nat.le_of_ble_eq_true rfl) (by rw [hr]; exact Nat.le_of_ble_eq_true rfl) (⟨by rw [if_neg (by simp [c11]), nI_clamp (by omega), show i = t_ + 1 by omega, bi_rows hC hC.1.r7 hD hM _ (by omega)], hF2⟩)
      | succ k ih =>
        intro i hi
        refine a_iload_n hb dX11_beat_35 rfl 3 rfl ?_
        refine a_iload_n hb dX11_beat_36 rfl 1 rfl ?_
        refine a_icmp_gt hb 63 dX11_beat_37 (by decide) (fun c37 => absurd c37 (fun q => absurd ((nI_ltI (by omega) (by omega)).mp q) (by omega))) (fun c37 => ?_)
        refine a_iload_n hb dX11_beat_40 rfl 2 rfl ?_
        refine a_aload_n hb dX11_beat_41 rfl 0 rfl ?_
        refine a_iload_n hb dX11_beat_42 rfl 3 rfl ?_
        refine a_aload_n hb dX11_beat_43 rfl 0 rfl ?_
        refine a_getQ (q := (B + 1)) hb dX11_beat_44 (by rw [ow]; exact fl_RX11_12_11) (hC2.1.1.1 0 (by decide)) (hC2.1.1.2.1 (0, 0, 1) (by decide)) ?_
        refine a_getQ (q := (B + 9)) hb dX11_beat_47 (by rw [ow]; exact fl_RX11_96_7) (hC2.1.1.1 1 (by decide)) (hC2.1.1.2.1 (1, 12, 9) (by decide)) ?_
        refine a_iconst (v := 2) hb dX11_beat_50 (by decide) ?_
        refine b_iald (j := 2) hb dX11_beat_51 (hC2.1.1.1 9 (by decide)) ⟨by decide, by decide⟩ (by decide) ?_
        rw [hC2.1.st (i := 2) (by decide)]
        show AW V 0 0 h2_ 52 [(0, .ref B), (1, .int (nI t_)), (2, .int (biS (hI h2_ (B + 22)) (hI h2_ (B + 21)) (S 7) i)), (3, .int (nI i))] [.int (S 7), .int (nI i), .ref B, .int (biS (hI h2_ (B + 22)) (hI h2_ (B + 21)) (S 7) i)]
        refine a_callV hb dX11_beat_52 (by rw [hg]; exact x_pushAt g h2_ B vq lq hl S N P hC2 i (by omega) (S 7) hC.1.r7) (by rw [ow]; exact clv_RX11_197) (hC2.1.1.1 0 (by decide)) (by decide) rfl rfl rfl (Nat.le_of_ble_eq_true rfl) (by rw [hr]; exact ⟨by decide, by decide⟩) (by rw [hr]; exact ⟨Nat.le_of_ble_eq_true rfl, Nat.le_of_ble_eq_true rfl⟩) ?_
        intro rv h' hq_
        rw [hq_.1, hq_.2]
        show AW V 0 0 h2_ 55 [(0, .ref B), (1, .int (nI t_)), (2, .int (biS (hI h2_ (B + 22)) (hI h2_ (B + 21)) (S 7) i)), (3, .int (nI i))] [.int (psh (hI h2_ (B + 22)) (hI h2_ (B + 21)) (S 7) i), .int (biS (hI h2_ (B + 22)) (hI h2_ (B + 21)) (S 7) i)]
        refine a_iadd hb dX11_beat_55 ?_
        refine a_istore_n (L' := [(2, .int ((biS (hI h2_ (B + 22)) (hI h2_ (B + 21)) (S 7) i) + (psh (hI h2_ (B + 22)) (hI h2_ (B + 21)) (S 7) i))), (0, .ref B), (1, .int (nI t_)), (3, .int (nI i))]) hb dX11_beat_56 rfl (by rw [hml]; decide) rfl ?_
        refine a_iinc (v := ((nI i) + 1)) (L' := [(3, .int ((nI i) + 1)), (2, .int ((biS (hI h2_ (B + 22)) (hI h2_ (B + 21)) (S 7) i) + (psh (hI h2_ (B + 22)) (hI h2_ (B + 21)) (S 7) i))), (0, .ref B), (1, .int (nI t_))]) hb dX11_beat_57 3 rfl rfl (by rw [hml]; decide) rfl ?_
        refine a_goto hb 35 dX11_beat_60 (by decide) ?_
        refine AW.sub (L' := [(0, .ref B), (1, .int (nI t_)), (2, .int ((biS (hI h2_ (B + 22)) (hI h2_ (B + 21)) (S 7) i) + (psh (hI h2_ (B + 22)) (hI h2_ (B + 21)) (S 7) i))), (3, .int ((nI i) + 1))]) [2, 3, 1, 0] rfl ?_
        exact AW.eq (ih (i + 1) (by omega)) rfl rfl (by first | (simp only [nI_1]; done) | (simp only [nI_1]; rfl)) rfl
    refine AW.sub (L' := [(0, .ref B), (1, .int (nI t_)), (2, .int 0), (3, .int 0)]) [2, 3, 1, 0] rfl ?_
    exact AW.eq (loop (t_ + 1) 0 (by omega)) rfl rfl (rfl) rfl
  · simp [b2i_0] at c11
    refine a_ldc2 (v := (-9223372036854775808)) hb dX11_beat_14 (by rw [ow]; exact kw_774) ?_
    exact a_lreturn hb hz dX11_beat_17 hret (by rw [hr]; exact Nat.le_of_ble_eq_true rfl) (by rw [hr]; exact Nat.le_of_ble_eq_true rfl) (⟨(by rw [if_pos (by simp [c11])]), FR.rf⟩)
