/-! ===== the class reads a law: the object ===== -/
/-- the law's object made, before it reads: rows at hN h and behind -/
def IN (h h4 : AH) (lq tq n : Nat) : Prop := hN h4 = hN h + 4 ∧ (∀ a, a < hN h → hT h4 a = hT h a) ∧ (∀ a, a < hN h → a ≠ lq → hI h4 a = hI h a ∧ hJ h4 a = hJ h a ∧ hQ h4 a = hQ h a) ∧
  (hT h4 (hN h) = (14, 8) ∧ hT h4 (hN h + 1) = (14, 8) ∧ hT h4 (hN h + 2) = (14, 5) ∧ hT h4 (hN h + 3) = (14, n)) ∧
  (hQ h4 lq 0 = some tq ∧ hQ h4 lq 4 = some (hN h) ∧ hQ h4 lq 5 = some (hN h + 1) ∧ hQ h4 lq 9 = some (hN h + 2) ∧ hQ h4 lq 7 = some (hN h + 3)) ∧
  (hI h4 lq 1 = 0 ∧ hI h4 lq 3 = 999 ∧ hI h4 lq 6 = 0 ∧ hI h4 lq 8 = 0) ∧ (∀ a, hN h + 4 ≤ a → hT h4 a = hT h a)
theorem lp_ini {h : AH} {lq cq wq eq : Nat} (d1 : wq ≠ lq) (d4 : eq ≠ lq) (d7 : eq ≠ wq) (ne : lq ≠ cq) (d3 : wq ≠ cq) (d6 : eq ≠ cq) (f1 : hI h lq 1 = 0) (f3 : hI h lq 3 = 999) (f6 : hI h lq 6 = 0) (f8 : hI h lq 8 = 0) : h = lpH (lbH h lq wq eq [] 999) lq cq 0 (encC []) := by
  refine AH_ext rfl rfl (fun a => ?_) rfl rfl
  by_cases e1 : a = lq
  · subst e1
    rw [lp_l ne, lb_l d1 d4]
    funext j
    by_cases q8 : j = 8
    · subst q8; rw [upd_s]; exact f8
    · rw [upd_n q8]
      by_cases q1 : j = 1
      · subst q1; rw [upd_s]; exact f1
      · rw [upd_n q1]
        by_cases q6 : j = 6
        · subst q6; rw [upd_s]; exact f6
        · rw [upd_n q6]
          by_cases q3 : j = 3
          · subst q3; rw [upd_s]; exact f3
          · rw [upd_n q3]
  · by_cases e2 : a = cq
    · subst e2
      rw [lp_c, lb_n e1 (Ne.symm d3) (Ne.symm d6)]; rfl
    · rw [lp_n e1 e2]
      by_cases e3 : a = eq
      · subst e3; rw [lb_e]; rfl
      · by_cases e4 : a = wq
        · subst e4; rw [lb_w d7]; rfl
        · rw [lb_n e1 e4 e3]
set_option maxRecDepth 100000 in
theorem i_X1 (g : GG) (h : AH) (lq tq n : Nat) (t1 : hT h lq = (1, 0)) (t2 : hT h tq = (13, n)) (b1 : lq < hN h) (b2 : tq < hN h) (hn : n ≤ 120) (H : Nat → Int32) (hH : ∀ p, p < n → hI h tq p = bx (H p) ∧ oO (H p) 0 255 = false) (hE : ∀ p, n ≤ p → H p = -1) : AM g 29 4 141 mX1_init [.ref lq, .ref tq] h (fun rv h' => rv = none ∧ ∃ h4 l, IN h h4 lq tq n ∧ h' = setI (lpH (lbH h4 lq (hN h) (hN h + 1) (lawC H).2.2.1 (lawC H).2.2.2) lq (hN h + 3) (lawC H).2.1 l) lq 2 (b2i (decide ((lawC H).1 = false ∧ (lawC H).2.1 = n))) ∧ ((lawC H).1 = false → l = encC (lawC H).2.2.1)) := by
  refine AM.of [(0, .ref lq), (1, .ref tq)] (by decide) (Nat.le_of_ble_eq_true rfl) rfl ?_
  intro V hV
  have hb : V.2.1.2.1 = cX1_init := by subst hV; rfl
  have ow : V.2.1.1.cls = RX1 := by subst hV; rfl
  have hr : V.2.2.1 = aw_rm 29 4 141 := by subst hV; rfl
  have hz : V.2.2.2 = aw_Z V.1 (fun rv h' => rv = none ∧ ∃ h4 l, IN h h4 lq tq n ∧ h' = setI (lpH (lbH h4 lq (hN h) (hN h + 1) (lawC H).2.2.1 (lawC H).2.2.2) lq (hN h + 3) (lawC H).2.1 l) lq 2 (b2i (decide ((lawC H).1 = false ∧ (lawC H).2.1 = n))) ∧ ((lawC H).1 = false → l = encC (lawC H).2.2.1)) V.2.2.1 := by subst hV; rfl
  have hg : V.1 = g := by subst hV; rfl
  have hret : V.2.1.2.2.2 = none := by subst hV; rfl
  have hml : V.2.1.2.2.1 = 4 := by subst hV; rfl
  have hnm : V.2.1.1.name = "<init>" := by subst hV; rfl
  clear hV
  refine a_aload_n hb dX1_init_0 rfl 0 rfl ?_
  refine a_objInit hb dX1_init_1 (by rw [ow]; exact kw_415) kw_108 kw_109 (by decide) (by rw [hr]; exact ⟨by decide, by decide⟩) ?_
  refine a_aload_n hb dX1_init_4 rfl 0 rfl ?_
  refine a_iconst (v := 0) hb dX1_init_5 (by decide) ?_
  refine a_putI (fty := .int) hb dX1_init_6 (by rw [ow]; exact fp_RX1_7_1) (Or.inl (by rw [hnm])) t1 rfl rfl ?_
  refine a_aload_n hb dX1_init_9 rfl 0 rfl ?_
  refine a_sipush (v := 999) hb dX1_init_10 (by decide) ?_
  refine a_putI (fty := .int) hb dX1_init_13 (by rw [ow]; exact fp_RX1_13_1) (Or.inl (by rw [hnm])) (show hT (setI h lq 1 0) lq = (1, 0) from by exact t1) rfl rfl ?_
  refine a_aload_n hb dX1_init_16 rfl 0 rfl ?_
  refine a_bipush (v := 8) hb dX1_init_17 (by decide) ?_
  refine a_newa (kd := 14) (N := 8) hb dX1_init_19 rfl (by decide) (by decide) kw_175 (by decide) (by decide) (by omega) (by rw [hr]; exact ⟨by decide, by decide⟩) ?_
  show AW V 1 8 (newC (setI (setI h lq 1 0) lq 3 999) 14 8) 21 [(0, .ref lq), (1, .ref tq)] [.ref (hN h), .ref lq]
  refine a_putQ (fty := .array .int) hb dX1_init_21 (by rw [ow]; exact fp_RX1_16_1) (Or.inl (by rw [hnm])) (show hT (newC (setI (setI h lq 1 0) lq 3 999) 14 8) lq = (1, 0) from by rw [show hT (newC (setI (setI h lq 1 0) lq 3 999) 14 8) lq = hT h lq from by refine (u1_n (by show lq ≠ hN h + 0; omega)).trans ?_; rfl]; exact t1) rfl rfl ?_
  refine a_aload_n hb dX1_init_24 rfl 0 rfl ?_
  refine a_bipush (v := 8) hb dX1_init_25 (by decide) ?_
  refine a_newa (kd := 14) (N := 8) hb dX1_init_27 rfl (by decide) (by decide) kw_175 (by decide) (by decide) (by omega) (by rw [hr]; exact ⟨by decide, by decide⟩) ?_
  show AW V 2 16 (newC (setQ (newC (setI (setI h lq 1 0) lq 3 999) 14 8) lq 4 (some (hN h))) 14 8) 29 [(0, .ref lq), (1, .ref tq)] [.ref (hN h + 1), .ref lq]
  refine a_putQ (fty := .array .int) hb dX1_init_29 (by rw [ow]; exact fp_RX1_20_1) (Or.inl (by rw [hnm])) (show hT (newC (setQ (newC (setI (setI h lq 1 0) lq 3 999) 14 8) lq 4 (some (hN h))) 14 8) lq = (1, 0) from by rw [show hT (newC (setQ (newC (setI (setI h lq 1 0) lq 3 999) 14 8) lq 4 (some (hN h))) 14 8) lq = hT h lq from by refine (u1_n (by show lq ≠ hN h + 1; omega)).trans ?_; refine (u1_n (by show lq ≠ hN h + 0; omega)).trans ?_; rfl]; exact t1) rfl rfl ?_
  refine a_aload_n hb dX1_init_32 rfl 0 rfl ?_
  refine a_iconst (v := 0) hb dX1_init_33 (by decide) ?_
  refine a_putI (fty := .int) hb dX1_init_34 (by rw [ow]; exact fp_RX1_23_1) (Or.inl (by rw [hnm])) (show hT (setQ (newC (setQ (newC (setI (setI h lq 1 0) lq 3 999) 14 8) lq 4 (some (hN h))) 14 8) lq 5 (some (hN h + 1))) lq = (1, 0) from by rw [show hT (setQ (newC (setQ (newC (setI (setI h lq 1 0) lq 3 999) 14 8) lq 4 (some (hN h))) 14 8) lq 5 (some (hN h + 1))) lq = hT h lq from by refine (u1_n (by show lq ≠ hN h + 1; omega)).trans ?_; refine (u1_n (by show lq ≠ hN h + 0; omega)).trans ?_; rfl]; exact t1) rfl rfl ?_
  refine a_aload_n hb dX1_init_37 rfl 0 rfl ?_
  refine a_iconst (v := 0) hb dX1_init_38 (by decide) ?_
  refine a_putI (fty := .int) hb dX1_init_39 (by rw [ow]; exact fp_RX1_26_1) (Or.inl (by rw [hnm])) (show hT (setI (setQ (newC (setQ (newC (setI (setI h lq 1 0) lq 3 999) 14 8) lq 4 (some (hN h))) 14 8) lq 5 (some (hN h + 1))) lq 6 0) lq = (1, 0) from by rw [show hT (setI (setQ (newC (setQ (newC (setI (setI h lq 1 0) lq 3 999) 14 8) lq 4 (some (hN h))) 14 8) lq 5 (some (hN h + 1))) lq 6 0) lq = hT h lq from by refine (u1_n (by show lq ≠ hN h + 1; omega)).trans ?_; refine (u1_n (by show lq ≠ hN h + 0; omega)).trans ?_; rfl]; exact t1) rfl rfl ?_
  refine a_aload_n hb dX1_init_42 rfl 0 rfl ?_
  refine a_iconst (v := 5) hb dX1_init_43 (by decide) ?_
  refine a_newa (kd := 14) (N := 5) hb dX1_init_44 rfl (by decide) (by decide) kw_175 (by decide) (by decide) (by omega) (by rw [hr]; exact ⟨by decide, by decide⟩) ?_
  show AW V 3 21 (newC (setI (setI (setQ (newC (setQ (newC (setI (setI h lq 1 0) lq 3 999) 14 8) lq 4 (some (hN h))) 14 8) lq 5 (some (hN h + 1))) lq 6 0) lq 8 0) 14 5) 46 [(0, .ref lq), (1, .ref tq)] [.ref (hN h + 2), .ref lq]
  refine a_putQ (fty := .array .int) hb dX1_init_46 (by rw [ow]; exact fp_RX1_29_1) (Or.inl (by rw [hnm])) (show hT (newC (setI (setI (setQ (newC (setQ (newC (setI (setI h lq 1 0) lq 3 999) 14 8) lq 4 (some (hN h))) 14 8) lq 5 (some (hN h + 1))) lq 6 0) lq 8 0) 14 5) lq = (1, 0) from by rw [show hT (newC (setI (setI (setQ (newC (setQ (newC (setI (setI h lq 1 0) lq 3 999) 14 8) lq 4 (some (hN h))) 14 8) lq 5 (some (hN h + 1))) lq 6 0) lq 8 0) 14 5) lq = hT h lq from by refine (u1_n (by show lq ≠ hN h + 2; omega)).trans ?_; refine (u1_n (by show lq ≠ hN h + 1; omega)).trans ?_; refine (u1_n (by show lq ≠ hN h + 0; omega)).trans ?_; rfl]; exact t1) rfl rfl ?_
  refine a_aload_n hb dX1_init_49 rfl 0 rfl ?_
  refine a_aload_n hb dX1_init_50 rfl 1 rfl ?_
  refine a_putQ (fty := .array .byte) hb dX1_init_51 (by rw [ow]; exact fp_RX1_32_1) (Or.inl (by rw [hnm])) (show hT (setQ (newC (setI (setI (setQ (newC (setQ (newC (setI (setI h lq 1 0) lq 3 999) 14 8) lq 4 (some (hN h))) 14 8) lq 5 (some (hN h + 1))) lq 6 0) lq 8 0) 14 5) lq 9 (some (hN h + 2))) lq = (1, 0) from by rw [show hT (setQ (newC (setI (setI (setQ (newC (setQ (newC (setI (setI h lq 1 0) lq 3 999) 14 8) lq 4 (some (hN h))) 14 8) lq 5 (some (hN h + 1))) lq 6 0) lq 8 0) 14 5) lq 9 (some (hN h + 2))) lq = hT h lq from by refine (u1_n (by show lq ≠ hN h + 2; omega)).trans ?_; refine (u1_n (by show lq ≠ hN h + 1; omega)).trans ?_; refine (u1_n (by show lq ≠ hN h + 0; omega)).trans ?_; rfl]; exact t1) rfl rfl ?_
  refine a_aload_n hb dX1_init_54 rfl 0 rfl ?_
  refine a_aload_n hb dX1_init_55 rfl 1 rfl ?_
  refine a_alenI (v := (nI n)) hb dX1_init_56 (show hT (setQ (setQ (newC (setI (setI (setQ (newC (setQ (newC (setI (setI h lq 1 0) lq 3 999) 14 8) lq 4 (some (hN h))) 14 8) lq 5 (some (hN h + 1))) lq 6 0) lq 8 0) 14 5) lq 9 (some (hN h + 2))) lq 0 (some tq)) tq = (13, n) from by rw [show hT (setQ (setQ (newC (setI (setI (setQ (newC (setQ (newC (setI (setI h lq 1 0) lq 3 999) 14 8) lq 4 (some (hN h))) 14 8) lq 5 (some (hN h + 1))) lq 6 0) lq 8 0) 14 5) lq 9 (some (hN h + 2))) lq 0 (some tq)) tq = hT h tq from by refine (u1_n (by show tq ≠ hN h + 2; omega)).trans ?_; refine (u1_n (by show tq ≠ hN h + 1; omega)).trans ?_; refine (u1_n (by show tq ≠ hN h + 0; omega)).trans ?_; rfl]; exact t2) (by decide) rfl ?_
  refine a_newa (kd := 14) (N := n) hb dX1_init_57 rfl (by decide) (by decide) kw_175 (nI_pos (by omega)) (nI_clamp (by omega)) (by omega) (by rw [hr]; exact ⟨by decide, show 21 + n ≤ 141 from by omega⟩) ?_
  refine AW.wide (cs' := 4) (ss' := 141) (by decide) (by omega) ?_
  show AW V 4 141 (newC (setQ (setQ (newC (setI (setI (setQ (newC (setQ (newC (setI (setI h lq 1 0) lq 3 999) 14 8) lq 4 (some (hN h))) 14 8) lq 5 (some (hN h + 1))) lq 6 0) lq 8 0) 14 5) lq 9 (some (hN h + 2))) lq 0 (some tq)) 14 n) 59 [(0, .ref lq), (1, .ref tq)] [.ref (hN h + 3), .ref lq]
  refine a_putQ (fty := .array .int) hb dX1_init_59 (by rw [ow]; exact fp_RX1_36_1) (Or.inl (by rw [hnm])) (show hT (newC (setQ (setQ (newC (setI (setI (setQ (newC (setQ (newC (setI (setI h lq 1 0) lq 3 999) 14 8) lq 4 (some (hN h))) 14 8) lq 5 (some (hN h + 1))) lq 6 0) lq 8 0) 14 5) lq 9 (some (hN h + 2))) lq 0 (some tq)) 14 n) lq = (1, 0) from by rw [show hT (newC (setQ (setQ (newC (setI (setI (setQ (newC (setQ (newC (setI (setI h lq 1 0) lq 3 999) 14 8) lq 4 (some (hN h))) 14 8) lq 5 (some (hN h + 1))) lq 6 0) lq 8 0) 14 5) lq 9 (some (hN h + 2))) lq 0 (some tq)) 14 n) lq = hT h lq from by refine (u1_n (by show lq ≠ hN h + 3; omega)).trans ?_; refine (u1_n (by show lq ≠ hN h + 2; omega)).trans ?_; refine (u1_n (by show lq ≠ hN h + 1; omega)).trans ?_; refine (u1_n (by show lq ≠ hN h + 0; omega)).trans ?_; rfl]; exact t1) rfl rfl ?_
  have hne : tq ≠ lq := fun q => by rw [q, t1] at t2; cases t2
  have q0_ : ¬ lq = h.1 := by have : lq < h.1 := b1; omega
  have q1_ : ¬ lq = h.1 + 1 := by have : lq < h.1 := b1; omega
  have q2_ : ¬ lq = h.1 + 2 := by have : lq < h.1 := b1; omega
  have q3_ : ¬ lq = h.1 + 3 := by have : lq < h.1 := b1; omega
  have hin : IN h (setQ (newC (setQ (setQ (newC (setI (setI (setQ (newC (setQ (newC (setI (setI h lq 1 0) lq 3 999) 14 8) lq 4 (some (hN h))) 14 8) lq 5 (some (hN h + 1))) lq 6 0) lq 8 0) 14 5) lq 9 (some (hN h + 2))) lq 0 (some tq)) 14 n) lq 7 (some (hN h + 3))) lq tq n := by
    refine ⟨rfl, fun a ha => ?_, fun a ha hl => ⟨?_, ?_, ?_⟩, ⟨?_, ?_, ?_, ?_⟩, ⟨?_, ?_, ?_, ?_, ?_⟩, ⟨?_, ?_, ?_, ?_⟩, fun a ha => ?_⟩
    · have r0_ : ¬ a = h.1 := (by have : a < h.1 := ha; omega); have r1_ : ¬ a = h.1 + 1 := (by have : a < h.1 := ha; omega); have r2_ : ¬ a = h.1 + 2 := (by have : a < h.1 := ha; omega); have r3_ : ¬ a = h.1 + 3 := (by have : a < h.1 := ha; omega); simp [hI, hJ, hQ, hT, setI, setQ, newC, u1, u2, hN, r0_, r1_, r2_, r3_]
    · funext j; have r0_ : ¬ a = h.1 := (by have : a < h.1 := ha; omega); have r1_ : ¬ a = h.1 + 1 := (by have : a < h.1 := ha; omega); have r2_ : ¬ a = h.1 + 2 := (by have : a < h.1 := ha; omega); have r3_ : ¬ a = h.1 + 3 := (by have : a < h.1 := ha; omega); simp [hI, hJ, hQ, hT, setI, setQ, newC, u1, u2, hN, r0_, r1_, r2_, r3_, hl]
    · have r0_ : ¬ a = h.1 := (by have : a < h.1 := ha; omega); have r1_ : ¬ a = h.1 + 1 := (by have : a < h.1 := ha; omega); have r2_ : ¬ a = h.1 + 2 := (by have : a < h.1 := ha; omega); have r3_ : ¬ a = h.1 + 3 := (by have : a < h.1 := ha; omega); simp [hI, hJ, hQ, hT, setI, setQ, newC, u1, u2, hN, r0_, r1_, r2_, r3_, hl]
    · funext j; have r0_ : ¬ a = h.1 := (by have : a < h.1 := ha; omega); have r1_ : ¬ a = h.1 + 1 := (by have : a < h.1 := ha; omega); have r2_ : ¬ a = h.1 + 2 := (by have : a < h.1 := ha; omega); have r3_ : ¬ a = h.1 + 3 := (by have : a < h.1 := ha; omega); simp [hI, hJ, hQ, hT, setI, setQ, newC, u1, u2, hN, r0_, r1_, r2_, r3_, hl]
    · have z2 : ¬ h.1 = h.1 + 1 + 1 := (by omega); have z3 : ¬ h.1 = h.1 + 1 + 1 + 1 := (by omega); simp [hI, hJ, hQ, hT, setI, setQ, newC, u1, u2, hN, q0_, q1_, q2_, q3_, z2, z3]
    · have z2 : ¬ h.1 = h.1 + 1 + 1 := (by omega); have z3 : ¬ h.1 = h.1 + 1 + 1 + 1 := (by omega); simp [hI, hJ, hQ, hT, setI, setQ, newC, u1, u2, hN, q0_, q1_, q2_, q3_, z2, z3]
    · have z2 : ¬ h.1 = h.1 + 1 + 1 := (by omega); have z3 : ¬ h.1 = h.1 + 1 + 1 + 1 := (by omega); simp [hI, hJ, hQ, hT, setI, setQ, newC, u1, u2, hN, q0_, q1_, q2_, q3_, z2, z3]
    · have z2 : ¬ h.1 = h.1 + 1 + 1 := (by omega); have z3 : ¬ h.1 = h.1 + 1 + 1 + 1 := (by omega); simp [hI, hJ, hQ, hT, setI, setQ, newC, u1, u2, hN, q0_, q1_, q2_, q3_, z2, z3]
    · simp [hI, hJ, hQ, hT, setI, setQ, newC, u1, u2, hN, q0_, q1_, q2_, q3_]
    · simp [hI, hJ, hQ, hT, setI, setQ, newC, u1, u2, hN, q0_, q1_, q2_, q3_]
    · simp [hI, hJ, hQ, hT, setI, setQ, newC, u1, u2, hN, q0_, q1_, q2_, q3_]
    · simp [hI, hJ, hQ, hT, setI, setQ, newC, u1, u2, hN, q0_, q1_, q2_, q3_]
    · simp [hI, hJ, hQ, hT, setI, setQ, newC, u1, u2, hN, q0_, q1_, q2_, q3_]
    · simp [hI, hJ, hQ, hT, setI, setQ, newC, u1, u2, hN, q0_, q1_, q2_, q3_]
    · simp [hI, hJ, hQ, hT, setI, setQ, newC, u1, u2, hN, q0_, q1_, q2_, q3_]
    · simp [hI, hJ, hQ, hT, setI, setQ, newC, u1, u2, hN, q0_, q1_, q2_, q3_]
    · simp [hI, hJ, hQ, hT, setI, setQ, newC, u1, u2, hN, q0_, q1_, q2_, q3_]
    · have r0_ : ¬ a = h.1 := (by have : h.1 + 4 ≤ a := ha; omega); have r1_ : ¬ a = h.1 + 1 := (by have : h.1 + 4 ≤ a := ha; omega); have r2_ : ¬ a = h.1 + 2 := (by have : h.1 + 4 ≤ a := ha; omega); have r3_ : ¬ a = h.1 + 3 := (by have : h.1 + 4 ≤ a := ha; omega); simp [hI, hJ, hQ, hT, setI, setQ, newC, u1, u2, hN, r0_, r1_, r2_, r3_]
  generalize (setQ (newC (setQ (setQ (newC (setI (setI (setQ (newC (setQ (newC (setI (setI h lq 1 0) lq 3 999) 14 8) lq 4 (some (hN h))) 14 8) lq 5 (some (hN h + 1))) lq 6 0) lq 8 0) 14 5) lq 9 (some (hN h + 2))) lq 0 (some tq)) 14 n) lq 7 (some (hN h + 3))) = h4 at hin ⊢
  have hin0 := hin
  obtain ⟨i1, i2, i3, ⟨tw, te, tv, tc⟩, ⟨qt, qw, qe, qv, qc⟩, ⟨f1, f3, f6, f8⟩, i9⟩ := hin
  have T1 : hT h4 lq = (1, 0) := (i2 lq b1).trans t1
  have T2 : hT h4 tq = (13, n) := (i2 tq b2).trans t2
  have HH : ∀ p, p < n → hI h4 tq p = bx (H p) ∧ oO (H p) 0 255 = false := fun p hp => by rw [(i3 tq b2 hne).1]; exact hH p hp
  have n1 : hN h ≠ lq := by omega
  have n2 : tq ≠ hN h := by omega
  have n3 : hN h ≠ hN h + 3 := by omega
  have n4 : hN h + 1 ≠ lq := by omega
  have n5 : tq ≠ hN h + 1 := by omega
  have n6 : hN h + 1 ≠ hN h + 3 := by omega
  have n7 : hN h + 1 ≠ hN h := by omega
  have n8 : lq ≠ hN h + 3 := by omega
  have n9 : tq ≠ hN h + 3 := by omega
  generalize hR : lawC H = R at hz
  have fin : ∀ (i : Nat) (r : LC) (rd : Bool) (l : List Int32), r.2.1 ≤ n → r = R → (r.1 = false → l = encC r.2.2.1) → (rd = true → r.1 = false) → (rd = false → r.1 = true ∨ r.2.1 < n) → AW V 4 141 (lpH (lbH h4 lq (hN h) (hN h + 1) r.2.2.1 r.2.2.2) lq (hN h + 3) r.2.1 l) 116 [(0, .ref lq), (1, .ref tq), (2, .int (b2i rd)), (3, .int (nI i))] [] := by
    intro i r rd l h1 hr_ h2 h3 h4_
    subst hr_
    refine a_aload_n hb dX1_init_116 rfl 0 rfl ?_
    refine a_iload_n hb dX1_init_117 rfl 2 rfl ?_
    refine a_if_eq hb 134 dX1_init_118 (by decide) (fun c118 => ?_) (fun c118 => ?_)
    · simp [b2i_0] at c118
      refine a_iconst (v := 0) hb dX1_init_134 (by decide) ?_
      refine a_putI (fty := .boolean) hb dX1_init_135 (by rw [ow]; exact fp_RX1_47_1) (Or.inl (by rw [hnm])) (lp_k (h := lbH h4 lq (hN h) (hN h + 1) r.2.2.1 r.2.2.2) (lq := lq) (cq := hN h + 3) (p := r.2.1) (l := l) T1) rfl rfl ?_
      exact a_return hb hz dX1_init_138 hret (by rw [hr]; exact Nat.le_of_ble_eq_true rfl) (by rw [hr]; exact Nat.le_of_ble_eq_true rfl) (⟨rfl, h4, l, hin0, by rw [decide_eq_false (fun q => (h4_ (by simpa using c118)).elim (fun z => absurd (q.1.symm.trans z) (by decide)) (fun z => by have := q.2; omega))]; rfl, h2⟩)
    · simp [b2i_0] at c118
      refine a_aload_n hb dX1_init_121 rfl 0 rfl ?_
      refine a_getI hb dX1_init_122 (by rw [ow]; exact fl_RX1_7_1) (lp_k (h := lbH h4 lq (hN h) (hN h + 1) r.2.2.1 r.2.2.2) (lq := lq) (cq := hN h + 3) (p := r.2.1) (l := l) T1) ?_
      rw [lp_1 n8]
      show AW V 4 141 (lpH (lbH h4 lq (hN h) (hN h + 1) r.2.2.1 r.2.2.2) lq (hN h + 3) r.2.1 l) 125 [(0, .ref lq), (1, .ref tq), (2, .int (b2i rd)), (3, .int (nI i))] [.int (nI r.2.1), .ref lq]
      refine a_aload_n hb dX1_init_125 rfl 1 rfl ?_
      refine a_alenI (v := (nI n)) hb dX1_init_126 (lp_k (h := lbH h4 lq (hN h) (hN h + 1) r.2.2.1 r.2.2.2) (lq := lq) (cq := hN h + 3) (p := r.2.1) (l := l) T2) (by decide) rfl ?_
      refine a_icmp_ne hb 134 dX1_init_127 (by decide) (fun c127 => ?_) (fun c127 => ?_)
      · refine a_iconst (v := 0) hb dX1_init_134 (by decide) ?_
        refine a_putI (fty := .boolean) hb dX1_init_135 (by rw [ow]; exact fp_RX1_47_1) (Or.inl (by rw [hnm])) (lp_k (h := lbH h4 lq (hN h) (hN h + 1) r.2.2.1 r.2.2.2) (lq := lq) (cq := hN h + 3) (p := r.2.1) (l := l) T1) rfl rfl ?_
        exact a_return hb hz dX1_init_138 hret (by rw [hr]; exact Nat.le_of_ble_eq_true rfl) (by rw [hr]; exact Nat.le_of_ble_eq_true rfl) (⟨rfl, h4, l, hin0, by rw [decide_eq_false (fun q => c127 (by rw [q.2]))]; rfl, h2⟩)
      · refine a_iconst (v := 1) hb dX1_init_130 (by decide) ?_
        refine a_goto hb 135 dX1_init_131 (by decide) ?_
        refine a_putI (fty := .boolean) hb dX1_init_135 (by rw [ow]; exact fp_RX1_47_1) (Or.inl (by rw [hnm])) (lp_k (h := lbH h4 lq (hN h) (hN h + 1) r.2.2.1 r.2.2.2) (lq := lq) (cq := hN h + 3) (p := r.2.1) (l := l) T1) rfl rfl ?_
        exact a_return hb hz dX1_init_138 hret (by rw [hr]; exact Nat.le_of_ble_eq_true rfl) (by rw [hr]; exact Nat.le_of_ble_eq_true rfl) (⟨rfl, h4, l, hin0, by rw [decide_eq_true ⟨h3 (by simpa using c118), (nI_eq (by omega) (by omega)).mp (by simpa using c127)⟩]; rfl, h2⟩)
  have loop : ∀ (k i : Nat) (r : LC) (rd : Bool) (l : List Int32), i + k = 8 → r.2.1 ≤ n → (r.1 = false → l = encC r.2.2.1) → r.2.2.1.length ≤ i → (encC r.2.2.1).length ≤ r.2.1 → (rd = true → r.1 = false ∧ clK H k r = R) → (rd = false → r = R ∧ (r.1 = true ∨ r.2.1 < n)) → AW V 4 141 (lpH (lbH h4 lq (hN h) (hN h + 1) r.2.2.1 r.2.2.2) lq (hN h + 3) r.2.1 l) 69 [(0, .ref lq), (1, .ref tq), (2, .int (b2i rd)), (3, .int (nI i))] [] := by
    intro k
    induction k with
    | zero =>
      intro i r rd l hi h1 h2 h3 h5 h6 h7
      refine a_iload_n hb dX1_init_69 rfl 3 rfl ?_
      refine a_bipush (v := 8) hb dX1_init_70 (by decide) ?_
      refine a_icmp_ge hb 116 dX1_init_72 (by decide) (fun c72 => ?_) (fun c72 => absurd (nI_le (a := 8) (b := i) (by omega) (by omega)) c72)
      have hrR : r = R := by cases hrd : rd with | true => exact (h6 hrd).2 | false => exact (h7 hrd).1
      exact fin i r rd l h1 hrR h2 (fun z => (h6 z).1) (fun z => (h7 z).2)
    | succ k ih =>
      intro i r rd l hi h1 h2 h3 h5 h6 h7
      refine a_iload_n hb dX1_init_69 rfl 3 rfl ?_
      refine a_bipush (v := 8) hb dX1_init_70 (by decide) ?_
      refine a_icmp_ge hb 116 dX1_init_72 (by decide) (fun c72 => absurd c72 (nI_ge (a := i) (b := 8) (by omega) (by omega))) (fun c72 => ?_)
      refine a_iload_n hb dX1_init_75 rfl 2 rfl ?_
      refine a_if_eq hb 116 dX1_init_76 (by decide) (fun c76 => ?_) (fun c76 => ?_)
      · simp [b2i_0] at c76
        have rf : rd = false := by simpa using c76
        exact fin i r rd l h1 (h7 rf).1 h2 (fun z => absurd (z.symm.trans rf) (by decide)) (fun z => (h7 rf).2)
      · simp [b2i_0] at c76
        have rt : rd = true := by simpa using c76
        obtain ⟨w0, wk⟩ := h6 rt
        obtain rfl := h2 w0
        refine a_aload_n hb dX1_init_79 rfl 0 rfl ?_
        refine a_getI hb dX1_init_80 (by rw [ow]; exact fl_RX1_7_1) (lp_k (h := lbH h4 lq (hN h) (hN h + 1) r.2.2.1 r.2.2.2) (lq := lq) (cq := hN h + 3) (p := r.2.1) (l := (encC r.2.2.1)) T1) ?_
        rw [lp_1 n8]
        show AW V 4 141 (lpH (lbH h4 lq (hN h) (hN h + 1) r.2.2.1 r.2.2.2) lq (hN h + 3) r.2.1 (encC r.2.2.1)) 83 [(0, .ref lq), (1, .ref tq), (2, .int (b2i rd)), (3, .int (nI i))] [.int (nI r.2.1)]
        refine a_aload_n hb dX1_init_83 rfl 1 rfl ?_
        refine a_alenI (v := (nI n)) hb dX1_init_84 (lp_k (h := lbH h4 lq (hN h) (hN h + 1) r.2.2.1 r.2.2.2) (lq := lq) (cq := hN h + 3) (p := r.2.1) (l := (encC r.2.2.1)) T2) (by decide) rfl ?_
        refine a_icmp_ge hb 116 dX1_init_85 (by decide) (fun c85 => ?_) (fun c85 => ?_)
        · have hge : n ≤ r.2.1 := (nI_leI (by omega) (by omega)).mp c85
          exact fin i r rd _ h1 (by rw [← wk, clK_n (by rw [hE _ hge]; decide)]) (fun _ => rfl) (fun _ => w0) (fun z => absurd (z.symm.trans rt) (by decide))
        · have hlt : r.2.1 < n := Nat.lt_of_not_le (fun z => c85 (nI_le z (by omega)))
          refine a_aload_n hb dX1_init_88 rfl 0 rfl ?_
          refine a_bipush (v := 59) hb dX1_init_89 (by decide) ?_
          refine a_callV hb dX1_init_91 (by rw [hg]; exact l_take g (lbH h4 lq (hN h) (hN h + 1) r.2.2.1 r.2.2.2) lq tq (hN h + 3) n T1 T2 tc qt qc n8 hne n9 hn H (fun p hp => by rw [lb_n hne n2 n5]; exact HH p hp) hE r.2.1 (encC r.2.2.1) h1 59 (by decide)) (by rw [ow]; exact clv_RX1_43) (lp_k (h := lbH h4 lq (hN h) (hN h + 1) r.2.2.1 r.2.2.2) (lq := lq) (cq := hN h + 3) (p := r.2.1) (l := (encC r.2.2.1)) T1) (by decide) rfl rfl rfl (Nat.le_of_ble_eq_true rfl) (by rw [hr]; exact ⟨by decide, by decide⟩) (by rw [hr]; exact ⟨Nat.le_of_ble_eq_true rfl, Nat.le_of_ble_eq_true rfl⟩) ?_
          intro rv h' hq_
          rw [hq_.1, hq_.2]
          clear hq_ rv h'
          by_cases t59 : H r.2.1 = 59
          · rw [if_pos t59, decide_eq_true t59]
            show AW V 4 141 (lpH (lbH h4 lq (hN h) (hN h + 1) r.2.2.1 r.2.2.2) lq (hN h + 3) (r.2.1 + 1) (encC r.2.2.1)) 94 [(0, .ref lq), (1, .ref tq), (2, .int (b2i rd)), (3, .int (nI i))] [.int 1]
            refine a_if_eq hb 108 dX1_init_94 (by decide) (fun c94 => absurd c94 (by decide)) (fun c94 => ?_)
            refine a_aload_n hb dX1_init_97 rfl 0 rfl ?_
            refine a_callV hb dX1_init_98 (by rw [hg]; exact l_cla g h4 lq tq (hN h + 3) n T1 T2 tc qt qc n8 hne n9 hn H HH hE (hN h) (hN h + 1) tw te qw qe n1 n2 n3 n4 n5 n6 n7 (r.2.1 + 1) r.2.2.1 r.2.2.2 hlt (by omega) (by omega)) (by rw [ow]; exact clv_RX1_39) (lp_k (h := (lbH h4 lq (hN h) (hN h + 1) r.2.2.1 r.2.2.2)) (lq := lq) (cq := hN h + 3) (p := r.2.1 + 1) (l := encC r.2.2.1) T1) (by decide) rfl rfl rfl (Nat.le_of_ble_eq_true rfl) (by rw [hr]; exact ⟨by decide, by decide⟩) (by rw [hr]; exact ⟨Nat.le_of_ble_eq_true rfl, Nat.le_of_ble_eq_true rfl⟩) ?_
            intro rv h' hq_
            obtain ⟨hv_, l2, hh_, hl2⟩ := hq_
            rw [hv_, hh_]
            clear hv_ hh_ rv h'
            have cg := clC_g (H := H) (p := r.2.1 + 1) (cs := r.2.2.1) (mo := r.2.2.2) hE (by omega) hlt
            have cl := clC_len (H := H) (p := r.2.1 + 1) (cs := r.2.2.1) (mo := r.2.2.2)
            rw [clK_s w0 t59] at wk
            generalize clC H (r.2.1 + 1) r.2.2.1 r.2.2.2 = r2 at cg cl wk hl2 ⊢
            by_cases wr2 : r2.1 = true
            · rw [wr2]
              show AW V 4 141 (lpH (lbH h4 lq (hN h) (hN h + 1) r2.2.2.1 r2.2.2.2) lq (hN h + 3) r2.2.1 l2) 101 [(0, .ref lq), (1, .ref tq), (2, .int (b2i rd)), (3, .int (nI i))] [.int 0]
              refine a_if_eq hb 108 dX1_init_101 (by decide) (fun c101 => ?_) (fun c101 => absurd (by decide) c101)
              refine a_iconst (v := 0) hb dX1_init_108 (by decide) ?_
              refine a_istore_n (L' := [(2, .int 0), (0, .ref lq), (1, .ref tq), (3, .int (nI i))]) hb dX1_init_109 rfl (by rw [hml]; decide) rfl ?_
              refine a_iinc (v := ((nI i) + 1)) (L' := [(3, .int ((nI i) + 1)), (2, .int 0), (0, .ref lq), (1, .ref tq)]) hb dX1_init_110 3 rfl rfl (by rw [hml]; decide) rfl ?_
              refine a_goto hb 69 dX1_init_113 (by decide) ?_
              refine AW.sub (L' := [(0, .ref lq), (1, .ref tq), (2, .int 0), (3, .int ((nI i) + 1))]) [2, 3, 1, 0] rfl ?_
              exact AW.eq (ih (i + 1) r2 false l2 (by omega) cg.1 hl2 (by omega) cg.2 (fun z => absurd z (by decide)) (fun _ => ⟨by rw [← wk, clK_t wr2], Or.inl wr2⟩)) rfl rfl (by rw [nI_1]; rfl) rfl
            have fr2 : r2.1 = false := by simpa using wr2
            rw [fr2]
            show AW V 4 141 (lpH (lbH h4 lq (hN h) (hN h + 1) r2.2.2.1 r2.2.2.2) lq (hN h + 3) r2.2.1 l2) 101 [(0, .ref lq), (1, .ref tq), (2, .int (b2i rd)), (3, .int (nI i))] [.int 1]
            refine a_if_eq hb 108 dX1_init_101 (by decide) (fun c101 => absurd c101 (by decide)) (fun c101 => ?_)
            refine a_iconst (v := 1) hb dX1_init_104 (by decide) ?_
            refine a_goto hb 109 dX1_init_105 (by decide) ?_
            refine a_istore_n (L' := [(2, .int 1), (0, .ref lq), (1, .ref tq), (3, .int (nI i))]) hb dX1_init_109 rfl (by rw [hml]; decide) rfl ?_
            refine a_iinc (v := ((nI i) + 1)) (L' := [(3, .int ((nI i) + 1)), (2, .int 1), (0, .ref lq), (1, .ref tq)]) hb dX1_init_110 3 rfl rfl (by rw [hml]; decide) rfl ?_
            refine a_goto hb 69 dX1_init_113 (by decide) ?_
            refine AW.sub (L' := [(0, .ref lq), (1, .ref tq), (2, .int 1), (3, .int ((nI i) + 1))]) [2, 3, 1, 0] rfl ?_
            exact AW.eq (ih (i + 1) r2 true l2 (by omega) cg.1 hl2 (by omega) cg.2 (fun _ => ⟨fr2, wk⟩) (fun z => absurd z (by decide))) rfl rfl (by rw [nI_1]; rfl) rfl
          rw [if_neg t59, decide_eq_false t59]
          show AW V 4 141 (lpH (lbH h4 lq (hN h) (hN h + 1) r.2.2.1 r.2.2.2) lq (hN h + 3) r.2.1 (encC r.2.2.1)) 94 [(0, .ref lq), (1, .ref tq), (2, .int (b2i rd)), (3, .int (nI i))] [.int 0]
          refine a_if_eq hb 108 dX1_init_94 (by decide) (fun c94 => ?_) (fun c94 => absurd (by decide) c94)
          refine a_iconst (v := 0) hb dX1_init_108 (by decide) ?_
          refine a_istore_n (L' := [(2, .int 0), (0, .ref lq), (1, .ref tq), (3, .int (nI i))]) hb dX1_init_109 rfl (by rw [hml]; decide) rfl ?_
          refine a_iinc (v := ((nI i) + 1)) (L' := [(3, .int ((nI i) + 1)), (2, .int 0), (0, .ref lq), (1, .ref tq)]) hb dX1_init_110 3 rfl rfl (by rw [hml]; decide) rfl ?_
          refine a_goto hb 69 dX1_init_113 (by decide) ?_
          refine AW.sub (L' := [(0, .ref lq), (1, .ref tq), (2, .int 0), (3, .int ((nI i) + 1))]) [2, 3, 1, 0] rfl ?_
          exact AW.eq (ih (i + 1) r false (encC r.2.2.1) (by omega) h1 (fun _ => rfl) (by omega) h5 (fun z => absurd z (by decide)) (fun _ => ⟨by rw [← wk, clK_n t59], Or.inr hlt⟩)) rfl rfl (by rw [nI_1]; rfl) rfl
  refine AW.eq (h' := lpH (lbH h4 lq (hN h) (hN h + 1) [] 999) lq (hN h + 3) 0 (encC [])) ?_ (lp_ini n1 n4 n7 n8 n3 n6 f1 f3 f6 f8) rfl rfl rfl
  refine a_aload_n hb dX1_init_62 rfl 0 rfl ?_
  refine a_callV hb dX1_init_63 (by rw [hg]; exact l_cla g h4 lq tq (hN h + 3) n T1 T2 tc qt qc n8 hne n9 hn H HH hE (hN h) (hN h + 1) tw te qw qe n1 n2 n3 n4 n5 n6 n7 0 [] 999 (Nat.zero_le _) (by decide) (Nat.le_refl _)) (by rw [ow]; exact clv_RX1_39) (lp_k (h := lbH h4 lq (hN h) (hN h + 1) [] 999) (lq := lq) (cq := hN h + 3) (p := 0) (l := encC []) T1) (by decide) rfl rfl rfl (Nat.le_of_ble_eq_true rfl) (by rw [hr]; exact ⟨by decide, by decide⟩) (by rw [hr]; exact ⟨Nat.le_of_ble_eq_true rfl, Nat.le_of_ble_eq_true rfl⟩) ?_
  intro rv h' hq_
  obtain ⟨hv_, l2, hh_, hl2⟩ := hq_
  rw [hv_, hh_]
  clear hv_ hh_ rv h'
  have cg := clC_g (H := H) (p := 0) (cs := []) (mo := 999) hE (Nat.le_refl _) (Nat.zero_le n)
  have cl := clC_len (H := H) (p := 0) (cs := []) (mo := 999)
  have wk : clK H 7 (clC H 0 [] 999) = R := hR
  generalize clC H 0 [] 999 = r2 at cg cl wk hl2 ⊢
  by_cases wr2 : r2.1 = true
  · rw [wr2]
    show AW V 4 141 (lpH (lbH h4 lq (hN h) (hN h + 1) r2.2.2.1 r2.2.2.2) lq (hN h + 3) r2.2.1 l2) 66 [(0, .ref lq), (1, .ref tq)] [.int 0]
    refine a_istore_n (L' := [(2, .int 0), (0, .ref lq), (1, .ref tq)]) hb dX1_init_66 rfl (by rw [hml]; decide) rfl ?_
    refine a_iconst (v := 1) hb dX1_init_67 (by decide) ?_
    refine a_istore_n (L' := [(3, .int 1), (2, .int 0), (0, .ref lq), (1, .ref tq)]) hb dX1_init_68 rfl (by rw [hml]; decide) rfl ?_
    refine AW.sub (L' := [(0, .ref lq), (1, .ref tq), (2, .int 0), (3, .int 1)]) [2, 3, 1, 0] rfl ?_
    exact AW.eq (loop 7 1 r2 false l2 rfl cg.1 hl2 cl cg.2 (fun z => absurd z (by decide)) (fun _ => ⟨by rw [← wk, clK_t wr2], Or.inl wr2⟩)) rfl rfl (rfl) rfl
  have fr2 : r2.1 = false := by simpa using wr2
  rw [fr2]
  show AW V 4 141 (lpH (lbH h4 lq (hN h) (hN h + 1) r2.2.2.1 r2.2.2.2) lq (hN h + 3) r2.2.1 l2) 66 [(0, .ref lq), (1, .ref tq)] [.int 1]
  refine a_istore_n (L' := [(2, .int 1), (0, .ref lq), (1, .ref tq)]) hb dX1_init_66 rfl (by rw [hml]; decide) rfl ?_
  refine a_iconst (v := 1) hb dX1_init_67 (by decide) ?_
  refine a_istore_n (L' := [(3, .int 1), (2, .int 1), (0, .ref lq), (1, .ref tq)]) hb dX1_init_68 rfl (by rw [hml]; decide) rfl ?_
  refine AW.sub (L' := [(0, .ref lq), (1, .ref tq), (2, .int 1), (3, .int 1)]) [2, 3, 1, 0] rfl ?_
  exact AW.eq (loop 7 1 r2 true l2 rfl cg.1 hl2 cl cg.2 (fun _ => ⟨fr2, wk⟩) (fun z => absurd z (by decide))) rfl rfl (rfl) rfl
