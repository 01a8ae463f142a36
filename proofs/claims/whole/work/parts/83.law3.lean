/-! ===== the class: the percent of a law ===== -/
theorem LB.fr {h h' : AH} {lq vq cq wq eq cl : Nat} {cs : List CLA} (H : LB h lq vq cq wq eq cl cs) (hT' : hT h' = hT h) (hQ' : hQ h' = hQ h) (hI' : ∀ a, a ≠ vq → hI h' a = hI h a) (hlq : lq ≠ vq) : LB h' lq vq cq wq eq cl cs := by
  obtain ⟨h1, h2, h3, h4, h5, h6, h7, h8⟩ := H
  unfold LB
  rw [hT', hQ', hI' lq hlq, hI' cq h4.1, hI' wq h4.2.1, hI' eq h4.2.2]
  exact ⟨h1, h2, h3, h4, h5, h6, h7, h8⟩
theorem ht_I {h : AH} {a k q : Nat} {v : Int32} {x : Nat × Nat} (H : hT h q = x) : hT (setI h a k v) q = x := H
theorem hq_I {h : AH} {a k q j : Nat} {v : Int32} {x : Option Nat} (H : hQ h q j = x) : hQ (setI h a k v) q j = x := H
theorem ev1_c {vl vl' : Nat → Int32} (h : ∀ j, j < 5 → vl j = vl' j) {s : St} (hs : okS s) (st : List Bool) : ev1 vl s st = ev1 vl' s st := by
  unfold ev1
  by_cases e0 : s.1 = 0
  · rw [if_pos e0, if_pos e0]
    have e : tsT vl s = tsT vl' s := by unfold tsT; rw [h _ (hs.2 e0).1]
    rw [e]
  · rw [if_neg e0, if_neg e0]
theorem Ev_n {vl : Nat → Int32} {st : List Bool} : Ev vl [] st = some st := rfl
theorem Ev_s {vl : Nat → Int32} {s : St} {ss : List St} {st : List Bool} : Ev vl (s :: ss) st = (ev1 vl s st).bind (Ev vl ss) := rfl
theorem Ev_c {vl vl' : Nat → Int32} (h : ∀ j, j < 5 → vl j = vl' j) : ∀ (ss : List St) (st : List Bool), (∀ s ∈ ss, okS s) → Ev vl ss st = Ev vl' ss st := by
  intro ss
  induction ss with
  | nil => intro st _; rw [Ev_n, Ev_n]
  | cons s ss ih =>
    intro st ho
    rw [Ev_s, Ev_s, ev1_c h (ho s List.mem_cons_self)]
    cases ev1 vl' s st with
    | none => rw [Option.bind_none, Option.bind_none]
    | some y => rw [Option.bind_some, Option.bind_some, ih y (fun q hq => ho q (List.mem_cons_of_mem _ hq))]
theorem encC_l : ∀ (c : CLA) (cs : List CLA), (encC (c :: cs)).length = c.2.2.length + (encC cs).length := fun c cs => by
  show (c.2.2.map encX ++ encC cs).length = _
  rw [List.length_append, List.length_map]
theorem mx0 {x : Int32} : (if 0 < x then x else 0) = if x < 0 then 0 else x := by
  by_cases a : x < 0
  · rw [if_pos a, if_neg (fun b => Int32.lt_irrefl (Int32.lt_trans a b))]
  · rw [if_neg a]
    by_cases b : 0 < x
    · rw [if_pos b]
    · rw [if_neg b]; exact Int32.le_antisymm (Int32.not_lt.mp a) (Int32.not_lt.mp b)
set_option maxRecDepth 100000 in
theorem l_percent (g : GG) (h : AH) (lq vq cq wq eq cl : Nat) (cs : List CLA) (hb1 : LB h lq vq cq wq eq cl cs) (B : Nat) (hB : B ≤ vq) (hlq : lq ≠ vq) (hcl : cl ≤ 200) (hok : ∀ c ∈ cs, okC c) (h8 : cs.length ≤ 8) (hln : (encC cs).length ≤ cl) (a c z k t : Int32) : AM g 3 0 0 mX1_percent [.ref lq, .int a, .int c, .int z, .int k, .int t] h (fun rv h' => rv = some (.int (pcP cs a c z k t)) ∧ FR (Xv B vq) h h') := by
  refine AM.of [(0, .ref lq), (1, .int a), (2, .int c), (3, .int z), (4, .int k), (5, .int t)] (by decide) (Nat.le_of_ble_eq_true rfl) rfl ?_
  intro V hV
  have hb : V.2.1.2.1 = cX1_percent := by subst hV; rfl
  have ow : V.2.1.1.cls = RX1 := by subst hV; rfl
  have hr : V.2.2.1 = aw_rm 3 0 0 := by subst hV; rfl
  have hz : V.2.2.2 = aw_Z V.1 (fun rv h' => rv = some (.int (pcP cs a c z k t)) ∧ FR (Xv B vq) h h') V.2.2.1 := by subst hV; rfl
  have hg : V.1 = g := by subst hV; rfl
  have hret : V.2.1.2.2.2 = (some .int) := by subst hV; rfl
  have hml : V.2.1.2.2.1 = 9 := by subst hV; rfl
  clear hV
  refine a_aload_n hb dX1_percent_0 rfl 0 rfl ?_
  refine a_getQ (q := vq) hb dX1_percent_1 (by rw [ow]; exact fl_RX1_29_1) hb1.1 hb1.2.1.1 ?_
  refine a_iconst (v := 0) hb dX1_percent_4 (by decide) ?_
  refine a_iload_n hb dX1_percent_5 rfl 1 rfl ?_
  refine b_iast (j := 0) hb dX1_percent_6 hb1.2.2.1.1 ⟨by decide, by decide⟩ (by decide) ?_
  refine a_aload_n hb dX1_percent_7 rfl 0 rfl ?_
  refine a_getQ (q := vq) hb dX1_percent_8 (by rw [ow]; exact fl_RX1_29_1) (ht_I hb1.1) (hq_I hb1.2.1.1) ?_
  refine a_iconst (v := 1) hb dX1_percent_11 (by decide) ?_
  refine a_iload_n hb dX1_percent_12 rfl 2 rfl ?_
  refine b_iast (j := 1) hb dX1_percent_13 (ht_I hb1.2.2.1.1) ⟨by decide, by decide⟩ (by decide) ?_
  refine a_aload_n hb dX1_percent_14 rfl 0 rfl ?_
  refine a_getQ (q := vq) hb dX1_percent_15 (by rw [ow]; exact fl_RX1_29_1) (ht_I (ht_I hb1.1)) (hq_I (hq_I hb1.2.1.1)) ?_
  refine a_iconst (v := 2) hb dX1_percent_18 (by decide) ?_
  refine a_iload_n hb dX1_percent_19 rfl 3 rfl ?_
  refine b_iast (j := 2) hb dX1_percent_20 (ht_I (ht_I hb1.2.2.1.1)) ⟨by decide, by decide⟩ (by decide) ?_
  refine a_aload_n hb dX1_percent_21 rfl 0 rfl ?_
  refine a_getQ (q := vq) hb dX1_percent_22 (by rw [ow]; exact fl_RX1_29_1) (ht_I (ht_I (ht_I hb1.1))) (hq_I (hq_I (hq_I hb1.2.1.1))) ?_
  refine a_iconst (v := 3) hb dX1_percent_25 (by decide) ?_
  refine a_iload hb dX1_percent_26 4 rfl ?_
  refine b_iast (j := 3) hb dX1_percent_28 (ht_I (ht_I (ht_I hb1.2.2.1.1))) ⟨by decide, by decide⟩ (by decide) ?_
  refine a_aload_n hb dX1_percent_29 rfl 0 rfl ?_
  refine a_getQ (q := vq) hb dX1_percent_30 (by rw [ow]; exact fl_RX1_29_1) (ht_I (ht_I (ht_I (ht_I hb1.1)))) (hq_I (hq_I (hq_I (hq_I hb1.2.1.1)))) ?_
  refine a_iconst (v := 4) hb dX1_percent_33 (by decide) ?_
  refine a_iload hb dX1_percent_34 5 rfl ?_
  refine b_iast (j := 4) hb dX1_percent_36 (ht_I (ht_I (ht_I (ht_I hb1.2.2.1.1)))) ⟨by decide, by decide⟩ (by decide) ?_
  generalize eh : (setI (setI (setI (setI (setI h vq 0 a) vq 1 c) vq 2 z) vq 3 k) vq 4 t) = h1
  have hF1 : FR (Xv B vq) h h1 := by rw [← eh]; exact (FR.I (FR.I (FR.I (FR.I (FR.I FR.rf ⟨rfl, hB⟩) ⟨rfl, hB⟩) ⟨rfl, hB⟩) ⟨rfl, hB⟩) ⟨rfl, hB⟩)
  have hv1 : ∀ j, j < 5 → hI h1 vq j = vlF a c z k t j := by
    intro j hj
    rw [← eh, hI_setI_s, hI_setI_s, hI_setI_s, hI_setI_s, hI_setI_s]
    have : j = 0 ∨ j = 1 ∨ j = 2 ∨ j = 3 ∨ j = 4 := by omega
    rcases this with e | e | e | e | e <;> subst e <;> rfl
  have hb2 : LB h1 lq vq cq wq eq cl cs := hb1.fr hF1.2.1 hF1.2.2.1 (fun a q => hF1.2.2.2.2 a (fun z => q z.1)) hlq
  clear eh
  show AW V 0 0 h1 37 [(0, .ref lq), (1, .int a), (2, .int c), (3, .int z), (4, .int k), (5, .int t)] []
  refine a_iconst (v := 0) hb dX1_percent_37 (by decide) ?_
  refine a_istore (L' := [(6, .int 0), (0, .ref lq), (1, .int a), (2, .int c), (3, .int z), (4, .int k), (5, .int t)]) hb dX1_percent_38 (by rw [hml]; decide) rfl ?_
  refine a_iconst (v := 0) hb dX1_percent_40 (by decide) ?_
  refine a_istore (L' := [(7, .int 0), (6, .int 0), (0, .ref lq), (1, .int a), (2, .int c), (3, .int z), (4, .int k), (5, .int t)]) hb dX1_percent_41 (by rw [hml]; decide) rfl ?_
  refine a_iconst (v := 0) hb dX1_percent_43 (by decide) ?_
  refine a_istore (L' := [(8, .int 0), (7, .int 0), (6, .int 0), (0, .ref lq), (1, .int a), (2, .int c), (3, .int z), (4, .int k), (5, .int t)]) hb dX1_percent_44 (by rw [hml]; decide) rfl ?_
  generalize hR : smC (vlF a c z k t) cs 0 = R
  have hpc : pcP cs a c z k t = if R < 0 then 0 else R := by rw [← hR]; rfl
  rw [hpc] at hz
  have hEv : ∀ (ss : List St) (st : List Bool), (∀ s ∈ ss, okS s) → Ev (hI h1 vq) ss st = Ev (vlF a c z k t) ss st := Ev_c hv1
  have hlen : hI h1 lq 6 = nI cs.length := hb2.2.2.2.2.1
  have loop : ∀ (cs2 : List CLA) (i f : Nat) (sum : Int32), i + cs2.length = cs.length → f + (encC cs2).length ≤ cl → RD (hI h1 cq) f (encC cs2) → RD (hI h1 wq) i (cs2.map wgC) → RD (hI h1 eq) i (enC f cs2) → (∀ c ∈ cs2, okC c) → smC (vlF a c z k t) cs2 sum = R → AW V 0 0 h1 46 [(0, .ref lq), (1, .int a), (2, .int c), (3, .int z), (4, .int k), (5, .int t), (6, .int sum), (7, .int (nI f)), (8, .int (nI i))] [] := by
    intro cs2
    induction cs2 with
    | nil =>
      intro i f sum hi1 hf1 hr1 hw1 hn1 ho1 hs1
      have hie : i = cs.length := by have q : i + 0 = cs.length := hi1; omega
      have hsR : sum = R := hs1
      show AW V 0 0 h1 46 [(0, .ref lq), (1, .int a), (2, .int c), (3, .int z), (4, .int k), (5, .int t), (6, .int sum), (7, .int (nI f)), (8, .int (nI i))] []
      refine a_iload hb dX1_percent_46 8 rfl ?_
      refine a_aload_n hb dX1_percent_48 rfl 0 rfl ?_
      refine a_getI hb dX1_percent_49 (by rw [ow]; exact fl_RX1_23_1) hb2.1 ?_
      rw [hlen]
      show AW V 0 0 h1 52 [(0, .ref lq), (1, .int a), (2, .int c), (3, .int z), (4, .int k), (5, .int t), (6, .int sum), (7, .int (nI f)), (8, .int (nI i))] [.int (nI cs.length), .int (nI i)]
      refine a_icmp_ge hb 102 dX1_percent_52 (by decide) (fun c52 => ?_) (fun c52 => absurd (nI_le (by omega) (by omega)) c52)
      refine a_iconst (v := 0) hb dX1_percent_102 (by decide) ?_
      refine a_iload hb dX1_percent_103 6 rfl ?_
      refine a_mmax hb dX1_percent_105 (by rw [ow]; exact kw_489) kw_490 kw_94 kw_491 (by rw [hr]; exact ⟨by decide, Nat.le_of_ble_eq_true rfl⟩) (by rw [hr]; exact ⟨Nat.le_of_ble_eq_true rfl, Nat.le_of_ble_eq_true rfl⟩) ?_
      rw [mx0]
      show AW V 0 0 h1 108 [(0, .ref lq), (1, .int a), (2, .int c), (3, .int z), (4, .int k), (5, .int t), (6, .int sum), (7, .int (nI f)), (8, .int (nI i))] [.int (if sum < 0 then 0 else sum)]
      exact a_ireturn (ty := .int) hb hz dX1_percent_108 hret rfl (by rw [hr]; exact Nat.le_of_ble_eq_true rfl) (by rw [hr]; exact Nat.le_of_ble_eq_true rfl) (⟨by rw [hsR], hF1⟩)
    | cons c0 cs2 ih =>
      intro i f sum hi1 hf1 hr1 hw1 hn1 ho1 hs1
      have hlt : i + cs2.length + 1 = cs.length := by have q : i + (c0 :: cs2).length = cs.length := hi1; rw [List.length_cons] at q; omega
      rw [encC_l] at hf1
      have hcc := ho1 c0 List.mem_cons_self
      have hrc := RD.app (c0.2.2.map encX) (encC cs2) f hr1
      rw [List.length_map] at hrc
      have hwh := RD.hd (x := wgC c0) (l := cs2.map wgC) hw1
      have hnh := RD.hd (x := nI (f + c0.2.2.length)) (l := enC (f + c0.2.2.length) cs2) hn1
      have hev : Ev (hI h1 vq) c0.2.2 [] = some [trC (vlF a c z k t) c0] := by rw [hEv _ _ hcc.2.1]; exact trC_e hcc
      have hs2 : smC (vlF a c z k t) cs2 (sum + wtC (vlF a c z k t) c0) = R := hs1
      show AW V 0 0 h1 46 [(0, .ref lq), (1, .int a), (2, .int c), (3, .int z), (4, .int k), (5, .int t), (6, .int sum), (7, .int (nI f)), (8, .int (nI i))] []
      refine a_iload hb dX1_percent_46 8 rfl ?_
      refine a_aload_n hb dX1_percent_48 rfl 0 rfl ?_
      refine a_getI hb dX1_percent_49 (by rw [ow]; exact fl_RX1_23_1) hb2.1 ?_
      rw [hlen]
      show AW V 0 0 h1 52 [(0, .ref lq), (1, .int a), (2, .int c), (3, .int z), (4, .int k), (5, .int t), (6, .int sum), (7, .int (nI f)), (8, .int (nI i))] [.int (nI cs.length), .int (nI i)]
      refine a_icmp_ge hb 102 dX1_percent_52 (by decide) (fun c52_0 => absurd c52_0 (nI_ge (by omega) (by omega))) (fun c52_0 => ?_)
      refine a_iload hb dX1_percent_55 6 rfl ?_
      refine a_aload_n hb dX1_percent_57 rfl 0 rfl ?_
      refine a_iload hb dX1_percent_58 7 rfl ?_
      refine a_aload_n hb dX1_percent_60 rfl 0 rfl ?_
      refine a_getQ (q := eq) hb dX1_percent_61 (by rw [ow]; exact fl_RX1_20_1) hb2.1 hb2.2.1.2.2.2 ?_
      refine a_iload hb dX1_percent_64 8 rfl ?_
      refine b_iald (j := i) hb dX1_percent_66 hb2.2.2.1.2.2.2 (IX.n (by omega)) (by omega) ?_
      rw [hnh]
      show AW V 0 0 h1 67 [(0, .ref lq), (1, .int a), (2, .int c), (3, .int z), (4, .int k), (5, .int t), (6, .int sum), (7, .int (nI f)), (8, .int (nI i))] [.int (nI (f + c0.2.2.length)), .int (nI f), .ref lq, .int sum]
      refine a_callV hb dX1_percent_67 (by rw [hg]; exact l_code g h1 lq vq cq wq eq cl cs hb2 f (f + c0.2.2.length) (by omega) hcl c0.2.2 (trC (vlF a c z k t) c0) hrc.1 rfl hcc.2.1 hev) (by rw [ow]; exact clv_RX1_51) hb2.1 (by decide) rfl rfl rfl (Nat.le_of_ble_eq_true rfl) (by rw [hr]; exact ⟨by decide, by decide⟩) (by rw [hr]; exact ⟨Nat.le_of_ble_eq_true rfl, Nat.le_of_ble_eq_true rfl⟩) ?_
      intro rv h' hq_
      rw [hq_.1, hq_.2]
      show AW V 0 0 h1 70 [(0, .ref lq), (1, .int a), (2, .int c), (3, .int z), (4, .int k), (5, .int t), (6, .int sum), (7, .int (nI f)), (8, .int (nI i))] [.int (b2i (trC (vlF a c z k t) c0)), .int sum]
      refine a_if_eq hb 83 dX1_percent_70 (by decide) (fun c70_0 => ?_) (fun c70_0 => ?_)
      · simp [b2i_0] at c70_0
        refine a_iconst (v := 0) hb dX1_percent_83 (by decide) ?_
        refine a_iadd hb dX1_percent_84 ?_
        refine a_istore (L' := [(6, .int (sum + 0)), (0, .ref lq), (1, .int a), (2, .int c), (3, .int z), (4, .int k), (5, .int t), (7, .int (nI f)), (8, .int (nI i))]) hb dX1_percent_85 (by rw [hml]; decide) rfl ?_
        refine a_aload_n hb dX1_percent_87 rfl 1 rfl ?_
        refine a_getQ (q := eq) hb dX1_percent_88 (by rw [ow]; exact fl_RX1_20_1) hb2.1 hb2.2.1.2.2.2 ?_
        refine a_iload hb dX1_percent_91 8 rfl ?_
        refine b_iald (j := i) hb dX1_percent_93 hb2.2.2.1.2.2.2 (IX.n (by omega)) (by omega) ?_
        rw [hnh]
        show AW V 0 0 h1 94 [(6, .int (sum + 0)), (0, .ref lq), (1, .int a), (2, .int c), (3, .int z), (4, .int k), (5, .int t), (7, .int (nI f)), (8, .int (nI i))] [.int (nI (f + c0.2.2.length))]
        refine a_istore (L' := [(7, .int (nI (f + c0.2.2.length))), (6, .int (sum + 0)), (0, .ref lq), (1, .int a), (2, .int c), (3, .int z), (4, .int k), (5, .int t), (8, .int (nI i))]) hb dX1_percent_94 (by rw [hml]; decide) rfl ?_
        refine a_iinc (v := ((nI i) + 1)) (L' := [(8, .int ((nI i) + 1)), (7, .int (nI (f + c0.2.2.length))), (6, .int (sum + 0)), (0, .ref lq), (1, .int a), (2, .int c), (3, .int z), (4, .int k), (5, .int t)]) hb dX1_percent_96 8 rfl rfl (by rw [hml]; decide) rfl ?_
        refine a_goto hb 46 dX1_percent_99 (by decide) ?_
        have hw : sum + wtC (vlF a c z k t) c0 = (sum + 0) := by unfold wtC; rw [c70_0]; rfl
        refine AW.sub (L' := [(0, .ref lq), (1, .int a), (2, .int c), (3, .int z), (4, .int k), (5, .int t), (6, .int (sum + 0)), (7, .int (nI (f + c0.2.2.length))), (8, .int ((nI i) + 1))]) [3, 4, 5, 6, 7, 8, 2, 1, 0] rfl ?_
        exact AW.eq (ih (i + 1) (f + c0.2.2.length) (sum + wtC (vlF a c z k t) c0) (by omega) (by omega) hrc.2 (RD.tl hw1) (RD.tl hn1) (fun d hd => ho1 d (List.mem_cons_of_mem _ hd)) hs2) rfl rfl (by rw [hw, nI_1]) rfl
      · simp [b2i_0] at c70_0
        refine a_aload_n hb dX1_percent_73 rfl 0 rfl ?_
        refine a_getQ (q := wq) hb dX1_percent_74 (by rw [ow]; exact fl_RX1_16_1) hb2.1 hb2.2.1.2.2.1 ?_
        refine a_iload hb dX1_percent_77 8 rfl ?_
        refine b_iald (j := i) hb dX1_percent_79 hb2.2.2.1.2.2.1 (IX.n (by omega)) (by omega) ?_
        rw [hwh]
        show AW V 0 0 h1 80 [(0, .ref lq), (1, .int a), (2, .int c), (3, .int z), (4, .int k), (5, .int t), (6, .int sum), (7, .int (nI f)), (8, .int (nI i))] [.int (wgC c0), .int sum]
        refine a_goto hb 84 dX1_percent_80 (by decide) ?_
        refine a_iadd hb dX1_percent_84 ?_
        refine a_istore (L' := [(6, .int (sum + (wgC c0))), (0, .ref lq), (1, .int a), (2, .int c), (3, .int z), (4, .int k), (5, .int t), (7, .int (nI f)), (8, .int (nI i))]) hb dX1_percent_85 (by rw [hml]; decide) rfl ?_
        refine a_aload_n hb dX1_percent_87 rfl 1 rfl ?_
        refine a_getQ (q := eq) hb dX1_percent_88 (by rw [ow]; exact fl_RX1_20_1) hb2.1 hb2.2.1.2.2.2 ?_
        refine a_iload hb dX1_percent_91 8 rfl ?_
        refine b_iald (j := i) hb dX1_percent_93 hb2.2.2.1.2.2.2 (IX.n (by omega)) (by omega) ?_
        rw [hnh]
        show AW V 0 0 h1 94 [(6, .int (sum + (wgC c0))), (0, .ref lq), (1, .int a), (2, .int c), (3, .int z), (4, .int k), (5, .int t), (7, .int (nI f)), (8, .int (nI i))] [.int (nI (f + c0.2.2.length))]
        refine a_istore (L' := [(7, .int (nI (f + c0.2.2.length))), (6, .int (sum + (wgC c0))), (0, .ref lq), (1, .int a), (2, .int c), (3, .int z), (4, .int k), (5, .int t), (8, .int (nI i))]) hb dX1_percent_94 (by rw [hml]; decide) rfl ?_
        refine a_iinc (v := ((nI i) + 1)) (L' := [(8, .int ((nI i) + 1)), (7, .int (nI (f + c0.2.2.length))), (6, .int (sum + (wgC c0))), (0, .ref lq), (1, .int a), (2, .int c), (3, .int z), (4, .int k), (5, .int t)]) hb dX1_percent_96 8 rfl rfl (by rw [hml]; decide) rfl ?_
        refine a_goto hb 46 dX1_percent_99 (by decide) ?_
        have hw : sum + wtC (vlF a c z k t) c0 = (sum + (wgC c0)) := by unfold wtC; rw [c70_0]; rfl
        refine AW.sub (L' := [(0, .ref lq), (1, .int a), (2, .int c), (3, .int z), (4, .int k), (5, .int t), (6, .int (sum + (wgC c0))), (7, .int (nI (f + c0.2.2.length))), (8, .int ((nI i) + 1))]) [3, 4, 5, 6, 7, 8, 2, 1, 0] rfl ?_
        exact AW.eq (ih (i + 1) (f + c0.2.2.length) (sum + wtC (vlF a c z k t) c0) (by omega) (by omega) hrc.2 (RD.tl hw1) (RD.tl hn1) (fun d hd => ho1 d (List.mem_cons_of_mem _ hd)) hs2) rfl rfl (by rw [hw, nI_1]) rfl
  refine AW.sub (L' := [(0, .ref lq), (1, .int a), (2, .int c), (3, .int z), (4, .int k), (5, .int t), (6, .int 0), (7, .int 0), (8, .int 0)]) [3, 4, 5, 6, 7, 8, 2, 1, 0] rfl ?_
  exact AW.eq (loop cs 0 0 0 (by omega) (by omega) hb2.2.2.2.2.2.1 hb2.2.2.2.2.2.2.1 hb2.2.2.2.2.2.2.2 hok hR) rfl rfl rfl rfl
