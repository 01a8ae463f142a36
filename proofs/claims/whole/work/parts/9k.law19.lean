/-! ===== the class reads a law: clauses ===== -/
/-- the law's object and its rows of weights and ends, so many clauses read -/
def lbH (h : AH) (lq wq eq : Nat) (cs : List CLA) (mo : Int32) : AH := setR (setR (setR h lq (upd (upd (hI h lq) 3 mo) 6 (nI cs.length))) wq (wrL (hI h wq) 0 (cs.map wgC))) eq (wrL (hI h eq) 0 (enC 0 cs))
theorem enC_len : ∀ (f : Nat) (cs : List CLA), (enC f cs).length = cs.length
  | _, [] => rfl
  | f, c :: cs => by show (enC _ cs).length + 1 = cs.length + 1; rw [enC_len]
theorem encC_app : ∀ (a b : List CLA), encC (a ++ b) = encC a ++ encC b
  | [], b => rfl
  | c :: a, b => by
    show c.2.2.map encX ++ encC (a ++ b) = (c.2.2.map encX ++ encC a) ++ encC b
    rw [encC_app a b, List.append_assoc]
theorem encC_1 (c : CLA) : encC [c] = c.2.2.map encX := List.append_nil _
theorem enC_app : ∀ (f : Nat) (cs : List CLA) (c : CLA), enC f (cs ++ [c]) = enC f cs ++ [nI (f + (encC cs).length + c.2.2.length)]
  | f, [], c => rfl
  | f, d :: cs, c => by
    show nI (f + d.2.2.length) :: enC (f + d.2.2.length) (cs ++ [c]) = nI (f + d.2.2.length) :: (enC (f + d.2.2.length) cs ++ [nI (f + (d.2.2.map encX ++ encC cs).length + c.2.2.length)])
    rw [enC_app, List.length_append, List.length_map, show f + (d.2.2.length + (encC cs).length) = f + d.2.2.length + (encC cs).length by omega]
section LB
variable {h : AH} {lq wq eq : Nat} {cs : List CLA} {mo : Int32}
theorem lb_l (d1 : wq ≠ lq) (d4 : eq ≠ lq) : hI (lbH h lq wq eq cs mo) lq = upd (upd (hI h lq) 3 mo) 6 (nI cs.length) := by unfold lbH; rw [hI_Rn (Ne.symm d4), hI_Rn (Ne.symm d1), hI_R]
theorem lb_w (d7 : eq ≠ wq) : hI (lbH h lq wq eq cs mo) wq = wrL (hI h wq) 0 (cs.map wgC) := by unfold lbH; rw [hI_Rn (Ne.symm d7), hI_R]
theorem lb_e : hI (lbH h lq wq eq cs mo) eq = wrL (hI h eq) 0 (enC 0 cs) := by unfold lbH; rw [hI_R]
theorem lb_n {a : Nat} (e1 : a ≠ lq) (e2 : a ≠ wq) (e3 : a ≠ eq) : hI (lbH h lq wq eq cs mo) a = hI h a := by unfold lbH; rw [hI_Rn e3, hI_Rn e2, hI_Rn e1]
theorem lb_6 (d1 : wq ≠ lq) (d4 : eq ≠ lq) : hI (lbH h lq wq eq cs mo) lq 6 = nI cs.length := by rw [lb_l d1 d4, upd_s]
theorem lb_3 (d1 : wq ≠ lq) (d4 : eq ≠ lq) : hI (lbH h lq wq eq cs mo) lq 3 = mo := by rw [lb_l d1 d4, upd_n (by decide), upd_s]
theorem lb_m {v : Int32} (d1 : wq ≠ lq) (d4 : eq ≠ lq) (d7 : eq ≠ wq) : setI (lbH h lq wq eq cs mo) lq 3 v = lbH h lq wq eq cs v := by
  refine AH_ext rfl rfl (fun a => ?_) rfl rfl
  by_cases e1 : a = lq
  · subst e1
    rw [hI_setI_s, lb_l d1 d4, lb_l d1 d4]
    funext j
    by_cases q3 : j = 3
    · subst q3; rw [upd_s, upd_n (by decide), upd_s]
    · rw [upd_n q3]
      by_cases q6 : j = 6
      · subst q6; rw [upd_s, upd_s]
      · rw [upd_n q6, upd_n q6, upd_n q3, upd_n q3]
  · rw [hI_setI_n e1]
    by_cases e3 : a = eq
    · subst e3; rw [lb_e, lb_e]
    · by_cases e2 : a = wq
      · subst e2; rw [lb_w d7, lb_w d7]
      · rw [lb_n e1 e2 e3, lb_n e1 e2 e3]
theorem lb_c {c : CLA} (d1 : wq ≠ lq) (d4 : eq ≠ lq) (d7 : eq ≠ wq) : setI (setI (setI (lbH h lq wq eq cs mo) wq cs.length (wgC c)) eq cs.length (nI ((encC cs).length + c.2.2.length))) lq 6 (nI cs.length + 1) = lbH h lq wq eq (cs ++ [c]) mo := by
  refine AH_ext rfl rfl (fun a => ?_) rfl rfl
  by_cases e1 : a = lq
  · subst e1
    rw [hI_setI_s, hI_setI_n (Ne.symm d4), hI_setI_n (Ne.symm d1), lb_l d1 d4, lb_l d1 d4, List.length_append, nI_1]
    funext j
    by_cases q6 : j = 6
    · subst q6; rw [upd_s, upd_s]; rfl
    · rw [upd_n q6, upd_n q6, upd_n q6]
  · rw [hI_setI_n e1]
    by_cases e3 : a = eq
    · subst e3
      rw [hI_setI_s, hI_setI_n d7, lb_e, lb_e, enC_app, wrL_app, enC_len, Nat.zero_add, Nat.zero_add]; rfl
    · rw [hI_setI_n e3]
      by_cases e2 : a = wq
      · subst e2
        rw [hI_setI_s, lb_w d7, lb_w d7, List.map_append, wrL_app, List.length_map, Nat.zero_add]; rfl
      · rw [hI_setI_n e2, lb_n e1 e2 e3, lb_n e1 e2 e3]
end LB
section CLX
variable {H : Nat → Int32} {p : Nat} {cs : List CLA} {mo : Int32}
theorem clC_m (h : H p = 109) : clC H p cs mo = ((moS H p).1, (moS H p).2.1, cs, if (moS H p).1 = true then mo else nI (moS H p).2.2) := by
  unfold clC
  rw [if_neg (by rw [h]; decide), if_neg (by rw [h]; decide), if_pos h]
theorem clC_e (h : H p = 101) : clC H p cs mo = ((mcS H wdE p).1, (mcS H wdE p).2.1, if (mcS H wdE p).1 = true then cs else cs ++ [(true, (mcS H wdE p).2.2.2, (mcS H wdE p).2.2.1)], mo) := by
  unfold clC
  rw [if_neg (by rw [h]; decide), if_pos h]
theorem clC_d (h : H p = 100) : clC H p cs mo = ((mcS H wdD p).1, (mcS H wdD p).2.1, if (mcS H wdD p).1 = true then cs else cs ++ [(false, (mcS H wdD p).2.2.2, (mcS H wdD p).2.2.1)], mo) := by
  unfold clC
  rw [if_pos h]
theorem clC_o (h : ¬ H p = 100) (h1 : ¬ H p = 101) (h2 : ¬ H p = 109) : clC H p cs mo = (true, p, cs, mo) := by
  unfold clC
  rw [if_neg h, if_neg h1, if_neg h2]
theorem spS_o (h : ¬ H p = 100) : spS H wdD false p = (true, p) := by simp [wdD, spS, muP, h]
theorem clC_g {n : Nat} (hE : ∀ p, n ≤ p → H p = -1) (hl : (encC cs).length ≤ p) (hp : p ≤ n) : (clC H p cs mo).2.1 ≤ n ∧ (encC (clC H p cs mo).2.2.1).length ≤ (clC H p cs mo).2.1 := by
  have hg : ∀ wd, (∀ c ∈ wd, c ≠ (-1 : Int32)) → ∀ b, (mcS H wd p).2.1 ≤ n ∧ (encC (if (mcS H wd p).1 = true then cs else cs ++ [(b, (mcS H wd p).2.2.2, (mcS H wd p).2.2.1)])).length ≤ (mcS H wd p).2.1 := fun wd hw b => by
    have g := mcS_g (tx := H) (n := n) hw p
    rw [← hr_e hE] at g
    refine ⟨g.1 hp, ?_⟩
    have g2 := g.2.1
    split
    · omega
    · rw [encC_app, encC_1, List.length_append, List.length_map]
      show (encC cs).length + (mcS H wd p).2.2.1.length ≤ _
      omega
  by_cases h1 : H p = 100
  · rw [clC_d h1]; exact hg wdD (by decide) false
  by_cases h2 : H p = 101
  · rw [clC_e h2]; exact hg wdE (by decide) true
  by_cases h3 : H p = 109
  · rw [clC_m h3]
    have g := moS_g (tx := H) (n := n) p
    rw [← hr_e hE] at g
    exact ⟨g.2.1 hp, Nat.le_trans hl g.1⟩
  · rw [clC_o h1 h2 h3]; exact ⟨hp, hl⟩
theorem clC_len : (clC H p cs mo).2.2.1.length ≤ cs.length + 1 := by
  have hg : ∀ wd b, (if (mcS H wd p).1 = true then cs else cs ++ [(b, (mcS H wd p).2.2.2, (mcS H wd p).2.2.1)]).length ≤ cs.length + 1 := fun wd b => by
    split
    · omega
    · rw [List.length_append, List.length_singleton]; omega
  by_cases h1 : H p = 100
  · rw [clC_d h1]; exact hg wdD false
  by_cases h2 : H p = 101
  · rw [clC_e h2]; exact hg wdE true
  by_cases h3 : H p = 109
  · rw [clC_m h3]; exact Nat.le_succ _
  · rw [clC_o h1 h2 h3]; exact Nat.le_succ _
theorem clK_t {k : Nat} {r : LC} (h : r.1 = true) : clK H k r = r := by
  cases k with
  | zero => rfl
  | succ k => rw [clK, if_pos h]
theorem clK_n {k : Nat} {r : LC} (h : ¬ H r.2.1 = 59) : clK H k r = r := by
  cases k with
  | zero => rfl
  | succ k =>
    rw [clK]
    split
    · rfl
    · first | rfl | rw [if_neg h]
theorem clK_s {k : Nat} {r : LC} (h : r.1 = false) (h2 : H r.2.1 = 59) : clK H (k + 1) r = clK H k (clC H (r.2.1 + 1) r.2.2.1 r.2.2.2) := by
  rw [clK, if_neg (by rw [h]; decide), if_pos h2]
end CLX
theorem l_cla (g : GG) (h : AH) (lq tq cq n : Nat) (t1 : hT h lq = (1, 0)) (t2 : hT h tq = (13, n)) (t3 : hT h cq = (14, n)) (q0 : hQ h lq 0 = some tq) (q7 : hQ h lq 7 = some cq) (ne1 : lq ≠ cq) (ne2 : tq ≠ lq) (ne3 : tq ≠ cq) (hn : n ≤ 120) (H : Nat → Int32) (hH : ∀ p, p < n → hI h tq p = bx (H p) ∧ oO (H p) 0 255 = false) (hE : ∀ p, n ≤ p → H p = -1)
    (wq eq : Nat) (t4 : hT h wq = (14, 8)) (t5 : hT h eq = (14, 8)) (q4 : hQ h lq 4 = some wq) (q5 : hQ h lq 5 = some eq) (d1 : wq ≠ lq) (d2 : tq ≠ wq) (d3 : wq ≠ cq) (d4 : eq ≠ lq) (d5 : tq ≠ eq) (d6 : eq ≠ cq) (d7 : eq ≠ wq) (p : Nat) (cs : List CLA) (mo : Int32) (hp : p ≤ n) (hk : cs.length < 8) (hll : (encC cs).length ≤ p) :
    AM g 28 0 0 mX1_clause [.ref lq] (lpH (lbH h lq wq eq cs mo) lq cq p (encC cs)) (fun rv h' => rv = some (.int (b2i (!(clC H p cs mo).1))) ∧ ∃ l, h' = lpH (lbH h lq wq eq (clC H p cs mo).2.2.1 (clC H p cs mo).2.2.2) lq cq (clC H p cs mo).2.1 l ∧ ((clC H p cs mo).1 = false → l = encC (clC H p cs mo).2.2.1)) := by
  have hH' : ∀ p, p < n → hI (lbH h lq wq eq cs mo) tq p = bx (H p) ∧ oO (H p) 0 255 = false := fun p hp => by rw [lb_n ne2 d2 d5]; exact hH p hp
  refine AM.weak (l_clx g (lbH h lq wq eq cs mo) lq tq cq n t1 t2 t3 q0 q7 ne1 ne2 ne3 hn H hH' hE p (encC cs) hp wq eq cs.length hk t4 t5 q4 q5 d1 d3 d4 d6 d7 (lb_6 d1 d4) hll) ?_
  have add : ∀ b wd h', h' = lpH (setI (setI (setI (lbH h lq wq eq cs mo) wq cs.length (wgC (b, (mcS H wd p).2.2.2, []))) eq cs.length (nI (encC cs ++ (mcS H wd p).2.2.1.map encX).length)) lq 6 (nI cs.length + 1)) lq cq (mcS H wd p).2.1 (encC cs ++ (mcS H wd p).2.2.1.map encX) → h' = lpH (lbH h lq wq eq (cs ++ [(b, (mcS H wd p).2.2.2, (mcS H wd p).2.2.1)]) mo) lq cq (mcS H wd p).2.1 (encC (cs ++ [(b, (mcS H wd p).2.2.2, (mcS H wd p).2.2.1)])) := fun b wd h' hh => by
    rw [hh, encC_app, encC_1, ← lb_c d1 d4 d7, List.length_append, List.length_map]
    rfl
  intro rv h' hq
  rcases hq with ⟨e109, hv, hh⟩ | ⟨n109, b, wd, hb, hq⟩
  · rw [clC_m e109]
    refine ⟨hv, encC cs, ?_, fun _ => rfl⟩
    rw [hh]
    show _ = lpH (lbH h lq wq eq cs (if (moS H p).1 = true then mo else nI (moS H p).2.2)) lq cq _ _
    split
    · rfl
    · rw [lb_m d1 d4 d7]
  · rcases hb with ⟨rfl, rfl, e101⟩ | ⟨rfl, rfl, n101⟩
    · rw [clC_e e101]
      rcases hq with ⟨w, hv, l', hh⟩ | ⟨w, hv, hh⟩
      · rw [w, if_pos rfl]
        exact ⟨hv, l', hh, fun z => Bool.noConfusion z⟩
      · rw [w, if_neg (by decide)]
        exact ⟨hv, _, add _ _ _ hh, fun _ => rfl⟩
    · by_cases e100 : H p = 100
      · rw [clC_d e100]
        rcases hq with ⟨w, hv, l', hh⟩ | ⟨w, hv, hh⟩
        · rw [w, if_pos rfl]
          exact ⟨hv, l', hh, fun z => Bool.noConfusion z⟩
        · rw [w, if_neg (by decide)]
          exact ⟨hv, _, add _ _ _ hh, fun _ => rfl⟩
      · rw [clC_o e100 n101 n109]
        have m := mc_1 (H := H) (wd := wdD) (p := p) (by rw [spS_o e100])
        rw [spS_o e100] at m
        rcases hq with ⟨w, hv, l', hh⟩ | ⟨w, hv, hh⟩
        · rw [m.2] at hh
          exact ⟨hv, l', hh, fun z => Bool.noConfusion z⟩
        · rw [m.1] at w; exact Bool.noConfusion w
