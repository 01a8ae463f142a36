/-! ===== sure and worst: sums over the ways ===== -/
theorem oO_n {x : Int32} {m : Nat} (hm : m < 2 ^ 31) (h : oO x 0 (nI m) = false) : ∃ a, a ≤ m ∧ x = nI a := by
  simp only [oO, Bool.or_eq_false_iff, decide_eq_false_iff_not] at h
  obtain ⟨j, hj, e⟩ := nI_of h.1
  refine ⟨j, ?_, e⟩
  have h2 := h.2
  rw [e] at h2
  have z : ¬ m < j := fun q => h2 ((nI_ltI hm hj).mpr q)
  omega
theorem OD_of {S : Nat → Int32} {N : NN} (G : RG S N) : OD S N.1 := by
  have key : ∀ p, p < N.1 → ∃ a b : Nat, a + b ≤ 10 ∧ S (162 + p) = nI a ∧ S (170 + p) = nI b ∧ odS S p (nI 0) = nI a ∧ odS S p (nI 1) = nI b ∧ odS S p (nI 2) = nI (10 - a - b) := fun p hp => by
    obtain ⟨-, -, -, -, g1, g2, g3⟩ := G.2.2.2.2.2.2.1 p hp
    obtain ⟨a, ha, ea⟩ := oO_n (m := 10) (by decide) g1
    obtain ⟨b, hb, eb⟩ := oO_n (m := 10) (by decide) g2
    rw [ea, eb, nI_add] at g3
    have hab : ¬ 10 < a + b := fun q => g3 ((nI_ltI (a := 10) (b := a + b) (by decide) (by omega)).mpr q)
    refine ⟨a, b, by omega, ea, eb, ?_, ?_, ?_⟩
    · unfold odS; rw [if_pos (by decide), ea]
    · unfold odS; rw [if_neg (by decide), if_pos (by decide), eb]
    · unfold odS
      rw [if_neg (by decide), if_neg (by decide), ea, eb]
      apply i32_ext
      rw [Int32.toInt_sub, Int32.toInt_sub, nI_toInt (by omega), nI_toInt (by omega), nI_toInt (by omega), show (10 : Int32).toInt = 10 from by decide, Int.bmod_eq_of_le (n := (10 : Int) - a) (by omega) (by omega), Int.bmod_eq_of_le (by omega) (by omega)]
      omega
  refine ⟨fun p hp d hd => ?_, fun p hp hl => ?_, fun p hp hl => ?_⟩
  · obtain ⟨a, b, hab, ea, eb, e0, e1, e2⟩ := key p hp
    have hd3 : d = 0 ∨ d = 1 ∨ d = 2 := by omega
    unfold onN
    rcases hd3 with rfl | rfl | rfl
    · rw [e0, nI_clamp (by omega)]; exact ⟨rfl, by omega⟩
    · rw [e1, nI_clamp (by omega)]; exact ⟨rfl, by omega⟩
    · rw [e2, nI_clamp (by omega)]; exact ⟨rfl, by omega⟩
  · obtain ⟨a, b, hab, ea, eb, -, -, -⟩ := key p hp
    rw [ea] at hl
    have ha : ¬ a < 10 := fun q => hl ((nI_ltI (a := a) (b := 10) (by omega) (by decide)).mpr q)
    obtain rfl : a = 10 := by omega
    obtain rfl : b = 0 := by omega
    exact ⟨ea, eb⟩
  · obtain ⟨a, b, hab, ea, eb, e0, e1, e2⟩ := key p hp
    by_cases q0 : 0 < a
    · exact ⟨0, by decide, by unfold onN; rw [e0, nI_clamp (by omega)]; exact q0⟩
    · by_cases q1 : 0 < b
      · exact ⟨1, by decide, by unfold onN; rw [e1, nI_clamp (by omega)]; exact q1⟩
      · exact ⟨2, by decide, by unfold onN; rw [e2, nI_clamp (by omega)]; omega⟩
section WS
variable {S : Nat → Int32} {np : Nat}
theorem od_0 (hO : OD S np) (ob : ∀ y, opN S np y np ≤ 10000) {y : Nat} (h : ¬ 0 < odT S np y np) : odT S np y np = 0 := by
  rw [odT_n hO] at h ⊢
  have := ob y
  have z : ¬ 0 < opN S np y np := fun q => h ((nI_p (by omega)).mpr q)
  rw [show opN S np y np = 0 by omega]; rfl
theorem fd_w {fb : (Nat → Int32) → Int32} (hO : OD S np) (ob : ∀ y, opN S np y np ≤ 10000) : ∀ n, fdS (stW fb S np) 0 n (0, 0, -5, -5) = (hlS (fun y => odT S np y np) (fun y => fb (fun p => nI (dyT S np y p))) n, alS (fun y => odT S np y np) n, woS (fwS (fun y => odT S np y np) (fun y => fb (fun p => nI (dyT S np y p)))) (fun y => dgS (fun p => nI (dyT S np y p)) np) n)
  | 0 => rfl
  | n + 1 => by
    show stW fb S np (0 + n) (fdS (stW fb S np) 0 n (0, 0, -5, -5)) = _
    rw [Nat.zero_add, fd_w hO ob n]
    unfold stW
    by_cases h : 0 < odT S np n np
    · rw [if_pos h]
      refine Prod.ext ?_ (Prod.ext rfl ?_)
      · show hlS (fun y => odT S np y np) (fun y => fb (fun p => nI (dyT S np y p))) n + (if fb (fun p => nI (dyT S np n p)) = -5 then (odT S np n np).toInt64 else 0) = hlS (fun y => odT S np y np) (fun y => fb (fun p => nI (dyT S np y p))) (n + 1)
        by_cases f : fb (fun p => nI (dyT S np n p)) = -5
        · rw [if_pos f]; exact (hl_y (od := fun y => odT S np y np) (ft := fun y => fb (fun p => nI (dyT S np y p))) h f).symm
        · rw [if_neg f, Int64.add_zero]; exact (hl_n (od := fun y => odT S np y np) (ft := fun y => fb (fun p => nI (dyT S np y p))) (Or.inr f)).symm
      · have e : fwS (fun y => odT S np y np) (fun y => fb (fun p => nI (dyT S np y p))) n = fb (fun p => nI (dyT S np n p)) := if_pos h
        show _ = (if ¬ fwS (fun y => odT S np y np) (fun y => fb (fun p => nI (dyT S np y p))) n = -5 ∧ _ then _ else _)
        rw [e]; rfl
    · rw [if_neg h]
      refine Prod.ext (hl_n (od := fun y => odT S np y np) (ft := fun y => fb (fun p => nI (dyT S np y p))) (Or.inl h)).symm (Prod.ext ?_ (wo_s (if_neg h)).symm)
      show alS _ n = alS _ n + (odT S np n np).toInt64
      rw [od_0 hO ob h, show (0 : Int32).toInt64 = 0 from rfl, Int64.add_zero]
def smN (S : Nat → Int32) (np : Nat) : Nat → Nat
  | 0 => 0
  | n + 1 => smN S np n + opN S np n np
theorem al_n (hO : OD S np) (ob : ∀ y, opN S np y np ≤ 10000) : ∀ n, alS (fun y => odT S np y np) n = lJ (smN S np n)
  | 0 => rfl
  | n + 1 => by
    have := ob n
    show alS _ n + (odT S np n np).toInt64 = lJ (smN S np n + opN S np n np)
    rw [al_n hO ob n, odT_n hO, nI_J (by omega), lJ_add]
theorem sm_b (ob : ∀ y, opN S np y np ≤ 10000) : ∀ n, smN S np n ≤ 10000 * n
  | 0 => Nat.le_refl _
  | n + 1 => by
    have := ob n
    have := sm_b ob n
    show smN S np n + opN S np n np ≤ _
    omega
theorem sm_p {n y : Nat} (hy : y < n) (h : 0 < opN S np y np) : 0 < smN S np n := by
  induction n with
  | zero => exact absurd hy (Nat.not_lt_zero _)
  | succ n ih =>
    show 0 < smN S np n + opN S np n np
    by_cases e : y = n
    · subst e; omega
    · have := ih (by omega); omega
theorem hl_e {ft : Nat → Int32} (hO : OD S np) (ob : ∀ y, opN S np y np ≤ 10000) : ∀ n, ∃ a, a ≤ 10000 * n ∧ hlS (fun y => odT S np y np) ft n = lJ a
  | 0 => ⟨0, Nat.le_refl _, rfl⟩
  | n + 1 => by
    obtain ⟨a, ha, e⟩ := hl_e (ft := ft) hO ob n
    have o := ob n
    show ∃ a, _ ∧ (if 0 < odT S np n np ∧ ft n = -5 then hlS _ ft n + (odT S np n np).toInt64 else hlS _ ft n) = lJ a
    split
    · exact ⟨a + opN S np n np, by omega, by rw [e, odT_n hO, nI_J (by omega), lJ_add]⟩
    · exact ⟨a, by omega, e⟩
theorem op_ex (hO : OD S np) : ∀ k b, b + k = np → ∀ y1, 0 < opN S np (y1 * mM S np k) b → ∃ y2, y2 < mM S np k ∧ 0 < opN S np (y1 * mM S np k + y2) np
  | 0, b, hb, y1, h => by
    obtain rfl : b = np := by omega
    exact ⟨0, Nat.one_pos, h⟩
  | k + 1, b, hb, y1, h => by
    have hkb : np - 1 - k = b := by omega
    have hbk : np - 1 - b = k := by omega
    have hbn : b < np := by omega
    by_cases hl : S (162 + b) < 10
    · have hM : mM S np (k + 1) = mM S np k * 3 := by
        show mM S np k * (if S (162 + (np - 1 - k)) < 10 then 3 else 1) = _
        rw [hkb, if_pos hl]
      have hMp := mM_pos (S := S) (np := np) k
      obtain ⟨d, hd, hon⟩ := hO.2.2 b hbn hl
      have ey : ∀ i, i < mM S np k → (y1 * 3 + d) * mM S np k + i = y1 * mM S np (k + 1) + (d * mM S np k + i) := fun i hi => by
        rw [hM, Nat.add_mul, Nat.mul_comm (mM S np k) 3, ← Nat.mul_assoc, Nat.add_assoc]
      have lt_ : ∀ i, i < mM S np k → d * mM S np k + i < mM S np (k + 1) := fun i hi => by
        have : d * mM S np k ≤ 2 * mM S np k := Nat.mul_le_mul_right _ (by omega)
        rw [hM]; omega
      have pre : ∀ p, p < b → dyT S np ((y1 * 3 + d) * mM S np k) p = dyT S np (y1 * mM S np (k + 1)) p := fun p hp => by
        have e := ey 0 hMp
        rw [Nat.add_zero] at e
        rw [e]; exact dy_r (by omega) (lt_ 0 hMp)
      have own : dyT S np ((y1 * 3 + d) * mM S np k) b = d := by
        have := dy_d (S := S) (np := np) (b := b) (y1 := y1) (d := d) (y2 := 0) hl hd (by rw [hbk]; exact hMp)
        rw [hbk] at this; exact this
      have op1 : opN S np ((y1 * 3 + d) * mM S np k) (b + 1) = opN S np (y1 * mM S np (k + 1)) b * onN S b d := by
        show opN S np _ b * (if S (162 + b) < 10 then onN S b (dyT S np _ b) else 1) = _
        rw [if_pos hl, own, opN_c b pre]
      obtain ⟨y2, l2, h2⟩ := op_ex hO k (b + 1) (by omega) (y1 * 3 + d) (by rw [op1]; exact Nat.mul_pos h hon)
      exact ⟨d * mM S np k + y2, lt_ y2 l2, by rw [← ey y2 l2]; exact h2⟩
    · have hM : mM S np (k + 1) = mM S np k := by
        show mM S np k * (if S (162 + (np - 1 - k)) < 10 then 3 else 1) = _
        rw [hkb, if_neg hl, Nat.mul_one]
      rw [hM] at h ⊢
      refine op_ex hO k (b + 1) (by omega) y1 ?_
      show 0 < opN S np _ b * (if S (162 + b) < 10 then _ else 1)
      rw [if_neg hl, Nat.mul_one]; exact h
theorem mM_all : mM S np np = nwN S np := by
  have e := mM_nw (S := S) (np := np) np (Nat.le_refl _)
  rw [Nat.sub_self] at e
  have e2 : mM S np np * 1 = nwN S np := e
  rw [Nat.mul_one] at e2
  exact e2
end WS
/-- the model's walk over the ways is the class's -/
theorem wy_all {S : Nat → Int32} {N : NN} {P : PF} {hl : Nat} {c : Int32} (G : RG S N) (h4 : ¬ 4 < ltM S N.1) (dl : Nat → Int32) : wyS (fun dl => fbW P S dl hl N.1 N.2.1 c) S N.1 0 dl 1 0 (0, 0, -5, -5) = (hlS (fun y => odT S N.1 y N.1) (fun y => fbW P S (fun p => nI (dyT S N.1 y p)) hl N.1 N.2.1 c) (nwN S N.1), alS (fun y => odT S N.1 y N.1) (nwN S N.1), woS (fwS (fun y => odT S N.1 y N.1) (fun y => fbW P S (fun p => nI (dyT S N.1 y p)) hl N.1 N.2.1 c)) (fun y => dgS (fun p => nI (dyT S N.1 y p)) N.1) (nwN S N.1)) := by
  have hO := OD_of G
  have ob := opN_4 hO G.1.2 h4
  have e := wy_f (fb := fun dl => fbW P S dl hl N.1 N.2.1 c) hO G.1.2 h4 (fun dl dl' q => fbW_c q) N.1 0 (Nat.zero_add _) 0 dl 1 0 (0, 0, -5, -5) (fun p q => absurd q (Nat.not_lt_zero p)) rfl Nat.one_pos rfl
  rw [e, Nat.zero_mul, mM_all, fd_w hO ob]
theorem ws_ab {S : Nat → Int32} {N : NN} {ft : Nat → Int32} (G : RG S N) (h4 : ¬ 4 < ltM S N.1) : ∃ a b : Nat, a < 2 ^ 31 ∧ b < 2 ^ 31 ∧ 0 < b ∧ hlS (fun y => odT S N.1 y N.1) ft (nwN S N.1) = lJ a ∧ alS (fun y => odT S N.1 y N.1) (nwN S N.1) = lJ b := by
  have hO := OD_of G
  have ob := opN_4 hO G.1.2 h4
  have h81 := nwN_4 G.1.2 h4
  obtain ⟨a, ha, ea⟩ := hl_e (ft := ft) hO ob (nwN S N.1)
  have hb := sm_b (S := S) ob (nwN S N.1)
  obtain ⟨y2, l2, h2⟩ := op_ex hO N.1 0 (Nat.zero_add _) 0 Nat.one_pos
  rw [Nat.zero_mul, Nat.zero_add] at h2
  rw [mM_all] at l2
  exact ⟨a, _, by omega, by omega, sm_p l2 h2, ea, al_n hO ob _⟩
