/-! ===== a law's object gives what the upper methods ask ===== -/
theorem wtC_b {vl : Nat → Int32} {c : CLA} (h : okC c) : -999 ≤ (wtC vl c).toInt ∧ (wtC vl c).toInt ≤ 999 := by
  have h9 := h.1
  have e : (nI c.2.1).toInt = (c.2.1 : Int) := nI_toInt (by omega)
  unfold wtC
  split
  · split
    · rw [ti_neg (by omega), e]; omega
    · rw [e]; omega
  · rw [t0]; omega
theorem smC_b {vl : Nat → Int32} : ∀ (cs : List CLA) (s : Int32) (M : Int), (∀ c ∈ cs, okC c) → 0 ≤ M → -M ≤ s.toInt → s.toInt ≤ M → M + 999 * (cs.length : Int) ≤ 1000000 → -(M + 999 * (cs.length : Int)) ≤ (smC vl cs s).toInt ∧ (smC vl cs s).toInt ≤ M + 999 * (cs.length : Int) := by
  intro cs
  induction cs with
  | nil => intro s M _ hM h1 h2 _; show -(M + 999 * (0 : Int)) ≤ s.toInt ∧ s.toInt ≤ M + 999 * (0 : Int); omega
  | cons c cs ih =>
    intro s M ho hM h1 h2 h3
    have w := wtC_b (vl := vl) (ho c List.mem_cons_self)
    have hl : ((c :: cs).length : Int) = (cs.length : Int) + 1 := by rw [List.length_cons]; rfl
    rw [hl] at h3 ⊢
    have e : (s + wtC vl c).toInt = s.toInt + (wtC vl c).toInt := ti_add (by omega) (by omega)
    have i := ih (s + wtC vl c) (M + 999) (fun d hd => ho d (List.mem_cons_of_mem _ hd)) (by omega) (by omega) (by omega) (by omega)
    show -(M + 999 * ((cs.length : Int) + 1)) ≤ (smC vl cs (s + wtC vl c)).toInt ∧ (smC vl cs (s + wtC vl c)).toInt ≤ M + 999 * ((cs.length : Int) + 1)
    omega
theorem pcP_b {cs : List CLA} (ho : ∀ c ∈ cs, okC c) (h8 : cs.length ≤ 8) : PB (pcP cs) := fun a c z k t => by
  have b := smC_b (vl := vlF a c z k t) cs 0 0 ho (by omega) (by rw [t0]; omega) (by rw [t0]; omega) (by omega)
  unfold pcP
  split
  · rw [t0]; omega
  · rename_i q
    have : ¬ (smC (vlF a c z k t) cs 0).toInt < 0 := fun x => q (Int32.lt_iff_toInt_lt.mpr (by rw [t0]; exact x))
    omega
theorem pcx_of {g : GG} {h : AH} {B lq vq cq wq eq cl : Nat} {cs : List CLA} (H : LB h lq vq cq wq eq cl cs) (hB : B + 62 ≤ vq ∧ B + 62 ≤ lq ∧ B + 62 ≤ cq ∧ B + 62 ≤ wq ∧ B + 62 ≤ eq) (hlq : lq ≠ vq) (hcl : cl ≤ 200) (ho : ∀ c ∈ cs, okC c) (h8 : cs.length ≤ 8) (hln : (encC cs).length ≤ cl) : PcX g h B lq vq (pcP cs) := fun h1 x a c z k t => by
  have e : ∀ q, q ≠ vq → B + 62 ≤ q → hI h1 q = hI h q := fun q n1 n2 => x.2.2.2.2 q (by unfold Ay; omega)
  have H1 : LB h1 lq vq cq wq eq cl cs := by
    obtain ⟨g1, g2, g3, g4, g5, g6, g7, g8⟩ := H
    unfold LB
    rw [x.2.1, x.2.2.1, e lq hlq hB.2.1, e cq g4.1 hB.2.2.1, e wq g4.2.1 hB.2.2.2.1, e eq g4.2.2 hB.2.2.2.2]
    exact ⟨g1, g2, g3, g4, g5, g6, g7, g8⟩
  exact l_percent g h1 lq vq cq wq eq cl cs H1 B (by omega) hlq hcl ho h8 hln a c z k t
/-- the model's side: what its row holds of the newest law -/
theorem pcm_of {g : GG} {h : AH} {B a n : Nat} {cs : List CLA} (hL : LY h B) (ha : a < 5) (h8 : hI h (B + 52) 8 = nI a) (ho : ∀ c ∈ cs, okC c) (hn : n ≤ 140) (hsn : hI h (B + 52) (213 + a) = nI n) (hle : (encL cs).length = n) (hrd : RD (hI h (B + 52)) (218 + 140 * a) (encL cs)) : PcM g B h (pcP cs) := fun h1 x => by
  have e : hI h1 (B + 52) = hI h (B + 52) := x.2.2.2.2 _ (by unfold Ax; omega)
  exact m_percent g h1 B (x.ly hL) a n ha (by rw [e]; exact h8) cs ho hn (by rw [e]; exact hsn) hle (by rw [e]; exact hrd)
