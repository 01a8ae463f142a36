/-! ===== the pair: law ===== -/
theorem LWb.fw2 {A : Nat → Prop} {h h1 : AH} {B a lq cl n : Nat} {S S' : Nat → Int32} {cs : List CLA} (x : Fw A h h1) (hb : HB h) (hA : ∀ q, A q → q < B + 62) (e1 : S' (208 + a) = S (208 + a)) (e2 : S' (213 + a) = S (213 + a)) (e3 : ∀ j, j < 140 → S' (218 + 140 * a + j) = S (218 + 140 * a + j)) (H : LWb h B S a lq cl n cs) : LWb h1 B S' a lq cl n cs := by
  obtain ⟨g1, g2, lb, g4, g5, g6, g7, g8, g9, g10, g11, g12⟩ := H
  have nA : ∀ q, B + 62 ≤ q → ¬ A q := fun q h1 h2 => by have := hA q h2; omega
  have l0 := hb.lt lb.1 (by decide)
  have l1 := hb.lt g2 (by decide)
  have l4 := hb.lt lb.2.2.1.1 (by decide)
  have l5 := hb.lt lb.2.2.1.2.1 (by decide)
  have l2 := hb.lt lb.2.2.1.2.2.1 (by decide)
  have l3 := hb.lt lb.2.2.1.2.2.2 (by decide)
  refine ⟨g1, by rw [x.2.1 _ l1]; exact g2, lb.fw x ⟨l0, nA _ g1⟩ l4 ⟨l5, nA _ (by omega)⟩ ⟨l2, nA _ (by omega)⟩ ⟨l3, nA _ (by omega)⟩, g4, g5, g6, g7, ?_, ?_, g10, g11, fun j hj => ?_⟩
  · rw [(x.2.2.1 lq l0 (nA _ g1)).1, g8, e1]
  · rw [e2]; exact g9
  · rw [e3 _ (by omega)]; exact g12 j hj
section MPR
variable {S : Nat → Int32} {a : Nat} {l : List Int32} {mo : Int32}
theorem mpR_o {j : Nat} (ha : a < 5) (hl : l.length ≤ 140) (hj : j < 208 ∨ 918 ≤ j) : mpR S a l mo j = S j := by
  unfold mpR
  rw [upd_n (by omega), upd_n (by omega)]
  rcases hj with hj | hj
  · exact wrL_lt _ _ _ _ (by omega)
  · exact wrL_ge _ _ _ _ (by omega)
theorem mpR_8 : mpR S a l mo (208 + a) = mo := upd_s
theorem mpR_l : mpR S a l mo (213 + a) = nI l.length := by unfold mpR; rw [upd_n (by omega), upd_s]
theorem mpR_d (ha : a < 5) : RD (mpR S a l mo) (218 + 140 * a) l := fun j hj => by
  unfold mpR
  rw [upd_n (by omega), upd_n (by omega)]
  exact wrL_at l S (218 + 140 * a) j hj
theorem mpR_k {j : Nat} (ha : a < 5) (h8 : j ≠ 208 + a) (h13 : j ≠ 213 + a) (hj : j < 218 + 140 * a) : mpR S a l mo j = S j := by
  unfold mpR
  rw [upd_n h8, upd_n h13]
  exact wrL_lt _ _ _ _ hj
end MPR
theorem clK_g {H : Nat → Int32} {n : Nat} (hE : ∀ p, n ≤ p → H p = -1) : ∀ k (r : LC), r.2.1 ≤ n → (encC r.2.2.1).length ≤ r.2.1 → (clK H k r).2.1 ≤ n ∧ (encC (clK H k r).2.2.1).length ≤ (clK H k r).2.1
  | 0, r, h1, h2 => ⟨h1, h2⟩
  | k + 1, r, h1, h2 => by
    unfold clK
    split
    · exact ⟨h1, h2⟩
    · split
      · rename_i q
        have hp : r.2.1 < n := H_c hE (by decide) q
        have g := clC_g (H := H) (p := r.2.1 + 1) (cs := r.2.2.1) (mo := r.2.2.2) hE (by omega) hp
        exact clK_g hE k _ g.1 g.2
      · exact ⟨h1, h2⟩
theorem hr_n {tx : Nat → Int32} {n : Nat} : ∀ p, n ≤ p → hrT tx n p = -1 := fun p hp => by unfold hrT; rw [if_neg (by omega)]
theorem lawC_g {tx : Nat → Int32} {n : Nat} : (lawC (hrT tx n)).2.1 ≤ n ∧ (encC (lawC (hrT tx n)).2.2.1).length ≤ (lawC (hrT tx n)).2.1 := by
  have g := clC_g (H := hrT tx n) (n := n) (p := 0) (cs := []) (mo := 999) hr_n (Nat.le_refl _) (Nat.zero_le n)
  exact clK_g hr_n 7 _ g.1 g.2
theorem lawP_g {tx : Nat → Int32} {n : Nat} : (lawP (hrT tx n)).2.1 ≤ n ∧ (lawP (hrT tx n)).2.2.1.length ≤ (lawP (hrT tx n)).2.1 := by
  have g := clP_g (tx := tx) (n := n) 0 [] 999 (Nat.le_refl _)
  exact clL_g 7 _ (g.1 (Nat.zero_le n)) g.2.2
/-- the model's heap when a law has been read -/
def lwX (h1 : AH) (B a n : Nat) (R : LR) : AH := mpL (setI (setI (setI h1 (B + 51) 4 (nI a)) (B + 51) 6 (nI n)) (B + 52) 4 0) B a R
section LWX
variable {h1 : AH} {B a n : Nat} {R : LR}
theorem lwX_52 : hI (lwX h1 B a n R) (B + 52) = mpR (upd (hI h1 (B + 52)) 4 0) a R.2.2.1 R.2.2.2 := by
  unfold lwX mpL
  rw [mp_2, hI_setI_s, hI_setI_n (by omega), hI_setI_n (by omega)]
theorem lwX_51 {k : Nat} (h4 : k ≠ 4) (h5 : k ≠ 5) (h6 : k ≠ 6) (h7 : k ≠ 7) (h8 : k ≠ 8) : hI (lwX h1 B a n R) (B + 51) k = hI h1 (B + 51) k := by
  unfold lwX mpL
  rw [mp_1]
  unfold mpF
  rw [upd_n h8, upd_n h7, upd_n h5, hI_setI_n (by omega), hI_setI_s, upd_n h6, hI_setI_s, upd_n h4]
theorem lwX_n {b : Nat} (e1 : b ≠ B + 51) (e2 : b ≠ B + 52) : hI (lwX h1 B a n R) b = hI h1 b := by
  unfold lwX mpL
  rw [mp_n e1 e2, hI_setI_n e2, hI_setI_n e1, hI_setI_n e1]
end LWX
theorem INV.law {h h1 h2 : AH} {B : Nat} {S' : Nat → Int32} {N' : NN} (H : INV h B) (x : Fw (Wlw B) h h1) (hX : XN h1 B S' N') (lw : ∀ a, a < N'.2.2.1 → ∃ lq cl n cs, hQ h1 (B + 5) a = some lq ∧ LWb h1 B S' a lq cl n cs) (t : hN h2 = hN h1 ∧ hT h2 = hT h1 ∧ hQ h2 = hQ h1 ∧ hJ h2 = hJ h1) (e : ∀ b, b ≠ B + 51 → b ≠ B + 52 → hI h2 b = hI h1 b) (e52 : hI h2 (B + 52) = S') (e3 : hI h2 (B + 51) 3 = hI h1 (B + 51) 3) (e21 : hI h2 (B + 51) 21 = hI h1 (B + 51) 21) : INV h2 B := by
  have I := H.w x (by intro q; unfold Wlw; omega) hX lw
  have o : ∀ q, q ≠ B + 52 → hI (setR h1 (B + 52) S') q = hI h1 q := fun q hq => hI_Rn hq
  refine I.m ⟨t.1, t.2.1, t.2.2.1, fun a _ => by rw [t.2.2.2]; rfl, fun a na => ?_⟩ ?_ ?_ ?_ ?_ ?_ ?_
  · rw [e a (fun z => na (by unfold Amo; omega)) (fun z => na (by unfold Amo; omega)), o a (fun z => na (by unfold Amo; omega))]
  · rw [e52, hI_R]
  · rw [e _ (by omega) (by omega), o _ (by omega)]
  · rw [e3, o _ (by omega)]
  · rw [e21, o _ (by omega)]
  · rw [e _ (by omega) (by omega), o _ (by omega)]
  · rw [e _ (by omega) (by omega), o _ (by omega)]
theorem s_law (g : GG) (h : AH) (B : Nat) (H : INV h B) : SIMI g h B mX11_law mX12_law [] := by
  obtain ⟨hL, hb, ty1, ty2, ⟨N, hs⟩, hi, htr, hd⟩ := id H
  have hX := hs.xn hL
  have G := hs.2.1
  have hBN := hL.2.2
  have n5 := G.2.2.1.2
  have n120 := G.2.2.2.2.1.2
  generalize hS : hI h (B + 52) = S at hs hX G
  have rc := lawC_r (H := hrT (fun i => S (10 + i)) N.2.2.2.2)
  have gP := lawP_g (tx := fun i => S (10 + i)) (n := N.2.2.2.2)
  have gC_ := lawC_g (tx := fun i => S (10 + i)) (n := N.2.2.2.2)
  have gok := lawC_ok (tx := fun i => S (10 + i)) (n := N.2.2.2.2)
  have X_ := x_law g h B S N hX hb
  have eC : tpC S N.2.2.2.2 = lawC (hrT (fun i => S (10 + i)) N.2.2.2.2) := rfl
  rw [← eC] at rc gC_ gok
  have M_ : ∀ h1, LY h1 B → hI h1 (B + 52) = S → AM g 26 0 0 mX12_law [.ref (B + 51)] h1 (fun rv h' => (N.2.2.1 = 5 ∧ rv = some (.int (-4)) ∧ h' = h1) ∨ (N.2.2.1 < 5 ∧ ((lawP (hrT (fun i => S (10 + i)) N.2.2.2.2)).1 = true ∨ ¬ (lawP (hrT (fun i => S (10 + i)) N.2.2.2.2)).2.1 = N.2.2.2.2) ∧ rv = some (.int (-10 - nI (lawP (hrT (fun i => S (10 + i)) N.2.2.2.2)).2.1)) ∧ h' = lwX h1 B N.2.2.1 N.2.2.2.2 (lawP (hrT (fun i => S (10 + i)) N.2.2.2.2))) ∨ (N.2.2.1 < 5 ∧ (lawP (hrT (fun i => S (10 + i)) N.2.2.2.2)).1 = false ∧ (lawP (hrT (fun i => S (10 + i)) N.2.2.2.2)).2.1 = N.2.2.2.2 ∧ rv = some (.int (nI N.2.2.1)) ∧ h' = setI (setI (lwX h1 B N.2.2.1 N.2.2.2.2 (lawP (hrT (fun i => S (10 + i)) N.2.2.2.2))) (B + 52) 2 (nI N.2.2.1 + 1)) (B + 52) 8 (nI N.2.2.1))) := fun h1 l1 e52 => by
    have M0 := m_law g h1 B l1 N.2.2.1 N.2.2.2.2 (by rw [e52]; exact G.2.2.1.1) n5 (by rw [e52]; exact G.2.2.2.2.1.1) n120
    rw [e52] at M0
    exact M0
  generalize lawP (hrT (fun i => S (10 + i)) N.2.2.2.2) = R at rc gP M_
  generalize tpC S N.2.2.2.2 = C at rc gC_ gok X_
  have lo : R.2.2.1.length ≤ 140 := by omega
  by_cases a5 : N.2.2.1 = 5
  · refine ⟨-4, fun h1 => h1 = h, 30, 6, 271, 26, ⟨by decide, by decide, by decide, by decide⟩, X_.weak (fun v h1 q => ?_), fun h1 k1 => ?_⟩
    · rcases q with ⟨-, q1, q2⟩ | ⟨l, -⟩ | ⟨l, -⟩
      · exact ⟨q1, q2⟩
      · omega
      · omega
    · subst k1
      refine ⟨hL, (M_ h1 hL hS).weak (fun v h2 q => ?_)⟩
      rcases q with ⟨-, q1, q2⟩ | ⟨l, -⟩ | ⟨l, -⟩
      · exact ⟨q1, by rw [q2]; exact H⟩
      · omega
      · omega
  have a5' : N.2.2.1 < 5 := by omega
  have old : ∀ (S' : Nat → Int32) (h1 : AH), Fw (Wlw B) h h1 → (∀ j, j < 218 + 140 * N.2.2.1 → j ≠ 208 + N.2.2.1 → j ≠ 213 + N.2.2.1 → j ≠ 2 → j ≠ 4 → j ≠ 8 → S' j = S j) → ∀ a, a < N.2.2.1 → ∃ lq cl n cs, hQ h (B + 5) a = some lq ∧ LWb h1 B S' a lq cl n cs := fun S' h1 fw eS a ha => by
    obtain ⟨lq, cl, n, cs, q1, q2⟩ := hs.2.2 a ha
    exact ⟨lq, cl, n, cs, q1, q2.fw2 fw hb (by intro q; unfold Wlw; omega) (eS _ (by omega) (by omega) (by omega) (by omega) (by omega) (by omega)) (eS _ (by omega) (by omega) (by omega) (by omega) (by omega) (by omega)) (fun j hj => eS _ (by omega) (by omega) (by omega) (by omega) (by omega) (by omega))⟩
  have eM : ∀ j, j < 218 + 140 * N.2.2.1 → j ≠ 208 + N.2.2.1 → j ≠ 213 + N.2.2.1 → j ≠ 2 → j ≠ 4 → j ≠ 8 → mpR (upd S 4 0) N.2.2.1 R.2.2.1 R.2.2.2 j = S j := fun j h1 h2 h3 h4 h5 h6 => by
    rw [mpR_k a5' h2 h3 h1, upd_n h5]
  by_cases ok : C.1 = false ∧ C.2.1 = N.2.2.2.2
  · have r1 : R.1 = false := rc.1.trans ok.1
    have rl := rc.2.2.2 r1
    generalize hS2 : upd (upd (mpR (upd S 4 0) N.2.2.1 R.2.2.1 R.2.2.2) 2 (nI N.2.2.1 + 1)) 8 (nI N.2.2.1) = S'
    have f : ∀ j, j ≠ 2 → j ≠ 8 → S' j = mpR (upd S 4 0) N.2.2.1 R.2.2.1 R.2.2.2 j := fun j h2 h8 => by rw [← hS2, upd_n h8, upd_n h2]
    have f8 : S' 8 = nI N.2.2.1 := by rw [← hS2, upd_s]
    have f2 : S' 2 = nI N.2.2.1 + 1 := by rw [← hS2, upd_n (by decide), upd_s]
    obtain ⟨m, hm, em⟩ := gok.2.2
    have lw : LwS S S' (N.2.2.1 + 1) := by
      refine ⟨fun j hj h2 h4 h8 => ?_, ⟨by rw [f2, nI_1], by omega⟩, ?_, ?_, fun j hj => ?_⟩
      · rw [f j h2 h8, mpR_o a5' lo hj, upd_n h4]
      · rw [f 4 (by decide) (by decide), mpR_o a5' lo (Or.inl (by omega)), upd_s]; rfl
      · rw [f8, ← nI_1, Int32.add_sub_cancel]
      · by_cases e : j = N.2.2.1
        · subst e
          rw [f _ (by omega) (by omega), mpR_8, rc.2.2.1, em]
          exact oO_n0 hm (by decide)
        · rw [f _ (by omega) (by omega), eM _ (by omega) (by omega) (by omega) (by omega) (by omega) (by omega)]
          exact G.2.2.2.2.2.2.2.2.1 j (by omega)
    refine ⟨nI N.2.2.1, fun h1 => Fw (Wlw B) h h1 ∧ LWo h h1 B N.2.2.1 N.2.2.2.2 C ∧ ∀ S', LwS S S' (N.2.2.1 + 1) → XN h1 B S' (N.1, N.2.1, N.2.2.1 + 1, N.2.2.2.1, 0), 30, 6, 271, 26, ⟨by decide, by decide, by decide, by decide⟩, X_.weak (fun v h1 q => ?_), fun h1 k1 => ?_⟩
    · rcases q with ⟨l, -⟩ | ⟨-, l, -⟩ | ⟨-, -, q1, q2, q3, q4⟩
      · omega
      · exact absurd ok l
      · exact ⟨q1, q2, q3, q4⟩
    · obtain ⟨fw, lwo, hx⟩ := k1
      have hX1 := hx S' lw
      have e52 : hI h1 (B + 52) = S := ((fw.2.2.1 (B + 52) (by omega) (by unfold Wlw; omega)).1).trans hS
      refine ⟨hX1.1, (M_ h1 hX1.1 e52).weak (fun v h2 q => ?_)⟩
      rcases q with ⟨l, -⟩ | ⟨-, l, -⟩ | ⟨-, -, -, q1, q2⟩
      · omega
      · rcases l with l | l
        · rw [r1] at l; exact Bool.noConfusion l
        · exact absurd (rc.2.1.trans ok.2) l
      · refine ⟨q1, H.law (h1 := h1) fw hX1 (fun a ha => ?_) (by rw [q2]; exact ⟨rfl, rfl, rfl, rfl⟩) (fun b h1' h2' => ?_) ?_ ?_ ?_⟩
        · have ha' : a < N.2.2.1 + 1 := ha
          by_cases e : a = N.2.2.1
          · subst e
            refine ⟨hN h, N.2.2.2.2, (encL C.2.2.1).length, C.2.2.1, by rw [lwo.1]; exact if_pos rfl, hBN, lwo.2.2.2, lwo.2.2.1, n120, gok.2.1, gok.1, by omega, ?_, ?_, by rw [← rl]; omega, rfl, ?_⟩
            · rw [lwo.2.1, f _ (by omega) (by omega), mpR_8, rc.2.2.1]
            · rw [f _ (by omega) (by omega), mpR_l, rl]
            · rw [← rl]
              exact fun j hj => by rw [f _ (by omega) (by omega)]; exact mpR_d a5' j hj
          · obtain ⟨lq, cl, n, cs, p1, p2⟩ := old S' h1 fw (fun j h1 h2 h3 h4 h5 h6 => by rw [f j h4 h6]; exact eM j h1 h2 h3 h4 h5 h6) a (by omega)
            exact ⟨lq, cl, n, cs, by rw [lwo.1]; exact (if_neg e).trans p1, p2⟩
        · rw [q2, hI_setI_n h2', hI_setI_n h2', lwX_n h1' h2']
        · rw [q2, hI_setI_s, hI_setI_s, lwX_52, e52]; exact hS2
        · rw [q2, hI_setI_n (by omega), hI_setI_n (by omega), lwX_51 (by decide) (by decide) (by decide) (by decide) (by decide)]
        · rw [q2, hI_setI_n (by omega), hI_setI_n (by omega), lwX_51 (by decide) (by decide) (by decide) (by decide) (by decide)]
  · generalize hS2 : mpR (upd S 4 0) N.2.2.1 R.2.2.1 R.2.2.2 = S' at eM
    have lw : LwS S S' N.2.2.1 := by
      refine ⟨fun j hj h2 h4 h8 => ?_, ⟨?_, by omega⟩, ?_, ?_, fun j hj => ?_⟩
      · rw [← hS2, mpR_o a5' lo hj, upd_n h4]
      · rw [← hS2, mpR_o a5' lo (Or.inl (by omega)), upd_n (by decide)]; exact G.2.2.1.1
      · rw [← hS2, mpR_o a5' lo (Or.inl (by omega)), upd_s]; rfl
      · rw [← hS2, mpR_o a5' lo (Or.inl (by omega)), upd_n (by decide)]; exact G.2.2.2.2.2.1.2.2.2
      · rw [eM _ (by omega) (by omega) (by omega) (by omega) (by omega) (by omega)]
        exact G.2.2.2.2.2.2.2.2.1 j hj
    refine ⟨-10 - nI C.2.1, fun h1 => Fw (Wlw B) h h1 ∧ hQ h1 (B + 5) = hQ h (B + 5) ∧ ∀ S', LwS S S' N.2.2.1 → XN h1 B S' (N.1, N.2.1, N.2.2.1, N.2.2.2.1, 0), 30, 6, 271, 26, ⟨by decide, by decide, by decide, by decide⟩, X_.weak (fun v h1 q => ?_), fun h1 k1 => ?_⟩
    · rcases q with ⟨l, -⟩ | ⟨-, -, q1, q2, q3, q4⟩ | ⟨-, l, -⟩
      · omega
      · exact ⟨q1, q2, q3, q4⟩
      · exact absurd l ok
    · obtain ⟨fw, hq5, hx⟩ := k1
      have hX1 := hx S' lw
      have e52 : hI h1 (B + 52) = S := ((fw.2.2.1 (B + 52) (by omega) (by unfold Wlw; omega)).1).trans hS
      refine ⟨hX1.1, (M_ h1 hX1.1 e52).weak (fun v h2 q => ?_)⟩
      rcases q with ⟨l, -⟩ | ⟨-, -, q1, q2⟩ | ⟨-, l1, l2, -⟩
      · omega
      · refine ⟨by rw [q1, rc.2.1], H.law (h1 := h1) fw hX1 (fun a ha => ?_) (by rw [q2]; exact ⟨rfl, rfl, rfl, rfl⟩) (fun b h1' h2' => ?_) ?_ ?_ ?_⟩
        · obtain ⟨lq, cl, n, cs, p1, p2⟩ := old S' h1 fw eM a ha
          exact ⟨lq, cl, n, cs, by rw [hq5]; exact p1, p2⟩
        · rw [q2, lwX_n h1' h2']
        · rw [q2, lwX_52, e52]; exact hS2
        · rw [q2, lwX_51 (by decide) (by decide) (by decide) (by decide) (by decide)]
        · rw [q2, lwX_51 (by decide) (by decide) (by decide) (by decide) (by decide)]
      · exact absurd ⟨rc.1.symm.trans l1, rc.2.1.symm.trans l2⟩ ok
