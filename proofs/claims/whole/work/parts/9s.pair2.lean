/-! ===== the pair: each call answers alike ===== -/
/-- both answer the same number, and stand as they must -/
def SIMI (g : GG) (h : AH) (B : Nat) (MX MM : MK) (as : List Value) : Prop := ∃ (v : Int32) (K : AH → Prop) (dx mc ms dm : Nat), (dx ≤ 30 ∧ mc ≤ 6 ∧ ms ≤ 271 ∧ dm ≤ 30) ∧ AM g dx mc ms MX (.ref B :: as) h (fun rv h1 => rv = some (.int v) ∧ K h1) ∧ ∀ h1, K h1 → LY h1 B ∧ AM g dm 0 0 MM (.ref (B + 51) :: as) h1 (fun rv h2 => rv = some (.int v) ∧ INV h2 B)
def SIMJ (g : GG) (h : AH) (B : Nat) (MX MM : MK) (as : List Value) : Prop := ∃ (v : Int64) (K : AH → Prop) (dx mc ms dm : Nat), (dx ≤ 30 ∧ mc ≤ 6 ∧ ms ≤ 271 ∧ dm ≤ 30) ∧ AM g dx mc ms MX (.ref B :: as) h (fun rv h1 => rv = some (.long v) ∧ K h1) ∧ ∀ h1, K h1 → LY h1 B ∧ AM g dm 0 0 MM (.ref (B + 51) :: as) h1 (fun rv h2 => rv = some (.long v) ∧ INV h2 B)
theorem INV.cx {g : GG} {h : AH} {B : Nat} {N : NN} (H : INV h B) (hs : ST h B (B + 1) (hI h (B + 52)) N) (h0 : ¬ N.2.2.1 = 0) : ∃ lq hl P, hl + 1 = N.2.2.1 ∧ CX g h B (lq + 4) lq hl (hI h (B + 52)) N P ∧ VQ h B (lq + 4) ∧ B + 62 ≤ lq ∧ ∀ h1, FR (Ay B (lq + 4)) h h1 → PcM g B h1 P := by
  have hL := H.1
  obtain ⟨hl, ehl⟩ : ∃ hl, hl + 1 = N.2.2.1 := ⟨N.2.2.1 - 1, by omega⟩
  have h5 := hs.2.1.2.2.1.2
  obtain ⟨lq, cl, n, cs, q1, w⟩ := hs.2.2 hl (by omega)
  obtain ⟨g1, g2, lb, g4, g5, g6, g7, g8, g9, g10, g11, g12⟩ := w
  have e8 : hI h (B + 52) 8 = nI hl := by rw [hs.2.1.2.2.2.2.2.1.2.2.2, ← ehl, ← nI_1, Int32.add_sub_cancel]
  refine ⟨lq, hl, pcP cs, ehl, ⟨hs.xn hL, ⟨ehl, q1, g1, lb.1, g8, by omega, lb.2.2.1.1⟩, pcx_of lb ⟨by omega, by omega, by omega, by omega, by omega⟩ (by omega) (by omega) g5 g6 g7, pcP_b g5 g6⟩, ⟨lq, cl, rfl, g1, lb.1, g2, lb.2.2.1.1⟩, g1, fun h1 x => ?_⟩
  have e : hI h1 (B + 52) = hI h (B + 52) := x.2.2.2.2 _ (by unfold Ay; omega)
  exact pcm_of (x.ly hL) (a := hl) (n := n) (by omega) (by rw [e]; exact e8) g5 g10 (by rw [e]; exact g9) g11 (by rw [e]; exact g12)
theorem oO_nz {x a b : Int32} (h : oO x a b = false) (h0 : oO 0 a b = true) : ¬ x = 0 := fun q => by rw [q, h0] at h; exact Bool.noConfusion h
theorem mh {S : Nat → Int32} {N : NN} {hl : Nat} (G : RG S N) (e : hl + 1 = N.2.2.1) : ¬ S 6 = 0 ∧ S 8 = nI hl ∧ hl < 5 ∧ ¬ (S 7).toInt64 = 0 ∧ ¬ S 8 = -1 := by
  have h5 := G.2.2.1.2
  have e8 : S 8 = nI hl := by rw [G.2.2.2.2.2.1.2.2.2, ← e, ← nI_1, Int32.add_sub_cancel]
  have e7 := G.2.2.2.2.2.1.2.2.1
  refine ⟨oO_nz G.2.2.2.2.2.1.2.1 (by decide), e8, by omega, fun q => ?_, ?_⟩
  · have z : S 7 = 0 := by
      have := congrArg Int64.toInt q
      rw [Int32.toInt_toInt64] at this
      exact i32_ext this
    exact oO_nz e7 (by decide) z
  · rw [e8]; exact fun q => nI_pos (n := hl) (by omega) (by rw [q]; decide)
theorem mh0 {S : Nat → Int32} {N : NN} (G : RG S N) (e : N.2.2.1 = 0) : S 8 = -1 := by rw [G.2.2.2.2.2.1.2.2.2, e]; decide
theorem s_of (g : GG) (h : AH) (B : Nat) (H : INV h B) (p : Int32) (w : Int32) : SIMI g h B mX11_of mX12_of [.int p, .int w] := by
  obtain ⟨hL, hb, ty1, ty2, ⟨N, hs⟩, hi, htr, hd⟩ := id H
  have hX := hs.xn hL
  have G := hs.2.1
  refine ⟨_, fun h1 => h1 = h, 3, 0, 0, 3, ⟨by decide, by decide, by decide, by decide⟩, x_of g h B _ N hX p w, fun h1 e => ⟨by subst e; exact hL, ?_⟩⟩
  subst e
  exact (m_of g h1 B hL N.1 (by rw [G.1.1]; exact IX.n (by have := G.1.2; omega)) G.1.2 p w).weak (fun v h' q => ⟨by rw [q.1], by rw [q.2]; exact H⟩)
theorem s_made (g : GG) (h : AH) (B : Nat) (H : INV h B) (t : Int32) : SIMI g h B mX11_made mX12_made [.int t] := by
  obtain ⟨hL, hb, ty1, ty2, ⟨N, hs⟩, hi, htr, hd⟩ := id H
  have hX := hs.xn hL
  have G := hs.2.1
  refine ⟨_, fun h1 => h1 = h, 4, 0, 0, 3, ⟨by decide, by decide, by decide, by decide⟩, x_made g h B _ N hX t, fun h1 e => ⟨by subst e; exact hL, ?_⟩⟩
  subst e
  exact (m_made g h1 B hL N.2.1 (by rw [G.2.1.1]; exact IX.n (by have := G.2.1.2; omega)) G.2.1.2 t).weak (fun v h' q => ⟨by rw [q.1], by rw [q.2]; exact H⟩)
theorem s_costs (g : GG) (h : AH) (B : Nat) (H : INV h B)  : SIMI g h B mX11_costs mX12_costs [] := by
  obtain ⟨hL, hb, ty1, ty2, ⟨N, hs⟩, hi, htr, hd⟩ := id H
  have hX := hs.xn hL
  have G := hs.2.1
  refine ⟨_, fun h1 => h1 = h, 3, 0, 0, 2, ⟨by decide, by decide, by decide, by decide⟩, x_costs g h B _ N hX , fun h1 e => ⟨by subst e; exact hL, ?_⟩⟩
  subst e
  exact (m_costs g h1 B hL N.2.1 (by rw [G.2.1.1]; exact IX.n (by have := G.2.1.2; omega)) G.2.1.2 ).weak (fun v h' q => ⟨by rw [q.1], by rw [q.2]; exact H⟩)
theorem s_as (g : GG) (h : AH) (B : Nat) (H : INV h B) (p : Int32) (k : Int32) : SIMI g h B mX11_as mX12_as [.int p, .int k] := by
  obtain ⟨hL, hb, ty1, ty2, ⟨N, hs⟩, hi, htr, hd⟩ := id H
  have hX := hs.xn hL
  have G := hs.2.1
  refine ⟨_, fun h1 => h1 = h, 3, 0, 0, 3, ⟨by decide, by decide, by decide, by decide⟩, x_as g h B _ N hX p k, fun h1 e => ⟨by subst e; exact hL, ?_⟩⟩
  subst e
  exact (m_as g h1 B hL N.1 (by rw [G.1.1]; exact IX.n (by have := G.1.2; omega)) G.1.2 p k).weak (fun v h' q => ⟨by rw [q.1], by rw [q.2]; exact H⟩)
theorem s_count (g : GG) (h : AH) (B : Nat) (H : INV h B) (x : Int32) : SIMI g h B mX11_count mX12_count [.int x] := by
  obtain ⟨hL, hb, ty1, ty2, ⟨N, hs⟩, hi, htr, hd⟩ := id H
  have hX := hs.xn hL
  have G := hs.2.1
  obtain ⟨rn, r1, r2, r3, r4⟩ := htr
  refine ⟨_, fun h1 => h1 = h, 1, 0, 0, 1, ⟨by decide, by decide, by decide, by decide⟩, x_count g h B _ N hX x, fun h1 e => ⟨by subst e; exact hL, ?_⟩⟩
  subst e
  exact (m_count g h1 B hL x).weak (fun v h' q => ⟨by rw [q.1]; rw [G.1.1, G.2.1.1, G.2.2.1.1, G.2.2.2.1.1, G.2.2.2.2.1.1, r2, r3], by rw [q.2]; exact H⟩)
theorem tr_e {f f' : Nat → Int32} {rn : Nat} {x : Int32} (r1 : rn ≤ 20) (r : ∀ j, j < rn → f j = f' j) : (if oO x 0 ((if nI rn < 20 then nI rn else 20) - 1) then -1 else f' x.toNatClampNeg) = (if oO x 0 (nI rn - 1) then (-1 : Int32) else f x.toNatClampNeg) := by
  have e : (if nI rn < 20 then nI rn else 20) = nI rn := by
    split
    · rfl
    · rename_i q
      have z : ¬ rn < 20 := fun z => q ((nI_ltI (a := rn) (b := 20) (by omega) (by decide)).mpr z)
      rw [show rn = 20 by omega]; rfl
  rw [e]
  by_cases h : oO x 0 (nI rn - 1) = true
  · rw [if_pos h, if_pos h]
  · rw [if_neg h, if_neg h]
    refine (r _ ?_).symm
    simp only [oO, Bool.or_eq_true, decide_eq_true_eq, not_or] at h
    obtain ⟨a1, a2⟩ := h
    obtain ⟨j, hj, e2⟩ := nI_of a1
    rw [e2] at a2 ⊢
    rw [nI_clamp hj]
    rw [Int32.lt_iff_toInt_lt, nI_toInt hj, Int32.toInt_sub, nI_toInt (by omega), show (1 : Int32).toInt = 1 from by decide, Int.bmod_eq_of_le (by omega) (by omega)] at a2
    omega
theorem s_trace (g : GG) (h : AH) (B : Nat) (H : INV h B) (x : Int32) : SIMI g h B mX11_trace mX12_trace [.int x] := by
  obtain ⟨hL, hb, ty1, ty2, ⟨N, hs⟩, hi, htr, hd⟩ := id H
  have hX := hs.xn hL
  have G := hs.2.1
  obtain ⟨rn, r1, r2, r3, r4⟩ := htr
  refine ⟨_, fun h1 => h1 = h, 1, 0, 0, 2, ⟨by decide, by decide, by decide, by decide⟩, x_trace g h B _ N hX rn r2 r1 x, fun h1 e => ⟨by subst e; exact hL, ?_⟩⟩
  subst e
  exact (m_trace g h1 B hL rn (by rw [r3]; exact IX.n (by omega)) x).weak (fun v h' q => ⟨by rw [q.1]; rw [r3]; exact congrArg (fun z => some (Value.int z)) (tr_e r1 r4), by rw [q.2]; exact H⟩)
theorem s_drawn (g : GG) (h : AH) (B : Nat) (H : INV h B) (p : Int32) (t : Int32) : SIMI g h B mX11_drawn mX12_drawn [.int p, .int t] := by
  obtain ⟨hL, hb, ty1, ty2, ⟨N, hs⟩, hi, htr, hd⟩ := id H
  have hX := hs.xn hL
  have G := hs.2.1
  by_cases h0 : N.2.2.1 = 0
  · exact ⟨_, fun h1 => h1 = h, 3, 0, 0, 3, ⟨by decide, by decide, by decide, by decide⟩, xn_drawn g h B _ N hX h0 p t, fun h1 e => by subst e; exact ⟨hL, (n_drawn g h1 B hL (mh0 G h0) p t).weak (fun v h' q => ⟨q.1, by rw [q.2]; exact H⟩)⟩⟩
  · obtain ⟨lq, hl, P, ehl, hC, hv, hlq, hP⟩ := H.cx (g := g) hs h0
    obtain ⟨m6, m8, ml, m7, mn⟩ := mh G ehl
    refine ⟨_, fun h1 => FR (Ay B (lq + 4)) h h1, 6, 0, 0, 7, ⟨by decide, by decide, by decide, by decide⟩, (x_drawn g h B (lq + 4) lq hl _ N P hC p t).weak (fun v h' q => ⟨q.1, q.2.mo (by intro a; unfold Xv Ay; omega)⟩), fun h1 x_ => ⟨x_.ly hL, ?_⟩⟩
    have e52 : hI h1 (B + 52) = hI h (B + 52) := x_.2.2.2.2 _ (by unfold Ay; omega)
    have e56 : hI h1 (B + 56) = fun _ => 0 := (x_.2.2.2.2 _ (by unfold Ay; omega)).trans hd
    have H1 := H.x x_ hv
    have M_ := m_drawn g h1 B (x_.ly hL) P (hP h1 x_) (by rw [e52]; exact m6) hl (by rw [e52, m8]; exact IX.n (by omega)) ml N.1 (by rw [e52, G.1.1]; exact IX.n (by have := G.1.2; omega)) G.1.2 (by rw [e52]; exact mn) p t
    rw [e52, e56] at M_
    rw [G.1.1] at M_
    exact M_.weak (fun v h' q => ⟨q.1, H1.m (q.2.mo (by intro a; unfold Am Amo; omega)) (q.2.2.2.2.2 _ (by unfold Am; omega)) (q.2.2.2.2.2 _ (by unfold Am; omega)) (congrFun (q.2.2.2.2.2 _ (by unfold Am; omega)) 3) (congrFun (q.2.2.2.2.2 _ (by unfold Am; omega)) 21) (q.2.2.2.2.2 _ (by unfold Am; omega)) (q.2.2.2.2.2 _ (by unfold Am; omega))⟩)
theorem s_demand (g : GG) (h : AH) (B : Nat) (H : INV h B) (t : Int32) : SIMI g h B mX11_demand mX12_demand [.int t] := by
  obtain ⟨hL, hb, ty1, ty2, ⟨N, hs⟩, hi, htr, hd⟩ := id H
  have hX := hs.xn hL
  have G := hs.2.1
  by_cases h0 : N.2.2.1 = 0
  · exact ⟨_, fun h1 => h1 = h, 3, 0, 0, 3, ⟨by decide, by decide, by decide, by decide⟩, xn_demand g h B _ N hX h0 t, fun h1 e => by subst e; exact ⟨hL, (n_demand g h1 B hL (mh0 G h0) t).weak (fun v h' q => ⟨q.1, by rw [q.2]; exact H⟩)⟩⟩
  · obtain ⟨lq, hl, P, ehl, hC, hv, hlq, hP⟩ := H.cx (g := g) hs h0
    obtain ⟨m6, m8, ml, m7, mn⟩ := mh G ehl
    refine ⟨_, fun h1 => FR (Ay B (lq + 4)) h h1, 7, 0, 0, 7, ⟨by decide, by decide, by decide, by decide⟩, (x_demand g h B (lq + 4) lq hl _ N P hC t).weak (fun v h' q => ⟨q.1, q.2.mo (by intro a; unfold Xv Ay; omega)⟩), fun h1 x_ => ⟨x_.ly hL, ?_⟩⟩
    have e52 : hI h1 (B + 52) = hI h (B + 52) := x_.2.2.2.2 _ (by unfold Ay; omega)
    have e56 : hI h1 (B + 56) = fun _ => 0 := (x_.2.2.2.2 _ (by unfold Ay; omega)).trans hd
    have H1 := H.x x_ hv
    have M_ := m_demand g h1 B (x_.ly hL) P (hP h1 x_) (by rw [e52]; exact m6) hl (by rw [e52, m8]; exact IX.n (by omega)) ml N.1 (by rw [e52, G.1.1]; exact IX.n (by have := G.1.2; omega)) G.1.2 (by rw [e52]; exact mn) t
    rw [e52, e56] at M_
    exact M_.weak (fun v h' q => ⟨q.1, H1.m (q.2.mo (by intro a; unfold Am Amo; omega)) (q.2.2.2.2.2 _ (by unfold Am; omega)) (q.2.2.2.2.2 _ (by unfold Am; omega)) (congrFun (q.2.2.2.2.2 _ (by unfold Am; omega)) 3) (congrFun (q.2.2.2.2.2 _ (by unfold Am; omega)) 21) (q.2.2.2.2.2 _ (by unfold Am; omega)) (q.2.2.2.2.2 _ (by unfold Am; omega))⟩)
theorem s_beat (g : GG) (h : AH) (B : Nat) (H : INV h B) (t : Int32) : SIMJ g h B mX11_beat mX12_beat [.int t] := by
  obtain ⟨hL, hb, ty1, ty2, ⟨N, hs⟩, hi, htr, hd⟩ := id H
  have hX := hs.xn hL
  have G := hs.2.1
  by_cases h0 : N.2.2.1 = 0
  · exact ⟨_, fun h1 => h1 = h, 3, 0, 0, 3, ⟨by decide, by decide, by decide, by decide⟩, xn_beat g h B _ N hX h0 t, fun h1 e => by subst e; exact ⟨hL, (n_beat g h1 B hL (mh0 G h0) t).weak (fun v h' q => ⟨q.1, by rw [q.2]; exact H⟩)⟩⟩
  · obtain ⟨lq, hl, P, ehl, hC, hv, hlq, hP⟩ := H.cx (g := g) hs h0
    obtain ⟨m6, m8, ml, m7, mn⟩ := mh G ehl
    refine ⟨_, fun h1 => FR (Ay B (lq + 4)) h h1, 8, 0, 0, 9, ⟨by decide, by decide, by decide, by decide⟩, (x_beat g h B (lq + 4) lq hl _ N P hC t).weak (fun v h' q => ⟨q.1, q.2.mo (by intro a; unfold Xb Ay; omega)⟩), fun h1 x_ => ⟨x_.ly hL, ?_⟩⟩
    have e52 : hI h1 (B + 52) = hI h (B + 52) := x_.2.2.2.2 _ (by unfold Ay; omega)
    have e56 : hI h1 (B + 56) = fun _ => 0 := (x_.2.2.2.2 _ (by unfold Ay; omega)).trans hd
    have H1 := H.x x_ hv
    have M_ := m_beat g h1 B (x_.ly hL) P (hP h1 x_) (by rw [e52]; exact m6) hl (by rw [e52, m8]; exact IX.n (by omega)) ml N.1 (by rw [e52, G.1.1]; exact IX.n (by have := G.1.2; omega)) G.1.2 N.2.1 (by rw [e52, G.2.1.1]; exact IX.n (by have := G.2.1.2; omega)) G.2.1.2 (by rw [e52]; exact m7) (by rw [e52]; exact mn) t
    rw [e52, e56] at M_
    exact M_.weak (fun v h' q => ⟨q.1, H1.m (q.2.mo (by intro a; unfold Al Amo; omega)) (q.2.2.2.2.2 _ (by unfold Al; omega)) (q.2.2.2.2.2 _ (by unfold Al; omega)) (congrFun (q.2.2.2.2.2 _ (by unfold Al; omega)) 3) (congrFun (q.2.2.2.2.2 _ (by unfold Al; omega)) 21) (q.2.2.2.2.2 _ (by unfold Al; omega)) (q.2.2.2.2.2 _ (by unfold Al; omega))⟩)
theorem s_first (g : GG) (h : AH) (B : Nat) (H : INV h B) (c : Int32) : SIMI g h B mX11_first mX12_first [.int c] := by
  obtain ⟨hL, hb, ty1, ty2, ⟨N, hs⟩, hi, htr, hd⟩ := id H
  have hX := hs.xn hL
  have G := hs.2.1
  by_cases h0 : N.2.2.1 = 0
  · exact ⟨_, fun h1 => h1 = h, 3, 0, 0, 3, ⟨by decide, by decide, by decide, by decide⟩, xn_first g h B _ N hX h0 c, fun h1 e => by subst e; exact ⟨hL, (n_first g h1 B hL (mh0 G h0) c).weak (fun v h' q => ⟨q.1, by rw [q.2]; exact H⟩)⟩⟩
  · obtain ⟨lq, hl, P, ehl, hC, hv, hlq, hP⟩ := H.cx (g := g) hs h0
    obtain ⟨m6, m8, ml, m7, mn⟩ := mh G ehl
    refine ⟨_, fun h1 => FR (Ay B (lq + 4)) h h1, 8, 0, 0, 9, ⟨by decide, by decide, by decide, by decide⟩, (x_first g h B (lq + 4) lq hl _ N P hC c).weak (fun v h' q => ⟨q.1, q.2.mo (by intro a; unfold Xb Ay; omega)⟩), fun h1 x_ => ⟨x_.ly hL, ?_⟩⟩
    have e52 : hI h1 (B + 52) = hI h (B + 52) := x_.2.2.2.2 _ (by unfold Ay; omega)
    have e56 : hI h1 (B + 56) = fun _ => 0 := (x_.2.2.2.2 _ (by unfold Ay; omega)).trans hd
    have H1 := H.x x_ hv
    have M_ := m_first g h1 B (x_.ly hL) P (hP h1 x_) (by rw [e52]; exact m6) hl (by rw [e52, m8]; exact IX.n (by omega)) ml N.1 (by rw [e52, G.1.1]; exact IX.n (by have := G.1.2; omega)) G.1.2 N.2.1 (by rw [e52, G.2.1.1]; exact IX.n (by have := G.2.1.2; omega)) G.2.1.2 (by rw [e52]; exact m7) (by rw [e52]; exact mn) c
    rw [e52, e56] at M_
    exact M_.weak (fun v h' q => ⟨q.1, H1.m (q.2.mo (by intro a; unfold Al Amo; omega)) (q.2.2.2.2.2 _ (by unfold Al; omega)) (q.2.2.2.2.2 _ (by unfold Al; omega)) (congrFun (q.2.2.2.2.2 _ (by unfold Al; omega)) 3) (congrFun (q.2.2.2.2.2 _ (by unfold Al; omega)) 21) (q.2.2.2.2.2 _ (by unfold Al; omega)) (q.2.2.2.2.2 _ (by unfold Al; omega))⟩)
theorem s_wave (g : GG) (h : AH) (B : Nat) (H : INV h B) (x : Int32) : SIMJ g h B mX11_wave mX12_wave [.int x] := by
  obtain ⟨hL, hb, ty1, ty2, ⟨N, hs⟩, hi, htr, hd⟩ := id H
  have hX := hs.xn hL
  have G := hs.2.1
  by_cases h0 : N.2.2.1 = 0
  · exact ⟨_, fun h1 => h1 = h, 3, 0, 0, 3, ⟨by decide, by decide, by decide, by decide⟩, xn_wave g h B _ N hX h0 x, fun h1 e => by subst e; exact ⟨hL, (n_wave g h1 B hL (mh0 G h0) x).weak (fun v h' q => ⟨q.1, by rw [q.2]; exact H⟩)⟩⟩
  · obtain ⟨lq, hl, P, ehl, hC, hv, hlq, hP⟩ := H.cx (g := g) hs h0
    obtain ⟨m6, m8, ml, m7, mn⟩ := mh G ehl
    refine ⟨_, fun h1 => FR (Ay B (lq + 4)) h h1, 8, 0, 0, 9, ⟨by decide, by decide, by decide, by decide⟩, (x_wave g h B (lq + 4) lq hl _ N P hC x).weak (fun v h' q => ⟨q.1, q.2.mo (by intro a; unfold Xb Ay; omega)⟩), fun h1 x_ => ⟨x_.ly hL, ?_⟩⟩
    have e52 : hI h1 (B + 52) = hI h (B + 52) := x_.2.2.2.2 _ (by unfold Ay; omega)
    have e56 : hI h1 (B + 56) = fun _ => 0 := (x_.2.2.2.2 _ (by unfold Ay; omega)).trans hd
    have H1 := H.x x_ hv
    have M_ := m_wave g h1 B (x_.ly hL) P (hP h1 x_) (by rw [e52]; exact m6) hl (by rw [e52, m8]; exact IX.n (by omega)) ml N.1 (by rw [e52, G.1.1]; exact IX.n (by have := G.1.2; omega)) G.1.2 N.2.1 (by rw [e52, G.2.1.1]; exact IX.n (by have := G.2.1.2; omega)) G.2.1.2 (by rw [e52]; exact m7) (by rw [e52]; exact mn) x
    rw [e52, e56] at M_
    exact M_.weak (fun v h' q => ⟨q.1, H1.m (q.2.mo (by intro a; unfold Al Amo; omega)) (q.2.2.2.2.2 _ (by unfold Al; omega)) (q.2.2.2.2.2 _ (by unfold Al; omega)) (congrFun (q.2.2.2.2.2 _ (by unfold Al; omega)) 3) (congrFun (q.2.2.2.2.2 _ (by unfold Al; omega)) 21) (q.2.2.2.2.2 _ (by unfold Al; omega)) (q.2.2.2.2.2 _ (by unfold Al; omega))⟩)
theorem s_inertia (g : GG) (h : AH) (B : Nat) (H : INV h B) (c : Int32) : SIMI g h B mX11_inertia mX12_inertia [.int c] := by
  obtain ⟨hL, hb, ty1, ty2, ⟨N, hs⟩, hi, htr, hd⟩ := id H
  have hX := hs.xn hL
  have G := hs.2.1
  by_cases h0 : N.2.2.1 = 0
  · exact ⟨_, fun h1 => h1 = h, 3, 0, 0, 3, ⟨by decide, by decide, by decide, by decide⟩, xn_inertia g h B _ N hX h0 c, fun h1 e => by subst e; exact ⟨hL, (n_inertia g h1 B hL (mh0 G h0) c).weak (fun v h' q => ⟨q.1, by rw [q.2]; exact H⟩)⟩⟩
  · obtain ⟨lq, hl, P, ehl, hC, hv, hlq, hP⟩ := H.cx (g := g) hs h0
    obtain ⟨m6, m8, ml, m7, mn⟩ := mh G ehl
    refine ⟨_, fun h1 => FR (Ay B (lq + 4)) h h1, 8, 0, 0, 9, ⟨by decide, by decide, by decide, by decide⟩, (x_inertia g h B (lq + 4) lq hl _ N P hC c).weak (fun v h' q => ⟨q.1, q.2.mo (by intro a; unfold Xb Ay; omega)⟩), fun h1 x_ => ⟨x_.ly hL, ?_⟩⟩
    have e52 : hI h1 (B + 52) = hI h (B + 52) := x_.2.2.2.2 _ (by unfold Ay; omega)
    have e56 : hI h1 (B + 56) = fun _ => 0 := (x_.2.2.2.2 _ (by unfold Ay; omega)).trans hd
    have H1 := H.x x_ hv
    have M_ := m_inertia g h1 B (x_.ly hL) P (hP h1 x_) (by rw [e52]; exact m6) hl (by rw [e52, m8]; exact IX.n (by omega)) ml N.1 (by rw [e52, G.1.1]; exact IX.n (by have := G.1.2; omega)) G.1.2 N.2.1 (by rw [e52, G.2.1.1]; exact IX.n (by have := G.2.1.2; omega)) G.2.1.2 (by rw [e52]; exact m7) (by rw [e52]; exact mn) c
    rw [e52, e56] at M_
    exact M_.weak (fun v h' q => ⟨q.1, H1.m (q.2.mo (by intro a; unfold Al Amo; omega)) (q.2.2.2.2.2 _ (by unfold Al; omega)) (q.2.2.2.2.2 _ (by unfold Al; omega)) (congrFun (q.2.2.2.2.2 _ (by unfold Al; omega)) 3) (congrFun (q.2.2.2.2.2 _ (by unfold Al; omega)) 21) (q.2.2.2.2.2 _ (by unfold Al; omega)) (q.2.2.2.2.2 _ (by unfold Al; omega))⟩)
theorem s_best (g : GG) (h : AH) (B : Nat) (H : INV h B) (w : Int32) (c : Int32) (x : Int32) : SIMI g h B mX11_best mX12_best [.int w, .int c, .int x] := by
  obtain ⟨hL, hb, ty1, ty2, ⟨N, hs⟩, hi, htr, hd⟩ := id H
  have hX := hs.xn hL
  have G := hs.2.1
  by_cases h0 : N.2.2.1 = 0
  · exact ⟨_, fun h1 => h1 = h, 3, 0, 0, 3, ⟨by decide, by decide, by decide, by decide⟩, xn_best g h B _ N hX h0 w c x, fun h1 e => by subst e; exact ⟨hL, (n_best g h1 B hL (mh0 G h0) w c x).weak (fun v h' q => ⟨q.1, by rw [q.2]; exact H⟩)⟩⟩
  · obtain ⟨lq, hl, P, ehl, hC, hv, hlq, hP⟩ := H.cx (g := g) hs h0
    obtain ⟨m6, m8, ml, m7, mn⟩ := mh G ehl
    refine ⟨_, fun h1 => FR (Ay B (lq + 4)) h h1, 9, 0, 0, 8, ⟨by decide, by decide, by decide, by decide⟩, (x_best g h B (lq + 4) lq hl _ N P hC w c x).weak (fun v h' q => ⟨q.1, q.2.mo (by intro a; unfold Xs Ay; omega)⟩), fun h1 x_ => ⟨x_.ly hL, ?_⟩⟩
    have e52 : hI h1 (B + 52) = hI h (B + 52) := x_.2.2.2.2 _ (by unfold Ay; omega)
    have e56 : hI h1 (B + 56) = fun _ => 0 := (x_.2.2.2.2 _ (by unfold Ay; omega)).trans hd
    have H1 := H.x x_ hv
    have M_ := m_best g h1 B (x_.ly hL) P (hP h1 x_) (by rw [e52]; exact m6) hl (by rw [e52, m8]; exact IX.n (by omega)) ml N.1 (by rw [e52, G.1.1]; exact IX.n (by have := G.1.2; omega)) G.1.2 N.2.1 (by rw [e52, G.2.1.1]; exact IX.n (by have := G.2.1.2; omega)) G.2.1.2 (by rw [e52]; exact m7) (by rw [e52]; exact mn) w c x
    rw [e52, e56] at M_
    rw [G.2.1.1] at M_
    exact M_.weak (fun v h' q => ⟨q.1, H1.m (q.2.1.mo (by intro a; unfold Az Amo; omega)) (q.2.2.trans e52.symm) (q.2.1.2.2.2.2 _ (by unfold Az; omega)) (congrFun (q.2.1.2.2.2.2 _ (by unfold Az; omega)) 3) (congrFun (q.2.1.2.2.2.2 _ (by unfold Az; omega)) 21) (q.2.1.2.2.2.2 _ (by unfold Az; omega)) (q.2.1.2.2.2.2 _ (by unfold Az; omega))⟩)
theorem s_pump (g : GG) (h : AH) (B : Nat) (H : INV h B) (p : Int32) (k : Int32) : SIMI g h B mX11_pump mX12_pump [.int p, .int k] := by
  obtain ⟨hL, hb, ty1, ty2, ⟨N, hs⟩, hi, htr, hd⟩ := id H
  have hX := hs.xn hL
  have G := hs.2.1
  by_cases h0 : N.2.2.1 = 0
  · exact ⟨_, fun h1 => h1 = h, 3, 0, 0, 3, ⟨by decide, by decide, by decide, by decide⟩, xn_pump g h B _ N hX h0 p k, fun h1 e => by subst e; exact ⟨hL, (n_pump g h1 B hL (mh0 G h0) p k).weak (fun v h' q => ⟨q.1, by rw [q.2]; exact H⟩)⟩⟩
  · obtain ⟨lq, hl, P, ehl, hC, hv, hlq, hP⟩ := H.cx (g := g) hs h0
    obtain ⟨m6, m8, ml, m7, mn⟩ := mh G ehl
    refine ⟨_, fun h1 => FR (Ay B (lq + 4)) h h1, 8, 0, 0, 8, ⟨by decide, by decide, by decide, by decide⟩, (x_pump g h B (lq + 4) lq hl _ N P hC p k).weak (fun v h' q => ⟨q.1, q.2.mo (by intro a; unfold Xd Ay; omega)⟩), fun h1 x_ => ⟨x_.ly hL, ?_⟩⟩
    have e52 : hI h1 (B + 52) = hI h (B + 52) := x_.2.2.2.2 _ (by unfold Ay; omega)
    have e56 : hI h1 (B + 56) = fun _ => 0 := (x_.2.2.2.2 _ (by unfold Ay; omega)).trans hd
    have H1 := H.x x_ hv
    have M_ := m_pump g h1 B (x_.ly hL) P (hP h1 x_) (by rw [e52]; exact m6) hl (by rw [e52, m8]; exact IX.n (by omega)) ml N.1 (by rw [e52, G.1.1]; exact IX.n (by have := G.1.2; omega)) G.1.2 (by rw [e52]; exact mn) p k
    rw [e52, e56] at M_
    exact M_.weak (fun v h' q => ⟨q.1, H1.m (q.2.mo (by intro a; unfold Ad Amo; omega)) (q.2.2.2.2.2 _ (by unfold Ad; omega)) (q.2.2.2.2.2 _ (by unfold Ad; omega)) (congrFun (q.2.2.2.2.2 _ (by unfold Ad; omega)) 3) (congrFun (q.2.2.2.2.2 _ (by unfold Ad; omega)) 21) (q.2.2.2.2.2 _ (by unfold Ad; omega)) (q.2.2.2.2.2 _ (by unfold Ad; omega))⟩)
theorem s_watched (g : GG) (h : AH) (B : Nat) (H : INV h B) (t : Int32) (x : Int32) : SIMI g h B mX11_watched mX12_watched [.int t, .int x] := by
  obtain ⟨hL, hb, ty1, ty2, ⟨N, hs⟩, hi, htr, hd⟩ := id H
  have hX := hs.xn hL
  have G := hs.2.1
  by_cases h0 : N.2.2.1 = 0
  · exact ⟨_, fun h1 => h1 = h, 3, 0, 0, 3, ⟨by decide, by decide, by decide, by decide⟩, xn_watched g h B _ N hX h0 t x, fun h1 e => by subst e; exact ⟨hL, (n_watched g h1 B hL (mh0 G h0) t x).weak (fun v h' q => ⟨q.1, by rw [q.2]; exact H⟩)⟩⟩
  · obtain ⟨lq, hl, P, ehl, hC, hv, hlq, hP⟩ := H.cx (g := g) hs h0
    obtain ⟨m6, m8, ml, m7, mn⟩ := mh G ehl
    refine ⟨_, fun h1 => FR (Ay B (lq + 4)) h h1, 6, 0, 0, 7, ⟨by decide, by decide, by decide, by decide⟩, (x_watched g h B (lq + 4) lq hl _ N P hC t x).weak (fun v h' q => ⟨q.1, q.2.mo (by intro a; unfold Xv Ay; omega)⟩), fun h1 x_ => ⟨x_.ly hL, ?_⟩⟩
    have e52 : hI h1 (B + 52) = hI h (B + 52) := x_.2.2.2.2 _ (by unfold Ay; omega)
    have e56 : hI h1 (B + 56) = fun _ => 0 := (x_.2.2.2.2 _ (by unfold Ay; omega)).trans hd
    have H1 := H.x x_ hv
    have M_ := m_watched g h1 B (x_.ly hL) P (hP h1 x_) (by rw [e52]; exact m6) hl (by rw [e52, m8]; exact IX.n (by omega)) ml (by rw [e52]; exact mn) N.2.2.2.1 (by rw [e52, G.2.2.2.1.1]; exact IX.n (by have := G.2.2.2.1.2; omega)) G.2.2.2.1.2 t x
    rw [e52] at M_
    exact M_.weak (fun v h' q => ⟨q.1, H1.m (q.2.mo (by intro a; unfold Am Amo; omega)) (q.2.2.2.2.2 _ (by unfold Am; omega)) (q.2.2.2.2.2 _ (by unfold Am; omega)) (congrFun (q.2.2.2.2.2 _ (by unfold Am; omega)) 3) (congrFun (q.2.2.2.2.2 _ (by unfold Am; omega)) 21) (q.2.2.2.2.2 _ (by unfold Am; omega)) (q.2.2.2.2.2 _ (by unfold Am; omega))⟩)
theorem s_waits (g : GG) (h : AH) (B : Nat) (H : INV h B) (a : Int32) (b : Int32) (x : Int32) : SIMI g h B mX11_waits mX12_waits [.int a, .int b, .int x] := by
  obtain ⟨hL, hb, ty1, ty2, ⟨N, hs⟩, hi, htr, hd⟩ := id H
  have hX := hs.xn hL
  have G := hs.2.1
  by_cases h0 : N.2.2.1 = 0
  · exact ⟨_, fun h1 => h1 = h, 3, 0, 0, 3, ⟨by decide, by decide, by decide, by decide⟩, xn_waits g h B _ N hX h0 a b x, fun h1 e => by subst e; exact ⟨hL, (n_waits g h1 B hL (mh0 G h0) a b x).weak (fun v h' q => ⟨q.1, by rw [q.2]; exact H⟩)⟩⟩
  · obtain ⟨lq, hl, P, ehl, hC, hv, hlq, hP⟩ := H.cx (g := g) hs h0
    obtain ⟨m6, m8, ml, m7, mn⟩ := mh G ehl
    refine ⟨_, fun h1 => FR (Ay B (lq + 4)) h h1, 9, 0, 0, 8, ⟨by decide, by decide, by decide, by decide⟩, (x_waits g h B (lq + 4) lq hl _ N P hC a b x).weak (fun v h' q => ⟨q.1, q.2.mo (by intro a; unfold Xw Ay; omega)⟩), fun h1 x_ => ⟨x_.ly hL, ?_⟩⟩
    have e52 : hI h1 (B + 52) = hI h (B + 52) := x_.2.2.2.2 _ (by unfold Ay; omega)
    have e56 : hI h1 (B + 56) = fun _ => 0 := (x_.2.2.2.2 _ (by unfold Ay; omega)).trans hd
    have H1 := H.x x_ hv
    have M_ := m_waits g h1 B (x_.ly hL) P (hP h1 x_) (by rw [e52]; exact m6) hl (by rw [e52, m8]; exact IX.n (by omega)) ml N.1 (by rw [e52, G.1.1]; exact IX.n (by have := G.1.2; omega)) G.1.2 (by rw [e52]; exact mn) (fun j _ => by rw [e56]) a b x
    rw [e52, e56] at M_
    rw [G.1.1] at M_
    exact M_.weak (fun v h' q => ⟨q.1, H1.m (q.2.1.mo (by intro a; unfold Aw Amo; omega)) (q.2.1.2.2.2.2 _ (by unfold Aw; omega)) (q.2.1.2.2.2.2 _ (by unfold Aw; omega)) (congrFun (q.2.1.2.2.2.2 _ (by unfold Aw; omega)) 3) (congrFun (q.2.1.2.2.2.2 _ (by unfold Aw; omega)) 21) (q.2.2.trans e56.symm) (q.2.1.2.2.2.2 _ (by unfold Aw; omega))⟩)
theorem bs_lg {S : Nat → Int32} {N : NN} {j : Nat} (G : RG S N) (hj : j < N.2.1) : ∃ lg, IX (S (178 + j)) lg ∧ lg ≤ 9 := by
  obtain ⟨a, ha, e⟩ := oO_n (m := 9) (by decide) (G.2.2.2.2.2.2.2.1 j hj).1
  exact ⟨a, by rw [e]; exact IX.n (by omega), ha⟩
theorem bs_e {S : Nat → Int32} {N : NN} {dm : Nat → Int32} {w r mm c : Int32} {v : Option Value} (G : RG S N) (q : (oO w 0 (nI N.2.1 - 1) = true ∧ v = some (.int (-1))) ∨ (oO w 0 (nI N.2.1 - 1) = false ∧ (oO r 0 999 || oO mm 1 20 || oO c 0 999) = true ∧ v = some (.int (-2))) ∨ (oO w 0 (nI N.2.1 - 1) = false ∧ (oO r 0 999 || oO mm 1 20 || oO c 0 999) = false ∧ ∃ lg, IX (S (178 + w.toNatClampNeg)) lg ∧ v = some (.int (beS S dm w.toNatClampNeg N.2.1 lg mm.toNatClampNeg w r c 40).2.2.2))) : v = some (.int (if oO w 0 (nI N.2.1 - 1) then -1 else if (oO r 0 999 || oO mm 1 20 || oO c 0 999) = true then -2 else (beS S dm w.toNatClampNeg N.2.1 (S (178 + w.toNatClampNeg)).toNatClampNeg mm.toNatClampNeg w r c 40).2.2.2)) := by
  rcases q with ⟨q1, q2⟩ | ⟨q1, q2, q3⟩ | ⟨q1, q2, lg, q3, q4⟩
  · rw [q2, if_pos q1]
  · rw [q3, if_neg (by rw [q1]; decide), if_pos q2]
  · rw [q4, if_neg (by rw [q1]; decide), if_neg (by rw [q2]; decide), q3.2]
theorem s_beside (g : GG) (h : AH) (B : Nat) (H : INV h B) (w : Int32) (r : Int32) (mm : Int32) (c : Int32) : SIMI g h B mX11_beside mX12_beside [.int w, .int r, .int mm, .int c] := by
  obtain ⟨hL, hb, ty1, ty2, ⟨N, hs⟩, hi, htr, hd⟩ := id H
  have hX := hs.xn hL
  have G := hs.2.1
  by_cases h0 : N.2.2.1 = 0
  · exact ⟨_, fun h1 => h1 = h, 3, 0, 0, 3, ⟨by decide, by decide, by decide, by decide⟩, xn_beside g h B _ N hX h0 w r mm c, fun h1 e => by subst e; exact ⟨hL, (n_beside g h1 B hL (mh0 G h0) w r mm c).weak (fun v h' q => ⟨q.1, by rw [q.2]; exact H⟩)⟩⟩
  · obtain ⟨lq, hl, P, ehl, hC, hv, hlq, hP⟩ := H.cx (g := g) hs h0
    obtain ⟨m6, m8, ml, m7, mn⟩ := mh G ehl
    refine ⟨_, fun h1 => FR (Ay B (lq + 4)) h h1, 9, 0, 0, 8, ⟨by decide, by decide, by decide, by decide⟩, (x_beside g h B (lq + 4) lq hl _ N P hC w r mm c).weak (fun v h' q => ⟨q.1, q.2.mo (by intro a; unfold Xu Ay; omega)⟩), fun h1 x_ => ⟨x_.ly hL, ?_⟩⟩
    have e52 : hI h1 (B + 52) = hI h (B + 52) := x_.2.2.2.2 _ (by unfold Ay; omega)
    have e56 : hI h1 (B + 56) = fun _ => 0 := (x_.2.2.2.2 _ (by unfold Ay; omega)).trans hd
    have H1 := H.x x_ hv
    have M_ := m_beside g h1 B (x_.ly hL) P (hP h1 x_) (by rw [e52]; exact m6) hl (by rw [e52, m8]; exact IX.n (by omega)) ml N.1 (by rw [e52, G.1.1]; exact IX.n (by have := G.1.2; omega)) G.1.2 N.2.1 (by rw [e52, G.2.1.1]; exact IX.n (by have := G.2.1.2; omega)) G.2.1.2 (by rw [e52]; exact m7) (by rw [e52]; exact mn) (fun j hj => by rw [e52]; exact bs_lg G hj) w r mm c
    rw [e52, e56] at M_
    rw [G.2.1.1] at M_
    exact M_.weak (fun v h' q => ⟨bs_e G q.1, H1.m (q.2.mo (by intro a; unfold Ae Amo; omega)) (q.2.2.2.2.2 _ (by unfold Ae; omega)) (q.2.2.2.2.2 _ (by unfold Ae; omega)) (congrFun (q.2.2.2.2.2 _ (by unfold Ae; omega)) 3) (congrFun (q.2.2.2.2.2 _ (by unfold Ae; omega)) 21) (q.2.2.2.2.2 _ (by unfold Ae; omega)) (q.2.2.2.2.2 _ (by unfold Ae; omega))⟩)
theorem wo_e {S : Nat → Int32} {N : NN} {P : PF} {hl : Nat} {c x : Int32} {v : Option Value} (G : RG S N) (q : v = some (.int (if oO x 0 1 then -1 else if oO c 0 999 then -2 else if 4 < (ltM S N.1) then -9 else if x = 0 then (wyS (fun dl => fbW P S dl hl N.1 N.2.1 c) S N.1 0 (fun _ => 0) 1 0 (0, 0, -5, -5)).2.2.1 else (wyS (fun dl => fbW P S dl hl N.1 N.2.1 c) S N.1 0 (fun _ => 0) 1 0 (0, 0, -5, -5)).2.2.2))) : v = some (.int (if oO x 0 1 then -1 else if oO c 0 999 then -2 else if 4 < ltM S N.1 then -9 else if x = 0 then (woS (fwS (fun y => odT S N.1 y N.1) (fun y => fbF (fun t => btS (fun t => mdB S (-1) (nI t) N.2.1) (fun t => dmS P S (fun p => nI (dyT S N.1 y p)) hl (nI t) N.1) (S 7) (t + 1)) c 0 40)) (fun y => dgS (fun p => nI (dyT S N.1 y p)) N.1) (nwN S N.1)).1 else (woS (fwS (fun y => odT S N.1 y N.1) (fun y => fbF (fun t => btS (fun t => mdB S (-1) (nI t) N.2.1) (fun t => dmS P S (fun p => nI (dyT S N.1 y p)) hl (nI t) N.1) (S 7) (t + 1)) c 0 40)) (fun y => dgS (fun p => nI (dyT S N.1 y p)) N.1) (nwN S N.1)).2)) := by
  rw [q]
  by_cases h4 : 4 < ltM S N.1
  · rw [if_pos h4, if_pos h4]
  · rw [if_neg h4, if_neg h4, wy_all G h4]; rfl
theorem s_worst (g : GG) (h : AH) (B : Nat) (H : INV h B) (c : Int32) (x : Int32) : SIMI g h B mX11_worst mX12_worst [.int c, .int x] := by
  obtain ⟨hL, hb, ty1, ty2, ⟨N, hs⟩, hi, htr, hd⟩ := id H
  have hX := hs.xn hL
  have G := hs.2.1
  by_cases h0 : N.2.2.1 = 0
  · exact ⟨_, fun h1 => h1 = h, 3, 0, 0, 3, ⟨by decide, by decide, by decide, by decide⟩, xn_worst g h B _ N hX h0 c x, fun h1 e => by subst e; exact ⟨hL, (n_worst g h1 B hL (mh0 G h0) c x).weak (fun v h' q => ⟨q.1, by rw [q.2]; exact H⟩)⟩⟩
  · obtain ⟨lq, hl, P, ehl, hC, hv, hlq, hP⟩ := H.cx (g := g) hs h0
    obtain ⟨m6, m8, ml, m7, mn⟩ := mh G ehl
    refine ⟨_, fun h1 => FR (Ay B (lq + 4)) h h1, 10, 0, 0, 19, ⟨by decide, by decide, by decide, by decide⟩, (x_worst g h B (lq + 4) lq hl _ N P hC c x).weak (fun v h' q => ⟨q.1, q.2.mo (by intro a; unfold Xg Ay; omega)⟩), fun h1 x_ => ⟨x_.ly hL, ?_⟩⟩
    have e52 : hI h1 (B + 52) = hI h (B + 52) := x_.2.2.2.2 _ (by unfold Ay; omega)
    have e56 : hI h1 (B + 56) = fun _ => 0 := (x_.2.2.2.2 _ (by unfold Ay; omega)).trans hd
    have H1 := H.x x_ hv
    have M_ := m_worst g h1 B (x_.ly hL) P (hP h1 x_) (by rw [e52]; exact m6) hl (by rw [e52, m8]; exact IX.n (by omega)) ml N.1 (by rw [e52, G.1.1]; exact IX.n (by have := G.1.2; omega)) G.1.2 N.2.1 (by rw [e52, G.2.1.1]; exact IX.n (by have := G.2.1.2; omega)) G.2.1.2 (by rw [e52]; exact m7) (by rw [e52]; exact mn) (fun j _ => by rw [e56]) c x
    rw [e52, e56] at M_
    exact M_.weak (fun v h' q => ⟨wo_e G q.1, H1.m (q.2.1.mo (by intro a; unfold Aq Amo; omega)) (q.2.1.2.2.2.2 _ (by unfold Aq; omega)) (q.2.1.2.2.2.2 _ (by unfold Aq; omega)) (q.2.2.2 3 (by decide) (by decide) (by decide) (by decide)) (q.2.2.2 21 (by decide) (by decide) (by decide) (by decide)) (q.2.2.1.trans e56.symm) (q.2.1.2.2.2.2 _ (by unfold Aq; omega))⟩)
theorem su_ab {S : Nat → Int32} {N : NN} {P : PF} {hl : Nat} {c : Int32} (G : RG S N) : ∃ a b : Nat, a < 2 ^ 31 ∧ b < 2 ^ 31 ∧ 0 < b ∧ (¬ 4 < ltM S N.1 → hlS (fun y => odT S N.1 y N.1) (fun y => fbF (fun t => btS (fun t => mdB S (-1) (nI t) N.2.1) (fun t => dmS P S (fun p => nI (dyT S N.1 y p)) hl (nI t) N.1) (S 7) (t + 1)) c 0 40) (nwN S N.1) = lJ a) ∧ (¬ 4 < ltM S N.1 → alS (fun y => odT S N.1 y N.1) (nwN S N.1) = lJ b) := by
  by_cases h4 : 4 < ltM S N.1
  · exact ⟨0, 1, by decide, by decide, by decide, fun q => absurd h4 q, fun q => absurd h4 q⟩
  · obtain ⟨a, b, h1, h2, h3, h5, h6⟩ := ws_ab (ft := (fun y => fbF (fun t => btS (fun t => mdB S (-1) (nI t) N.2.1) (fun t => dmS P S (fun p => nI (dyT S N.1 y p)) hl (nI t) N.1) (S 7) (t + 1)) c 0 40)) G h4
    exact ⟨a, b, h1, h2, h3, fun _ => h5, fun _ => h6⟩
theorem su_h {S : Nat → Int32} {N : NN} {P : PF} {hl : Nat} {c : Int32} (G : RG S N) : ¬ 4 < ltM S N.1 → ∃ a b : Nat, a < 2 ^ 31 ∧ b < 2 ^ 31 ∧ 0 < b ∧ (wyS (fun dl => fbW P S dl hl N.1 N.2.1 c) S N.1 0 (fun _ => 0) 1 0 (0, 0, -5, -5)).1 = lJ a ∧ (wyS (fun dl => fbW P S dl hl N.1 N.2.1 c) S N.1 0 (fun _ => 0) 1 0 (0, 0, -5, -5)).2.1 = lJ b := fun h4 => by
  rw [wy_all G h4]
  exact ws_ab G h4
theorem lJ_inj {a b : Nat} (ha : a < 2 ^ 31) (hb : b < 2 ^ 31) (e : lJ a = lJ b) : a = b := by
  have := congrArg Int64.toInt e
  rw [lJ_toInt (by omega), lJ_toInt (by omega)] at this
  omega
theorem su_e {S : Nat → Int32} {N : NN} {P : PF} {hl : Nat} {c x : Int32} {v : Option Value} {a b : Nat} (G : RG S N) (la : a < 2 ^ 31) (lb : b < 2 ^ 31) (ea : ¬ 4 < ltM S N.1 → hlS (fun y => odT S N.1 y N.1) (fun y => fbF (fun t => btS (fun t => mdB S (-1) (nI t) N.2.1) (fun t => dmS P S (fun p => nI (dyT S N.1 y p)) hl (nI t) N.1) (S 7) (t + 1)) c 0 40) (nwN S N.1) = lJ a) (eb : ¬ 4 < ltM S N.1 → alS (fun y => odT S N.1 y N.1) (nwN S N.1) = lJ b) (q : ((oO c 0 999 || oO x 0 1 || decide (4 < (ltM S N.1))) = true ∧ v = some (.long (-9223372036854775808))) ∨ ((oO c 0 999 || oO x 0 1 || decide (4 < (ltM S N.1))) = false ∧ ∃ a b : Nat, a < 2 ^ 31 ∧ b < 2 ^ 31 ∧ (wyS (fun dl => fbW P S dl hl N.1 N.2.1 c) S N.1 0 (fun _ => 0) 1 0 (0, 0, -5, -5)).1 = lJ a ∧ (wyS (fun dl => fbW P S dl hl N.1 N.2.1 c) S N.1 0 (fun _ => 0) 1 0 (0, 0, -5, -5)).2.1 = lJ b ∧ v = some (.long (lJ ((if x = 0 then a else b) / Nat.gcd a b))))) : v = some (.long (if oO c 0 999 then (-9223372036854775808) else if oO x 0 1 then (-9223372036854775808) else if 4 < ltM S N.1 then (-9223372036854775808) else if x = 0 then lJ a / lJ (Nat.gcd b a) else lJ b / lJ (Nat.gcd b a))) := by
  rcases q with ⟨q1, q2⟩ | ⟨q1, a', b', la', lb', e1, e2, q2⟩
  · rw [q2]
    by_cases h1 : oO c 0 999 = true
    · rw [if_pos h1]
    · rw [if_neg h1]
      by_cases h2 : oO x 0 1 = true
      · rw [if_pos h2]
      · rw [if_neg h2]
        by_cases h3 : 4 < ltM S N.1
        · rw [if_pos h3]
        · exfalso
          have h1' : oO c 0 999 = false := by simpa using h1
          have h2' : oO x 0 1 = false := by simpa using h2
          rw [h1', h2', decide_eq_false h3] at q1
          exact Bool.noConfusion q1
  · simp only [Bool.or_eq_false_iff, decide_eq_false_iff_not] at q1
    obtain ⟨⟨h1, h2⟩, h3⟩ := q1
    rw [wy_all G h3] at e1 e2
    have ea' : a' = a := lJ_inj la' la (e1.symm.trans (ea h3))
    have eb' : b' = b := lJ_inj lb' lb (e2.symm.trans (eb h3))
    subst ea'
    subst eb'
    have hg : Nat.gcd a' b' ≤ 2 ^ 31 := by
      by_cases z : 0 < a'
      · exact Nat.le_trans (Nat.gcd_le_left _ z) (by omega)
      · rw [show a' = 0 by omega, Nat.gcd_zero_left]; omega
    rw [q2, if_neg (show ¬ oO c 0 999 = true by rw [h1]; decide), if_neg (show ¬ oO x 0 1 = true by rw [h2]; decide), if_neg h3, Nat.gcd_comm b' a', lJ_div (by omega) (by omega), lJ_div (by omega) (by omega)]
    by_cases e : x = 0
    · rw [if_pos e, if_pos e]
    · rw [if_neg e, if_neg e]
theorem s_sure (g : GG) (h : AH) (B : Nat) (H : INV h B) (c : Int32) (x : Int32) : SIMJ g h B mX11_sure mX12_sure [.int c, .int x] := by
  obtain ⟨hL, hb, ty1, ty2, ⟨N, hs⟩, hi, htr, hd⟩ := id H
  have hX := hs.xn hL
  have G := hs.2.1
  by_cases h0 : N.2.2.1 = 0
  · exact ⟨_, fun h1 => h1 = h, 3, 0, 0, 3, ⟨by decide, by decide, by decide, by decide⟩, xn_sure g h B _ N hX h0 c x, fun h1 e => by subst e; exact ⟨hL, (n_sure g h1 B hL (mh0 G h0) c x).weak (fun v h' q => ⟨q.1, by rw [q.2]; exact H⟩)⟩⟩
  · obtain ⟨lq, hl, P, ehl, hC, hv, hlq, hP⟩ := H.cx (g := g) hs h0
    obtain ⟨m6, m8, ml, m7, mn⟩ := mh G ehl
    obtain ⟨a, b, la, lb, pb, ea, eb⟩ := su_ab (P := P) (hl := hl) (c := c) G
    refine ⟨_, fun h1 => FR (Ay B (lq + 4)) h h1, 10, 0, 0, 19, ⟨by decide, by decide, by decide, by decide⟩, (x_sure g h B (lq + 4) lq hl _ N P hC c x b a lb la pb eb ea).weak (fun v h' q => ⟨q.1, q.2.mo (by intro a; unfold Xg Ay; omega)⟩), fun h1 x_ => ⟨x_.ly hL, ?_⟩⟩
    have e52 : hI h1 (B + 52) = hI h (B + 52) := x_.2.2.2.2 _ (by unfold Ay; omega)
    have e56 : hI h1 (B + 56) = fun _ => 0 := (x_.2.2.2.2 _ (by unfold Ay; omega)).trans hd
    have H1 := H.x x_ hv
    have M_ := m_sureB g h1 B (x_.ly hL) P (hP h1 x_) (by rw [e52]; exact m6) hl (by rw [e52, m8]; exact IX.n (by omega)) ml N.1 (by rw [e52, G.1.1]; exact IX.n (by have := G.1.2; omega)) G.1.2 N.2.1 (by rw [e52, G.2.1.1]; exact IX.n (by have := G.2.1.2; omega)) G.2.1.2 (by rw [e52]; exact m7) (by rw [e52]; exact mn) (fun j _ => by rw [e56]) c x (by rw [e52, e56]; exact su_h G)
    rw [e52, e56] at M_
    exact M_.weak (fun v h' q => ⟨su_e G la lb ea eb q.1, H1.m (q.2.1.mo (by intro a; unfold Aq Amo; omega)) (q.2.1.2.2.2.2 _ (by unfold Aq; omega)) (q.2.1.2.2.2.2 _ (by unfold Aq; omega)) (q.2.2.2 3 (by decide) (by decide) (by decide) (by decide)) (q.2.2.2 21 (by decide) (by decide) (by decide) (by decide)) (q.2.2.1.trans e56.symm) (q.2.1.2.2.2.2 _ (by unfold Aq; omega))⟩)
