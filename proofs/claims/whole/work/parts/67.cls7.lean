/-! ===== the best plan: the first one is it ===== -/
section SB
variable {S : Nat → Int32} {w t m : Nat}
theorem sb_lo {k : Nat} (hk : k < 198) : sbS S w t m k = S k := by unfold sbS; rw [upd_n (by omega), upd_n (by omega)]
theorem sb_f {v : Nat} (hv : v < 5) : sbS S w t m (198 + v) = if v = w then nI t else S (198 + v) := by
  unfold sbS
  rw [upd_n (by omega)]
  by_cases e : v = w
  · subst e; rw [upd_s, if_pos rfl]
  · rw [upd_n (by omega), if_neg e]
theorem sb_m {v : Nat} (hw : w < 5) : sbS S w t m (203 + v) = if v = w then nI m else S (203 + v) := by
  unfold sbS
  by_cases e : v = w
  · subst e; rw [upd_s, if_pos rfl]
  · rw [upd_n (by omega), upd_n (by omega), if_neg e]
theorem oO_n0 {n b : Nat} (h2 : n ≤ b) (hb : b < 2 ^ 31) : oO (nI n) 0 (nI b) = false := by
  have a : ¬ nI n < 0 := nI_pos (by omega)
  have c : ¬ nI b < nI n := fun q => absurd ((nI_ltI (a := b) (b := n) (by omega) (by omega)).mp q) (by omega)
  simp [oO, a, c]
theorem rgw_sb {v : Nat} (hw : w < 5) (hv : v < 5) (ht : t < 40) (hm : m ≤ 40) (h : RGw S v) : RGw (sbS S w t m) v := by
  unfold RGw
  rw [sb_lo (by omega), sb_lo (by omega), sb_lo (by omega), sb_lo (by omega), sb_f hv, sb_m hw]
  refine ⟨h.1, h.2.1, h.2.2.1, h.2.2.2.1, ?_, ?_⟩
  · split
    · exact oO_n0 (b := 39) (by omega) (by decide)
    · exact h.2.2.2.2.1
  · split
    · exact oO_n0 (b := 40) (by omega) (by decide)
    · exact h.2.2.2.2.2
theorem gv_sb {v : Nat} (hw : w < 5) (hv : v < 5) (e : v ≠ w) : gv (sbS S w t m) v = gv S v := by
  unfold gv
  rw [sb_m hw, if_neg e, sb_lo (by omega)]
theorem wg_sb {a b u : Int32} (hw : w < 5) : wgS (sbS S w t m) w a b u = wgS S w a b u := by
  unfold wgS
  rw [sb_lo (by omega), sb_lo (by omega), sb_lo (by omega)]
theorem nI_nm {v : Nat} (h : v < 5) : ¬ nI v = -1 := fun q => nI_pos (n := v) (by omega) (by rw [q]; decide)
theorem nI_nw {v w : Nat} (h : v < 5) (h2 : w < 5) (e : v ≠ w) : ¬ nI v = nI w := fun q => e ((nI_eq (by omega) (by omega)).mp q)
theorem mdW_sb {v : Nat} {u : Int32} (hw : w < 5) (hv : v < 5) (e : v ≠ w) : mdW (sbS S w t m) (-1) u v = mdW S (nI w) u v := by
  unfold mdW
  rw [if_neg (nI_nm hv), if_neg (nI_nw hv hw e), gv_sb hw hv e, sb_f hv, if_neg e, sb_lo (by omega), sb_lo (by omega)]
theorem mdW_sw {u : Int32} (hw : w < 5) (ht : t < 40) (hm : m ≤ 40) (h : RGw S w) : mdW (sbS S w t m) (-1) u w = wgS S w (nI t) (nI m) u := by
  have e := wg_md (t := u) (rgw_sb (t := t) (m := m) hw hw ht hm h)
  rw [wg_sb hw, sb_f hw, if_pos rfl, sb_m hw, if_pos rfl] at e
  unfold mdW
  rw [if_neg (nI_nm hw), e, sb_f hw, if_pos rfl]
theorem md_up0 {u : Int32} (hw : w < 5) : ∀ k, k ≤ w → mdB (sbS S w t m) (-1) u k = mdB S (nI w) u k
  | 0, _ => rfl
  | k + 1, h => by
    show mdB _ _ _ k + mdW _ _ _ k = mdB _ _ _ k + mdW _ _ _ k
    rw [md_up0 hw k (by omega), mdW_sb hw (by omega) (by omega)]
theorem md_up {u : Int32} (hw : w < 5) (ht : t < 40) (hm : m ≤ 40) (h : RGw S w) : ∀ k, k ≤ 5 → w < k → mdB (sbS S w t m) (-1) u k = mdB S (nI w) u k + wgS S w (nI t) (nI m) u
  | 0, _, q => absurd q (Nat.not_lt_zero _)
  | k + 1, hk, q => by
    show mdB _ _ _ k + mdW _ _ _ k = mdB S (nI w) u k + mdW S (nI w) u k + _
    by_cases e : k = w
    · subst e
      rw [md_up0 hw k (Nat.le_refl _), mdW_sw hw ht hm h, show mdW S (nI k) u k = 0 from if_pos rfl, Int32.add_zero]
    · rw [md_up hw ht hm h k (by omega) (by omega), mdW_sb hw (by omega) e]
      ac_rfl
theorem cst_up0 (hw : w < 5) : ∀ k, k ≤ w → cst (sbS S w t m) k = csB S (nI w) k
  | 0, _ => rfl
  | k + 1, h => by
    show cst _ k + gv _ k * sbS S w t m (193 + k) = csB _ _ k + (if nI k = nI w then _ else _)
    rw [cst_up0 hw k (by omega), gv_sb hw (by omega) (by omega), sb_lo (by omega), if_neg (nI_nw (by omega) hw (by omega)), mn_gv]; rfl
theorem cst_up (hw : w < 5) : ∀ k, k ≤ 5 → w < k → cst (sbS S w t m) k = csB S (nI w) k + mn (nI m) (S (188 + w)) * S (193 + w)
  | 0, _, q => absurd q (Nat.not_lt_zero _)
  | k + 1, hk, q => by
    show cst _ k + gv _ k * sbS S w t m (193 + k) = csB _ _ k + (if nI k = nI w then 0 else mn (S (203 + k)) (S (188 + k)) * S (193 + k)) + _
    by_cases e : k = w
    · subst e
      rw [cst_up0 hw k (Nat.le_refl _), if_pos rfl, Int32.add_zero, sb_lo (by omega), mn_gv]
      unfold gv
      rw [sb_m hw, if_pos rfl, sb_lo (by omega)]
    · rw [cst_up hw k (by omega) (by omega), gv_sb hw (by omega) e, sb_lo (by omega), if_neg (nI_nw (by omega) hw e), show gv S k = mn (S (203 + k)) (S (188 + k)) from mn_gv.symm]
      ac_rfl
end SB
/-- what the search says: none, or the first plan that holds -/
def BP (ho : Nat → Nat → Int32) (L : Nat) (r : Int32) : Prop := (r = -5 ∧ ∀ z, z < L → ∀ t, t < 40 → ho z t ≠ -5) ∨ ∃ z t, z < L ∧ t < 40 ∧ r = nI ((z + 1) * 40 + t) ∧ ho z t = -5 ∧ (∀ z', z' < z → ∀ t', t' < 40 → ho z' t' ≠ -5) ∧ ∀ t', t' < t → ho z t' ≠ -5
theorem bsI_no {co ho : Nat → Nat → Int32} {st : Int32 × Int32 × Int32} {z : Nat} : ∀ k, (∀ t, t < k → ho z t ≠ -5) → bsI co ho st z k = st
  | 0, _ => rfl
  | k + 1, h => by
    unfold bsI
    rw [bsI_no k (fun t q => h t (by omega)), if_neg (fun q => h k (by omega) q.2)]
theorem bsI_dn {co ho : Nat → Nat → Int32} {st : Int32 × Int32 × Int32} {z : Nat} (h1 : st.2.2 ≠ -5) (h2 : ∀ t, ¬ co z t < st.2.2) : ∀ k, bsI co ho st z k = st
  | 0 => rfl
  | k + 1 => by
    unfold bsI
    rw [bsI_dn h1 h2 k, if_neg (fun q => q.1.elim h1 (h2 k))]
theorem bsI_fd {co ho : Nat → Nat → Int32} {z t : Nat} (h1 : ho z t = -5) (h2 : ∀ t', t' < t → ho z t' ≠ -5) (h3 : co z t ≠ -5) (h4 : ∀ t', ¬ co z t' < co z t) : ∀ k, bsI co ho (-5, -5, -5) z (t + 1 + k) = (nI t, nI (z + 1), co z t)
  | 0 => by
    show (if ((bsI co ho (-5, -5, -5) z t).2.2 = -5 ∨ co z t < (bsI co ho (-5, -5, -5) z t).2.2) ∧ ho z t = -5 then (nI t, nI (z + 1), co z t) else bsI co ho (-5, -5, -5) z t) = _
    rw [bsI_no t h2, if_pos ⟨Or.inl rfl, h1⟩]
  | k + 1 => by
    show (if ((bsI co ho (-5, -5, -5) z (t + 1 + k)).2.2 = -5 ∨ co z (t + 1 + k) < (bsI co ho (-5, -5, -5) z (t + 1 + k)).2.2) ∧ ho z (t + 1 + k) = -5 then (nI (t + 1 + k), nI (z + 1), co z (t + 1 + k)) else bsI co ho (-5, -5, -5) z (t + 1 + k)) = _
    rw [bsI_fd h1 h2 h3 h4 k, if_neg (fun q => q.1.elim h3 (h4 _))]
theorem bsO_no {co ho : Nat → Nat → Int32} : ∀ k, (∀ z, z < k → ∀ t, t < 40 → ho z t ≠ -5) → bsO co ho k = (-5, -5, -5)
  | 0, _ => rfl
  | k + 1, h => by
    unfold bsO
    rw [bsO_no k (fun z q => h z (by omega)), bsI_no 40 (h k (by omega))]
theorem bsO_fd {co ho : Nat → Nat → Int32} {z t : Nat} (ht : t < 40) (h1 : ho z t = -5) (h0 : ∀ z', z' < z → ∀ t', t' < 40 → ho z' t' ≠ -5) (h2 : ∀ t', t' < t → ho z t' ≠ -5) (h3 : co z t ≠ -5) : ∀ k, (∀ z' t', z ≤ z' → z' < z + 1 + k → ¬ co z' t' < co z t) → bsO co ho (z + 1 + k) = (nI t, nI (z + 1), co z t)
  | 0, h4 => by
    show bsI co ho (bsO co ho z) z 40 = _
    rw [bsO_no z h0, show 40 = t + 1 + (39 - t) by omega]
    exact bsI_fd h1 h2 h3 (fun t' => h4 z t' (Nat.le_refl _) (by omega)) _
  | k + 1, h4 => by
    show bsI co ho (bsO co ho (z + 1 + k)) (z + 1 + k) 40 = _
    rw [bsO_fd ht h1 h0 h2 h3 k (fun z' t' a b => h4 z' t' a (by omega))]
    exact bsI_dn h3 (fun t' => h4 _ t' (by omega) (by omega)) 40
theorem bs_eq {co ho : Nat → Nat → Int32} {L : Nat} {r : Int32} (hL0 : 0 < L) (hL : L ≤ 20) (hco : ∀ z t z' t', z ≤ z' → z' < 20 → ¬ co z' t' < co z t) (hne : ∀ z t, z < 20 → co z t ≠ -5) (hho : ∀ z t, t < 40 → L ≤ z → z < 20 → ho z t = ho (L - 1) t) (h : BP ho L r) : (r = -5 ∧ bsO co ho 20 = (-5, -5, -5)) ∨ ∃ z t, z < L ∧ t < 40 ∧ r = nI ((z + 1) * 40 + t) ∧ bsO co ho 20 = (nI t, nI (z + 1), co z t) := by
  rcases h with ⟨e, h⟩ | ⟨z, t, hz, ht, e, h1, h2, h3⟩
  · refine Or.inl ⟨e, bsO_no 20 (fun z hz t ht => ?_)⟩
    by_cases q : z < L
    · exact h z q t ht
    · rw [hho z t ht (by omega) hz]; exact h (L - 1) (by omega) t ht
  · refine Or.inr ⟨z, t, hz, ht, e, ?_⟩
    rw [show 20 = z + 1 + (19 - z) by omega]
    exact bsO_fd ht h1 h2 h3 (hne z t (by omega)) _ (fun z' t' a b => hco z t z' t' a (by omega))
theorem fi_gen {h2 : AH} {B : Nat} {mk dm : Nat → Int32} {ine c : Int32} (hs : SM_ mk dm) (hi : oO ine 1 999 = false) (hD : ∀ t, t < 40 → hI h2 (B + 21) t = dm t) (hM : ∀ t, t < 40 → hI h2 (B + 22) t = mk t) : fiS (fun t => biS (hI h2 (B + 22)) (hI h2 (B + 21)) ine (t + 1)) c 0 40 = fbF (fun t => btS mk dm ine (t + 1)) c 0 40 := by
  rw [← fi_j hs (in1 hi) 40 0 (by omega)]
  exact fiS_c 40 0 (fun t _ ht => biS_c _ (fun u hu => hM u (by omega)) (fun u hu => hD u (by omega)))
section BX
variable {g : GG} {h : AH} {B vq lq hl : Nat} {S : Nat → Int32} {N : NN} {P : PF}
theorem CX.sb (H : CX g h B vq lq hl S N P) {w t m : Nat} (hw : w < N.2.1) (ht : t < 40) (hm : m ≤ 40) : SM_ (fun u => mdB (sbS S w t m) (-1) (nI u) N.2.1) (fun t => dmS P S (fun _ => 0) hl (nI t) N.1) := fun u => by
  have nw := H.1.nw
  have a := md_r (S := sbS S w t m) (but := -1) (t := nI u) N.2.1 nw (fun v q => rgw_sb (by omega) (by omega) ht hm (H.1.rw_ q))
  have := H.dm (fun _ => 0) (nI u)
  show -20000 ≤ (mdB (sbS S w t m) (-1) (nI u) N.2.1).toInt ∧ (mdB (sbS S w t m) (-1) (nI u) N.2.1).toInt ≤ 20000 ∧ -20000 ≤ (dmS P S (fun _ => 0) hl (nI u) N.1).toInt ∧ (dmS P S (fun _ => 0) hl (nI u) N.1).toInt ≤ 20000
  omega
theorem RGw.st {w : Nat} (H : RGw S w) : ∃ s : Nat, S (188 + w) = nI s ∧ 1 ≤ s ∧ s ≤ 40 := by
  have a := oO_ti H.2.2.1
  rw [t1, t40] at a
  have h0 : ¬ S (188 + w) < 0 := fun q => by
    have := Int32.lt_iff_toInt_lt.mp q
    rw [t0] at this; omega
  obtain ⟨s, hs, e⟩ := nI_of h0
  rw [e, nI_toInt hs] at a
  exact ⟨s, e, by omega, by omega⟩
theorem mn_nI {a b : Nat} (ha : a < 2 ^ 31) (hb : b < 2 ^ 31) : mn (nI a) (nI b) = nI (min a b) := by
  unfold mn
  by_cases q : b < a
  · rw [if_pos ((nI_ltI hb ha).mpr q), Nat.min_eq_right (by omega)]
  · rw [if_neg (fun x => q ((nI_ltI hb ha).mp x)), Nat.min_eq_left (by omega)]
/-- past the store nothing changes -/
theorem ho_st (H : CX g h B vq lq hl S N P) {w s : Nat} (hw : w < N.2.1) (hs : S (188 + w) = nI s) (s1 : 1 ≤ s) (s2 : s ≤ 40) {dm : Nat → Int32} {c : Int32} {z t : Nat} (ht : t < 40) (hz : min 20 s ≤ z) (hz2 : z < 20) : hoS S dm w N.2.1 c z t = hoS S dm w N.2.1 c (min 20 s - 1) t := by
  have nw := H.1.nw
  unfold hoS
  have e : ∀ u : Nat, mdB (sbS S w t (z + 1)) (-1) (nI u) N.2.1 = mdB (sbS S w t (min 20 s - 1 + 1)) (-1) (nI u) N.2.1 := fun u => by
    rw [md_up (by omega) ht (by omega) (H.1.rw_ hw) _ nw hw, md_up (by omega) ht (by omega) (H.1.rw_ hw) _ nw hw]
    unfold wgS
    rw [hs, mn_nI (by omega) (by omega), mn_nI (by omega) (by omega), show min (z + 1) s = min (min 20 s - 1 + 1) s by omega]
  congr 1
  funext u
  congr 1
  funext v
  exact e v
theorem cs_r {but : Int32} : ∀ k, k ≤ 5 → (∀ w, w < k → RGw S w) → 0 ≤ (csB S but k).toInt ∧ (csB S but k).toInt ≤ 3960 * (k : Int)
  | 0, _, _ => by rw [csB, t0]; omega
  | k + 1, hk, hr => by
    have i := cs_r (but := but) k (by omega) (fun w q => hr w (by omega))
    have r := hr k (by omega)
    have gg := gv_r r
    have c := oO_ti r.2.2.2.1
    rw [t0, t99] at c
    have lo : 0 ≤ (gv S k).toInt * (S (193 + k)).toInt := Int.mul_nonneg gg.1 c.1
    have hi : (gv S k).toInt * (S (193 + k)).toInt ≤ 40 * 99 := Int.mul_le_mul gg.2 c.2 c.1 (by omega)
    have em := ti_mul (a := gv S k) (b := S (193 + k)) (by omega) (by omega)
    have d : 0 ≤ (if nI k = but then 0 else mn (S (203 + k)) (S (188 + k)) * S (193 + k) : Int32).toInt ∧ (if nI k = but then 0 else mn (S (203 + k)) (S (188 + k)) * S (193 + k) : Int32).toInt ≤ 3960 := by
      split
      · rw [t0]; omega
      · rw [mn_gv]
        change 0 ≤ (gv S k * S (193 + k)).toInt ∧ (gv S k * S (193 + k)).toInt ≤ 3960
        omega
    show _ ≤ (csB S but k + _).toInt ∧ (csB S but k + _).toInt ≤ _
    rw [ti_add (by omega) (by omega)]
    omega
theorem co_r (H : CX g h B vq lq hl S N P) {w : Nat} (hw : w < N.2.1) (z t : Nat) (hz : z < 20) : ∃ K cs s : Nat, K ≤ 19800 ∧ cs ≤ 99 ∧ 1 ≤ s ∧ s ≤ 40 ∧ S (188 + w) = nI s ∧ S (193 + w) = nI cs ∧ csB S (nI w) N.2.1 = nI K ∧ coS S w N.2.1 z t = nI (K + min (z + 1) s * cs) := by
  have nw := H.1.nw
  have r := H.1.rw_ hw
  obtain ⟨s, e1, s1, s2⟩ := r.st
  have k := cs_r (but := nI w) N.2.1 nw (fun v q => H.1.rw_ q)
  obtain ⟨K, hK, eK⟩ := nI_of (x := csB S (nI w) N.2.1) (fun q => by have := Int32.lt_iff_toInt_lt.mp q; rw [t0] at this; omega)
  have c := oO_ti r.2.2.2.1
  rw [t0, t99] at c
  obtain ⟨cs, hc, ec⟩ := nI_of (x := S (193 + w)) (fun q => by have := Int32.lt_iff_toInt_lt.mp q; rw [t0] at this; omega)
  rw [eK, nI_toInt hK] at k
  rw [ec, nI_toInt hc] at c
  have hK2 : K ≤ 19800 := by omega
  have hc2 : cs ≤ 99 := by omega
  have e5 : coS S w N.2.1 z t = csB S (nI w) N.2.1 + mn (nI (z + 1)) (S (188 + w)) * S (193 + w) := cst_up (by omega) N.2.1 nw hw
  have e6 : mn (nI (z + 1)) (nI s) = nI (min (z + 1) s) := mn_nI (by omega) (by omega)
  refine ⟨K, cs, s, hK2, hc2, s1, s2, e1, ec, eK, ?_⟩
  rw [e5, eK, ec, e1, e6, pk_mul, nI_add]
theorem co_1 (H : CX g h B vq lq hl S N P) {w : Nat} (hw : w < N.2.1) : (∀ z t z' t', z ≤ z' → z' < 20 → ¬ coS S w N.2.1 z' t' < coS S w N.2.1 z t) ∧ ∀ z t, z < 20 → coS S w N.2.1 z t ≠ -5 := by
  refine ⟨fun z t z' t' h1 h2 q => ?_, fun z t hz q => ?_⟩
  · obtain ⟨K, cs, s, k1, c1, s1, s2, e1, e2, e3, e4⟩ := co_r H hw z t (by omega)
    obtain ⟨K', cs', s', k1', c1', s1', s2', e1', e2', e3', e4'⟩ := co_r H hw z' t' h2
    have a1 : s = s' := (nI_eq (by omega) (by omega)).mp (e1.symm.trans e1')
    have a2 : cs = cs' := (nI_eq (by omega) (by omega)).mp (e2.symm.trans e2')
    have a3 : K = K' := (nI_eq (by omega) (by omega)).mp (e3.symm.trans e3')
    subst a1; subst a2; subst a3
    have b1 : min (z + 1) s * cs ≤ 40 * 99 := Nat.mul_le_mul (by omega) c1
    have b2 : min (z' + 1) s * cs ≤ 40 * 99 := Nat.mul_le_mul (by omega) c1
    have b3 : min (z + 1) s * cs ≤ min (z' + 1) s * cs := Nat.mul_le_mul_right _ (by omega)
    rw [e4, e4', nI_ltI (by omega) (by omega)] at q
    omega
  · obtain ⟨K, cs, s, k1, c1, s1, s2, e1, e2, e3, e4⟩ := co_r H hw z t hz
    have b1 : min (z + 1) s * cs ≤ 40 * 99 := Nat.mul_le_mul (by omega) c1
    rw [e4] at q
    exact nI_pos (n := K + min (z + 1) s * cs) (by omega) (by rw [q]; decide)
end BX
