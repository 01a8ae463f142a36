/-! ===== the law: its end, its turns, its entry ===== -/
theorem lcmp {Ln t : Nat} (hl : Ln ≤ 320) (ht : t ≤ 65) (h : ¬ nI Ln - 5 < nI (5 * t)) : 5 * t + 5 ≤ Ln := by
  by_cases h5 : Ln < 5
  · exfalso
    apply h
    have a : nI Ln - 5 < 0 := by
      rcases (show Ln = 0 ∨ Ln = 1 ∨ Ln = 2 ∨ Ln = 3 ∨ Ln = 4 by omega) with rfl | rfl | rfl | rfl | rfl <;> decide
    exact Int32.lt_of_lt_of_le a (Int32.not_lt.mp (nI_pos (by omega)))
  · have a : IX (nI Ln - 5) (Ln - 5) := IX.sub (IX.n (by omega)) ⟨by decide, by decide⟩ (by omega)
    have b : ¬ Ln - 5 < 5 * t := fun q => h ((a.lt_iff (IX.n (by omega))).mpr q)
    omega
/-- where the law is to come to -/
def lw_QZ (B b : Nat) : QZ := fun below args s t => s.heap.size = B → args = #[.ref b] → lw_Z below args s t
theorem lw_end {V : VV} {b cs ss : Nat} {h : AH} {L : List (Nat × Value)} (hb : V.2.1.2.1 = code) (hrt : V.2.1.2.2.2 = ret) (hr : V.2.2.1 = room_1) (hq : V.2.2.2 = lw_QZ (gB V.1) b) (hc : cs ≤ 1000 ∧ ss ≤ 100000) : AW V cs ss h 1137 L [] := by
  refine a_iconst (v := 1) hb dL_law_1137 (by decide) ?_
  intro p e s m args below meth c C H locs ls hH hl hS
  rw [hr, hq]
  by_cases hz : s.heap.size = gB V.1 ∧ args = #[.ref b]
  · obtain ⟨h1, rfl⟩ := hz
    refine va_forget (fun q h9 => by rw [h1]; exact hS.2.2 q h9) ?_
    refine W.widen (k := 600000) (n := 7302250) (by omega) (by omega) ?_
    intro T hT X
    obtain ⟨t, a1, b1⟩ := lw_ret C.1 (C.2.1.trans hb) (C.2.2.2.1.trans hrt) C.2.2.2.2.2.2.1 dL_law_1138 T hT X
    exact ⟨t, a1, fun _ _ => b1⟩
  · exact fun T hT X => ⟨_, Steps.refl _, fun h1 h2 => absurd ⟨h1, h2⟩ hz⟩
theorem lw_turn {V : VV} {b B Ln t cs ss : Nat} {xs : Nat → Int32} {h : AH} (hb : V.2.1.2.1 = code) (ow : V.2.1.1.cls = RL) (hr : V.2.2.1 = room_1) (hx : gX V.1 = (b, Ln, xs)) (ht : 5 * t + 5 ≤ Ln) (hl : Ln ≤ 320) (hc : cs ≤ 1000 ∧ ss ≤ 100000) (H : INV h B) (K : ∀ h', INV h' B → AW V (cs + 6) (ss + 271) h' 1131 [(0, .ref b), (1, .ref B), (2, .ref (B + 51)), (3, .int (nI (5 * t)))] []) (x : Int32) : AW V cs ss h 32 [(0, .ref b), (1, .ref B), (2, .ref (B + 51)), (3, .int (nI (5 * t)))] [.int x] := by
  by_cases c : x.toInt < 0
  · exact a_tableOut hb 1131 dL_law_32 (Or.inl c) (by decide) (AW.wide (by omega) (by omega) (K h H))
  have c0 : 0 ≤ x.toInt := by omega
  clear c
  by_cases e : x.toInt = 0
  · exact a_tableIn (off := 136) hb 168 dL_law_32 (by rw [e]; decide) (by rw [e]; decide) (by rw [e]; rfl) (by decide) (lw_c0 hb ow hr hx ht hl hc H K)
  have c1 : 1 ≤ x.toInt := by omega
  clear e c0
  by_cases e : x.toInt = 1
  · exact a_tableIn (off := 189) hb 221 dL_law_32 (by rw [e]; decide) (by rw [e]; decide) (by rw [e]; rfl) (by decide) (lw_c1 hb ow hr hx ht hl hc H K)
  have c2 : 2 ≤ x.toInt := by omega
  clear e c1
  by_cases e : x.toInt = 2
  · exact a_tableIn (off := 222) hb 254 dL_law_32 (by rw [e]; decide) (by rw [e]; decide) (by rw [e]; rfl) (by decide) (lw_c2 hb ow hr hx ht hl hc H K)
  have c3 : 3 ≤ x.toInt := by omega
  clear e c2
  by_cases e : x.toInt = 3
  · exact a_tableIn (off := 255) hb 287 dL_law_32 (by rw [e]; decide) (by rw [e]; decide) (by rw [e]; rfl) (by decide) (lw_c3 hb ow hr hx ht hl hc H K)
  have c4 : 4 ≤ x.toInt := by omega
  clear e c3
  by_cases e : x.toInt = 4
  · exact a_tableIn (off := 298) hb 330 dL_law_32 (by rw [e]; decide) (by rw [e]; decide) (by rw [e]; rfl) (by decide) (lw_c4 hb ow hr hx ht hl hc H K)
  have c5 : 5 ≤ x.toInt := by omega
  clear e c4
  by_cases e : x.toInt = 5
  · exact a_tableIn (off := 361) hb 393 dL_law_32 (by rw [e]; decide) (by rw [e]; decide) (by rw [e]; rfl) (by decide) (lw_c5 hb ow hr hx ht hl hc H K)
  have c6 : 6 ≤ x.toInt := by omega
  clear e c5
  by_cases e : x.toInt = 6
  · exact a_tableIn (off := 374) hb 406 dL_law_32 (by rw [e]; decide) (by rw [e]; decide) (by rw [e]; rfl) (by decide) (lw_c6 hb ow hr hx ht hl hc H K)
  have c7 : 7 ≤ x.toInt := by omega
  clear e c6
  by_cases e : x.toInt = 7
  · exact a_tableIn (off := 407) hb 439 dL_law_32 (by rw [e]; decide) (by rw [e]; decide) (by rw [e]; rfl) (by decide) (lw_c7 hb ow hr hx ht hl hc H K)
  have c8 : 8 ≤ x.toInt := by omega
  clear e c7
  by_cases e : x.toInt = 8
  · exact a_tableIn (off := 430) hb 462 dL_law_32 (by rw [e]; decide) (by rw [e]; decide) (by rw [e]; rfl) (by decide) (lw_c8 hb ow hr hx ht hl hc H K)
  have c9 : 9 ≤ x.toInt := by omega
  clear e c8
  by_cases e : x.toInt = 9
  · exact a_tableIn (off := 483) hb 515 dL_law_32 (by rw [e]; decide) (by rw [e]; decide) (by rw [e]; rfl) (by decide) (lw_c9 hb ow hr hx ht hl hc H K)
  have c10 : 10 ≤ x.toInt := by omega
  clear e c9
  by_cases e : x.toInt = 10
  · exact a_tableIn (off := 526) hb 558 dL_law_32 (by rw [e]; decide) (by rw [e]; decide) (by rw [e]; rfl) (by decide) (lw_c10 hb ow hr hx ht hl hc H K)
  have c11 : 11 ≤ x.toInt := by omega
  clear e c10
  by_cases e : x.toInt = 11
  · exact a_tableIn (off := 549) hb 581 dL_law_32 (by rw [e]; decide) (by rw [e]; decide) (by rw [e]; rfl) (by decide) (lw_c11 hb ow hr hx ht hl hc H K)
  have c12 : 12 ≤ x.toInt := by omega
  clear e c11
  by_cases e : x.toInt = 12
  · exact a_tableIn (off := 562) hb 594 dL_law_32 (by rw [e]; decide) (by rw [e]; decide) (by rw [e]; rfl) (by decide) (lw_c12 hb ow hr hx ht hl hc H K)
  have c13 : 13 ≤ x.toInt := by omega
  clear e c12
  by_cases e : x.toInt = 13
  · exact a_tableIn (off := 586) hb 618 dL_law_32 (by rw [e]; decide) (by rw [e]; decide) (by rw [e]; rfl) (by decide) (lw_c13 hb ow hr hx ht hl hc H K)
  have c14 : 14 ≤ x.toInt := by omega
  clear e c13
  by_cases e : x.toInt = 14
  · exact a_tableIn (off := 609) hb 641 dL_law_32 (by rw [e]; decide) (by rw [e]; decide) (by rw [e]; rfl) (by decide) (lw_c14 hb ow hr hx ht hl hc H K)
  have c15 : 15 ≤ x.toInt := by omega
  clear e c14
  by_cases e : x.toInt = 15
  · exact a_tableIn (off := 633) hb 665 dL_law_32 (by rw [e]; decide) (by rw [e]; decide) (by rw [e]; rfl) (by decide) (lw_c15 hb ow hr hx ht hl hc H K)
  have c16 : 16 ≤ x.toInt := by omega
  clear e c15
  by_cases e : x.toInt = 16
  · exact a_tableIn (off := 656) hb 688 dL_law_32 (by rw [e]; decide) (by rw [e]; decide) (by rw [e]; rfl) (by decide) (lw_c16 hb ow hr hx ht hl hc H K)
  have c17 : 17 ≤ x.toInt := by omega
  clear e c16
  by_cases e : x.toInt = 17
  · exact a_tableIn (off := 699) hb 731 dL_law_32 (by rw [e]; decide) (by rw [e]; decide) (by rw [e]; rfl) (by decide) (lw_c17 hb ow hr hx ht hl hc H K)
  have c18 : 18 ≤ x.toInt := by omega
  clear e c17
  by_cases e : x.toInt = 18
  · exact a_tableIn (off := 733) hb 765 dL_law_32 (by rw [e]; decide) (by rw [e]; decide) (by rw [e]; rfl) (by decide) (lw_c18 hb ow hr hx ht hl hc H K)
  have c19 : 19 ≤ x.toInt := by omega
  clear e c18
  by_cases e : x.toInt = 19
  · exact a_tableIn (off := 766) hb 798 dL_law_32 (by rw [e]; decide) (by rw [e]; decide) (by rw [e]; rfl) (by decide) (lw_c19 hb ow hr hx ht hl hc H K)
  have c20 : 20 ≤ x.toInt := by omega
  clear e c19
  by_cases e : x.toInt = 20
  · exact a_tableIn (off := 819) hb 851 dL_law_32 (by rw [e]; decide) (by rw [e]; decide) (by rw [e]; rfl) (by decide) (lw_c20 hb ow hr hx ht hl hc H K)
  have c21 : 21 ≤ x.toInt := by omega
  clear e c20
  by_cases e : x.toInt = 21
  · exact a_tableIn (off := 852) hb 884 dL_law_32 (by rw [e]; decide) (by rw [e]; decide) (by rw [e]; rfl) (by decide) (lw_c21 hb ow hr hx ht hl hc H K)
  have c22 : 22 ≤ x.toInt := by omega
  clear e c21
  by_cases e : x.toInt = 22
  · exact a_tableIn (off := 875) hb 907 dL_law_32 (by rw [e]; decide) (by rw [e]; decide) (by rw [e]; rfl) (by decide) (lw_c22 hb ow hr hx ht hl hc H K)
  have c23 : 23 ≤ x.toInt := by omega
  clear e c22
  by_cases e : x.toInt = 23
  · exact a_tableIn (off := 908) hb 940 dL_law_32 (by rw [e]; decide) (by rw [e]; decide) (by rw [e]; rfl) (by decide) (lw_c23 hb ow hr hx ht hl hc H K)
  have c24 : 24 ≤ x.toInt := by omega
  clear e c23
  by_cases e : x.toInt = 24
  · exact a_tableIn (off := 951) hb 983 dL_law_32 (by rw [e]; decide) (by rw [e]; decide) (by rw [e]; rfl) (by decide) (lw_c24 hb ow hr hx ht hl hc H K)
  have c25 : 25 ≤ x.toInt := by omega
  clear e c24
  by_cases e : x.toInt = 25
  · exact a_tableIn (off := 994) hb 1026 dL_law_32 (by rw [e]; decide) (by rw [e]; decide) (by rw [e]; rfl) (by decide) (lw_c25 hb ow hr hx ht hl hc H K)
  have c26 : 26 ≤ x.toInt := by omega
  clear e c25
  by_cases e : x.toInt = 26
  · exact a_tableIn (off := 1017) hb 1049 dL_law_32 (by rw [e]; decide) (by rw [e]; decide) (by rw [e]; rfl) (by decide) (lw_c26 hb ow hr hx ht hl hc H K)
  have c27 : 27 ≤ x.toInt := by omega
  clear e c26
  by_cases e : x.toInt = 27
  · exact a_tableIn (off := 1050) hb 1082 dL_law_32 (by rw [e]; decide) (by rw [e]; decide) (by rw [e]; rfl) (by decide) (lw_c27 hb ow hr hx ht hl hc H K)
  have c28 : 28 ≤ x.toInt := by omega
  clear e c27
  by_cases e : x.toInt = 28
  · exact a_tableIn (off := 1063) hb 1095 dL_law_32 (by rw [e]; decide) (by rw [e]; decide) (by rw [e]; rfl) (by decide) (lw_c28 hb ow hr hx ht hl hc H K)
  have c29 : 29 ≤ x.toInt := by omega
  clear e c28
  by_cases e : x.toInt = 29
  · exact a_tableIn (off := 1076) hb 1108 dL_law_32 (by rw [e]; decide) (by rw [e]; decide) (by rw [e]; rfl) (by decide) (lw_c29 hb ow hr hx ht hl hc H K)
  have c30 : 30 ≤ x.toInt := by omega
  clear e c29
  exact a_tableOut hb 1131 dL_law_32 (Or.inr (by omega)) (by decide) (AW.wide (by omega) (by omega) (K h H))
theorem lw_loop {V : VV} {b B Ln : Nat} {xs : Nat → Int32} (hb : V.2.1.2.1 = code) (hml : V.2.1.2.2.1 = 4) (hrt : V.2.1.2.2.2 = ret) (ow : V.2.1.1.cls = RL) (hr : V.2.2.1 = room_1) (hx : gX V.1 = (b, Ln, xs)) (hl : Ln ≤ 320) (hq : V.2.2.2 = lw_QZ (gB V.1) b) : ∀ k t cs ss h, t + k = 65 → cs + 6 * k ≤ 1000 → ss + 271 * k ≤ 100000 → INV h B → AW V cs ss h 18 [(0, .ref b), (1, .ref B), (2, .ref (B + 51)), (3, .int (nI (5 * t)))] [] := by
  intro k
  induction k with
  | zero =>
    intro t cs ss h e1 e2 e3 H
    refine a_iload_n hb dL_law_18 rfl 3 rfl ?_
    refine a_aload_n hb dL_law_19 rfl 0 rfl ?_
    refine b_lns hb hx dL_law_20 ?_
    refine a_iconst (v := 5) hb dL_law_21 (by decide) ?_
    refine a_isub hb dL_law_22 ?_
    refine a_icmp_gt hb 1137 dL_law_23 (by decide) (fun _ => lw_end hb hrt hr hq (by omega)) (fun hn => ?_)
    have ht := lcmp hl (by omega) hn
    exact absurd ht (by omega)
  | succ k IH =>
    intro t cs ss h e1 e2 e3 H
    refine a_iload_n hb dL_law_18 rfl 3 rfl ?_
    refine a_aload_n hb dL_law_19 rfl 0 rfl ?_
    refine b_lns hb hx dL_law_20 ?_
    refine a_iconst (v := 5) hb dL_law_21 (by decide) ?_
    refine a_isub hb dL_law_22 ?_
    refine a_icmp_gt hb 1137 dL_law_23 (by decide) (fun _ => lw_end hb hrt hr hq (by omega)) (fun hn => ?_)
    have ht := lcmp hl (by omega) hn
    refine a_aload_n hb dL_law_26 rfl 0 rfl ?_
    refine a_iload_n hb dL_law_27 rfl 3 rfl ?_
    refine b_lds (j := 5 * t) hb hx dL_law_28 (IX.n (by omega)) (by omega) ?_
    refine a_bipush (v := 31) hb dL_law_29 (by decide) ?_
    refine a_iand hb dL_law_31 ?_
    refine lw_turn hb ow hr hx ht hl (by omega) H (fun h' H' => ?_) _
    refine a_iinc (v := nI (5 * (t + 1))) hb dL_law_1131 3 rfl ?_ (by rw [hml]; decide) rfl ?_
    · exact (IX.add (IX.n (j := 5 * t) (by omega)) (⟨by decide, by decide⟩ : IX 5 5) (by omega)).eq.1
    · refine a_goto hb 18 dL_law_1134 (by decide) ?_
      exact AW.sub [1, 2, 3, 0] rfl (IH (t + 1) _ _ h' (by omega) (by omega) (by omega) H')
theorem lw_entry {V : VV} {b B Ln : Nat} {xs : Nat → Int32} {h0 : AH} (hb : V.2.1.2.1 = code) (hml : V.2.1.2.2.1 = 4) (hrt : V.2.1.2.2.2 = ret) (ow : V.2.1.1.cls = RL) (hr : V.2.2.1 = room_1) (hx : gX V.1 = (b, Ln, xs)) (hl : Ln ≤ 320) (hq : V.2.2.2 = lw_QZ (gB V.1) b) (e0 : hN h0 = B) (z0 : ∀ a, B ≤ a → 99 ≤ (hT h0 a).1) : AW V 0 0 h0 0 [(0, .ref b)] [] := by
  refine a_new (N := 10) hb dL_law_0 (by rw [ow]; exact cn_RL_7) (by rw [hr]; exact ⟨show 0 + 1 ≤ 600000 from by omega, show 0 + 10 ≤ 7302250 from by omega⟩) ?_
  rw [e0]
  have n1 : hN (newC h0 11 0) = B + 1 := by rw [hN_C, e0]
  have t1 : hT (newC h0 11 0) B = (11, 0) := by rw [← e0]; exact u1_s
  show AW V 1 10 (newC h0 11 0) 3 [(0, .ref b)] [.ref B]
  refine a_dup hb dL_law_3 rfl ?_
  refine a_callI hb dL_law_4 (i_X11 V.1 _ B t1 n1) (by rw [ow]; exact cli_RL_9) rfl rfl (Nat.le_of_ble_eq_true rfl) (by rw [hr]; exact ⟨show 3 + 1 ≤ 2048 from by omega, show 8 + (mX11_init.2.2.1 + 11) + 64 * 3 ≤ 84000 from by decide⟩) (by rw [hr]; exact ⟨show 1 + 50 ≤ 600000 from by omega, show 10 + 1554 ≤ 7302250 from by omega⟩) ?_
  intro rv hx1 hq_
  obtain ⟨hv_, fx⟩ := hq_
  subst hv_
  have nx : hN hx1 = B + 51 := fx.1
  show AW V 51 1564 hx1 7 [(0, .ref b)] [.ref B]
  refine a_astore_n (L' := [(1, .ref B), (0, .ref b)]) hb dL_law_7 rfl (by rw [hml]; decide) rfl ?_
  refine a_new (N := 25) hb dL_law_8 (by rw [ow]; exact cn_RL_10) (by rw [hr]; exact ⟨show 51 + 1 ≤ 600000 from by omega, show 1564 + 25 ≤ 7302250 from by omega⟩) ?_
  rw [nx]
  have n2 : hN (newC hx1 12 0) = B + 52 := by rw [hN_C, nx]
  have t2 : hT (newC hx1 12 0) (B + 51) = (12, 0) := by rw [← nx]; exact u1_s
  show AW V 52 1589 (newC hx1 12 0) 11 [(1, .ref B), (0, .ref b)] [.ref (B + 51)]
  refine a_dup hb dL_law_11 rfl ?_
  refine a_callI hb dL_law_12 (i_X12 V.1 _ (B + 51) t2 (by rw [n2]; omega)) (by rw [ow]; exact cli_RL_12) rfl rfl (Nat.le_of_ble_eq_true rfl) (by rw [hr]; exact ⟨show 2 + 1 ≤ 2048 from by omega, show 8 + (mX12_init.2.2.1 + 11) + 64 * 2 ≤ 84000 from by decide⟩) (by rw [hr]; exact ⟨show 52 + 10 ≤ 600000 from by omega, show 1589 + 2177 ≤ 7302250 from by omega⟩) ?_
  intro rv hm hq_
  obtain ⟨hv_, fm⟩ := hq_
  subst hv_
  show AW V 62 3766 hm 15 [(1, .ref B), (0, .ref b)] [.ref (B + 51)]
  refine a_astore_n (L' := [(2, .ref (B + 51)), (1, .ref B), (0, .ref b)]) hb dL_law_15 rfl (by rw [hml]; decide) rfl ?_
  refine a_iconst (v := 0) hb dL_law_16 (by decide) ?_
  refine a_istore_n (L' := [(3, .int 0), (2, .ref (B + 51)), (1, .ref B), (0, .ref b)]) hb dL_law_17 rfl (by rw [hml]; decide) rfl ?_
  exact AW.sub [3, 2, 1, 0] rfl (lw_loop hb hml hrt ow hr hx hl hq 65 0 _ _ hm (by omega) (by omega) (by omega) (inv_0 e0 z0 fx fm))
