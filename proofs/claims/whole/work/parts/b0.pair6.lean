/-! ===== the pair as it begins ===== -/
theorem inv_0 {h0 hx hm : AH} {B : Nat} (e0 : hN h0 = B) (z0 : ∀ a, B ≤ a → 99 ≤ (hT h0 a).1) (fx : BX (newC h0 11 0) hx B) (fm : B12 (newC hx 12 0) hm (B + 51)) : INV hm B := by
  obtain ⟨nx, fxt, fxv, xT, ⟨aT0, aT1, aT2, aT3, aT4, aT5, aT6, aT7, aT8, aQ0, aQ1, aQ2, aQ4, aQ6, aQ8, aQ10, aQ12, aI3, aI5, aI7, aI9, aI11, aP1, aZ2, aZ3, aP4, aP5, aZ6, aZ7, aV0, aV1, aV2⟩, ⟨bT0, bT1, bT2, bT3, bT4, bT5, bT6, bT7, bT8, bQ0, bQ1, bQ2, bQ4, bQ6, bQ8, bQ10, bQ12, bI3, bI5, bI7, bI9, bI11, bP1, bZ2, bZ3, bP4, bP5, bZ6, bZ7, bV0, bV1, bV2⟩, ⟨x19, x19q, x19i, x20⟩, ⟨x21, x22, x23, x24⟩, x25, x26, x50, xQ0, xQ1, xQ3, xQ4, xQ5, xQ6, xQ7, xQ8, xQ9, xI2⟩ := fx
  have nm : hN (newC hx 12 0) = B + 52 := by show hN hx + 1 = _; omega
  unfold B12 at fm
  rw [nm] at fm
  obtain ⟨n12, ft12, fv12, mT0, mT1, mT2, mT3, mT4, mT5, mT6, mT7, mT8, mT9, mQ1, mQ2, mQ9, mQ10, mQ11, mQ12, mQ13, mQ14, mQ19, mQ20, m3, m21, s6, s7, s8, sz, md⟩ := fm
  have kt : ∀ i, i < 51 → hT hm (B + i) = hT hx (B + i) := fun i hi => (ft12 _ (Or.inl (by omega))).trans (hT_C (by omega))
  have kq : ∀ i, i < 51 → hQ hm (B + i) = hQ hx (B + i) := fun i hi => (fv12 _ (by omega) (by omega)).2.trans (hQ_C (by omega))
  have ki : ∀ i, i < 51 → hI hm (B + i) = hI hx (B + i) := fun i hi => (fv12 _ (by omega) (by omega)).1.trans (hI_C (by omega))
  have mt : hT hm (B + 51) = (12, 0) := (ft12 _ (Or.inl (by omega))).trans (hT_Ce nx.symm)
  have mi : hI (newC hx 12 0) (B + 51) = fun _ => 0 := u1_e nx.symm
  have hL : LY hm B := ⟨fun i hi => match i, hi with
  | 0, _ => (kt 0 (by decide)).trans xT
  | 1, _ => (kt 1 (by decide)).trans aT0
  | 2, _ => (kt 2 (by decide)).trans aT1
  | 3, _ => (kt 3 (by decide)).trans aT2
  | 4, _ => (kt 4 (by decide)).trans aT3
  | 5, _ => (kt 5 (by decide)).trans aT4
  | 6, _ => (kt 6 (by decide)).trans aT5
  | 7, _ => (kt 7 (by decide)).trans aT6
  | 8, _ => (kt 8 (by decide)).trans aT7
  | 9, _ => (kt 9 (by decide)).trans aT8
  | 10, _ => (kt 10 (by decide)).trans bT0
  | 11, _ => (kt 11 (by decide)).trans bT1
  | 12, _ => (kt 12 (by decide)).trans bT2
  | 13, _ => (kt 13 (by decide)).trans bT3
  | 14, _ => (kt 14 (by decide)).trans bT4
  | 15, _ => (kt 15 (by decide)).trans bT5
  | 16, _ => (kt 16 (by decide)).trans bT6
  | 17, _ => (kt 17 (by decide)).trans bT7
  | 18, _ => (kt 18 (by decide)).trans bT8
  | 19, _ => (kt 19 (by decide)).trans x19
  | 20, _ => (kt 20 (by decide)).trans x20
  | 21, _ => (kt 21 (by decide)).trans x21
  | 22, _ => (kt 22 (by decide)).trans x22
  | 23, _ => (kt 23 (by decide)).trans x23
  | 24, _ => (kt 24 (by decide)).trans x24
  | 25, _ => (kt 25 (by decide)).trans x25
  | 26, _ => (kt 26 (by decide)).trans (x26 0 (by decide)).1
  | 27, _ => (kt 27 (by decide)).trans (x26 1 (by decide)).1
  | 28, _ => (kt 28 (by decide)).trans (x26 2 (by decide)).1
  | 29, _ => (kt 29 (by decide)).trans (x26 3 (by decide)).1
  | 30, _ => (kt 30 (by decide)).trans (x26 4 (by decide)).1
  | 31, _ => (kt 31 (by decide)).trans (x26 5 (by decide)).1
  | 32, _ => (kt 32 (by decide)).trans (x26 6 (by decide)).1
  | 33, _ => (kt 33 (by decide)).trans (x26 7 (by decide)).1
  | 34, _ => (kt 34 (by decide)).trans (x26 8 (by decide)).1
  | 35, _ => (kt 35 (by decide)).trans (x26 9 (by decide)).1
  | 36, _ => (kt 36 (by decide)).trans (x26 10 (by decide)).1
  | 37, _ => (kt 37 (by decide)).trans (x26 11 (by decide)).1
  | 38, _ => (kt 38 (by decide)).trans (x26 12 (by decide)).1
  | 39, _ => (kt 39 (by decide)).trans (x26 13 (by decide)).1
  | 40, _ => (kt 40 (by decide)).trans (x26 14 (by decide)).1
  | 41, _ => (kt 41 (by decide)).trans (x26 15 (by decide)).1
  | 42, _ => (kt 42 (by decide)).trans (x26 16 (by decide)).1
  | 43, _ => (kt 43 (by decide)).trans (x26 17 (by decide)).1
  | 44, _ => (kt 44 (by decide)).trans (x26 18 (by decide)).1
  | 45, _ => (kt 45 (by decide)).trans (x26 19 (by decide)).1
  | 46, _ => (kt 46 (by decide)).trans (x26 20 (by decide)).1
  | 47, _ => (kt 47 (by decide)).trans (x26 21 (by decide)).1
  | 48, _ => (kt 48 (by decide)).trans (x26 22 (by decide)).1
  | 49, _ => (kt 49 (by decide)).trans (x26 23 (by decide)).1
  | 50, _ => (kt 50 (by decide)).trans x50
  | 51, _ => mt
  | 52, _ => mT0
  | 53, _ => mT1
  | 54, _ => mT2
  | 55, _ => mT3
  | 56, _ => mT4
  | 57, _ => mT5
  | 58, _ => mT6
  | 59, _ => mT7
  | 60, _ => mT8
  | 61, _ => mT9
  | k + 62, h => absurd h (by omega), List.forall_mem_cons.mpr ⟨((congrFun (kq 0 (by decide)) 0).trans xQ0), List.forall_mem_cons.mpr ⟨((congrFun (kq 0 (by decide)) 1).trans xQ1), List.forall_mem_cons.mpr ⟨((congrFun (kq 0 (by decide)) 3).trans xQ3), List.forall_mem_cons.mpr ⟨((congrFun (kq 0 (by decide)) 4).trans xQ4), List.forall_mem_cons.mpr ⟨((congrFun (kq 0 (by decide)) 5).trans xQ5), List.forall_mem_cons.mpr ⟨((congrFun (kq 0 (by decide)) 6).trans xQ6), List.forall_mem_cons.mpr ⟨((congrFun (kq 0 (by decide)) 7).trans xQ7), List.forall_mem_cons.mpr ⟨((congrFun (kq 0 (by decide)) 8).trans xQ8), List.forall_mem_cons.mpr ⟨((congrFun (kq 0 (by decide)) 9).trans xQ9), List.forall_mem_cons.mpr ⟨((congrFun (kq 19 (by decide)) 0).trans x19q), List.forall_mem_cons.mpr ⟨mQ1, List.forall_mem_cons.mpr ⟨mQ2, List.forall_mem_cons.mpr ⟨mQ9, List.forall_mem_cons.mpr ⟨mQ10, List.forall_mem_cons.mpr ⟨mQ11, List.forall_mem_cons.mpr ⟨mQ12, List.forall_mem_cons.mpr ⟨mQ13, List.forall_mem_cons.mpr ⟨mQ14, List.forall_mem_cons.mpr ⟨mQ19, List.forall_mem_cons.mpr ⟨mQ20, List.forall_mem_cons.mpr ⟨((congrFun (kq 1 (by decide)) 0).trans aQ0), List.forall_mem_cons.mpr ⟨((congrFun (kq 1 (by decide)) 1).trans aQ1), List.forall_mem_cons.mpr ⟨((congrFun (kq 1 (by decide)) 2).trans aQ2), List.forall_mem_cons.mpr ⟨((congrFun (kq 1 (by decide)) 4).trans aQ4), List.forall_mem_cons.mpr ⟨((congrFun (kq 1 (by decide)) 6).trans aQ6), List.forall_mem_cons.mpr ⟨((congrFun (kq 1 (by decide)) 8).trans aQ8), List.forall_mem_cons.mpr ⟨((congrFun (kq 1 (by decide)) 10).trans aQ10), List.forall_mem_cons.mpr ⟨((congrFun (kq 1 (by decide)) 12).trans aQ12), List.forall_mem_cons.mpr ⟨((congrFun (kq 10 (by decide)) 0).trans bQ0), List.forall_mem_cons.mpr ⟨((congrFun (kq 10 (by decide)) 1).trans bQ1), List.forall_mem_cons.mpr ⟨((congrFun (kq 10 (by decide)) 2).trans bQ2), List.forall_mem_cons.mpr ⟨((congrFun (kq 10 (by decide)) 4).trans bQ4), List.forall_mem_cons.mpr ⟨((congrFun (kq 10 (by decide)) 6).trans bQ6), List.forall_mem_cons.mpr ⟨((congrFun (kq 10 (by decide)) 8).trans bQ8), List.forall_mem_cons.mpr ⟨((congrFun (kq 10 (by decide)) 10).trans bQ10), List.forall_mem_cons.mpr ⟨((congrFun (kq 10 (by decide)) 12).trans bQ12), List.forall_mem_cons.mpr ⟨((congrFun (kq 25 (by decide)) 0).trans (x26 0 (by decide)).2), List.forall_mem_cons.mpr ⟨((congrFun (kq 25 (by decide)) 1).trans (x26 1 (by decide)).2), List.forall_mem_cons.mpr ⟨((congrFun (kq 25 (by decide)) 2).trans (x26 2 (by decide)).2), List.forall_mem_cons.mpr ⟨((congrFun (kq 25 (by decide)) 3).trans (x26 3 (by decide)).2), List.forall_mem_cons.mpr ⟨((congrFun (kq 25 (by decide)) 4).trans (x26 4 (by decide)).2), List.forall_mem_cons.mpr ⟨((congrFun (kq 25 (by decide)) 5).trans (x26 5 (by decide)).2), List.forall_mem_cons.mpr ⟨((congrFun (kq 25 (by decide)) 6).trans (x26 6 (by decide)).2), List.forall_mem_cons.mpr ⟨((congrFun (kq 25 (by decide)) 7).trans (x26 7 (by decide)).2), List.forall_mem_cons.mpr ⟨((congrFun (kq 25 (by decide)) 8).trans (x26 8 (by decide)).2), List.forall_mem_cons.mpr ⟨((congrFun (kq 25 (by decide)) 9).trans (x26 9 (by decide)).2), List.forall_mem_cons.mpr ⟨((congrFun (kq 25 (by decide)) 10).trans (x26 10 (by decide)).2), List.forall_mem_cons.mpr ⟨((congrFun (kq 25 (by decide)) 11).trans (x26 11 (by decide)).2), List.forall_mem_cons.mpr ⟨((congrFun (kq 25 (by decide)) 12).trans (x26 12 (by decide)).2), List.forall_mem_cons.mpr ⟨((congrFun (kq 25 (by decide)) 13).trans (x26 13 (by decide)).2), List.forall_mem_cons.mpr ⟨((congrFun (kq 25 (by decide)) 14).trans (x26 14 (by decide)).2), List.forall_mem_cons.mpr ⟨((congrFun (kq 25 (by decide)) 15).trans (x26 15 (by decide)).2), List.forall_mem_cons.mpr ⟨((congrFun (kq 25 (by decide)) 16).trans (x26 16 (by decide)).2), List.forall_mem_cons.mpr ⟨((congrFun (kq 25 (by decide)) 17).trans (x26 17 (by decide)).2), List.forall_mem_cons.mpr ⟨((congrFun (kq 25 (by decide)) 18).trans (x26 18 (by decide)).2), List.forall_mem_cons.mpr ⟨((congrFun (kq 25 (by decide)) 19).trans (x26 19 (by decide)).2), List.forall_mem_cons.mpr ⟨((congrFun (kq 25 (by decide)) 20).trans (x26 20 (by decide)).2), List.forall_mem_cons.mpr ⟨((congrFun (kq 25 (by decide)) 21).trans (x26 21 (by decide)).2), List.forall_mem_cons.mpr ⟨((congrFun (kq 25 (by decide)) 22).trans (x26 22 (by decide)).2), List.forall_mem_cons.mpr ⟨((congrFun (kq 25 (by decide)) 23).trans (x26 23 (by decide)).2), fun _ h => absurd h List.not_mem_nil⟩⟩⟩⟩⟩⟩⟩⟩⟩⟩⟩⟩⟩⟩⟩⟩⟩⟩⟩⟩⟩⟩⟩⟩⟩⟩⟩⟩⟩⟩⟩⟩⟩⟩⟩⟩⟩⟩⟩⟩⟩⟩⟩⟩⟩⟩⟩⟩⟩⟩⟩⟩⟩⟩⟩⟩⟩⟩⟩⟩, by omega⟩
  have S1 : ∀ j, j ≠ 6 → j ≠ 7 → j ≠ 8 → hI hm (B + 52) j = 0 := sz
  have S6 : hI hm (B + 52) 6 = 1 := s6
  have S7 : hI hm (B + 52) 7 = 100 := s7
  have S8 : hI hm (B + 52) 8 = -1 := s8
  generalize hS : hI hm (B + 52) = S at S1 S6 S7 S8
  have i1 : ∀ k, hI hm (B + 1) k = hI hx (B + 1) k := congrFun (ki 1 (by decide))
  refine ⟨hL, fun a ha => ?_, ⟨fun p _ => Or.inl ?_, fun p _ => Or.inl ?_, fun p _ => Or.inl ?_⟩, ⟨fun p _ => Or.inl ?_, fun p _ => Or.inl ?_, fun p _ => Or.inl ?_⟩, ⟨(0, 0, 0, 0, 0), ?_⟩, Or.inl ⟨?_, ?_⟩, ⟨0, by decide, ?_, ?_, fun j hj => absurd hj (Nat.not_lt_zero j)⟩, funext fun j => md j⟩
  · have ha' : B + 62 ≤ a := by omega
    rw [ft12 a (Or.inr ha'), hT_C (by omega), fxt a (Or.inr (by omega)), hT_C (by omega)]
    exact z0 a (by omega)
  · exact (congrFun (kq 2 (by decide)) p).trans (aP1 p)
  · exact (congrFun (kq 5 (by decide)) p).trans (aP4 p)
  · exact (congrFun (kq 6 (by decide)) p).trans (aP5 p)
  · exact (congrFun (kq 11 (by decide)) p).trans (bP1 p)
  · exact (congrFun (kq 14 (by decide)) p).trans (bP4 p)
  · exact (congrFun (kq 15 (by decide)) p).trans (bP5 p)
  · rw [hS]
    refine ⟨⟨⟨?_, ?_, ?_, ?_, ?_⟩, fun p hp => absurd hp (Nat.not_lt_zero p), fun p hp => absurd hp (Nat.not_lt_zero p), fun i hi => ⟨?_, ?_⟩, fun i hi => ?_, fun i hi => ?_, fun i hi => ?_⟩, ⟨⟨?_, by decide⟩, ⟨?_, by decide⟩, ⟨?_, by decide⟩, ⟨?_, by decide⟩, ⟨?_, by decide⟩, ⟨?_, ?_, ?_, ?_⟩, fun p hp => absurd hp (Nat.not_lt_zero p), fun p hp => absurd hp (Nat.not_lt_zero p), fun p hp => absurd hp (Nat.not_lt_zero p), fun p hp => absurd hp (Nat.not_lt_zero p), fun i hi => ?_⟩, fun a ha => absurd ha (Nat.not_lt_zero a)⟩
    · rw [i1, S1 0 (by decide) (by decide) (by decide)]; exact aI3
    · rw [i1, S1 2 (by decide) (by decide) (by decide)]; exact aI5
    · rw [i1, S1 1 (by decide) (by decide) (by decide)]; exact aI7
    · rw [i1, S1 4 (by decide) (by decide) (by decide)]; exact aI9
    · rw [i1, S1 3 (by decide) (by decide) (by decide)]; exact aI11
    · rw [S1 _ (by omega) (by omega) (by omega)]; exact (congrFun (ki 3 (by decide)) i).trans (aZ2 i)
    · rw [S1 _ (by omega) (by omega) (by omega)]; exact (congrFun (ki 4 (by decide)) i).trans (aZ3 i)
    · rw [S1 _ (by omega) (by omega) (by omega)]; exact (congrFun (ki 7 (by decide)) i).trans (aZ6 i)
    · rw [S1 _ (by omega) (by omega) (by omega)]; exact (congrFun (ki 8 (by decide)) i).trans (aZ7 i)
    · have h3 : i = 0 ∨ i = 1 ∨ i = 2 := by omega
      rcases h3 with rfl | rfl | rfl
      · rw [S1 _ (by omega) (by omega) (by omega)]; exact (congrFun (ki 9 (by decide)) 0).trans aV0
      · rw [show 5 + 1 = 6 from rfl, S6]; exact (congrFun (ki 9 (by decide)) 1).trans aV1
      · rw [show 5 + 2 = 7 from rfl, S7]; exact (congrFun (ki 9 (by decide)) 2).trans aV2
    · rw [S1 0 (by decide) (by decide) (by decide)]; rfl
    · rw [S1 1 (by decide) (by decide) (by decide)]; rfl
    · rw [S1 2 (by decide) (by decide) (by decide)]; rfl
    · rw [S1 3 (by decide) (by decide) (by decide)]; rfl
    · rw [S1 4 (by decide) (by decide) (by decide)]; rfl
    · rw [S1 5 (by decide) (by decide) (by decide)]; decide
    · rw [S6]; decide
    · rw [S7]; decide
    · rw [S8]; decide
    · rw [S1 _ (by omega) (by omega) (by omega)]; decide
  · have e : hI hm B = hI hx B := ki 0 (by decide)
    rw [e]; exact xI2
  · rw [m3, mi]
  · exact (congrFun (ki 19 (by decide)) 1).trans x19i
  · rw [m21, mi]; rfl
