/-! ===== the class's law: the object made ===== -/
theorem hT_C {h : AH} {kd len a : Nat} (e : a ≠ hN h) : hT (newC h kd len) a = hT h a := u1_n e
theorem hI_C {h : AH} {kd len a : Nat} (e : a ≠ hN h) : hI (newC h kd len) a = hI h a := u1_n e
theorem hJ_C {h : AH} {kd len a : Nat} (e : a ≠ hN h) : hJ (newC h kd len) a = hJ h a := u1_n e
theorem hQ_C {h : AH} {kd len a : Nat} (e : a ≠ hN h) : hQ (newC h kd len) a = hQ h a := u1_n e
/-- a law's object at hN h, its rows behind it; nothing that was is changed -/
def LN (h h3 : AH) (n : Nat) (C : LC) : Prop := Fw (fun _ => False) h h3 ∧ hT h3 (hN h) = (1, 0) ∧ hI h3 (hN h) 1 = nI C.2.1 ∧ hI h3 (hN h) 2 = b2i (decide (C.1 = false ∧ C.2.1 = n)) ∧ hI h3 (hN h) 3 = C.2.2.2 ∧ (C.1 = false → LB h3 (hN h) (hN h + 4) (hN h + 5) (hN h + 2) (hN h + 3) n C.2.2.1) ∧ hT h3 (hN h + 1) = (13, n)
theorem RD_w {f : Nat → Int32} {l : List Int32} : RD (wrL f 0 l) 0 l := fun j hj => wrL_at l f 0 j hj
theorem ln_of {h h4 : AH} {n : Nat} {f : Nat → Int32} {l : List Int32} {C : LC} (hin : IN (setR (newC (newC h 1 0) 13 n) (hN h + 1) f) h4 (hN h) (hN h + 1) n) (hl : C.1 = false → l = encC C.2.2.1) : LN h (setI (lpH (lbH h4 (hN h) (hN h + 2) (hN h + 2 + 1) C.2.2.1 C.2.2.2) (hN h) (hN h + 2 + 3) C.2.1 l) (hN h) 2 (b2i (decide (C.1 = false ∧ C.2.1 = n)))) n C := by
  obtain ⟨i1, i2, i3, ⟨tw, te, tv, tc⟩, ⟨qt, qw, qe, qv, qc⟩, -, i9⟩ := hin
  have e2 : hN (setR (newC (newC h 1 0) 13 n) (hN h + 1) f) = hN h + 2 := rfl
  rw [e2] at i1 i2 i3 tw te tv tc qw qe qv qc i9
  have T2 : ∀ a, a ≠ hN h → a ≠ hN h + 1 → hT (setR (newC (newC h 1 0) 13 n) (hN h + 1) f) a = hT h a := fun a n1 n2 => (hT_C (h := newC h 1 0) (kd := 13) (len := n) n2).trans (hT_C n1)
  have T0 : hT (setR (newC (newC h 1 0) 13 n) (hN h + 1) f) (hN h) = (1, 0) := (hT_C (h := newC h 1 0) (kd := 13) (len := n) (show hN h ≠ hN h + 1 by omega)).trans u1_s
  have d1 : hN h + 2 ≠ hN h := by omega
  have d4 : hN h + 2 + 1 ≠ hN h := by omega
  have d7 : hN h + 2 + 1 ≠ hN h + 2 := by omega
  have ne : hN h ≠ hN h + 2 + 3 := by omega
  have d3 : hN h + 2 ≠ hN h + 2 + 3 := by omega
  have d6 : hN h + 2 + 1 ≠ hN h + 2 + 3 := by omega
  refine ⟨⟨?_, fun a ha => ?_, fun a ha _ => ⟨?_, ?_, ?_⟩, fun hb => ⟨fun a ha => ?_, TZ.up hb (fun a ha => ⟨?_, ?_⟩)⟩⟩, ?_, ?_, ?_, ?_, fun w => ?_, ?_⟩
  · show hN h ≤ hN h4; omega
  · show hT h4 a = hT h a
    rw [i2 a (by omega)]; exact T2 a (by omega) (by omega)
  · rw [hI_setI_n (by omega), lp_n (by omega) (by omega), lb_n (by omega) (by omega) (by omega), (i3 a (by omega) (by omega)).1, hI_Rn (by omega), hI_C (h := newC h 1 0) (show a ≠ hN h + 1 by omega), hI_C (by omega)]
  · show hJ h4 a = hJ h a
    rw [(i3 a (by omega) (by omega)).2.1]
    exact (hJ_C (h := newC h 1 0) (kd := 13) (len := n) (show a ≠ hN h + 1 by omega)).trans (hJ_C (by omega))
  · show hQ h4 a = hQ h a
    rw [(i3 a (by omega) (by omega)).2.2]
    exact (hQ_C (h := newC h 1 0) (kd := 13) (len := n) (show a ≠ hN h + 1 by omega)).trans (hQ_C (by omega))
  · have ha' : hN h4 ≤ a := ha
    show 99 ≤ (hT h4 a).1
    rw [i9 a (by omega), T2 a (by omega) (by omega)]
    exact hb a (by omega)
  · show hT h4 a = hT h a
    rw [i2 a (by omega)]; exact T2 a (by omega) (by omega)
  · show hQ h4 a = hQ h a
    rw [(i3 a (by omega) (by omega)).2.2]
    exact (hQ_C (h := newC h 1 0) (kd := 13) (len := n) (show a ≠ hN h + 1 by omega)).trans (hQ_C (by omega))
  · show hT h4 (hN h) = (1, 0)
    rw [i2 (hN h) (by omega)]; exact T0
  · rw [hI_setI_s, upd_n (by decide), lp_1 ne]
  · rw [hI_setI_s, upd_s]
  · rw [hI_setI_s, upd_n (by decide), lp_6 ne (by decide) (by decide), lb_3 d1 d4]
  · obtain rfl := hl w
    refine ⟨(i2 (hN h) (by omega)).trans T0, ⟨qv, qc, qw, qe⟩, ⟨tv, tc, tw, te⟩, ⟨by omega, by omega, by omega⟩, ?_, ?_, ?_, ?_⟩
    · rw [hI_setI_s, upd_n (by decide), lp_6 ne (by decide) (by decide), lb_6 d1 d4]
    · rw [hI_setI_n (by omega), lp_c]; exact RD_w
    · rw [hI_setI_n (by omega), lp_n (by omega) (by omega), lb_w d7]; exact RD_w
    · rw [hI_setI_n (by omega), lp_n (by omega) (by omega), lb_e]; exact RD_w
  · show hT h4 (hN h + 1) = (13, n)
    rw [i2 (hN h + 1) (by omega)]
    exact u1_s
