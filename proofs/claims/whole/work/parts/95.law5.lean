/-! ===== the class reads a law: place and code ===== -/
theorem bx_i (v : Int32) : (bx v).toInt = v.toInt.bmod 256 := by
  unfold bx
  rw [Int8.toInt_toInt32, Int32.toInt_toInt8]
theorem bx_eq {v c : Int32} (hv : oO v 0 255 = false) (hc : oO c 1 127 = false) : bx v = c ↔ v = c := by
  have a := oO_ti hv
  have b := oO_ti hc
  rw [show (0 : Int32).toInt = 0 from by decide, show (255 : Int32).toInt = 255 from by decide] at a
  rw [show (1 : Int32).toInt = 1 from by decide, show (127 : Int32).toInt = 127 from by decide] at b
  have e := bx_i v
  constructor
  · intro q
    rw [q] at e
    apply i32_ext
    by_cases h : v.toInt < 128
    · rw [Int.bmod_eq_of_le (by omega) (by omega)] at e; exact e.symm
    · have : v.toInt.bmod 256 = v.toInt - 256 := by
        unfold Int.bmod
        dsimp only
        split <;> omega
      omega
  · intro q
    subst q
    apply i32_ext
    rw [e, Int.bmod_eq_of_le (by omega) (by omega)]
/-- the law's object while it is read: the place, the code so far -/
def lpH (h : AH) (lq cq p : Nat) (l : List Int32) : AH := setR (setR h lq (upd (upd (hI h lq) 1 (nI p)) 8 (nI l.length))) cq (wrL (hI h cq) 0 l)
section LP
variable {h : AH} {lq cq p : Nat} {l : List Int32}
theorem lp_T : hT (lpH h lq cq p l) = hT h := rfl
theorem lp_Q : hQ (lpH h lq cq p l) = hQ h := rfl
theorem lp_l (e : lq ≠ cq) : hI (lpH h lq cq p l) lq = upd (upd (hI h lq) 1 (nI p)) 8 (nI l.length) := by unfold lpH; rw [hI_Rn e, hI_R]
theorem lp_c : hI (lpH h lq cq p l) cq = wrL (hI h cq) 0 l := by unfold lpH; rw [hI_R]
theorem lp_n {a : Nat} (e1 : a ≠ lq) (e2 : a ≠ cq) : hI (lpH h lq cq p l) a = hI h a := by unfold lpH; rw [hI_Rn e2, hI_Rn e1]
theorem lp_1 (e : lq ≠ cq) : hI (lpH h lq cq p l) lq 1 = nI p := by rw [lp_l e, upd_n (by decide), upd_s]
theorem lp_8 (e : lq ≠ cq) : hI (lpH h lq cq p l) lq 8 = nI l.length := by rw [lp_l e, upd_s]
theorem lp_p {q : Nat} {v : Int32} (e : lq ≠ cq) (ev : v = nI q) : setI (lpH h lq cq p l) lq 1 v = lpH h lq cq q l := by
  subst ev
  refine AH_ext rfl rfl (fun a => ?_) rfl rfl
  by_cases e1 : a = lq
  · subst e1
    rw [hI_setI_s, lp_l e, lp_l e]
    funext j
    by_cases q1 : j = 1
    · subst q1; rw [upd_s, upd_n (by decide), upd_s]
    · rw [upd_n q1]
      by_cases q8 : j = 8
      · subst q8; rw [upd_s, upd_s]
      · rw [upd_n q8, upd_n q8, upd_n q1, upd_n q1]
  · rw [hI_setI_n e1]
    by_cases e2 : a = cq
    · subst e2; rw [lp_c, lp_c]
    · rw [lp_n e1 e2, lp_n e1 e2]
theorem lp_e {s : Int32} (e : lq ≠ cq) : setI (setI (lpH h lq cq p l) cq l.length s) lq 8 (nI l.length + 1) = lpH h lq cq p (l ++ [s]) := by
  refine AH_ext rfl rfl (fun a => ?_) rfl rfl
  by_cases e1 : a = lq
  · subst e1
    rw [hI_setI_s, hI_setI_n e, lp_l e, lp_l e, List.length_append, nI_1]
    funext j
    by_cases q8 : j = 8
    · subst q8; rw [upd_s, upd_s]; rfl
    · rw [upd_n q8, upd_n q8, upd_n q8]
  · rw [hI_setI_n e1]
    by_cases e2 : a = cq
    · subst e2
      rw [hI_setI_s, lp_c, lp_c, wrL_app, Nat.zero_add]; rfl
    · rw [hI_setI_n e2, lp_n e1 e2, lp_n e1 e2]
end LP
