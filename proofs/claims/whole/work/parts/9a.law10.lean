/-! ===== the class reads a law: other fields; how long a row of factors may be ===== -/
section LPO
variable {h : AH} {lq cq p : Nat} {l : List Int32}
theorem lp_o {k : Nat} {v : Int32} (e : lq ≠ cq) (k1 : k ≠ 1) (k8 : k ≠ 8) : setI (lpH h lq cq p l) lq k v = lpH (setI h lq k v) lq cq p l := by
  refine AH_ext rfl rfl (fun a => ?_) rfl rfl
  by_cases e1 : a = lq
  · subst e1
    rw [hI_setI_s, lp_l e, lp_l e, hI_setI_s]
    funext j
    by_cases q8 : j = 8
    · subst q8; rw [upd_n (Ne.symm k8), upd_s, upd_s]
    · by_cases q1 : j = 1
      · subst q1; rw [upd_n (Ne.symm k1), upd_n (by decide), upd_s, upd_n (by decide), upd_s]
      · by_cases qk : j = k
        · subst qk; rw [upd_s, upd_n q8, upd_n q1, upd_s]
        · rw [upd_n qk, upd_n q8, upd_n q1, upd_n q8, upd_n q1, upd_n qk]
  · rw [hI_setI_n e1]
    by_cases e2 : a = cq
    · subst e2; rw [lp_c, lp_c, hI_setI_n e1]
    · rw [lp_n e1 e2, lp_n e1 e2, hI_setI_n e1]
theorem lp_a {b k : Nat} {v : Int32} (e : lq ≠ cq) (b1 : b ≠ lq) (b2 : b ≠ cq) : setI (lpH h lq cq p l) b k v = lpH (setI h b k v) lq cq p l := by
  refine AH_ext rfl rfl (fun a => ?_) rfl rfl
  by_cases e0 : a = b
  · subst e0
    rw [hI_setI_s, lp_n b1 b2, lp_n b1 b2, hI_setI_s]
  · rw [hI_setI_n e0]
    by_cases e1 : a = lq
    · subst e1; rw [lp_l e, lp_l e, hI_setI_n e0]
    · by_cases e2 : a = cq
      · subst e2; rw [lp_c, lp_c, hI_setI_n e0]
      · rw [lp_n e1 e2, lp_n e1 e2, hI_setI_n e0]
end LPO
theorem lpR_u {F : Nat → PR} {H : Nat → Int32} {c : Int32} {st : St} {n : Nat} (hF : ∀ q, q ≤ (F q).2.1) (hc : ∀ q, H q = c → q < n) : ∀ (k : Nat) (r : PR), n ≤ r.2.1 + k → lpR F H c st (k + 1) r = lpR F H c st k r
  | 0, r, hk => by
    have hno : ¬ H r.2.1 = c := fun z => absurd (hc _ z) (by omega)
    show (if r.1 = true then r else if H r.2.1 = c then _ else r) = r
    rw [if_neg hno]
    split <;> rfl
  | k + 1, r, hk => by
    rw [lpR]
    conv => rhs; rw [lpR]
    by_cases h1 : r.1 = true
    · rw [if_pos h1, if_pos h1]
    · rw [if_neg h1, if_neg h1]
      by_cases h2 : H r.2.1 = c
      · rw [if_pos h2, if_pos h2]
        refine lpR_u hF hc k _ ?_
        have := hF (r.2.1 + 1)
        show n ≤ (F (r.2.1 + 1)).2.1 + k
        omega
      · rw [if_neg h2, if_neg h2]
theorem lpR_v {F : Nat → PR} {H : Nat → Int32} {c : Int32} {st : St} {n : Nat} (hF : ∀ q, q ≤ (F q).2.1) (hc : ∀ q, H q = c → q < n) {k : Nat} {r : PR} (hk : n ≤ r.2.1 + k) : ∀ m, lpR F H c st (k + m) r = lpR F H c st k r
  | 0 => rfl
  | m + 1 => by rw [show k + (m + 1) = (k + m) + 1 from rfl, lpR_u hF hc (k + m) r (by omega), lpR_v hF hc hk m]
theorem lpR_t {F : Nat → PR} {H : Nat → Int32} {c : Int32} {st : St} {n : Nat} (hF : ∀ q, q ≤ (F q).2.1) (hc : ∀ q, H q = c → q < n) (hn : n ≤ 120) {r : PR} : lpR F H c st 120 r = lpR F H c st n r := by
  rw [show (120 : Nat) = n + (120 - n) by omega]
  exact lpR_v hF hc (by omega) _
