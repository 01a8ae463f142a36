/-! ===== the model reads a law ===== -/
def mpF (f : Nat → Int32) (p : Nat) (w : Bool) (o : Nat) : Nat → Int32 := upd (upd (upd f 5 (nI p)) 7 (b2i w)) 8 (nI o)
def mpR (S : Nat → Int32) (a : Nat) (l : List Int32) (mo : Int32) : Nat → Int32 := upd (upd (wrL S (218 + 140 * a) l) (213 + a) (nI l.length)) (208 + a) mo
/-- the model while it reads law a: place, wrong, open, steps, most -/
def mpH (h : AH) (B a p : Nat) (w : Bool) (o : Nat) (l : List Int32) (mo : Int32) : AH := setR (setR h (B + 51) (mpF (hI h (B + 51)) p w o)) (B + 52) (mpR (hI h (B + 52)) a l mo)
section MP
variable {h : AH} {B a p : Nat} {w : Bool} {o : Nat} {l : List Int32} {mo : Int32}
theorem LY.mp (hL : LY h B) : LY (mpH h B a p w o l mo) B := hL
theorem mp_1 : hI (mpH h B a p w o l mo) (B + 51) = mpF (hI h (B + 51)) p w o := by unfold mpH; rw [hI_Rn (by omega), hI_R]
theorem mp_2 : hI (mpH h B a p w o l mo) (B + 52) = mpR (hI h (B + 52)) a l mo := by unfold mpH; rw [hI_R]
theorem mp_n {b : Nat} (e1 : b ≠ B + 51) (e2 : b ≠ B + 52) : hI (mpH h B a p w o l mo) b = hI h b := by unfold mpH; rw [hI_Rn e2, hI_Rn e1]
theorem mp_f4 : hI (mpH h B a p w o l mo) (B + 51) 4 = hI h (B + 51) 4 := by rw [mp_1]; rfl
theorem mp_f5 : hI (mpH h B a p w o l mo) (B + 51) 5 = nI p := by rw [mp_1]; rfl
theorem mp_f6 : hI (mpH h B a p w o l mo) (B + 51) 6 = hI h (B + 51) 6 := by rw [mp_1]; rfl
theorem mp_f7 : hI (mpH h B a p w o l mo) (B + 51) 7 = b2i w := by rw [mp_1]; rfl
theorem mp_f8 : hI (mpH h B a p w o l mo) (B + 51) 8 = nI o := by rw [mp_1]; rfl
theorem mpF_5 {f : Nat → Int32} {q : Nat} : upd (mpF f p w o) 5 (nI q) = mpF f q w o := by
  funext j; unfold mpF upd; by_cases e8 : j = 8
  · subst e8; rfl
  · by_cases e7 : j = 7
    · subst e7; rfl
    · by_cases e5 : j = 5 <;> simp [e5, e7, e8]
theorem mpF_7 {f : Nat → Int32} {q : Bool} : upd (mpF f p w o) 7 (b2i q) = mpF f p q o := by
  funext j; unfold mpF upd; by_cases e8 : j = 8
  · subst e8; rfl
  · by_cases e7 : j = 7 <;> simp [e7, e8]
theorem mpF_8 {f : Nat → Int32} {q : Nat} : upd (mpF f p w o) 8 (nI q) = mpF f p w q := by
  funext j; unfold mpF upd; by_cases e8 : j = 8 <;> simp [e8]
theorem mp_w1 {f : Nat → Int32} {k : Nat} {v : Int32} (e : upd (mpF (hI h (B + 51)) p w o) k v = f) : setI (mpH h B a p w o l mo) (B + 51) k v = setR (setR h (B + 51) f) (B + 52) (mpR (hI h (B + 52)) a l mo) := by
  refine AH_ext rfl rfl (fun b => ?_) rfl rfl
  by_cases e1 : b = B + 51
  · subst e1; rw [hI_setI_s, mp_1, e, hI_Rn (by omega), hI_R]
  · rw [hI_setI_n e1]
    by_cases e2 : b = B + 52
    · subst e2; rw [mp_2, hI_R]
    · rw [mp_n e1 e2, hI_Rn e2, hI_Rn e1]
theorem mp_5 {q : Nat} {v : Int32} (e : v = nI q) : setI (mpH h B a p w o l mo) (B + 51) 5 v = mpH h B a q w o l mo := by subst e; exact mp_w1 mpF_5
theorem mp_7 {q : Bool} {v : Int32} (e : v = b2i q) : setI (mpH h B a p w o l mo) (B + 51) 7 v = mpH h B a p q o l mo := by subst e; exact mp_w1 mpF_7
theorem mp_8 {q : Nat} {v : Int32} (e : v = nI q) : setI (mpH h B a p w o l mo) (B + 51) 8 v = mpH h B a p w q l mo := by subst e; exact mp_w1 mpF_8
theorem mpR_lo {S : Nat → Int32} {k : Nat} (hk : k < 208) : mpR S a l mo k = S k := by
  unfold mpR; rw [upd_n (by omega), upd_n (by omega), wrL_lt _ _ _ _ (by omega)]
theorem mpR_13 {S : Nat → Int32} (ha : a < 5) : mpR S a l mo (213 + a) = nI l.length := by
  unfold mpR; rw [upd_n (by omega), upd_s]
theorem mpR_08 {S : Nat → Int32} : mpR S a l mo (208 + a) = mo := by
  unfold mpR; rw [upd_s]
theorem upd_c {f : Nat → Int32} {i j : Nat} {x y : Int32} (h : i ≠ j) : upd (upd f i x) j y = upd (upd f j y) i x := by
  funext k
  by_cases e : k = j
  · subst e; rw [upd_s, upd_n (Ne.symm h), upd_s]
  · rw [upd_n e]
    by_cases e2 : k = i
    · subst e2; rw [upd_s, upd_s]
    · rw [upd_n e2, upd_n e2, upd_n e]
theorem mpR_e {S : Nat → Int32} {s : Int32} (ha : a < 5) : upd (upd (mpR S a l mo) (218 + 140 * a + l.length) s) (213 + a) (nI l.length + 1) = mpR S a (l ++ [s]) mo := by
  unfold mpR
  rw [wrL_app, List.length_append, nI_1]
  funext j
  show _ = upd (upd (upd (wrL S (218 + 140 * a) l) (218 + 140 * a + l.length) s) (213 + a) (nI (l.length + 1))) (208 + a) mo j
  by_cases e1 : j = 208 + a
  · subst e1; rw [upd_s, upd_n (by omega), upd_n (by omega), upd_s]
  · rw [upd_n (k := 208 + a) e1]
    by_cases e2 : j = 213 + a
    · subst e2; rw [upd_s, upd_s]
    · rw [upd_n e2, upd_n e2]
      by_cases e3 : j = 218 + 140 * a + l.length
      · subst e3; rw [upd_s, upd_s]
      · rw [upd_n e3, upd_n e1, upd_n e2, upd_n e3]
theorem mpR_m {S : Nat → Int32} {v : Int32} : upd (mpR S a l mo) (208 + a) v = mpR S a l v := by
  unfold mpR; rw [upd_u]
theorem mp_w2 {f : Nat → Int32} : setR (mpH h B a p w o l mo) (B + 52) f = setR (setR h (B + 51) (mpF (hI h (B + 51)) p w o)) (B + 52) f := by unfold mpH; rw [setR_R]
theorem mp_e {s : Int32} {k : Nat} (ha : a < 5) (hk : k = 218 + 140 * a + l.length) : setI (setI (mpH h B a p w o l mo) (B + 52) k s) (B + 52) (213 + a) (nI l.length + 1) = mpH h B a p w o (l ++ [s]) mo := by
  subst hk
  rw [setI_R, setI_R, hI_R, setR_R, mp_2, mpR_e ha, mp_w2]; rfl
theorem mp_m {v : Int32} : setI (mpH h B a p w o l mo) (B + 52) (208 + a) v = mpH h B a p w o l v := by
  rw [setI_R, mp_2, mpR_m, mp_w2]; rfl
end MP
set_option maxRecDepth 100000 in
theorem m_here (g : GG) (h : AH) (B : Nat) (hL : LY h B) (a n : Nat) (ha : a < 5) (hac : hI h (B + 51) 4 = nI a) (he : hI h (B + 51) 6 = nI n) (hn : n ≤ 120) (H : Nat → Int32) (hH : H = hrT (fun i => hI h (B + 52) (10 + i)) n) (p o : Nat) (w : Bool) (l : List Int32) (mo : Int32) (hp : p ≤ n) : AM g 1 0 0 mX12_here [.ref (B + 51)] (mpH h B a p w o l mo) (fun rv h' => rv = some (.int (H p)) ∧ h' = (mpH h B a p w o l mo)) := by
  refine AM.of [(0, .ref (B + 51))] (by decide) (Nat.le_of_ble_eq_true rfl) rfl ?_
  intro V hV
  have hb : V.2.1.2.1 = cX12_here := by subst hV; rfl
  have ow : V.2.1.1.cls = RX12 := by subst hV; rfl
  have hr : V.2.2.1 = aw_rm 1 0 0 := by subst hV; rfl
  have hz : V.2.2.2 = aw_Z V.1 (fun rv h' => rv = some (.int (H p)) ∧ h' = (mpH h B a p w o l mo)) V.2.2.1 := by subst hV; rfl
  have hg : V.1 = g := by subst hV; rfl
  have hret : V.2.1.2.2.2 = (some .int) := by subst hV; rfl
  have hml : V.2.1.2.2.1 = 1 := by subst hV; rfl
  clear hV
  refine a_aload_n hb dX12_here_0 rfl 0 rfl ?_
  refine a_getI hb dX12_here_1 (by rw [ow]; exact fl_RX12_61_12) ((LY.mp hL : LY (mpH h B a p w o l mo) B).1 51 (by decide)) ?_
  rw [mp_f5]
  show AW V 0 0 (mpH h B a p w o l mo) 4 [(0, .ref (B + 51))] [.int (nI p)]
  refine a_aload_n hb dX12_here_4 rfl 0 rfl ?_
  refine a_getI hb dX12_here_5 (by rw [ow]; exact fl_RX12_64_12) ((LY.mp hL : LY (mpH h B a p w o l mo) B).1 51 (by decide)) ?_
  rw [mp_f6, he]
  show AW V 0 0 (mpH h B a p w o l mo) 8 [(0, .ref (B + 51))] [.int (nI n), .int (nI p)]
  refine a_icmp_ge hb 26 dX12_here_8 (by decide) (fun c8 => ?_) (fun c8 => ?_)
  · have hge : n ≤ p := (nI_leI (by omega) (by omega)).mp c8
    refine a_iconst (v := (-1)) hb dX12_here_26 (by decide) ?_
    exact a_ireturn (ty := .int) hb hz dX12_here_27 hret rfl (by rw [hr]; exact Nat.le_of_ble_eq_true rfl) (by rw [hr]; exact Nat.le_of_ble_eq_true rfl) (⟨by rw [hH, hrT, if_neg (by omega)], rfl⟩)
  · have hlt : p < n := Nat.lt_of_not_le (fun z => c8 (nI_le z (by omega)))
    refine a_aload_n hb dX12_here_11 rfl 0 rfl ?_
    refine a_getQ (q := (B + 52)) hb dX12_here_12 (by rw [ow]; exact fl_RX12_9_12) ((LY.mp hL : LY (mpH h B a p w o l mo) B).1 51 (by decide)) ((LY.mp hL : LY (mpH h B a p w o l mo) B).2.1 (51, 1, 52) (by decide)) ?_
    refine a_bipush (v := 10) hb dX12_here_15 (by decide) ?_
    refine a_aload_n hb dX12_here_17 rfl 0 rfl ?_
    refine a_getI hb dX12_here_18 (by rw [ow]; exact fl_RX12_61_12) ((LY.mp hL : LY (mpH h B a p w o l mo) B).1 51 (by decide)) ?_
    rw [mp_f5]
    show AW V 0 0 (mpH h B a p w o l mo) 21 [(0, .ref (B + 51))] [.int (nI p), .int 10, .ref (B + 52)]
    refine a_iadd hb dX12_here_21 ?_
    refine b_iald (j := (10 + p)) hb dX12_here_22 ((LY.mp hL : LY (mpH h B a p w o l mo) B).1 52 (by decide)) (IX.add ⟨by decide, by decide⟩ (IX.n (by omega)) (by omega)) (by omega) ?_
    refine a_goto hb 27 dX12_here_23 (by decide) ?_
    exact a_ireturn (ty := .int) hb hz dX12_here_27 hret rfl (by rw [hr]; exact Nat.le_of_ble_eq_true rfl) (by rw [hr]; exact Nat.le_of_ble_eq_true rfl) (⟨by rw [hH, hrT, if_pos hlt, mp_2, mpR_lo (by omega)], rfl⟩)
set_option maxRecDepth 100000 in
theorem m_must (g : GG) (h : AH) (B : Nat) (hL : LY h B) (a n : Nat) (ha : a < 5) (hac : hI h (B + 51) 4 = nI a) (he : hI h (B + 51) 6 = nI n) (hn : n ≤ 120) (H : Nat → Int32) (hH : H = hrT (fun i => hI h (B + 52) (10 + i)) n) (p o : Nat) (w : Bool) (l : List Int32) (mo : Int32) (hp : p ≤ n) (c : Int32) : AM g 2 0 0 mX12_must [.ref (B + 51), .int c] (mpH h B a p w o l mo) (fun rv h' => rv = none ∧ h' = (mpH h B a ((muP H c w p).2) ((muP H c w p).1) o l mo)) := by
  refine AM.of [(0, .ref (B + 51)), (1, .int c)] (by decide) (Nat.le_of_ble_eq_true rfl) rfl ?_
  intro V hV
  have hb : V.2.1.2.1 = cX12_must := by subst hV; rfl
  have ow : V.2.1.1.cls = RX12 := by subst hV; rfl
  have hr : V.2.2.1 = aw_rm 2 0 0 := by subst hV; rfl
  have hz : V.2.2.2 = aw_Z V.1 (fun rv h' => rv = none ∧ h' = (mpH h B a ((muP H c w p).2) ((muP H c w p).1) o l mo)) V.2.2.1 := by subst hV; rfl
  have hg : V.1 = g := by subst hV; rfl
  have hret : V.2.1.2.2.2 = none := by subst hV; rfl
  have hml : V.2.1.2.2.1 = 2 := by subst hV; rfl
  clear hV
  refine a_aload_n hb dX12_must_0 rfl 0 rfl ?_
  refine a_aload_n hb dX12_must_1 rfl 0 rfl ?_
  refine a_getI hb dX12_must_2 (by rw [ow]; exact fl_RX12_67_12) ((LY.mp hL : LY (mpH h B a p w o l mo) B).1 51 (by decide)) ?_
  rw [mp_f7]
  show AW V 0 0 (mpH h B a p w o l mo) 5 [(0, .ref (B + 51)), (1, .int c)] [.int (b2i w), .ref (B + 51)]
  refine a_if_ne hb 16 dX12_must_5 (by decide) (fun c5 => ?_) (fun c5 => ?_)
  · simp [b2i_0] at c5
    refine a_iconst (v := 1) hb dX12_must_16 (by decide) ?_
    refine a_goto hb 21 dX12_must_17 (by decide) ?_
    refine a_putI (fty := .boolean) hb dX12_must_21 (by rw [ow]; exact fp_RX12_67_12) (Or.inr (fun C T N hq => by cases hq; rfl)) ((LY.mp hL : LY (mpH h B a p w o l mo) B).1 51 (by decide)) rfl rfl ?_
    rw [mp_7 (q := true) (v := 1) rfl]
    show AW V 0 0 (mpH h B a p true o l mo) 24 [(0, .ref (B + 51)), (1, .int c)] []
    refine a_aload_n hb dX12_must_24 rfl 0 rfl ?_
    refine a_dup hb dX12_must_25 rfl ?_
    refine a_getI hb dX12_must_26 (by rw [ow]; exact fl_RX12_61_12) ((LY.mp hL : LY (mpH h B a p true o l mo) B).1 51 (by decide)) ?_
    rw [mp_f5]
    show AW V 0 0 (mpH h B a p true o l mo) 29 [(0, .ref (B + 51)), (1, .int c)] [.int (nI p), .ref (B + 51)]
    refine a_aload_n hb dX12_must_29 rfl 0 rfl ?_
    refine a_getI hb dX12_must_30 (by rw [ow]; exact fl_RX12_67_12) ((LY.mp hL : LY (mpH h B a p true o l mo) B).1 51 (by decide)) ?_
    rw [mp_f7]
    show AW V 0 0 (mpH h B a p true o l mo) 33 [(0, .ref (B + 51)), (1, .int c)] [.int 1, .int (nI p), .ref (B + 51)]
    refine a_if_eq hb 40 dX12_must_33 (by decide) (fun c33 => absurd c33 (by decide)) (fun c33 => ?_)
    refine a_iconst (v := 0) hb dX12_must_36 (by decide) ?_
    refine a_goto hb 41 dX12_must_37 (by decide) ?_
    refine a_iadd hb dX12_must_41 ?_
    refine a_putI (fty := .int) hb dX12_must_42 (by rw [ow]; exact fp_RX12_61_12) (Or.inr (fun C T N hq => by cases hq; rfl)) ((LY.mp hL : LY (mpH h B a p true o l mo) B).1 51 (by decide)) rfl rfl ?_
    rw [mp_5 (q := p) (by rw [Int32.add_zero])]
    show AW V 0 0 (mpH h B a p true o l mo) 45 [(0, .ref (B + 51)), (1, .int c)] []
    exact a_return hb hz dX12_must_45 hret (by rw [hr]; exact Nat.le_of_ble_eq_true rfl) (by rw [hr]; exact Nat.le_of_ble_eq_true rfl) (⟨rfl, by clear hH; simp [muP, *]⟩)
  · simp [b2i_0] at c5
    refine a_aload_n hb dX12_must_8 rfl 0 rfl ?_
    refine a_callV hb dX12_must_9 (by rw [hg]; exact m_here g h B hL a n ha hac he hn H hH p o w l mo hp) (by rw [ow]; exact clv_RX12_71) ((LY.mp hL : LY (mpH h B a p w o l mo) B).1 51 (by decide)) (by decide) rfl rfl rfl (Nat.le_of_ble_eq_true rfl) (by rw [hr]; exact ⟨by decide, by decide⟩) (by rw [hr]; exact ⟨Nat.le_of_ble_eq_true rfl, Nat.le_of_ble_eq_true rfl⟩) ?_
    intro rv h' hp_
    rw [hp_.1, hp_.2]
    show AW V 0 0 (mpH h B a p w o l mo) 12 [(0, .ref (B + 51)), (1, .int c)] [.int (H p), .ref (B + 51)]
    refine a_iload_n hb dX12_must_12 rfl 1 rfl ?_
    refine a_icmp_eq hb 20 dX12_must_13 (by decide) (fun c13 => ?_) (fun c13 => ?_)
    · refine a_iconst (v := 0) hb dX12_must_20 (by decide) ?_
      refine a_putI (fty := .boolean) hb dX12_must_21 (by rw [ow]; exact fp_RX12_67_12) (Or.inr (fun C T N hq => by cases hq; rfl)) ((LY.mp hL : LY (mpH h B a p w o l mo) B).1 51 (by decide)) rfl rfl ?_
      rw [mp_7 (q := false) (v := 0) rfl]
      show AW V 0 0 (mpH h B a p false o l mo) 24 [(0, .ref (B + 51)), (1, .int c)] []
      refine a_aload_n hb dX12_must_24 rfl 0 rfl ?_
      refine a_dup hb dX12_must_25 rfl ?_
      refine a_getI hb dX12_must_26 (by rw [ow]; exact fl_RX12_61_12) ((LY.mp hL : LY (mpH h B a p false o l mo) B).1 51 (by decide)) ?_
      rw [mp_f5]
      show AW V 0 0 (mpH h B a p false o l mo) 29 [(0, .ref (B + 51)), (1, .int c)] [.int (nI p), .ref (B + 51)]
      refine a_aload_n hb dX12_must_29 rfl 0 rfl ?_
      refine a_getI hb dX12_must_30 (by rw [ow]; exact fl_RX12_67_12) ((LY.mp hL : LY (mpH h B a p false o l mo) B).1 51 (by decide)) ?_
      rw [mp_f7]
      show AW V 0 0 (mpH h B a p false o l mo) 33 [(0, .ref (B + 51)), (1, .int c)] [.int 0, .int (nI p), .ref (B + 51)]
      refine a_if_eq hb 40 dX12_must_33 (by decide) (fun c33 => ?_) (fun c33 => absurd (by decide) c33)
      refine a_iconst (v := 1) hb dX12_must_40 (by decide) ?_
      refine a_iadd hb dX12_must_41 ?_
      refine a_putI (fty := .int) hb dX12_must_42 (by rw [ow]; exact fp_RX12_61_12) (Or.inr (fun C T N hq => by cases hq; rfl)) ((LY.mp hL : LY (mpH h B a p false o l mo) B).1 51 (by decide)) rfl rfl ?_
      rw [mp_5 (q := (p + 1)) (by rw [nI_1])]
      show AW V 0 0 (mpH h B a (p + 1) false o l mo) 45 [(0, .ref (B + 51)), (1, .int c)] []
      exact a_return hb hz dX12_must_45 hret (by rw [hr]; exact Nat.le_of_ble_eq_true rfl) (by rw [hr]; exact Nat.le_of_ble_eq_true rfl) (⟨rfl, by clear hH; simp [muP, *]⟩)
    · refine a_iconst (v := 1) hb dX12_must_16 (by decide) ?_
      refine a_goto hb 21 dX12_must_17 (by decide) ?_
      refine a_putI (fty := .boolean) hb dX12_must_21 (by rw [ow]; exact fp_RX12_67_12) (Or.inr (fun C T N hq => by cases hq; rfl)) ((LY.mp hL : LY (mpH h B a p w o l mo) B).1 51 (by decide)) rfl rfl ?_
      rw [mp_7 (q := true) (v := 1) rfl]
      show AW V 0 0 (mpH h B a p true o l mo) 24 [(0, .ref (B + 51)), (1, .int c)] []
      refine a_aload_n hb dX12_must_24 rfl 0 rfl ?_
      refine a_dup hb dX12_must_25 rfl ?_
      refine a_getI hb dX12_must_26 (by rw [ow]; exact fl_RX12_61_12) ((LY.mp hL : LY (mpH h B a p true o l mo) B).1 51 (by decide)) ?_
      rw [mp_f5]
      show AW V 0 0 (mpH h B a p true o l mo) 29 [(0, .ref (B + 51)), (1, .int c)] [.int (nI p), .ref (B + 51)]
      refine a_aload_n hb dX12_must_29 rfl 0 rfl ?_
      refine a_getI hb dX12_must_30 (by rw [ow]; exact fl_RX12_67_12) ((LY.mp hL : LY (mpH h B a p true o l mo) B).1 51 (by decide)) ?_
      rw [mp_f7]
      show AW V 0 0 (mpH h B a p true o l mo) 33 [(0, .ref (B + 51)), (1, .int c)] [.int 1, .int (nI p), .ref (B + 51)]
      refine a_if_eq hb 40 dX12_must_33 (by decide) (fun c33 => absurd c33 (by decide)) (fun c33 => ?_)
      refine a_iconst (v := 0) hb dX12_must_36 (by decide) ?_
      refine a_goto hb 41 dX12_must_37 (by decide) ?_
      refine a_iadd hb dX12_must_41 ?_
      refine a_putI (fty := .int) hb dX12_must_42 (by rw [ow]; exact fp_RX12_61_12) (Or.inr (fun C T N hq => by cases hq; rfl)) ((LY.mp hL : LY (mpH h B a p true o l mo) B).1 51 (by decide)) rfl rfl ?_
      rw [mp_5 (q := p) (by rw [Int32.add_zero])]
      show AW V 0 0 (mpH h B a p true o l mo) 45 [(0, .ref (B + 51)), (1, .int c)] []
      exact a_return hb hz dX12_must_45 hret (by rw [hr]; exact Nat.le_of_ble_eq_true rfl) (by rw [hr]; exact Nat.le_of_ble_eq_true rfl) (⟨rfl, by clear hH; simp [muP, *]⟩)
theorem muG {tx : Nat → Int32} {n : Nat} {H : Nat → Int32} (hH : H = hrT tx n) {c : Int32} (hc : c ≠ -1) {w : Bool} {p : Nat} (hp : p ≤ n) : (muP H c w p).2 ≤ n := by subst hH; exact (muP_g hc).2 hp
set_option maxRecDepth 100000 in
theorem m_spells2 (g : GG) (h : AH) (B : Nat) (hL : LY h B) (a n : Nat) (ha : a < 5) (hac : hI h (B + 51) 4 = nI a) (he : hI h (B + 51) 6 = nI n) (hn : n ≤ 120) (H : Nat → Int32) (hH : H = hrT (fun i => hI h (B + 52) (10 + i)) n) (p o : Nat) (w : Bool) (l : List Int32) (mo : Int32) (hp : p ≤ n) : AM g 5 0 0 mX12_spells [.ref (B + 51), .ref (gS g (2 + 2))] (mpH h B a p w o l mo) (fun rv h' => rv = none ∧ h' = (mpH h B a ((spS H wdM w p).2) ((spS H wdM w p).1) o l mo)) := by
  refine AM.of [(0, .ref (B + 51)), (1, .ref (gS g (2 + 2)))] (by decide) (Nat.le_of_ble_eq_true rfl) rfl ?_
  intro V hV
  have hb : V.2.1.2.1 = cX12_spells := by subst hV; rfl
  have ow : V.2.1.1.cls = RX12 := by subst hV; rfl
  have hr : V.2.2.1 = aw_rm 5 0 0 := by subst hV; rfl
  have hz : V.2.2.2 = aw_Z V.1 (fun rv h' => rv = none ∧ h' = (mpH h B a ((spS H wdM w p).2) ((spS H wdM w p).1) o l mo)) V.2.2.1 := by subst hV; rfl
  have hg : V.1 = g := by subst hV; rfl
  have hret : V.2.1.2.2.2 = none := by subst hV; rfl
  have hml : V.2.1.2.2.1 = 3 := by subst hV; rfl
  clear hV
  rw [← hg]
  refine a_iconst (v := 0) hb dX12_spells_0 (by decide) ?_
  refine a_istore_n (L' := [(2, .int 0), (0, .ref (B + 51)), (1, .ref (gS V.1 (2 + 2)))]) hb dX12_spells_1 rfl (by rw [hml]; decide) rfl ?_
  refine a_iload_n hb dX12_spells_2 rfl 0 rfl ?_
  refine a_aload_n hb dX12_spells_3 rfl 2 rfl ?_
  refine a_callT (i := 2) hb (by decide) dX12_spells_4 (by rw [hg]; exact j_length g (mpH h B a p w o l mo) 2 (by decide)) (by rw [ow]; exact clv_RX12_75) rfl rfl rfl (Nat.le_of_ble_eq_true rfl) (by rw [hr]; exact ⟨by decide, by decide⟩) (by rw [hr]; exact ⟨Nat.le_of_ble_eq_true rfl, Nat.le_of_ble_eq_true rfl⟩) ?_
  intro rv h' hp_
  rw [hp_.1, hp_.2, show Int32.ofNat (aw_tl.getD 2 0) = 5 from by decide]
  show AW V 0 0 (mpH h B a p w o l mo) 7 [(2, .int 0), (0, .ref (B + 51)), (1, .ref (gS V.1 (2 + 2)))] [.int 5, .int 0]
  refine a_icmp_ge hb 25 dX12_spells_7 (by decide) (fun c7_0 => absurd c7_0 (by decide)) (fun c7_0 => ?_)
  refine a_aload_n hb dX12_spells_10 rfl 1 rfl ?_
  refine a_aload_n hb dX12_spells_11 rfl 2 rfl ?_
  refine a_iload_n hb dX12_spells_12 rfl 0 rfl ?_
  refine a_callT (i := 2) hb (by decide) dX12_spells_13 (by rw [hg]; exact j_char g (mpH h B a p w o l mo) 2 (by decide) 0 0 ⟨by decide, by decide⟩ (by decide) (by decide) (by decide) rfl) (by rw [ow]; exact clv_RX12_80) rfl rfl rfl (Nat.le_of_ble_eq_true rfl) (by rw [hr]; exact ⟨by decide, by decide⟩) (by rw [hr]; exact ⟨Nat.le_of_ble_eq_true rfl, Nat.le_of_ble_eq_true rfl⟩) ?_
  intro rv h' hp_
  rw [hp_.1, hp_.2, show (aw_tb.getD 2 []).getD 0 0 = 109 from by decide]
  show AW V 0 0 (mpH h B a p w o l mo) 16 [(2, .int 0), (0, .ref (B + 51)), (1, .ref (gS V.1 (2 + 2)))] [.int 109, .ref (B + 51)]
  refine a_callV hb dX12_spells_16 (by rw [hg]; exact m_must g h B hL a n ha hac he hn H hH p o w l mo hp 109) (by rw [ow]; exact clv_RX12_84) ((LY.mp hL : LY (mpH h B a p w o l mo) B).1 51 (by decide)) (by decide) rfl rfl rfl (Nat.le_of_ble_eq_true rfl) (by rw [hr]; exact ⟨by decide, by decide⟩) (by rw [hr]; exact ⟨Nat.le_of_ble_eq_true rfl, Nat.le_of_ble_eq_true rfl⟩) ?_
  intro rv h' hp_
  rw [hp_.1, hp_.2]
  show AW V 0 0 (mpH h B a ((muP H 109 w p).2) ((muP H 109 w p).1) o l mo) 19 [(2, .int 0), (0, .ref (B + 51)), (1, .ref (gS V.1 (2 + 2)))] []
  refine a_iinc (v := (0 + 1)) (L' := [(2, .int (0 + 1)), (0, .ref (B + 51)), (1, .ref (gS V.1 (2 + 2)))]) hb dX12_spells_19 0 rfl rfl (by rw [hml]; decide) rfl ?_
  refine a_goto hb 2 dX12_spells_22 (by decide) ?_
  rw [show ((0 : Int32) + 1) = 1 from by decide]
  show AW V 0 0 (mpH h B a ((muP H 109 w p).2) ((muP H 109 w p).1) o l mo) 2 [(2, .int 1), (0, .ref (B + 51)), (1, .ref (gS V.1 (2 + 2)))] []
  refine a_iload_n hb dX12_spells_2 rfl 0 rfl ?_
  refine a_aload_n hb dX12_spells_3 rfl 2 rfl ?_
  refine a_callT (i := 2) hb (by decide) dX12_spells_4 (by rw [hg]; exact j_length g (mpH h B a ((muP H 109 w p).2) ((muP H 109 w p).1) o l mo) 2 (by decide)) (by rw [ow]; exact clv_RX12_75) rfl rfl rfl (Nat.le_of_ble_eq_true rfl) (by rw [hr]; exact ⟨by decide, by decide⟩) (by rw [hr]; exact ⟨Nat.le_of_ble_eq_true rfl, Nat.le_of_ble_eq_true rfl⟩) ?_
  intro rv h' hp_
  rw [hp_.1, hp_.2, show Int32.ofNat (aw_tl.getD 2 0) = 5 from by decide]
  show AW V 0 0 (mpH h B a ((muP H 109 w p).2) ((muP H 109 w p).1) o l mo) 7 [(2, .int 1), (0, .ref (B + 51)), (1, .ref (gS V.1 (2 + 2)))] [.int 5, .int 1]
  refine a_icmp_ge hb 25 dX12_spells_7 (by decide) (fun c7_0 => absurd c7_0 (by decide)) (fun c7_0 => ?_)
  refine a_aload_n hb dX12_spells_10 rfl 1 rfl ?_
  refine a_aload_n hb dX12_spells_11 rfl 2 rfl ?_
  refine a_iload_n hb dX12_spells_12 rfl 0 rfl ?_
  refine a_callT (i := 2) hb (by decide) dX12_spells_13 (by rw [hg]; exact j_char g (mpH h B a ((muP H 109 w p).2) ((muP H 109 w p).1) o l mo) 2 (by decide) 1 1 ⟨by decide, by decide⟩ (by decide) (by decide) (by decide) rfl) (by rw [ow]; exact clv_RX12_80) rfl rfl rfl (Nat.le_of_ble_eq_true rfl) (by rw [hr]; exact ⟨by decide, by decide⟩) (by rw [hr]; exact ⟨Nat.le_of_ble_eq_true rfl, Nat.le_of_ble_eq_true rfl⟩) ?_
  intro rv h' hp_
  rw [hp_.1, hp_.2, show (aw_tb.getD 2 []).getD 1 0 = 111 from by decide]
  show AW V 0 0 (mpH h B a ((muP H 109 w p).2) ((muP H 109 w p).1) o l mo) 16 [(2, .int 1), (0, .ref (B + 51)), (1, .ref (gS V.1 (2 + 2)))] [.int 111, .ref (B + 51)]
  refine a_callV hb dX12_spells_16 (by rw [hg]; exact m_must g h B hL a n ha hac he hn H hH ((muP H 109 w p).2) o ((muP H 109 w p).1) l mo (muG hH (c := 109) (by decide) (w := w) hp) 111) (by rw [ow]; exact clv_RX12_84) ((LY.mp hL : LY (mpH h B a ((muP H 109 w p).2) ((muP H 109 w p).1) o l mo) B).1 51 (by decide)) (by decide) rfl rfl rfl (Nat.le_of_ble_eq_true rfl) (by rw [hr]; exact ⟨by decide, by decide⟩) (by rw [hr]; exact ⟨Nat.le_of_ble_eq_true rfl, Nat.le_of_ble_eq_true rfl⟩) ?_
  intro rv h' hp_
  rw [hp_.1, hp_.2]
  show AW V 0 0 (mpH h B a ((muP H 111 ((muP H 109 w p).1) ((muP H 109 w p).2)).2) ((muP H 111 ((muP H 109 w p).1) ((muP H 109 w p).2)).1) o l mo) 19 [(2, .int 1), (0, .ref (B + 51)), (1, .ref (gS V.1 (2 + 2)))] []
  refine a_iinc (v := (1 + 1)) (L' := [(2, .int (1 + 1)), (0, .ref (B + 51)), (1, .ref (gS V.1 (2 + 2)))]) hb dX12_spells_19 0 rfl rfl (by rw [hml]; decide) rfl ?_
  refine a_goto hb 2 dX12_spells_22 (by decide) ?_
  rw [show ((1 : Int32) + 1) = 2 from by decide]
  show AW V 0 0 (mpH h B a ((muP H 111 ((muP H 109 w p).1) ((muP H 109 w p).2)).2) ((muP H 111 ((muP H 109 w p).1) ((muP H 109 w p).2)).1) o l mo) 2 [(2, .int 2), (0, .ref (B + 51)), (1, .ref (gS V.1 (2 + 2)))] []
  refine a_iload_n hb dX12_spells_2 rfl 0 rfl ?_
  refine a_aload_n hb dX12_spells_3 rfl 2 rfl ?_
  refine a_callT (i := 2) hb (by decide) dX12_spells_4 (by rw [hg]; exact j_length g (mpH h B a ((muP H 111 ((muP H 109 w p).1) ((muP H 109 w p).2)).2) ((muP H 111 ((muP H 109 w p).1) ((muP H 109 w p).2)).1) o l mo) 2 (by decide)) (by rw [ow]; exact clv_RX12_75) rfl rfl rfl (Nat.le_of_ble_eq_true rfl) (by rw [hr]; exact ⟨by decide, by decide⟩) (by rw [hr]; exact ⟨Nat.le_of_ble_eq_true rfl, Nat.le_of_ble_eq_true rfl⟩) ?_
  intro rv h' hp_
  rw [hp_.1, hp_.2, show Int32.ofNat (aw_tl.getD 2 0) = 5 from by decide]
  show AW V 0 0 (mpH h B a ((muP H 111 ((muP H 109 w p).1) ((muP H 109 w p).2)).2) ((muP H 111 ((muP H 109 w p).1) ((muP H 109 w p).2)).1) o l mo) 7 [(2, .int 2), (0, .ref (B + 51)), (1, .ref (gS V.1 (2 + 2)))] [.int 5, .int 2]
  refine a_icmp_ge hb 25 dX12_spells_7 (by decide) (fun c7_0 => absurd c7_0 (by decide)) (fun c7_0 => ?_)
  refine a_aload_n hb dX12_spells_10 rfl 1 rfl ?_
  refine a_aload_n hb dX12_spells_11 rfl 2 rfl ?_
  refine a_iload_n hb dX12_spells_12 rfl 0 rfl ?_
  refine a_callT (i := 2) hb (by decide) dX12_spells_13 (by rw [hg]; exact j_char g (mpH h B a ((muP H 111 ((muP H 109 w p).1) ((muP H 109 w p).2)).2) ((muP H 111 ((muP H 109 w p).1) ((muP H 109 w p).2)).1) o l mo) 2 (by decide) 2 2 ⟨by decide, by decide⟩ (by decide) (by decide) (by decide) rfl) (by rw [ow]; exact clv_RX12_80) rfl rfl rfl (Nat.le_of_ble_eq_true rfl) (by rw [hr]; exact ⟨by decide, by decide⟩) (by rw [hr]; exact ⟨Nat.le_of_ble_eq_true rfl, Nat.le_of_ble_eq_true rfl⟩) ?_
  intro rv h' hp_
  rw [hp_.1, hp_.2, show (aw_tb.getD 2 []).getD 2 0 = 115 from by decide]
  show AW V 0 0 (mpH h B a ((muP H 111 ((muP H 109 w p).1) ((muP H 109 w p).2)).2) ((muP H 111 ((muP H 109 w p).1) ((muP H 109 w p).2)).1) o l mo) 16 [(2, .int 2), (0, .ref (B + 51)), (1, .ref (gS V.1 (2 + 2)))] [.int 115, .ref (B + 51)]
  refine a_callV hb dX12_spells_16 (by rw [hg]; exact m_must g h B hL a n ha hac he hn H hH ((muP H 111 ((muP H 109 w p).1) ((muP H 109 w p).2)).2) o ((muP H 111 ((muP H 109 w p).1) ((muP H 109 w p).2)).1) l mo (muG hH (c := 111) (by decide) (w := (muP H 109 w p).1) (muG hH (c := 109) (by decide) (w := w) hp)) 115) (by rw [ow]; exact clv_RX12_84) ((LY.mp hL : LY (mpH h B a ((muP H 111 ((muP H 109 w p).1) ((muP H 109 w p).2)).2) ((muP H 111 ((muP H 109 w p).1) ((muP H 109 w p).2)).1) o l mo) B).1 51 (by decide)) (by decide) rfl rfl rfl (Nat.le_of_ble_eq_true rfl) (by rw [hr]; exact ⟨by decide, by decide⟩) (by rw [hr]; exact ⟨Nat.le_of_ble_eq_true rfl, Nat.le_of_ble_eq_true rfl⟩) ?_
  intro rv h' hp_
  rw [hp_.1, hp_.2]
  show AW V 0 0 (mpH h B a ((muP H 115 ((muP H 111 ((muP H 109 w p).1) ((muP H 109 w p).2)).1) ((muP H 111 ((muP H 109 w p).1) ((muP H 109 w p).2)).2)).2) ((muP H 115 ((muP H 111 ((muP H 109 w p).1) ((muP H 109 w p).2)).1) ((muP H 111 ((muP H 109 w p).1) ((muP H 109 w p).2)).2)).1) o l mo) 19 [(2, .int 2), (0, .ref (B + 51)), (1, .ref (gS V.1 (2 + 2)))] []
  refine a_iinc (v := (2 + 1)) (L' := [(2, .int (2 + 1)), (0, .ref (B + 51)), (1, .ref (gS V.1 (2 + 2)))]) hb dX12_spells_19 0 rfl rfl (by rw [hml]; decide) rfl ?_
  refine a_goto hb 2 dX12_spells_22 (by decide) ?_
  rw [show ((2 : Int32) + 1) = 3 from by decide]
  show AW V 0 0 (mpH h B a ((muP H 115 ((muP H 111 ((muP H 109 w p).1) ((muP H 109 w p).2)).1) ((muP H 111 ((muP H 109 w p).1) ((muP H 109 w p).2)).2)).2) ((muP H 115 ((muP H 111 ((muP H 109 w p).1) ((muP H 109 w p).2)).1) ((muP H 111 ((muP H 109 w p).1) ((muP H 109 w p).2)).2)).1) o l mo) 2 [(2, .int 3), (0, .ref (B + 51)), (1, .ref (gS V.1 (2 + 2)))] []
  refine a_iload_n hb dX12_spells_2 rfl 0 rfl ?_
  refine a_aload_n hb dX12_spells_3 rfl 2 rfl ?_
  refine a_callT (i := 2) hb (by decide) dX12_spells_4 (by rw [hg]; exact j_length g (mpH h B a ((muP H 115 ((muP H 111 ((muP H 109 w p).1) ((muP H 109 w p).2)).1) ((muP H 111 ((muP H 109 w p).1) ((muP H 109 w p).2)).2)).2) ((muP H 115 ((muP H 111 ((muP H 109 w p).1) ((muP H 109 w p).2)).1) ((muP H 111 ((muP H 109 w p).1) ((muP H 109 w p).2)).2)).1) o l mo) 2 (by decide)) (by rw [ow]; exact clv_RX12_75) rfl rfl rfl (Nat.le_of_ble_eq_true rfl) (by rw [hr]; exact ⟨by decide, by decide⟩) (by rw [hr]; exact ⟨Nat.le_of_ble_eq_true rfl, Nat.le_of_ble_eq_true rfl⟩) ?_
  intro rv h' hp_
  rw [hp_.1, hp_.2, show Int32.ofNat (aw_tl.getD 2 0) = 5 from by decide]
  show AW V 0 0 (mpH h B a ((muP H 115 ((muP H 111 ((muP H 109 w p).1) ((muP H 109 w p).2)).1) ((muP H 111 ((muP H 109 w p).1) ((muP H 109 w p).2)).2)).2) ((muP H 115 ((muP H 111 ((muP H 109 w p).1) ((muP H 109 w p).2)).1) ((muP H 111 ((muP H 109 w p).1) ((muP H 109 w p).2)).2)).1) o l mo) 7 [(2, .int 3), (0, .ref (B + 51)), (1, .ref (gS V.1 (2 + 2)))] [.int 5, .int 3]
  refine a_icmp_ge hb 25 dX12_spells_7 (by decide) (fun c7_0 => absurd c7_0 (by decide)) (fun c7_0 => ?_)
  refine a_aload_n hb dX12_spells_10 rfl 1 rfl ?_
  refine a_aload_n hb dX12_spells_11 rfl 2 rfl ?_
  refine a_iload_n hb dX12_spells_12 rfl 0 rfl ?_
  refine a_callT (i := 2) hb (by decide) dX12_spells_13 (by rw [hg]; exact j_char g (mpH h B a ((muP H 115 ((muP H 111 ((muP H 109 w p).1) ((muP H 109 w p).2)).1) ((muP H 111 ((muP H 109 w p).1) ((muP H 109 w p).2)).2)).2) ((muP H 115 ((muP H 111 ((muP H 109 w p).1) ((muP H 109 w p).2)).1) ((muP H 111 ((muP H 109 w p).1) ((muP H 109 w p).2)).2)).1) o l mo) 2 (by decide) 3 3 ⟨by decide, by decide⟩ (by decide) (by decide) (by decide) rfl) (by rw [ow]; exact clv_RX12_80) rfl rfl rfl (Nat.le_of_ble_eq_true rfl) (by rw [hr]; exact ⟨by decide, by decide⟩) (by rw [hr]; exact ⟨Nat.le_of_ble_eq_true rfl, Nat.le_of_ble_eq_true rfl⟩) ?_
  intro rv h' hp_
  rw [hp_.1, hp_.2, show (aw_tb.getD 2 []).getD 3 0 = 116 from by decide]
  show AW V 0 0 (mpH h B a ((muP H 115 ((muP H 111 ((muP H 109 w p).1) ((muP H 109 w p).2)).1) ((muP H 111 ((muP H 109 w p).1) ((muP H 109 w p).2)).2)).2) ((muP H 115 ((muP H 111 ((muP H 109 w p).1) ((muP H 109 w p).2)).1) ((muP H 111 ((muP H 109 w p).1) ((muP H 109 w p).2)).2)).1) o l mo) 16 [(2, .int 3), (0, .ref (B + 51)), (1, .ref (gS V.1 (2 + 2)))] [.int 116, .ref (B + 51)]
  refine a_callV hb dX12_spells_16 (by rw [hg]; exact m_must g h B hL a n ha hac he hn H hH ((muP H 115 ((muP H 111 ((muP H 109 w p).1) ((muP H 109 w p).2)).1) ((muP H 111 ((muP H 109 w p).1) ((muP H 109 w p).2)).2)).2) o ((muP H 115 ((muP H 111 ((muP H 109 w p).1) ((muP H 109 w p).2)).1) ((muP H 111 ((muP H 109 w p).1) ((muP H 109 w p).2)).2)).1) l mo (muG hH (c := 115) (by decide) (w := (muP H 111 ((muP H 109 w p).1) ((muP H 109 w p).2)).1) (muG hH (c := 111) (by decide) (w := (muP H 109 w p).1) (muG hH (c := 109) (by decide) (w := w) hp))) 116) (by rw [ow]; exact clv_RX12_84) ((LY.mp hL : LY (mpH h B a ((muP H 115 ((muP H 111 ((muP H 109 w p).1) ((muP H 109 w p).2)).1) ((muP H 111 ((muP H 109 w p).1) ((muP H 109 w p).2)).2)).2) ((muP H 115 ((muP H 111 ((muP H 109 w p).1) ((muP H 109 w p).2)).1) ((muP H 111 ((muP H 109 w p).1) ((muP H 109 w p).2)).2)).1) o l mo) B).1 51 (by decide)) (by decide) rfl rfl rfl (Nat.le_of_ble_eq_true rfl) (by rw [hr]; exact ⟨by decide, by decide⟩) (by rw [hr]; exact ⟨Nat.le_of_ble_eq_true rfl, Nat.le_of_ble_eq_true rfl⟩) ?_
  intro rv h' hp_
  rw [hp_.1, hp_.2]
  show AW V 0 0 (mpH h B a ((muP H 116 ((muP H 115 ((muP H 111 ((muP H 109 w p).1) ((muP H 109 w p).2)).1) ((muP H 111 ((muP H 109 w p).1) ((muP H 109 w p).2)).2)).1) ((muP H 115 ((muP H 111 ((muP H 109 w p).1) ((muP H 109 w p).2)).1) ((muP H 111 ((muP H 109 w p).1) ((muP H 109 w p).2)).2)).2)).2) ((muP H 116 ((muP H 115 ((muP H 111 ((muP H 109 w p).1) ((muP H 109 w p).2)).1) ((muP H 111 ((muP H 109 w p).1) ((muP H 109 w p).2)).2)).1) ((muP H 115 ((muP H 111 ((muP H 109 w p).1) ((muP H 109 w p).2)).1) ((muP H 111 ((muP H 109 w p).1) ((muP H 109 w p).2)).2)).2)).1) o l mo) 19 [(2, .int 3), (0, .ref (B + 51)), (1, .ref (gS V.1 (2 + 2)))] []
  refine a_iinc (v := (3 + 1)) (L' := [(2, .int (3 + 1)), (0, .ref (B + 51)), (1, .ref (gS V.1 (2 + 2)))]) hb dX12_spells_19 0 rfl rfl (by rw [hml]; decide) rfl ?_
  refine a_goto hb 2 dX12_spells_22 (by decide) ?_
  rw [show ((3 : Int32) + 1) = 4 from by decide]
  show AW V 0 0 (mpH h B a ((muP H 116 ((muP H 115 ((muP H 111 ((muP H 109 w p).1) ((muP H 109 w p).2)).1) ((muP H 111 ((muP H 109 w p).1) ((muP H 109 w p).2)).2)).1) ((muP H 115 ((muP H 111 ((muP H 109 w p).1) ((muP H 109 w p).2)).1) ((muP H 111 ((muP H 109 w p).1) ((muP H 109 w p).2)).2)).2)).2) ((muP H 116 ((muP H 115 ((muP H 111 ((muP H 109 w p).1) ((muP H 109 w p).2)).1) ((muP H 111 ((muP H 109 w p).1) ((muP H 109 w p).2)).2)).1) ((muP H 115 ((muP H 111 ((muP H 109 w p).1) ((muP H 109 w p).2)).1) ((muP H 111 ((muP H 109 w p).1) ((muP H 109 w p).2)).2)).2)).1) o l mo) 2 [(2, .int 4), (0, .ref (B + 51)), (1, .ref (gS V.1 (2 + 2)))] []
  refine a_iload_n hb dX12_spells_2 rfl 0 rfl ?_
  refine a_aload_n hb dX12_spells_3 rfl 2 rfl ?_
  refine a_callT (i := 2) hb (by decide) dX12_spells_4 (by rw [hg]; exact j_length g (mpH h B a ((muP H 116 ((muP H 115 ((muP H 111 ((muP H 109 w p).1) ((muP H 109 w p).2)).1) ((muP H 111 ((muP H 109 w p).1) ((muP H 109 w p).2)).2)).1) ((muP H 115 ((muP H 111 ((muP H 109 w p).1) ((muP H 109 w p).2)).1) ((muP H 111 ((muP H 109 w p).1) ((muP H 109 w p).2)).2)).2)).2) ((muP H 116 ((muP H 115 ((muP H 111 ((muP H 109 w p).1) ((muP H 109 w p).2)).1) ((muP H 111 ((muP H 109 w p).1) ((muP H 109 w p).2)).2)).1) ((muP H 115 ((muP H 111 ((muP H 109 w p).1) ((muP H 109 w p).2)).1) ((muP H 111 ((muP H 109 w p).1) ((muP H 109 w p).2)).2)).2)).1) o l mo) 2 (by decide)) (by rw [ow]; exact clv_RX12_75) rfl rfl rfl (Nat.le_of_ble_eq_true rfl) (by rw [hr]; exact ⟨by decide, by decide⟩) (by rw [hr]; exact ⟨Nat.le_of_ble_eq_true rfl, Nat.le_of_ble_eq_true rfl⟩) ?_
  intro rv h' hp_
  rw [hp_.1, hp_.2, show Int32.ofNat (aw_tl.getD 2 0) = 5 from by decide]
  show AW V 0 0 (mpH h B a ((muP H 116 ((muP H 115 ((muP H 111 ((muP H 109 w p).1) ((muP H 109 w p).2)).1) ((muP H 111 ((muP H 109 w p).1) ((muP H 109 w p).2)).2)).1) ((muP H 115 ((muP H 111 ((muP H 109 w p).1) ((muP H 109 w p).2)).1) ((muP H 111 ((muP H 109 w p).1) ((muP H 109 w p).2)).2)).2)).2) ((muP H 116 ((muP H 115 ((muP H 111 ((muP H 109 w p).1) ((muP H 109 w p).2)).1) ((muP H 111 ((muP H 109 w p).1) ((muP H 109 w p).2)).2)).1) ((muP H 115 ((muP H 111 ((muP H 109 w p).1) ((muP H 109 w p).2)).1) ((muP H 111 ((muP H 109 w p).1) ((muP H 109 w p).2)).2)).2)).1) o l mo) 7 [(2, .int 4), (0, .ref (B + 51)), (1, .ref (gS V.1 (2 + 2)))] [.int 5, .int 4]
  refine a_icmp_ge hb 25 dX12_spells_7 (by decide) (fun c7_0 => absurd c7_0 (by decide)) (fun c7_0 => ?_)
  refine a_aload_n hb dX12_spells_10 rfl 1 rfl ?_
  refine a_aload_n hb dX12_spells_11 rfl 2 rfl ?_
  refine a_iload_n hb dX12_spells_12 rfl 0 rfl ?_
  refine a_callT (i := 2) hb (by decide) dX12_spells_13 (by rw [hg]; exact j_char g (mpH h B a ((muP H 116 ((muP H 115 ((muP H 111 ((muP H 109 w p).1) ((muP H 109 w p).2)).1) ((muP H 111 ((muP H 109 w p).1) ((muP H 109 w p).2)).2)).1) ((muP H 115 ((muP H 111 ((muP H 109 w p).1) ((muP H 109 w p).2)).1) ((muP H 111 ((muP H 109 w p).1) ((muP H 109 w p).2)).2)).2)).2) ((muP H 116 ((muP H 115 ((muP H 111 ((muP H 109 w p).1) ((muP H 109 w p).2)).1) ((muP H 111 ((muP H 109 w p).1) ((muP H 109 w p).2)).2)).1) ((muP H 115 ((muP H 111 ((muP H 109 w p).1) ((muP H 109 w p).2)).1) ((muP H 111 ((muP H 109 w p).1) ((muP H 109 w p).2)).2)).2)).1) o l mo) 2 (by decide) 4 4 ⟨by decide, by decide⟩ (by decide) (by decide) (by decide) rfl) (by rw [ow]; exact clv_RX12_80) rfl rfl rfl (Nat.le_of_ble_eq_true rfl) (by rw [hr]; exact ⟨by decide, by decide⟩) (by rw [hr]; exact ⟨Nat.le_of_ble_eq_true rfl, Nat.le_of_ble_eq_true rfl⟩) ?_
  intro rv h' hp_
  rw [hp_.1, hp_.2, show (aw_tb.getD 2 []).getD 4 0 = 32 from by decide]
  show AW V 0 0 (mpH h B a ((muP H 116 ((muP H 115 ((muP H 111 ((muP H 109 w p).1) ((muP H 109 w p).2)).1) ((muP H 111 ((muP H 109 w p).1) ((muP H 109 w p).2)).2)).1) ((muP H 115 ((muP H 111 ((muP H 109 w p).1) ((muP H 109 w p).2)).1) ((muP H 111 ((muP H 109 w p).1) ((muP H 109 w p).2)).2)).2)).2) ((muP H 116 ((muP H 115 ((muP H 111 ((muP H 109 w p).1) ((muP H 109 w p).2)).1) ((muP H 111 ((muP H 109 w p).1) ((muP H 109 w p).2)).2)).1) ((muP H 115 ((muP H 111 ((muP H 109 w p).1) ((muP H 109 w p).2)).1) ((muP H 111 ((muP H 109 w p).1) ((muP H 109 w p).2)).2)).2)).1) o l mo) 16 [(2, .int 4), (0, .ref (B + 51)), (1, .ref (gS V.1 (2 + 2)))] [.int 32, .ref (B + 51)]
  refine a_callV hb dX12_spells_16 (by rw [hg]; exact m_must g h B hL a n ha hac he hn H hH ((muP H 116 ((muP H 115 ((muP H 111 ((muP H 109 w p).1) ((muP H 109 w p).2)).1) ((muP H 111 ((muP H 109 w p).1) ((muP H 109 w p).2)).2)).1) ((muP H 115 ((muP H 111 ((muP H 109 w p).1) ((muP H 109 w p).2)).1) ((muP H 111 ((muP H 109 w p).1) ((muP H 109 w p).2)).2)).2)).2) o ((muP H 116 ((muP H 115 ((muP H 111 ((muP H 109 w p).1) ((muP H 109 w p).2)).1) ((muP H 111 ((muP H 109 w p).1) ((muP H 109 w p).2)).2)).1) ((muP H 115 ((muP H 111 ((muP H 109 w p).1) ((muP H 109 w p).2)).1) ((muP H 111 ((muP H 109 w p).1) ((muP H 109 w p).2)).2)).2)).1) l mo (muG hH (c := 116) (by decide) (w := (muP H 115 ((muP H 111 ((muP H 109 w p).1) ((muP H 109 w p).2)).1) ((muP H 111 ((muP H 109 w p).1) ((muP H 109 w p).2)).2)).1) (muG hH (c := 115) (by decide) (w := (muP H 111 ((muP H 109 w p).1) ((muP H 109 w p).2)).1) (muG hH (c := 111) (by decide) (w := (muP H 109 w p).1) (muG hH (c := 109) (by decide) (w := w) hp)))) 32) (by rw [ow]; exact clv_RX12_84) ((LY.mp hL : LY (mpH h B a ((muP H 116 ((muP H 115 ((muP H 111 ((muP H 109 w p).1) ((muP H 109 w p).2)).1) ((muP H 111 ((muP H 109 w p).1) ((muP H 109 w p).2)).2)).1) ((muP H 115 ((muP H 111 ((muP H 109 w p).1) ((muP H 109 w p).2)).1) ((muP H 111 ((muP H 109 w p).1) ((muP H 109 w p).2)).2)).2)).2) ((muP H 116 ((muP H 115 ((muP H 111 ((muP H 109 w p).1) ((muP H 109 w p).2)).1) ((muP H 111 ((muP H 109 w p).1) ((muP H 109 w p).2)).2)).1) ((muP H 115 ((muP H 111 ((muP H 109 w p).1) ((muP H 109 w p).2)).1) ((muP H 111 ((muP H 109 w p).1) ((muP H 109 w p).2)).2)).2)).1) o l mo) B).1 51 (by decide)) (by decide) rfl rfl rfl (Nat.le_of_ble_eq_true rfl) (by rw [hr]; exact ⟨by decide, by decide⟩) (by rw [hr]; exact ⟨Nat.le_of_ble_eq_true rfl, Nat.le_of_ble_eq_true rfl⟩) ?_
  intro rv h' hp_
  rw [hp_.1, hp_.2]
  show AW V 0 0 (mpH h B a ((muP H 32 ((muP H 116 ((muP H 115 ((muP H 111 ((muP H 109 w p).1) ((muP H 109 w p).2)).1) ((muP H 111 ((muP H 109 w p).1) ((muP H 109 w p).2)).2)).1) ((muP H 115 ((muP H 111 ((muP H 109 w p).1) ((muP H 109 w p).2)).1) ((muP H 111 ((muP H 109 w p).1) ((muP H 109 w p).2)).2)).2)).1) ((muP H 116 ((muP H 115 ((muP H 111 ((muP H 109 w p).1) ((muP H 109 w p).2)).1) ((muP H 111 ((muP H 109 w p).1) ((muP H 109 w p).2)).2)).1) ((muP H 115 ((muP H 111 ((muP H 109 w p).1) ((muP H 109 w p).2)).1) ((muP H 111 ((muP H 109 w p).1) ((muP H 109 w p).2)).2)).2)).2)).2) ((muP H 32 ((muP H 116 ((muP H 115 ((muP H 111 ((muP H 109 w p).1) ((muP H 109 w p).2)).1) ((muP H 111 ((muP H 109 w p).1) ((muP H 109 w p).2)).2)).1) ((muP H 115 ((muP H 111 ((muP H 109 w p).1) ((muP H 109 w p).2)).1) ((muP H 111 ((muP H 109 w p).1) ((muP H 109 w p).2)).2)).2)).1) ((muP H 116 ((muP H 115 ((muP H 111 ((muP H 109 w p).1) ((muP H 109 w p).2)).1) ((muP H 111 ((muP H 109 w p).1) ((muP H 109 w p).2)).2)).1) ((muP H 115 ((muP H 111 ((muP H 109 w p).1) ((muP H 109 w p).2)).1) ((muP H 111 ((muP H 109 w p).1) ((muP H 109 w p).2)).2)).2)).2)).1) o l mo) 19 [(2, .int 4), (0, .ref (B + 51)), (1, .ref (gS V.1 (2 + 2)))] []
  refine a_iinc (v := (4 + 1)) (L' := [(2, .int (4 + 1)), (0, .ref (B + 51)), (1, .ref (gS V.1 (2 + 2)))]) hb dX12_spells_19 0 rfl rfl (by rw [hml]; decide) rfl ?_
  refine a_goto hb 2 dX12_spells_22 (by decide) ?_
  rw [show ((4 : Int32) + 1) = 5 from by decide]
  show AW V 0 0 (mpH h B a ((muP H 32 ((muP H 116 ((muP H 115 ((muP H 111 ((muP H 109 w p).1) ((muP H 109 w p).2)).1) ((muP H 111 ((muP H 109 w p).1) ((muP H 109 w p).2)).2)).1) ((muP H 115 ((muP H 111 ((muP H 109 w p).1) ((muP H 109 w p).2)).1) ((muP H 111 ((muP H 109 w p).1) ((muP H 109 w p).2)).2)).2)).1) ((muP H 116 ((muP H 115 ((muP H 111 ((muP H 109 w p).1) ((muP H 109 w p).2)).1) ((muP H 111 ((muP H 109 w p).1) ((muP H 109 w p).2)).2)).1) ((muP H 115 ((muP H 111 ((muP H 109 w p).1) ((muP H 109 w p).2)).1) ((muP H 111 ((muP H 109 w p).1) ((muP H 109 w p).2)).2)).2)).2)).2) ((muP H 32 ((muP H 116 ((muP H 115 ((muP H 111 ((muP H 109 w p).1) ((muP H 109 w p).2)).1) ((muP H 111 ((muP H 109 w p).1) ((muP H 109 w p).2)).2)).1) ((muP H 115 ((muP H 111 ((muP H 109 w p).1) ((muP H 109 w p).2)).1) ((muP H 111 ((muP H 109 w p).1) ((muP H 109 w p).2)).2)).2)).1) ((muP H 116 ((muP H 115 ((muP H 111 ((muP H 109 w p).1) ((muP H 109 w p).2)).1) ((muP H 111 ((muP H 109 w p).1) ((muP H 109 w p).2)).2)).1) ((muP H 115 ((muP H 111 ((muP H 109 w p).1) ((muP H 109 w p).2)).1) ((muP H 111 ((muP H 109 w p).1) ((muP H 109 w p).2)).2)).2)).2)).1) o l mo) 2 [(2, .int 5), (0, .ref (B + 51)), (1, .ref (gS V.1 (2 + 2)))] []
  refine a_iload_n hb dX12_spells_2 rfl 0 rfl ?_
  refine a_aload_n hb dX12_spells_3 rfl 2 rfl ?_
  refine a_callT (i := 2) hb (by decide) dX12_spells_4 (by rw [hg]; exact j_length g (mpH h B a ((muP H 32 ((muP H 116 ((muP H 115 ((muP H 111 ((muP H 109 w p).1) ((muP H 109 w p).2)).1) ((muP H 111 ((muP H 109 w p).1) ((muP H 109 w p).2)).2)).1) ((muP H 115 ((muP H 111 ((muP H 109 w p).1) ((muP H 109 w p).2)).1) ((muP H 111 ((muP H 109 w p).1) ((muP H 109 w p).2)).2)).2)).1) ((muP H 116 ((muP H 115 ((muP H 111 ((muP H 109 w p).1) ((muP H 109 w p).2)).1) ((muP H 111 ((muP H 109 w p).1) ((muP H 109 w p).2)).2)).1) ((muP H 115 ((muP H 111 ((muP H 109 w p).1) ((muP H 109 w p).2)).1) ((muP H 111 ((muP H 109 w p).1) ((muP H 109 w p).2)).2)).2)).2)).2) ((muP H 32 ((muP H 116 ((muP H 115 ((muP H 111 ((muP H 109 w p).1) ((muP H 109 w p).2)).1) ((muP H 111 ((muP H 109 w p).1) ((muP H 109 w p).2)).2)).1) ((muP H 115 ((muP H 111 ((muP H 109 w p).1) ((muP H 109 w p).2)).1) ((muP H 111 ((muP H 109 w p).1) ((muP H 109 w p).2)).2)).2)).1) ((muP H 116 ((muP H 115 ((muP H 111 ((muP H 109 w p).1) ((muP H 109 w p).2)).1) ((muP H 111 ((muP H 109 w p).1) ((muP H 109 w p).2)).2)).1) ((muP H 115 ((muP H 111 ((muP H 109 w p).1) ((muP H 109 w p).2)).1) ((muP H 111 ((muP H 109 w p).1) ((muP H 109 w p).2)).2)).2)).2)).1) o l mo) 2 (by decide)) (by rw [ow]; exact clv_RX12_75) rfl rfl rfl (Nat.le_of_ble_eq_true rfl) (by rw [hr]; exact ⟨by decide, by decide⟩) (by rw [hr]; exact ⟨Nat.le_of_ble_eq_true rfl, Nat.le_of_ble_eq_true rfl⟩) ?_
  intro rv h' hp_
  rw [hp_.1, hp_.2, show Int32.ofNat (aw_tl.getD 2 0) = 5 from by decide]
  show AW V 0 0 (mpH h B a ((muP H 32 ((muP H 116 ((muP H 115 ((muP H 111 ((muP H 109 w p).1) ((muP H 109 w p).2)).1) ((muP H 111 ((muP H 109 w p).1) ((muP H 109 w p).2)).2)).1) ((muP H 115 ((muP H 111 ((muP H 109 w p).1) ((muP H 109 w p).2)).1) ((muP H 111 ((muP H 109 w p).1) ((muP H 109 w p).2)).2)).2)).1) ((muP H 116 ((muP H 115 ((muP H 111 ((muP H 109 w p).1) ((muP H 109 w p).2)).1) ((muP H 111 ((muP H 109 w p).1) ((muP H 109 w p).2)).2)).1) ((muP H 115 ((muP H 111 ((muP H 109 w p).1) ((muP H 109 w p).2)).1) ((muP H 111 ((muP H 109 w p).1) ((muP H 109 w p).2)).2)).2)).2)).2) ((muP H 32 ((muP H 116 ((muP H 115 ((muP H 111 ((muP H 109 w p).1) ((muP H 109 w p).2)).1) ((muP H 111 ((muP H 109 w p).1) ((muP H 109 w p).2)).2)).1) ((muP H 115 ((muP H 111 ((muP H 109 w p).1) ((muP H 109 w p).2)).1) ((muP H 111 ((muP H 109 w p).1) ((muP H 109 w p).2)).2)).2)).1) ((muP H 116 ((muP H 115 ((muP H 111 ((muP H 109 w p).1) ((muP H 109 w p).2)).1) ((muP H 111 ((muP H 109 w p).1) ((muP H 109 w p).2)).2)).1) ((muP H 115 ((muP H 111 ((muP H 109 w p).1) ((muP H 109 w p).2)).1) ((muP H 111 ((muP H 109 w p).1) ((muP H 109 w p).2)).2)).2)).2)).1) o l mo) 7 [(2, .int 5), (0, .ref (B + 51)), (1, .ref (gS V.1 (2 + 2)))] [.int 5, .int 5]
  refine a_icmp_ge hb 25 dX12_spells_7 (by decide) (fun c7_0 => ?_) (fun c7_0 => absurd (by decide) c7_0)
  exact a_return hb hz dX12_spells_25 hret (by rw [hr]; exact Nat.le_of_ble_eq_true rfl) (by rw [hr]; exact Nat.le_of_ble_eq_true rfl) (⟨rfl, rfl⟩)
set_option maxRecDepth 100000 in
theorem m_spells3 (g : GG) (h : AH) (B : Nat) (hL : LY h B) (a n : Nat) (ha : a < 5) (hac : hI h (B + 51) 4 = nI a) (he : hI h (B + 51) 6 = nI n) (hn : n ≤ 120) (H : Nat → Int32) (hH : H = hrT (fun i => hI h (B + 52) (10 + i)) n) (p o : Nat) (w : Bool) (l : List Int32) (mo : Int32) (hp : p ≤ n) : AM g 5 0 0 mX12_spells [.ref (B + 51), .ref (gS g (2 + 3))] (mpH h B a p w o l mo) (fun rv h' => rv = none ∧ h' = (mpH h B a ((spS H wdE w p).2) ((spS H wdE w p).1) o l mo)) := by
  refine AM.of [(0, .ref (B + 51)), (1, .ref (gS g (2 + 3)))] (by decide) (Nat.le_of_ble_eq_true rfl) rfl ?_
  intro V hV
  have hb : V.2.1.2.1 = cX12_spells := by subst hV; rfl
  have ow : V.2.1.1.cls = RX12 := by subst hV; rfl
  have hr : V.2.2.1 = aw_rm 5 0 0 := by subst hV; rfl
  have hz : V.2.2.2 = aw_Z V.1 (fun rv h' => rv = none ∧ h' = (mpH h B a ((spS H wdE w p).2) ((spS H wdE w p).1) o l mo)) V.2.2.1 := by subst hV; rfl
  have hg : V.1 = g := by subst hV; rfl
  have hret : V.2.1.2.2.2 = none := by subst hV; rfl
  have hml : V.2.1.2.2.1 = 3 := by subst hV; rfl
  clear hV
  rw [← hg]
  refine a_iconst (v := 0) hb dX12_spells_0 (by decide) ?_
  refine a_istore_n (L' := [(2, .int 0), (0, .ref (B + 51)), (1, .ref (gS V.1 (2 + 3)))]) hb dX12_spells_1 rfl (by rw [hml]; decide) rfl ?_
  refine a_iload_n hb dX12_spells_2 rfl 0 rfl ?_
  refine a_aload_n hb dX12_spells_3 rfl 2 rfl ?_
  refine a_callT (i := 3) hb (by decide) dX12_spells_4 (by rw [hg]; exact j_length g (mpH h B a p w o l mo) 3 (by decide)) (by rw [ow]; exact clv_RX12_75) rfl rfl rfl (Nat.le_of_ble_eq_true rfl) (by rw [hr]; exact ⟨by decide, by decide⟩) (by rw [hr]; exact ⟨Nat.le_of_ble_eq_true rfl, Nat.le_of_ble_eq_true rfl⟩) ?_
  intro rv h' hp_
  rw [hp_.1, hp_.2, show Int32.ofNat (aw_tl.getD 3 0) = 5 from by decide]
  show AW V 0 0 (mpH h B a p w o l mo) 7 [(2, .int 0), (0, .ref (B + 51)), (1, .ref (gS V.1 (2 + 3)))] [.int 5, .int 0]
  refine a_icmp_ge hb 25 dX12_spells_7 (by decide) (fun c7_0 => absurd c7_0 (by decide)) (fun c7_0 => ?_)
  refine a_aload_n hb dX12_spells_10 rfl 1 rfl ?_
  refine a_aload_n hb dX12_spells_11 rfl 2 rfl ?_
  refine a_iload_n hb dX12_spells_12 rfl 0 rfl ?_
  refine a_callT (i := 3) hb (by decide) dX12_spells_13 (by rw [hg]; exact j_char g (mpH h B a p w o l mo) 3 (by decide) 0 0 ⟨by decide, by decide⟩ (by decide) (by decide) (by decide) rfl) (by rw [ow]; exact clv_RX12_80) rfl rfl rfl (Nat.le_of_ble_eq_true rfl) (by rw [hr]; exact ⟨by decide, by decide⟩) (by rw [hr]; exact ⟨Nat.le_of_ble_eq_true rfl, Nat.le_of_ble_eq_true rfl⟩) ?_
  intro rv h' hp_
  rw [hp_.1, hp_.2, show (aw_tb.getD 3 []).getD 0 0 = 101 from by decide]
  show AW V 0 0 (mpH h B a p w o l mo) 16 [(2, .int 0), (0, .ref (B + 51)), (1, .ref (gS V.1 (2 + 3)))] [.int 101, .ref (B + 51)]
  refine a_callV hb dX12_spells_16 (by rw [hg]; exact m_must g h B hL a n ha hac he hn H hH p o w l mo hp 101) (by rw [ow]; exact clv_RX12_84) ((LY.mp hL : LY (mpH h B a p w o l mo) B).1 51 (by decide)) (by decide) rfl rfl rfl (Nat.le_of_ble_eq_true rfl) (by rw [hr]; exact ⟨by decide, by decide⟩) (by rw [hr]; exact ⟨Nat.le_of_ble_eq_true rfl, Nat.le_of_ble_eq_true rfl⟩) ?_
  intro rv h' hp_
  rw [hp_.1, hp_.2]
  show AW V 0 0 (mpH h B a ((muP H 101 w p).2) ((muP H 101 w p).1) o l mo) 19 [(2, .int 0), (0, .ref (B + 51)), (1, .ref (gS V.1 (2 + 3)))] []
  refine a_iinc (v := (0 + 1)) (L' := [(2, .int (0 + 1)), (0, .ref (B + 51)), (1, .ref (gS V.1 (2 + 3)))]) hb dX12_spells_19 0 rfl rfl (by rw [hml]; decide) rfl ?_
  refine a_goto hb 2 dX12_spells_22 (by decide) ?_
  rw [show ((0 : Int32) + 1) = 1 from by decide]
  show AW V 0 0 (mpH h B a ((muP H 101 w p).2) ((muP H 101 w p).1) o l mo) 2 [(2, .int 1), (0, .ref (B + 51)), (1, .ref (gS V.1 (2 + 3)))] []
  refine a_iload_n hb dX12_spells_2 rfl 0 rfl ?_
  refine a_aload_n hb dX12_spells_3 rfl 2 rfl ?_
  refine a_callT (i := 3) hb (by decide) dX12_spells_4 (by rw [hg]; exact j_length g (mpH h B a ((muP H 101 w p).2) ((muP H 101 w p).1) o l mo) 3 (by decide)) (by rw [ow]; exact clv_RX12_75) rfl rfl rfl (Nat.le_of_ble_eq_true rfl) (by rw [hr]; exact ⟨by decide, by decide⟩) (by rw [hr]; exact ⟨Nat.le_of_ble_eq_true rfl, Nat.le_of_ble_eq_true rfl⟩) ?_
  intro rv h' hp_
  rw [hp_.1, hp_.2, show Int32.ofNat (aw_tl.getD 3 0) = 5 from by decide]
  show AW V 0 0 (mpH h B a ((muP H 101 w p).2) ((muP H 101 w p).1) o l mo) 7 [(2, .int 1), (0, .ref (B + 51)), (1, .ref (gS V.1 (2 + 3)))] [.int 5, .int 1]
  refine a_icmp_ge hb 25 dX12_spells_7 (by decide) (fun c7_0 => absurd c7_0 (by decide)) (fun c7_0 => ?_)
  refine a_aload_n hb dX12_spells_10 rfl 1 rfl ?_
  refine a_aload_n hb dX12_spells_11 rfl 2 rfl ?_
  refine a_iload_n hb dX12_spells_12 rfl 0 rfl ?_
  refine a_callT (i := 3) hb (by decide) dX12_spells_13 (by rw [hg]; exact j_char g (mpH h B a ((muP H 101 w p).2) ((muP H 101 w p).1) o l mo) 3 (by decide) 1 1 ⟨by decide, by decide⟩ (by decide) (by decide) (by decide) rfl) (by rw [ow]; exact clv_RX12_80) rfl rfl rfl (Nat.le_of_ble_eq_true rfl) (by rw [hr]; exact ⟨by decide, by decide⟩) (by rw [hr]; exact ⟨Nat.le_of_ble_eq_true rfl, Nat.le_of_ble_eq_true rfl⟩) ?_
  intro rv h' hp_
  rw [hp_.1, hp_.2, show (aw_tb.getD 3 []).getD 1 0 = 97 from by decide]
  show AW V 0 0 (mpH h B a ((muP H 101 w p).2) ((muP H 101 w p).1) o l mo) 16 [(2, .int 1), (0, .ref (B + 51)), (1, .ref (gS V.1 (2 + 3)))] [.int 97, .ref (B + 51)]
  refine a_callV hb dX12_spells_16 (by rw [hg]; exact m_must g h B hL a n ha hac he hn H hH ((muP H 101 w p).2) o ((muP H 101 w p).1) l mo (muG hH (c := 101) (by decide) (w := w) hp) 97) (by rw [ow]; exact clv_RX12_84) ((LY.mp hL : LY (mpH h B a ((muP H 101 w p).2) ((muP H 101 w p).1) o l mo) B).1 51 (by decide)) (by decide) rfl rfl rfl (Nat.le_of_ble_eq_true rfl) (by rw [hr]; exact ⟨by decide, by decide⟩) (by rw [hr]; exact ⟨Nat.le_of_ble_eq_true rfl, Nat.le_of_ble_eq_true rfl⟩) ?_
  intro rv h' hp_
  rw [hp_.1, hp_.2]
  show AW V 0 0 (mpH h B a ((muP H 97 ((muP H 101 w p).1) ((muP H 101 w p).2)).2) ((muP H 97 ((muP H 101 w p).1) ((muP H 101 w p).2)).1) o l mo) 19 [(2, .int 1), (0, .ref (B + 51)), (1, .ref (gS V.1 (2 + 3)))] []
  refine a_iinc (v := (1 + 1)) (L' := [(2, .int (1 + 1)), (0, .ref (B + 51)), (1, .ref (gS V.1 (2 + 3)))]) hb dX12_spells_19 0 rfl rfl (by rw [hml]; decide) rfl ?_
  refine a_goto hb 2 dX12_spells_22 (by decide) ?_
  rw [show ((1 : Int32) + 1) = 2 from by decide]
  show AW V 0 0 (mpH h B a ((muP H 97 ((muP H 101 w p).1) ((muP H 101 w p).2)).2) ((muP H 97 ((muP H 101 w p).1) ((muP H 101 w p).2)).1) o l mo) 2 [(2, .int 2), (0, .ref (B + 51)), (1, .ref (gS V.1 (2 + 3)))] []
  refine a_iload_n hb dX12_spells_2 rfl 0 rfl ?_
  refine a_aload_n hb dX12_spells_3 rfl 2 rfl ?_
  refine a_callT (i := 3) hb (by decide) dX12_spells_4 (by rw [hg]; exact j_length g (mpH h B a ((muP H 97 ((muP H 101 w p).1) ((muP H 101 w p).2)).2) ((muP H 97 ((muP H 101 w p).1) ((muP H 101 w p).2)).1) o l mo) 3 (by decide)) (by rw [ow]; exact clv_RX12_75) rfl rfl rfl (Nat.le_of_ble_eq_true rfl) (by rw [hr]; exact ⟨by decide, by decide⟩) (by rw [hr]; exact ⟨Nat.le_of_ble_eq_true rfl, Nat.le_of_ble_eq_true rfl⟩) ?_
  intro rv h' hp_
  rw [hp_.1, hp_.2, show Int32.ofNat (aw_tl.getD 3 0) = 5 from by decide]
  show AW V 0 0 (mpH h B a ((muP H 97 ((muP H 101 w p).1) ((muP H 101 w p).2)).2) ((muP H 97 ((muP H 101 w p).1) ((muP H 101 w p).2)).1) o l mo) 7 [(2, .int 2), (0, .ref (B + 51)), (1, .ref (gS V.1 (2 + 3)))] [.int 5, .int 2]
  refine a_icmp_ge hb 25 dX12_spells_7 (by decide) (fun c7_0 => absurd c7_0 (by decide)) (fun c7_0 => ?_)
  refine a_aload_n hb dX12_spells_10 rfl 1 rfl ?_
  refine a_aload_n hb dX12_spells_11 rfl 2 rfl ?_
  refine a_iload_n hb dX12_spells_12 rfl 0 rfl ?_
  refine a_callT (i := 3) hb (by decide) dX12_spells_13 (by rw [hg]; exact j_char g (mpH h B a ((muP H 97 ((muP H 101 w p).1) ((muP H 101 w p).2)).2) ((muP H 97 ((muP H 101 w p).1) ((muP H 101 w p).2)).1) o l mo) 3 (by decide) 2 2 ⟨by decide, by decide⟩ (by decide) (by decide) (by decide) rfl) (by rw [ow]; exact clv_RX12_80) rfl rfl rfl (Nat.le_of_ble_eq_true rfl) (by rw [hr]; exact ⟨by decide, by decide⟩) (by rw [hr]; exact ⟨Nat.le_of_ble_eq_true rfl, Nat.le_of_ble_eq_true rfl⟩) ?_
  intro rv h' hp_
  rw [hp_.1, hp_.2, show (aw_tb.getD 3 []).getD 2 0 = 115 from by decide]
  show AW V 0 0 (mpH h B a ((muP H 97 ((muP H 101 w p).1) ((muP H 101 w p).2)).2) ((muP H 97 ((muP H 101 w p).1) ((muP H 101 w p).2)).1) o l mo) 16 [(2, .int 2), (0, .ref (B + 51)), (1, .ref (gS V.1 (2 + 3)))] [.int 115, .ref (B + 51)]
  refine a_callV hb dX12_spells_16 (by rw [hg]; exact m_must g h B hL a n ha hac he hn H hH ((muP H 97 ((muP H 101 w p).1) ((muP H 101 w p).2)).2) o ((muP H 97 ((muP H 101 w p).1) ((muP H 101 w p).2)).1) l mo (muG hH (c := 97) (by decide) (w := (muP H 101 w p).1) (muG hH (c := 101) (by decide) (w := w) hp)) 115) (by rw [ow]; exact clv_RX12_84) ((LY.mp hL : LY (mpH h B a ((muP H 97 ((muP H 101 w p).1) ((muP H 101 w p).2)).2) ((muP H 97 ((muP H 101 w p).1) ((muP H 101 w p).2)).1) o l mo) B).1 51 (by decide)) (by decide) rfl rfl rfl (Nat.le_of_ble_eq_true rfl) (by rw [hr]; exact ⟨by decide, by decide⟩) (by rw [hr]; exact ⟨Nat.le_of_ble_eq_true rfl, Nat.le_of_ble_eq_true rfl⟩) ?_
  intro rv h' hp_
  rw [hp_.1, hp_.2]
  show AW V 0 0 (mpH h B a ((muP H 115 ((muP H 97 ((muP H 101 w p).1) ((muP H 101 w p).2)).1) ((muP H 97 ((muP H 101 w p).1) ((muP H 101 w p).2)).2)).2) ((muP H 115 ((muP H 97 ((muP H 101 w p).1) ((muP H 101 w p).2)).1) ((muP H 97 ((muP H 101 w p).1) ((muP H 101 w p).2)).2)).1) o l mo) 19 [(2, .int 2), (0, .ref (B + 51)), (1, .ref (gS V.1 (2 + 3)))] []
  refine a_iinc (v := (2 + 1)) (L' := [(2, .int (2 + 1)), (0, .ref (B + 51)), (1, .ref (gS V.1 (2 + 3)))]) hb dX12_spells_19 0 rfl rfl (by rw [hml]; decide) rfl ?_
  refine a_goto hb 2 dX12_spells_22 (by decide) ?_
  rw [show ((2 : Int32) + 1) = 3 from by decide]
  show AW V 0 0 (mpH h B a ((muP H 115 ((muP H 97 ((muP H 101 w p).1) ((muP H 101 w p).2)).1) ((muP H 97 ((muP H 101 w p).1) ((muP H 101 w p).2)).2)).2) ((muP H 115 ((muP H 97 ((muP H 101 w p).1) ((muP H 101 w p).2)).1) ((muP H 97 ((muP H 101 w p).1) ((muP H 101 w p).2)).2)).1) o l mo) 2 [(2, .int 3), (0, .ref (B + 51)), (1, .ref (gS V.1 (2 + 3)))] []
  refine a_iload_n hb dX12_spells_2 rfl 0 rfl ?_
  refine a_aload_n hb dX12_spells_3 rfl 2 rfl ?_
  refine a_callT (i := 3) hb (by decide) dX12_spells_4 (by rw [hg]; exact j_length g (mpH h B a ((muP H 115 ((muP H 97 ((muP H 101 w p).1) ((muP H 101 w p).2)).1) ((muP H 97 ((muP H 101 w p).1) ((muP H 101 w p).2)).2)).2) ((muP H 115 ((muP H 97 ((muP H 101 w p).1) ((muP H 101 w p).2)).1) ((muP H 97 ((muP H 101 w p).1) ((muP H 101 w p).2)).2)).1) o l mo) 3 (by decide)) (by rw [ow]; exact clv_RX12_75) rfl rfl rfl (Nat.le_of_ble_eq_true rfl) (by rw [hr]; exact ⟨by decide, by decide⟩) (by rw [hr]; exact ⟨Nat.le_of_ble_eq_true rfl, Nat.le_of_ble_eq_true rfl⟩) ?_
  intro rv h' hp_
  rw [hp_.1, hp_.2, show Int32.ofNat (aw_tl.getD 3 0) = 5 from by decide]
  show AW V 0 0 (mpH h B a ((muP H 115 ((muP H 97 ((muP H 101 w p).1) ((muP H 101 w p).2)).1) ((muP H 97 ((muP H 101 w p).1) ((muP H 101 w p).2)).2)).2) ((muP H 115 ((muP H 97 ((muP H 101 w p).1) ((muP H 101 w p).2)).1) ((muP H 97 ((muP H 101 w p).1) ((muP H 101 w p).2)).2)).1) o l mo) 7 [(2, .int 3), (0, .ref (B + 51)), (1, .ref (gS V.1 (2 + 3)))] [.int 5, .int 3]
  refine a_icmp_ge hb 25 dX12_spells_7 (by decide) (fun c7_0 => absurd c7_0 (by decide)) (fun c7_0 => ?_)
  refine a_aload_n hb dX12_spells_10 rfl 1 rfl ?_
  refine a_aload_n hb dX12_spells_11 rfl 2 rfl ?_
  refine a_iload_n hb dX12_spells_12 rfl 0 rfl ?_
  refine a_callT (i := 3) hb (by decide) dX12_spells_13 (by rw [hg]; exact j_char g (mpH h B a ((muP H 115 ((muP H 97 ((muP H 101 w p).1) ((muP H 101 w p).2)).1) ((muP H 97 ((muP H 101 w p).1) ((muP H 101 w p).2)).2)).2) ((muP H 115 ((muP H 97 ((muP H 101 w p).1) ((muP H 101 w p).2)).1) ((muP H 97 ((muP H 101 w p).1) ((muP H 101 w p).2)).2)).1) o l mo) 3 (by decide) 3 3 ⟨by decide, by decide⟩ (by decide) (by decide) (by decide) rfl) (by rw [ow]; exact clv_RX12_80) rfl rfl rfl (Nat.le_of_ble_eq_true rfl) (by rw [hr]; exact ⟨by decide, by decide⟩) (by rw [hr]; exact ⟨Nat.le_of_ble_eq_true rfl, Nat.le_of_ble_eq_true rfl⟩) ?_
  intro rv h' hp_
  rw [hp_.1, hp_.2, show (aw_tb.getD 3 []).getD 3 0 = 101 from by decide]
  show AW V 0 0 (mpH h B a ((muP H 115 ((muP H 97 ((muP H 101 w p).1) ((muP H 101 w p).2)).1) ((muP H 97 ((muP H 101 w p).1) ((muP H 101 w p).2)).2)).2) ((muP H 115 ((muP H 97 ((muP H 101 w p).1) ((muP H 101 w p).2)).1) ((muP H 97 ((muP H 101 w p).1) ((muP H 101 w p).2)).2)).1) o l mo) 16 [(2, .int 3), (0, .ref (B + 51)), (1, .ref (gS V.1 (2 + 3)))] [.int 101, .ref (B + 51)]
  refine a_callV hb dX12_spells_16 (by rw [hg]; exact m_must g h B hL a n ha hac he hn H hH ((muP H 115 ((muP H 97 ((muP H 101 w p).1) ((muP H 101 w p).2)).1) ((muP H 97 ((muP H 101 w p).1) ((muP H 101 w p).2)).2)).2) o ((muP H 115 ((muP H 97 ((muP H 101 w p).1) ((muP H 101 w p).2)).1) ((muP H 97 ((muP H 101 w p).1) ((muP H 101 w p).2)).2)).1) l mo (muG hH (c := 115) (by decide) (w := (muP H 97 ((muP H 101 w p).1) ((muP H 101 w p).2)).1) (muG hH (c := 97) (by decide) (w := (muP H 101 w p).1) (muG hH (c := 101) (by decide) (w := w) hp))) 101) (by rw [ow]; exact clv_RX12_84) ((LY.mp hL : LY (mpH h B a ((muP H 115 ((muP H 97 ((muP H 101 w p).1) ((muP H 101 w p).2)).1) ((muP H 97 ((muP H 101 w p).1) ((muP H 101 w p).2)).2)).2) ((muP H 115 ((muP H 97 ((muP H 101 w p).1) ((muP H 101 w p).2)).1) ((muP H 97 ((muP H 101 w p).1) ((muP H 101 w p).2)).2)).1) o l mo) B).1 51 (by decide)) (by decide) rfl rfl rfl (Nat.le_of_ble_eq_true rfl) (by rw [hr]; exact ⟨by decide, by decide⟩) (by rw [hr]; exact ⟨Nat.le_of_ble_eq_true rfl, Nat.le_of_ble_eq_true rfl⟩) ?_
  intro rv h' hp_
  rw [hp_.1, hp_.2]
  show AW V 0 0 (mpH h B a ((muP H 101 ((muP H 115 ((muP H 97 ((muP H 101 w p).1) ((muP H 101 w p).2)).1) ((muP H 97 ((muP H 101 w p).1) ((muP H 101 w p).2)).2)).1) ((muP H 115 ((muP H 97 ((muP H 101 w p).1) ((muP H 101 w p).2)).1) ((muP H 97 ((muP H 101 w p).1) ((muP H 101 w p).2)).2)).2)).2) ((muP H 101 ((muP H 115 ((muP H 97 ((muP H 101 w p).1) ((muP H 101 w p).2)).1) ((muP H 97 ((muP H 101 w p).1) ((muP H 101 w p).2)).2)).1) ((muP H 115 ((muP H 97 ((muP H 101 w p).1) ((muP H 101 w p).2)).1) ((muP H 97 ((muP H 101 w p).1) ((muP H 101 w p).2)).2)).2)).1) o l mo) 19 [(2, .int 3), (0, .ref (B + 51)), (1, .ref (gS V.1 (2 + 3)))] []
  refine a_iinc (v := (3 + 1)) (L' := [(2, .int (3 + 1)), (0, .ref (B + 51)), (1, .ref (gS V.1 (2 + 3)))]) hb dX12_spells_19 0 rfl rfl (by rw [hml]; decide) rfl ?_
  refine a_goto hb 2 dX12_spells_22 (by decide) ?_
  rw [show ((3 : Int32) + 1) = 4 from by decide]
  show AW V 0 0 (mpH h B a ((muP H 101 ((muP H 115 ((muP H 97 ((muP H 101 w p).1) ((muP H 101 w p).2)).1) ((muP H 97 ((muP H 101 w p).1) ((muP H 101 w p).2)).2)).1) ((muP H 115 ((muP H 97 ((muP H 101 w p).1) ((muP H 101 w p).2)).1) ((muP H 97 ((muP H 101 w p).1) ((muP H 101 w p).2)).2)).2)).2) ((muP H 101 ((muP H 115 ((muP H 97 ((muP H 101 w p).1) ((muP H 101 w p).2)).1) ((muP H 97 ((muP H 101 w p).1) ((muP H 101 w p).2)).2)).1) ((muP H 115 ((muP H 97 ((muP H 101 w p).1) ((muP H 101 w p).2)).1) ((muP H 97 ((muP H 101 w p).1) ((muP H 101 w p).2)).2)).2)).1) o l mo) 2 [(2, .int 4), (0, .ref (B + 51)), (1, .ref (gS V.1 (2 + 3)))] []
  refine a_iload_n hb dX12_spells_2 rfl 0 rfl ?_
  refine a_aload_n hb dX12_spells_3 rfl 2 rfl ?_
  refine a_callT (i := 3) hb (by decide) dX12_spells_4 (by rw [hg]; exact j_length g (mpH h B a ((muP H 101 ((muP H 115 ((muP H 97 ((muP H 101 w p).1) ((muP H 101 w p).2)).1) ((muP H 97 ((muP H 101 w p).1) ((muP H 101 w p).2)).2)).1) ((muP H 115 ((muP H 97 ((muP H 101 w p).1) ((muP H 101 w p).2)).1) ((muP H 97 ((muP H 101 w p).1) ((muP H 101 w p).2)).2)).2)).2) ((muP H 101 ((muP H 115 ((muP H 97 ((muP H 101 w p).1) ((muP H 101 w p).2)).1) ((muP H 97 ((muP H 101 w p).1) ((muP H 101 w p).2)).2)).1) ((muP H 115 ((muP H 97 ((muP H 101 w p).1) ((muP H 101 w p).2)).1) ((muP H 97 ((muP H 101 w p).1) ((muP H 101 w p).2)).2)).2)).1) o l mo) 3 (by decide)) (by rw [ow]; exact clv_RX12_75) rfl rfl rfl (Nat.le_of_ble_eq_true rfl) (by rw [hr]; exact ⟨by decide, by decide⟩) (by rw [hr]; exact ⟨Nat.le_of_ble_eq_true rfl, Nat.le_of_ble_eq_true rfl⟩) ?_
  intro rv h' hp_
  rw [hp_.1, hp_.2, show Int32.ofNat (aw_tl.getD 3 0) = 5 from by decide]
  show AW V 0 0 (mpH h B a ((muP H 101 ((muP H 115 ((muP H 97 ((muP H 101 w p).1) ((muP H 101 w p).2)).1) ((muP H 97 ((muP H 101 w p).1) ((muP H 101 w p).2)).2)).1) ((muP H 115 ((muP H 97 ((muP H 101 w p).1) ((muP H 101 w p).2)).1) ((muP H 97 ((muP H 101 w p).1) ((muP H 101 w p).2)).2)).2)).2) ((muP H 101 ((muP H 115 ((muP H 97 ((muP H 101 w p).1) ((muP H 101 w p).2)).1) ((muP H 97 ((muP H 101 w p).1) ((muP H 101 w p).2)).2)).1) ((muP H 115 ((muP H 97 ((muP H 101 w p).1) ((muP H 101 w p).2)).1) ((muP H 97 ((muP H 101 w p).1) ((muP H 101 w p).2)).2)).2)).1) o l mo) 7 [(2, .int 4), (0, .ref (B + 51)), (1, .ref (gS V.1 (2 + 3)))] [.int 5, .int 4]
  refine a_icmp_ge hb 25 dX12_spells_7 (by decide) (fun c7_0 => absurd c7_0 (by decide)) (fun c7_0 => ?_)
  refine a_aload_n hb dX12_spells_10 rfl 1 rfl ?_
  refine a_aload_n hb dX12_spells_11 rfl 2 rfl ?_
  refine a_iload_n hb dX12_spells_12 rfl 0 rfl ?_
  refine a_callT (i := 3) hb (by decide) dX12_spells_13 (by rw [hg]; exact j_char g (mpH h B a ((muP H 101 ((muP H 115 ((muP H 97 ((muP H 101 w p).1) ((muP H 101 w p).2)).1) ((muP H 97 ((muP H 101 w p).1) ((muP H 101 w p).2)).2)).1) ((muP H 115 ((muP H 97 ((muP H 101 w p).1) ((muP H 101 w p).2)).1) ((muP H 97 ((muP H 101 w p).1) ((muP H 101 w p).2)).2)).2)).2) ((muP H 101 ((muP H 115 ((muP H 97 ((muP H 101 w p).1) ((muP H 101 w p).2)).1) ((muP H 97 ((muP H 101 w p).1) ((muP H 101 w p).2)).2)).1) ((muP H 115 ((muP H 97 ((muP H 101 w p).1) ((muP H 101 w p).2)).1) ((muP H 97 ((muP H 101 w p).1) ((muP H 101 w p).2)).2)).2)).1) o l mo) 3 (by decide) 4 4 ⟨by decide, by decide⟩ (by decide) (by decide) (by decide) rfl) (by rw [ow]; exact clv_RX12_80) rfl rfl rfl (Nat.le_of_ble_eq_true rfl) (by rw [hr]; exact ⟨by decide, by decide⟩) (by rw [hr]; exact ⟨Nat.le_of_ble_eq_true rfl, Nat.le_of_ble_eq_true rfl⟩) ?_
  intro rv h' hp_
  rw [hp_.1, hp_.2, show (aw_tb.getD 3 []).getD 4 0 = 32 from by decide]
  show AW V 0 0 (mpH h B a ((muP H 101 ((muP H 115 ((muP H 97 ((muP H 101 w p).1) ((muP H 101 w p).2)).1) ((muP H 97 ((muP H 101 w p).1) ((muP H 101 w p).2)).2)).1) ((muP H 115 ((muP H 97 ((muP H 101 w p).1) ((muP H 101 w p).2)).1) ((muP H 97 ((muP H 101 w p).1) ((muP H 101 w p).2)).2)).2)).2) ((muP H 101 ((muP H 115 ((muP H 97 ((muP H 101 w p).1) ((muP H 101 w p).2)).1) ((muP H 97 ((muP H 101 w p).1) ((muP H 101 w p).2)).2)).1) ((muP H 115 ((muP H 97 ((muP H 101 w p).1) ((muP H 101 w p).2)).1) ((muP H 97 ((muP H 101 w p).1) ((muP H 101 w p).2)).2)).2)).1) o l mo) 16 [(2, .int 4), (0, .ref (B + 51)), (1, .ref (gS V.1 (2 + 3)))] [.int 32, .ref (B + 51)]
  refine a_callV hb dX12_spells_16 (by rw [hg]; exact m_must g h B hL a n ha hac he hn H hH ((muP H 101 ((muP H 115 ((muP H 97 ((muP H 101 w p).1) ((muP H 101 w p).2)).1) ((muP H 97 ((muP H 101 w p).1) ((muP H 101 w p).2)).2)).1) ((muP H 115 ((muP H 97 ((muP H 101 w p).1) ((muP H 101 w p).2)).1) ((muP H 97 ((muP H 101 w p).1) ((muP H 101 w p).2)).2)).2)).2) o ((muP H 101 ((muP H 115 ((muP H 97 ((muP H 101 w p).1) ((muP H 101 w p).2)).1) ((muP H 97 ((muP H 101 w p).1) ((muP H 101 w p).2)).2)).1) ((muP H 115 ((muP H 97 ((muP H 101 w p).1) ((muP H 101 w p).2)).1) ((muP H 97 ((muP H 101 w p).1) ((muP H 101 w p).2)).2)).2)).1) l mo (muG hH (c := 101) (by decide) (w := (muP H 115 ((muP H 97 ((muP H 101 w p).1) ((muP H 101 w p).2)).1) ((muP H 97 ((muP H 101 w p).1) ((muP H 101 w p).2)).2)).1) (muG hH (c := 115) (by decide) (w := (muP H 97 ((muP H 101 w p).1) ((muP H 101 w p).2)).1) (muG hH (c := 97) (by decide) (w := (muP H 101 w p).1) (muG hH (c := 101) (by decide) (w := w) hp)))) 32) (by rw [ow]; exact clv_RX12_84) ((LY.mp hL : LY (mpH h B a ((muP H 101 ((muP H 115 ((muP H 97 ((muP H 101 w p).1) ((muP H 101 w p).2)).1) ((muP H 97 ((muP H 101 w p).1) ((muP H 101 w p).2)).2)).1) ((muP H 115 ((muP H 97 ((muP H 101 w p).1) ((muP H 101 w p).2)).1) ((muP H 97 ((muP H 101 w p).1) ((muP H 101 w p).2)).2)).2)).2) ((muP H 101 ((muP H 115 ((muP H 97 ((muP H 101 w p).1) ((muP H 101 w p).2)).1) ((muP H 97 ((muP H 101 w p).1) ((muP H 101 w p).2)).2)).1) ((muP H 115 ((muP H 97 ((muP H 101 w p).1) ((muP H 101 w p).2)).1) ((muP H 97 ((muP H 101 w p).1) ((muP H 101 w p).2)).2)).2)).1) o l mo) B).1 51 (by decide)) (by decide) rfl rfl rfl (Nat.le_of_ble_eq_true rfl) (by rw [hr]; exact ⟨by decide, by decide⟩) (by rw [hr]; exact ⟨Nat.le_of_ble_eq_true rfl, Nat.le_of_ble_eq_true rfl⟩) ?_
  intro rv h' hp_
  rw [hp_.1, hp_.2]
  show AW V 0 0 (mpH h B a ((muP H 32 ((muP H 101 ((muP H 115 ((muP H 97 ((muP H 101 w p).1) ((muP H 101 w p).2)).1) ((muP H 97 ((muP H 101 w p).1) ((muP H 101 w p).2)).2)).1) ((muP H 115 ((muP H 97 ((muP H 101 w p).1) ((muP H 101 w p).2)).1) ((muP H 97 ((muP H 101 w p).1) ((muP H 101 w p).2)).2)).2)).1) ((muP H 101 ((muP H 115 ((muP H 97 ((muP H 101 w p).1) ((muP H 101 w p).2)).1) ((muP H 97 ((muP H 101 w p).1) ((muP H 101 w p).2)).2)).1) ((muP H 115 ((muP H 97 ((muP H 101 w p).1) ((muP H 101 w p).2)).1) ((muP H 97 ((muP H 101 w p).1) ((muP H 101 w p).2)).2)).2)).2)).2) ((muP H 32 ((muP H 101 ((muP H 115 ((muP H 97 ((muP H 101 w p).1) ((muP H 101 w p).2)).1) ((muP H 97 ((muP H 101 w p).1) ((muP H 101 w p).2)).2)).1) ((muP H 115 ((muP H 97 ((muP H 101 w p).1) ((muP H 101 w p).2)).1) ((muP H 97 ((muP H 101 w p).1) ((muP H 101 w p).2)).2)).2)).1) ((muP H 101 ((muP H 115 ((muP H 97 ((muP H 101 w p).1) ((muP H 101 w p).2)).1) ((muP H 97 ((muP H 101 w p).1) ((muP H 101 w p).2)).2)).1) ((muP H 115 ((muP H 97 ((muP H 101 w p).1) ((muP H 101 w p).2)).1) ((muP H 97 ((muP H 101 w p).1) ((muP H 101 w p).2)).2)).2)).2)).1) o l mo) 19 [(2, .int 4), (0, .ref (B + 51)), (1, .ref (gS V.1 (2 + 3)))] []
  refine a_iinc (v := (4 + 1)) (L' := [(2, .int (4 + 1)), (0, .ref (B + 51)), (1, .ref (gS V.1 (2 + 3)))]) hb dX12_spells_19 0 rfl rfl (by rw [hml]; decide) rfl ?_
  refine a_goto hb 2 dX12_spells_22 (by decide) ?_
  rw [show ((4 : Int32) + 1) = 5 from by decide]
  show AW V 0 0 (mpH h B a ((muP H 32 ((muP H 101 ((muP H 115 ((muP H 97 ((muP H 101 w p).1) ((muP H 101 w p).2)).1) ((muP H 97 ((muP H 101 w p).1) ((muP H 101 w p).2)).2)).1) ((muP H 115 ((muP H 97 ((muP H 101 w p).1) ((muP H 101 w p).2)).1) ((muP H 97 ((muP H 101 w p).1) ((muP H 101 w p).2)).2)).2)).1) ((muP H 101 ((muP H 115 ((muP H 97 ((muP H 101 w p).1) ((muP H 101 w p).2)).1) ((muP H 97 ((muP H 101 w p).1) ((muP H 101 w p).2)).2)).1) ((muP H 115 ((muP H 97 ((muP H 101 w p).1) ((muP H 101 w p).2)).1) ((muP H 97 ((muP H 101 w p).1) ((muP H 101 w p).2)).2)).2)).2)).2) ((muP H 32 ((muP H 101 ((muP H 115 ((muP H 97 ((muP H 101 w p).1) ((muP H 101 w p).2)).1) ((muP H 97 ((muP H 101 w p).1) ((muP H 101 w p).2)).2)).1) ((muP H 115 ((muP H 97 ((muP H 101 w p).1) ((muP H 101 w p).2)).1) ((muP H 97 ((muP H 101 w p).1) ((muP H 101 w p).2)).2)).2)).1) ((muP H 101 ((muP H 115 ((muP H 97 ((muP H 101 w p).1) ((muP H 101 w p).2)).1) ((muP H 97 ((muP H 101 w p).1) ((muP H 101 w p).2)).2)).1) ((muP H 115 ((muP H 97 ((muP H 101 w p).1) ((muP H 101 w p).2)).1) ((muP H 97 ((muP H 101 w p).1) ((muP H 101 w p).2)).2)).2)).2)).1) o l mo) 2 [(2, .int 5), (0, .ref (B + 51)), (1, .ref (gS V.1 (2 + 3)))] []
  refine a_iload_n hb dX12_spells_2 rfl 0 rfl ?_
  refine a_aload_n hb dX12_spells_3 rfl 2 rfl ?_
  refine a_callT (i := 3) hb (by decide) dX12_spells_4 (by rw [hg]; exact j_length g (mpH h B a ((muP H 32 ((muP H 101 ((muP H 115 ((muP H 97 ((muP H 101 w p).1) ((muP H 101 w p).2)).1) ((muP H 97 ((muP H 101 w p).1) ((muP H 101 w p).2)).2)).1) ((muP H 115 ((muP H 97 ((muP H 101 w p).1) ((muP H 101 w p).2)).1) ((muP H 97 ((muP H 101 w p).1) ((muP H 101 w p).2)).2)).2)).1) ((muP H 101 ((muP H 115 ((muP H 97 ((muP H 101 w p).1) ((muP H 101 w p).2)).1) ((muP H 97 ((muP H 101 w p).1) ((muP H 101 w p).2)).2)).1) ((muP H 115 ((muP H 97 ((muP H 101 w p).1) ((muP H 101 w p).2)).1) ((muP H 97 ((muP H 101 w p).1) ((muP H 101 w p).2)).2)).2)).2)).2) ((muP H 32 ((muP H 101 ((muP H 115 ((muP H 97 ((muP H 101 w p).1) ((muP H 101 w p).2)).1) ((muP H 97 ((muP H 101 w p).1) ((muP H 101 w p).2)).2)).1) ((muP H 115 ((muP H 97 ((muP H 101 w p).1) ((muP H 101 w p).2)).1) ((muP H 97 ((muP H 101 w p).1) ((muP H 101 w p).2)).2)).2)).1) ((muP H 101 ((muP H 115 ((muP H 97 ((muP H 101 w p).1) ((muP H 101 w p).2)).1) ((muP H 97 ((muP H 101 w p).1) ((muP H 101 w p).2)).2)).1) ((muP H 115 ((muP H 97 ((muP H 101 w p).1) ((muP H 101 w p).2)).1) ((muP H 97 ((muP H 101 w p).1) ((muP H 101 w p).2)).2)).2)).2)).1) o l mo) 3 (by decide)) (by rw [ow]; exact clv_RX12_75) rfl rfl rfl (Nat.le_of_ble_eq_true rfl) (by rw [hr]; exact ⟨by decide, by decide⟩) (by rw [hr]; exact ⟨Nat.le_of_ble_eq_true rfl, Nat.le_of_ble_eq_true rfl⟩) ?_
  intro rv h' hp_
  rw [hp_.1, hp_.2, show Int32.ofNat (aw_tl.getD 3 0) = 5 from by decide]
  show AW V 0 0 (mpH h B a ((muP H 32 ((muP H 101 ((muP H 115 ((muP H 97 ((muP H 101 w p).1) ((muP H 101 w p).2)).1) ((muP H 97 ((muP H 101 w p).1) ((muP H 101 w p).2)).2)).1) ((muP H 115 ((muP H 97 ((muP H 101 w p).1) ((muP H 101 w p).2)).1) ((muP H 97 ((muP H 101 w p).1) ((muP H 101 w p).2)).2)).2)).1) ((muP H 101 ((muP H 115 ((muP H 97 ((muP H 101 w p).1) ((muP H 101 w p).2)).1) ((muP H 97 ((muP H 101 w p).1) ((muP H 101 w p).2)).2)).1) ((muP H 115 ((muP H 97 ((muP H 101 w p).1) ((muP H 101 w p).2)).1) ((muP H 97 ((muP H 101 w p).1) ((muP H 101 w p).2)).2)).2)).2)).2) ((muP H 32 ((muP H 101 ((muP H 115 ((muP H 97 ((muP H 101 w p).1) ((muP H 101 w p).2)).1) ((muP H 97 ((muP H 101 w p).1) ((muP H 101 w p).2)).2)).1) ((muP H 115 ((muP H 97 ((muP H 101 w p).1) ((muP H 101 w p).2)).1) ((muP H 97 ((muP H 101 w p).1) ((muP H 101 w p).2)).2)).2)).1) ((muP H 101 ((muP H 115 ((muP H 97 ((muP H 101 w p).1) ((muP H 101 w p).2)).1) ((muP H 97 ((muP H 101 w p).1) ((muP H 101 w p).2)).2)).1) ((muP H 115 ((muP H 97 ((muP H 101 w p).1) ((muP H 101 w p).2)).1) ((muP H 97 ((muP H 101 w p).1) ((muP H 101 w p).2)).2)).2)).2)).1) o l mo) 7 [(2, .int 5), (0, .ref (B + 51)), (1, .ref (gS V.1 (2 + 3)))] [.int 5, .int 5]
  refine a_icmp_ge hb 25 dX12_spells_7 (by decide) (fun c7_0 => ?_) (fun c7_0 => absurd (by decide) c7_0)
  exact a_return hb hz dX12_spells_25 hret (by rw [hr]; exact Nat.le_of_ble_eq_true rfl) (by rw [hr]; exact Nat.le_of_ble_eq_true rfl) (⟨rfl, rfl⟩)
set_option maxRecDepth 100000 in
theorem m_spells4 (g : GG) (h : AH) (B : Nat) (hL : LY h B) (a n : Nat) (ha : a < 5) (hac : hI h (B + 51) 4 = nI a) (he : hI h (B + 51) 6 = nI n) (hn : n ≤ 120) (H : Nat → Int32) (hH : H = hrT (fun i => hI h (B + 52) (10 + i)) n) (p o : Nat) (w : Bool) (l : List Int32) (mo : Int32) (hp : p ≤ n) : AM g 5 0 0 mX12_spells [.ref (B + 51), .ref (gS g (2 + 4))] (mpH h B a p w o l mo) (fun rv h' => rv = none ∧ h' = (mpH h B a ((spS H wdD w p).2) ((spS H wdD w p).1) o l mo)) := by
  refine AM.of [(0, .ref (B + 51)), (1, .ref (gS g (2 + 4)))] (by decide) (Nat.le_of_ble_eq_true rfl) rfl ?_
  intro V hV
  have hb : V.2.1.2.1 = cX12_spells := by subst hV; rfl
  have ow : V.2.1.1.cls = RX12 := by subst hV; rfl
  have hr : V.2.2.1 = aw_rm 5 0 0 := by subst hV; rfl
  have hz : V.2.2.2 = aw_Z V.1 (fun rv h' => rv = none ∧ h' = (mpH h B a ((spS H wdD w p).2) ((spS H wdD w p).1) o l mo)) V.2.2.1 := by subst hV; rfl
  have hg : V.1 = g := by subst hV; rfl
  have hret : V.2.1.2.2.2 = none := by subst hV; rfl
  have hml : V.2.1.2.2.1 = 3 := by subst hV; rfl
  clear hV
  rw [← hg]
  refine a_iconst (v := 0) hb dX12_spells_0 (by decide) ?_
  refine a_istore_n (L' := [(2, .int 0), (0, .ref (B + 51)), (1, .ref (gS V.1 (2 + 4)))]) hb dX12_spells_1 rfl (by rw [hml]; decide) rfl ?_
  refine a_iload_n hb dX12_spells_2 rfl 0 rfl ?_
  refine a_aload_n hb dX12_spells_3 rfl 2 rfl ?_
  refine a_callT (i := 4) hb (by decide) dX12_spells_4 (by rw [hg]; exact j_length g (mpH h B a p w o l mo) 4 (by decide)) (by rw [ow]; exact clv_RX12_75) rfl rfl rfl (Nat.le_of_ble_eq_true rfl) (by rw [hr]; exact ⟨by decide, by decide⟩) (by rw [hr]; exact ⟨Nat.le_of_ble_eq_true rfl, Nat.le_of_ble_eq_true rfl⟩) ?_
  intro rv h' hp_
  rw [hp_.1, hp_.2, show Int32.ofNat (aw_tl.getD 4 0) = 5 from by decide]
  show AW V 0 0 (mpH h B a p w o l mo) 7 [(2, .int 0), (0, .ref (B + 51)), (1, .ref (gS V.1 (2 + 4)))] [.int 5, .int 0]
  refine a_icmp_ge hb 25 dX12_spells_7 (by decide) (fun c7_0 => absurd c7_0 (by decide)) (fun c7_0 => ?_)
  refine a_aload_n hb dX12_spells_10 rfl 1 rfl ?_
  refine a_aload_n hb dX12_spells_11 rfl 2 rfl ?_
  refine a_iload_n hb dX12_spells_12 rfl 0 rfl ?_
  refine a_callT (i := 4) hb (by decide) dX12_spells_13 (by rw [hg]; exact j_char g (mpH h B a p w o l mo) 4 (by decide) 0 0 ⟨by decide, by decide⟩ (by decide) (by decide) (by decide) rfl) (by rw [ow]; exact clv_RX12_80) rfl rfl rfl (Nat.le_of_ble_eq_true rfl) (by rw [hr]; exact ⟨by decide, by decide⟩) (by rw [hr]; exact ⟨Nat.le_of_ble_eq_true rfl, Nat.le_of_ble_eq_true rfl⟩) ?_
  intro rv h' hp_
  rw [hp_.1, hp_.2, show (aw_tb.getD 4 []).getD 0 0 = 100 from by decide]
  show AW V 0 0 (mpH h B a p w o l mo) 16 [(2, .int 0), (0, .ref (B + 51)), (1, .ref (gS V.1 (2 + 4)))] [.int 100, .ref (B + 51)]
  refine a_callV hb dX12_spells_16 (by rw [hg]; exact m_must g h B hL a n ha hac he hn H hH p o w l mo hp 100) (by rw [ow]; exact clv_RX12_84) ((LY.mp hL : LY (mpH h B a p w o l mo) B).1 51 (by decide)) (by decide) rfl rfl rfl (Nat.le_of_ble_eq_true rfl) (by rw [hr]; exact ⟨by decide, by decide⟩) (by rw [hr]; exact ⟨Nat.le_of_ble_eq_true rfl, Nat.le_of_ble_eq_true rfl⟩) ?_
  intro rv h' hp_
  rw [hp_.1, hp_.2]
  show AW V 0 0 (mpH h B a ((muP H 100 w p).2) ((muP H 100 w p).1) o l mo) 19 [(2, .int 0), (0, .ref (B + 51)), (1, .ref (gS V.1 (2 + 4)))] []
  refine a_iinc (v := (0 + 1)) (L' := [(2, .int (0 + 1)), (0, .ref (B + 51)), (1, .ref (gS V.1 (2 + 4)))]) hb dX12_spells_19 0 rfl rfl (by rw [hml]; decide) rfl ?_
  refine a_goto hb 2 dX12_spells_22 (by decide) ?_
  rw [show ((0 : Int32) + 1) = 1 from by decide]
  show AW V 0 0 (mpH h B a ((muP H 100 w p).2) ((muP H 100 w p).1) o l mo) 2 [(2, .int 1), (0, .ref (B + 51)), (1, .ref (gS V.1 (2 + 4)))] []
  refine a_iload_n hb dX12_spells_2 rfl 0 rfl ?_
  refine a_aload_n hb dX12_spells_3 rfl 2 rfl ?_
  refine a_callT (i := 4) hb (by decide) dX12_spells_4 (by rw [hg]; exact j_length g (mpH h B a ((muP H 100 w p).2) ((muP H 100 w p).1) o l mo) 4 (by decide)) (by rw [ow]; exact clv_RX12_75) rfl rfl rfl (Nat.le_of_ble_eq_true rfl) (by rw [hr]; exact ⟨by decide, by decide⟩) (by rw [hr]; exact ⟨Nat.le_of_ble_eq_true rfl, Nat.le_of_ble_eq_true rfl⟩) ?_
  intro rv h' hp_
  rw [hp_.1, hp_.2, show Int32.ofNat (aw_tl.getD 4 0) = 5 from by decide]
  show AW V 0 0 (mpH h B a ((muP H 100 w p).2) ((muP H 100 w p).1) o l mo) 7 [(2, .int 1), (0, .ref (B + 51)), (1, .ref (gS V.1 (2 + 4)))] [.int 5, .int 1]
  refine a_icmp_ge hb 25 dX12_spells_7 (by decide) (fun c7_0 => absurd c7_0 (by decide)) (fun c7_0 => ?_)
  refine a_aload_n hb dX12_spells_10 rfl 1 rfl ?_
  refine a_aload_n hb dX12_spells_11 rfl 2 rfl ?_
  refine a_iload_n hb dX12_spells_12 rfl 0 rfl ?_
  refine a_callT (i := 4) hb (by decide) dX12_spells_13 (by rw [hg]; exact j_char g (mpH h B a ((muP H 100 w p).2) ((muP H 100 w p).1) o l mo) 4 (by decide) 1 1 ⟨by decide, by decide⟩ (by decide) (by decide) (by decide) rfl) (by rw [ow]; exact clv_RX12_80) rfl rfl rfl (Nat.le_of_ble_eq_true rfl) (by rw [hr]; exact ⟨by decide, by decide⟩) (by rw [hr]; exact ⟨Nat.le_of_ble_eq_true rfl, Nat.le_of_ble_eq_true rfl⟩) ?_
  intro rv h' hp_
  rw [hp_.1, hp_.2, show (aw_tb.getD 4 []).getD 1 0 = 114 from by decide]
  show AW V 0 0 (mpH h B a ((muP H 100 w p).2) ((muP H 100 w p).1) o l mo) 16 [(2, .int 1), (0, .ref (B + 51)), (1, .ref (gS V.1 (2 + 4)))] [.int 114, .ref (B + 51)]
  refine a_callV hb dX12_spells_16 (by rw [hg]; exact m_must g h B hL a n ha hac he hn H hH ((muP H 100 w p).2) o ((muP H 100 w p).1) l mo (muG hH (c := 100) (by decide) (w := w) hp) 114) (by rw [ow]; exact clv_RX12_84) ((LY.mp hL : LY (mpH h B a ((muP H 100 w p).2) ((muP H 100 w p).1) o l mo) B).1 51 (by decide)) (by decide) rfl rfl rfl (Nat.le_of_ble_eq_true rfl) (by rw [hr]; exact ⟨by decide, by decide⟩) (by rw [hr]; exact ⟨Nat.le_of_ble_eq_true rfl, Nat.le_of_ble_eq_true rfl⟩) ?_
  intro rv h' hp_
  rw [hp_.1, hp_.2]
  show AW V 0 0 (mpH h B a ((muP H 114 ((muP H 100 w p).1) ((muP H 100 w p).2)).2) ((muP H 114 ((muP H 100 w p).1) ((muP H 100 w p).2)).1) o l mo) 19 [(2, .int 1), (0, .ref (B + 51)), (1, .ref (gS V.1 (2 + 4)))] []
  refine a_iinc (v := (1 + 1)) (L' := [(2, .int (1 + 1)), (0, .ref (B + 51)), (1, .ref (gS V.1 (2 + 4)))]) hb dX12_spells_19 0 rfl rfl (by rw [hml]; decide) rfl ?_
  refine a_goto hb 2 dX12_spells_22 (by decide) ?_
  rw [show ((1 : Int32) + 1) = 2 from by decide]
  show AW V 0 0 (mpH h B a ((muP H 114 ((muP H 100 w p).1) ((muP H 100 w p).2)).2) ((muP H 114 ((muP H 100 w p).1) ((muP H 100 w p).2)).1) o l mo) 2 [(2, .int 2), (0, .ref (B + 51)), (1, .ref (gS V.1 (2 + 4)))] []
  refine a_iload_n hb dX12_spells_2 rfl 0 rfl ?_
  refine a_aload_n hb dX12_spells_3 rfl 2 rfl ?_
  refine a_callT (i := 4) hb (by decide) dX12_spells_4 (by rw [hg]; exact j_length g (mpH h B a ((muP H 114 ((muP H 100 w p).1) ((muP H 100 w p).2)).2) ((muP H 114 ((muP H 100 w p).1) ((muP H 100 w p).2)).1) o l mo) 4 (by decide)) (by rw [ow]; exact clv_RX12_75) rfl rfl rfl (Nat.le_of_ble_eq_true rfl) (by rw [hr]; exact ⟨by decide, by decide⟩) (by rw [hr]; exact ⟨Nat.le_of_ble_eq_true rfl, Nat.le_of_ble_eq_true rfl⟩) ?_
  intro rv h' hp_
  rw [hp_.1, hp_.2, show Int32.ofNat (aw_tl.getD 4 0) = 5 from by decide]
  show AW V 0 0 (mpH h B a ((muP H 114 ((muP H 100 w p).1) ((muP H 100 w p).2)).2) ((muP H 114 ((muP H 100 w p).1) ((muP H 100 w p).2)).1) o l mo) 7 [(2, .int 2), (0, .ref (B + 51)), (1, .ref (gS V.1 (2 + 4)))] [.int 5, .int 2]
  refine a_icmp_ge hb 25 dX12_spells_7 (by decide) (fun c7_0 => absurd c7_0 (by decide)) (fun c7_0 => ?_)
  refine a_aload_n hb dX12_spells_10 rfl 1 rfl ?_
  refine a_aload_n hb dX12_spells_11 rfl 2 rfl ?_
  refine a_iload_n hb dX12_spells_12 rfl 0 rfl ?_
  refine a_callT (i := 4) hb (by decide) dX12_spells_13 (by rw [hg]; exact j_char g (mpH h B a ((muP H 114 ((muP H 100 w p).1) ((muP H 100 w p).2)).2) ((muP H 114 ((muP H 100 w p).1) ((muP H 100 w p).2)).1) o l mo) 4 (by decide) 2 2 ⟨by decide, by decide⟩ (by decide) (by decide) (by decide) rfl) (by rw [ow]; exact clv_RX12_80) rfl rfl rfl (Nat.le_of_ble_eq_true rfl) (by rw [hr]; exact ⟨by decide, by decide⟩) (by rw [hr]; exact ⟨Nat.le_of_ble_eq_true rfl, Nat.le_of_ble_eq_true rfl⟩) ?_
  intro rv h' hp_
  rw [hp_.1, hp_.2, show (aw_tb.getD 4 []).getD 2 0 = 97 from by decide]
  show AW V 0 0 (mpH h B a ((muP H 114 ((muP H 100 w p).1) ((muP H 100 w p).2)).2) ((muP H 114 ((muP H 100 w p).1) ((muP H 100 w p).2)).1) o l mo) 16 [(2, .int 2), (0, .ref (B + 51)), (1, .ref (gS V.1 (2 + 4)))] [.int 97, .ref (B + 51)]
  refine a_callV hb dX12_spells_16 (by rw [hg]; exact m_must g h B hL a n ha hac he hn H hH ((muP H 114 ((muP H 100 w p).1) ((muP H 100 w p).2)).2) o ((muP H 114 ((muP H 100 w p).1) ((muP H 100 w p).2)).1) l mo (muG hH (c := 114) (by decide) (w := (muP H 100 w p).1) (muG hH (c := 100) (by decide) (w := w) hp)) 97) (by rw [ow]; exact clv_RX12_84) ((LY.mp hL : LY (mpH h B a ((muP H 114 ((muP H 100 w p).1) ((muP H 100 w p).2)).2) ((muP H 114 ((muP H 100 w p).1) ((muP H 100 w p).2)).1) o l mo) B).1 51 (by decide)) (by decide) rfl rfl rfl (Nat.le_of_ble_eq_true rfl) (by rw [hr]; exact ⟨by decide, by decide⟩) (by rw [hr]; exact ⟨Nat.le_of_ble_eq_true rfl, Nat.le_of_ble_eq_true rfl⟩) ?_
  intro rv h' hp_
  rw [hp_.1, hp_.2]
  show AW V 0 0 (mpH h B a ((muP H 97 ((muP H 114 ((muP H 100 w p).1) ((muP H 100 w p).2)).1) ((muP H 114 ((muP H 100 w p).1) ((muP H 100 w p).2)).2)).2) ((muP H 97 ((muP H 114 ((muP H 100 w p).1) ((muP H 100 w p).2)).1) ((muP H 114 ((muP H 100 w p).1) ((muP H 100 w p).2)).2)).1) o l mo) 19 [(2, .int 2), (0, .ref (B + 51)), (1, .ref (gS V.1 (2 + 4)))] []
  refine a_iinc (v := (2 + 1)) (L' := [(2, .int (2 + 1)), (0, .ref (B + 51)), (1, .ref (gS V.1 (2 + 4)))]) hb dX12_spells_19 0 rfl rfl (by rw [hml]; decide) rfl ?_
  refine a_goto hb 2 dX12_spells_22 (by decide) ?_
  rw [show ((2 : Int32) + 1) = 3 from by decide]
  show AW V 0 0 (mpH h B a ((muP H 97 ((muP H 114 ((muP H 100 w p).1) ((muP H 100 w p).2)).1) ((muP H 114 ((muP H 100 w p).1) ((muP H 100 w p).2)).2)).2) ((muP H 97 ((muP H 114 ((muP H 100 w p).1) ((muP H 100 w p).2)).1) ((muP H 114 ((muP H 100 w p).1) ((muP H 100 w p).2)).2)).1) o l mo) 2 [(2, .int 3), (0, .ref (B + 51)), (1, .ref (gS V.1 (2 + 4)))] []
  refine a_iload_n hb dX12_spells_2 rfl 0 rfl ?_
  refine a_aload_n hb dX12_spells_3 rfl 2 rfl ?_
  refine a_callT (i := 4) hb (by decide) dX12_spells_4 (by rw [hg]; exact j_length g (mpH h B a ((muP H 97 ((muP H 114 ((muP H 100 w p).1) ((muP H 100 w p).2)).1) ((muP H 114 ((muP H 100 w p).1) ((muP H 100 w p).2)).2)).2) ((muP H 97 ((muP H 114 ((muP H 100 w p).1) ((muP H 100 w p).2)).1) ((muP H 114 ((muP H 100 w p).1) ((muP H 100 w p).2)).2)).1) o l mo) 4 (by decide)) (by rw [ow]; exact clv_RX12_75) rfl rfl rfl (Nat.le_of_ble_eq_true rfl) (by rw [hr]; exact ⟨by decide, by decide⟩) (by rw [hr]; exact ⟨Nat.le_of_ble_eq_true rfl, Nat.le_of_ble_eq_true rfl⟩) ?_
  intro rv h' hp_
  rw [hp_.1, hp_.2, show Int32.ofNat (aw_tl.getD 4 0) = 5 from by decide]
  show AW V 0 0 (mpH h B a ((muP H 97 ((muP H 114 ((muP H 100 w p).1) ((muP H 100 w p).2)).1) ((muP H 114 ((muP H 100 w p).1) ((muP H 100 w p).2)).2)).2) ((muP H 97 ((muP H 114 ((muP H 100 w p).1) ((muP H 100 w p).2)).1) ((muP H 114 ((muP H 100 w p).1) ((muP H 100 w p).2)).2)).1) o l mo) 7 [(2, .int 3), (0, .ref (B + 51)), (1, .ref (gS V.1 (2 + 4)))] [.int 5, .int 3]
  refine a_icmp_ge hb 25 dX12_spells_7 (by decide) (fun c7_0 => absurd c7_0 (by decide)) (fun c7_0 => ?_)
  refine a_aload_n hb dX12_spells_10 rfl 1 rfl ?_
  refine a_aload_n hb dX12_spells_11 rfl 2 rfl ?_
  refine a_iload_n hb dX12_spells_12 rfl 0 rfl ?_
  refine a_callT (i := 4) hb (by decide) dX12_spells_13 (by rw [hg]; exact j_char g (mpH h B a ((muP H 97 ((muP H 114 ((muP H 100 w p).1) ((muP H 100 w p).2)).1) ((muP H 114 ((muP H 100 w p).1) ((muP H 100 w p).2)).2)).2) ((muP H 97 ((muP H 114 ((muP H 100 w p).1) ((muP H 100 w p).2)).1) ((muP H 114 ((muP H 100 w p).1) ((muP H 100 w p).2)).2)).1) o l mo) 4 (by decide) 3 3 ⟨by decide, by decide⟩ (by decide) (by decide) (by decide) rfl) (by rw [ow]; exact clv_RX12_80) rfl rfl rfl (Nat.le_of_ble_eq_true rfl) (by rw [hr]; exact ⟨by decide, by decide⟩) (by rw [hr]; exact ⟨Nat.le_of_ble_eq_true rfl, Nat.le_of_ble_eq_true rfl⟩) ?_
  intro rv h' hp_
  rw [hp_.1, hp_.2, show (aw_tb.getD 4 []).getD 3 0 = 119 from by decide]
  show AW V 0 0 (mpH h B a ((muP H 97 ((muP H 114 ((muP H 100 w p).1) ((muP H 100 w p).2)).1) ((muP H 114 ((muP H 100 w p).1) ((muP H 100 w p).2)).2)).2) ((muP H 97 ((muP H 114 ((muP H 100 w p).1) ((muP H 100 w p).2)).1) ((muP H 114 ((muP H 100 w p).1) ((muP H 100 w p).2)).2)).1) o l mo) 16 [(2, .int 3), (0, .ref (B + 51)), (1, .ref (gS V.1 (2 + 4)))] [.int 119, .ref (B + 51)]
  refine a_callV hb dX12_spells_16 (by rw [hg]; exact m_must g h B hL a n ha hac he hn H hH ((muP H 97 ((muP H 114 ((muP H 100 w p).1) ((muP H 100 w p).2)).1) ((muP H 114 ((muP H 100 w p).1) ((muP H 100 w p).2)).2)).2) o ((muP H 97 ((muP H 114 ((muP H 100 w p).1) ((muP H 100 w p).2)).1) ((muP H 114 ((muP H 100 w p).1) ((muP H 100 w p).2)).2)).1) l mo (muG hH (c := 97) (by decide) (w := (muP H 114 ((muP H 100 w p).1) ((muP H 100 w p).2)).1) (muG hH (c := 114) (by decide) (w := (muP H 100 w p).1) (muG hH (c := 100) (by decide) (w := w) hp))) 119) (by rw [ow]; exact clv_RX12_84) ((LY.mp hL : LY (mpH h B a ((muP H 97 ((muP H 114 ((muP H 100 w p).1) ((muP H 100 w p).2)).1) ((muP H 114 ((muP H 100 w p).1) ((muP H 100 w p).2)).2)).2) ((muP H 97 ((muP H 114 ((muP H 100 w p).1) ((muP H 100 w p).2)).1) ((muP H 114 ((muP H 100 w p).1) ((muP H 100 w p).2)).2)).1) o l mo) B).1 51 (by decide)) (by decide) rfl rfl rfl (Nat.le_of_ble_eq_true rfl) (by rw [hr]; exact ⟨by decide, by decide⟩) (by rw [hr]; exact ⟨Nat.le_of_ble_eq_true rfl, Nat.le_of_ble_eq_true rfl⟩) ?_
  intro rv h' hp_
  rw [hp_.1, hp_.2]
  show AW V 0 0 (mpH h B a ((muP H 119 ((muP H 97 ((muP H 114 ((muP H 100 w p).1) ((muP H 100 w p).2)).1) ((muP H 114 ((muP H 100 w p).1) ((muP H 100 w p).2)).2)).1) ((muP H 97 ((muP H 114 ((muP H 100 w p).1) ((muP H 100 w p).2)).1) ((muP H 114 ((muP H 100 w p).1) ((muP H 100 w p).2)).2)).2)).2) ((muP H 119 ((muP H 97 ((muP H 114 ((muP H 100 w p).1) ((muP H 100 w p).2)).1) ((muP H 114 ((muP H 100 w p).1) ((muP H 100 w p).2)).2)).1) ((muP H 97 ((muP H 114 ((muP H 100 w p).1) ((muP H 100 w p).2)).1) ((muP H 114 ((muP H 100 w p).1) ((muP H 100 w p).2)).2)).2)).1) o l mo) 19 [(2, .int 3), (0, .ref (B + 51)), (1, .ref (gS V.1 (2 + 4)))] []
  refine a_iinc (v := (3 + 1)) (L' := [(2, .int (3 + 1)), (0, .ref (B + 51)), (1, .ref (gS V.1 (2 + 4)))]) hb dX12_spells_19 0 rfl rfl (by rw [hml]; decide) rfl ?_
  refine a_goto hb 2 dX12_spells_22 (by decide) ?_
  rw [show ((3 : Int32) + 1) = 4 from by decide]
  show AW V 0 0 (mpH h B a ((muP H 119 ((muP H 97 ((muP H 114 ((muP H 100 w p).1) ((muP H 100 w p).2)).1) ((muP H 114 ((muP H 100 w p).1) ((muP H 100 w p).2)).2)).1) ((muP H 97 ((muP H 114 ((muP H 100 w p).1) ((muP H 100 w p).2)).1) ((muP H 114 ((muP H 100 w p).1) ((muP H 100 w p).2)).2)).2)).2) ((muP H 119 ((muP H 97 ((muP H 114 ((muP H 100 w p).1) ((muP H 100 w p).2)).1) ((muP H 114 ((muP H 100 w p).1) ((muP H 100 w p).2)).2)).1) ((muP H 97 ((muP H 114 ((muP H 100 w p).1) ((muP H 100 w p).2)).1) ((muP H 114 ((muP H 100 w p).1) ((muP H 100 w p).2)).2)).2)).1) o l mo) 2 [(2, .int 4), (0, .ref (B + 51)), (1, .ref (gS V.1 (2 + 4)))] []
  refine a_iload_n hb dX12_spells_2 rfl 0 rfl ?_
  refine a_aload_n hb dX12_spells_3 rfl 2 rfl ?_
  refine a_callT (i := 4) hb (by decide) dX12_spells_4 (by rw [hg]; exact j_length g (mpH h B a ((muP H 119 ((muP H 97 ((muP H 114 ((muP H 100 w p).1) ((muP H 100 w p).2)).1) ((muP H 114 ((muP H 100 w p).1) ((muP H 100 w p).2)).2)).1) ((muP H 97 ((muP H 114 ((muP H 100 w p).1) ((muP H 100 w p).2)).1) ((muP H 114 ((muP H 100 w p).1) ((muP H 100 w p).2)).2)).2)).2) ((muP H 119 ((muP H 97 ((muP H 114 ((muP H 100 w p).1) ((muP H 100 w p).2)).1) ((muP H 114 ((muP H 100 w p).1) ((muP H 100 w p).2)).2)).1) ((muP H 97 ((muP H 114 ((muP H 100 w p).1) ((muP H 100 w p).2)).1) ((muP H 114 ((muP H 100 w p).1) ((muP H 100 w p).2)).2)).2)).1) o l mo) 4 (by decide)) (by rw [ow]; exact clv_RX12_75) rfl rfl rfl (Nat.le_of_ble_eq_true rfl) (by rw [hr]; exact ⟨by decide, by decide⟩) (by rw [hr]; exact ⟨Nat.le_of_ble_eq_true rfl, Nat.le_of_ble_eq_true rfl⟩) ?_
  intro rv h' hp_
  rw [hp_.1, hp_.2, show Int32.ofNat (aw_tl.getD 4 0) = 5 from by decide]
  show AW V 0 0 (mpH h B a ((muP H 119 ((muP H 97 ((muP H 114 ((muP H 100 w p).1) ((muP H 100 w p).2)).1) ((muP H 114 ((muP H 100 w p).1) ((muP H 100 w p).2)).2)).1) ((muP H 97 ((muP H 114 ((muP H 100 w p).1) ((muP H 100 w p).2)).1) ((muP H 114 ((muP H 100 w p).1) ((muP H 100 w p).2)).2)).2)).2) ((muP H 119 ((muP H 97 ((muP H 114 ((muP H 100 w p).1) ((muP H 100 w p).2)).1) ((muP H 114 ((muP H 100 w p).1) ((muP H 100 w p).2)).2)).1) ((muP H 97 ((muP H 114 ((muP H 100 w p).1) ((muP H 100 w p).2)).1) ((muP H 114 ((muP H 100 w p).1) ((muP H 100 w p).2)).2)).2)).1) o l mo) 7 [(2, .int 4), (0, .ref (B + 51)), (1, .ref (gS V.1 (2 + 4)))] [.int 5, .int 4]
  refine a_icmp_ge hb 25 dX12_spells_7 (by decide) (fun c7_0 => absurd c7_0 (by decide)) (fun c7_0 => ?_)
  refine a_aload_n hb dX12_spells_10 rfl 1 rfl ?_
  refine a_aload_n hb dX12_spells_11 rfl 2 rfl ?_
  refine a_iload_n hb dX12_spells_12 rfl 0 rfl ?_
  refine a_callT (i := 4) hb (by decide) dX12_spells_13 (by rw [hg]; exact j_char g (mpH h B a ((muP H 119 ((muP H 97 ((muP H 114 ((muP H 100 w p).1) ((muP H 100 w p).2)).1) ((muP H 114 ((muP H 100 w p).1) ((muP H 100 w p).2)).2)).1) ((muP H 97 ((muP H 114 ((muP H 100 w p).1) ((muP H 100 w p).2)).1) ((muP H 114 ((muP H 100 w p).1) ((muP H 100 w p).2)).2)).2)).2) ((muP H 119 ((muP H 97 ((muP H 114 ((muP H 100 w p).1) ((muP H 100 w p).2)).1) ((muP H 114 ((muP H 100 w p).1) ((muP H 100 w p).2)).2)).1) ((muP H 97 ((muP H 114 ((muP H 100 w p).1) ((muP H 100 w p).2)).1) ((muP H 114 ((muP H 100 w p).1) ((muP H 100 w p).2)).2)).2)).1) o l mo) 4 (by decide) 4 4 ⟨by decide, by decide⟩ (by decide) (by decide) (by decide) rfl) (by rw [ow]; exact clv_RX12_80) rfl rfl rfl (Nat.le_of_ble_eq_true rfl) (by rw [hr]; exact ⟨by decide, by decide⟩) (by rw [hr]; exact ⟨Nat.le_of_ble_eq_true rfl, Nat.le_of_ble_eq_true rfl⟩) ?_
  intro rv h' hp_
  rw [hp_.1, hp_.2, show (aw_tb.getD 4 []).getD 4 0 = 32 from by decide]
  show AW V 0 0 (mpH h B a ((muP H 119 ((muP H 97 ((muP H 114 ((muP H 100 w p).1) ((muP H 100 w p).2)).1) ((muP H 114 ((muP H 100 w p).1) ((muP H 100 w p).2)).2)).1) ((muP H 97 ((muP H 114 ((muP H 100 w p).1) ((muP H 100 w p).2)).1) ((muP H 114 ((muP H 100 w p).1) ((muP H 100 w p).2)).2)).2)).2) ((muP H 119 ((muP H 97 ((muP H 114 ((muP H 100 w p).1) ((muP H 100 w p).2)).1) ((muP H 114 ((muP H 100 w p).1) ((muP H 100 w p).2)).2)).1) ((muP H 97 ((muP H 114 ((muP H 100 w p).1) ((muP H 100 w p).2)).1) ((muP H 114 ((muP H 100 w p).1) ((muP H 100 w p).2)).2)).2)).1) o l mo) 16 [(2, .int 4), (0, .ref (B + 51)), (1, .ref (gS V.1 (2 + 4)))] [.int 32, .ref (B + 51)]
  refine a_callV hb dX12_spells_16 (by rw [hg]; exact m_must g h B hL a n ha hac he hn H hH ((muP H 119 ((muP H 97 ((muP H 114 ((muP H 100 w p).1) ((muP H 100 w p).2)).1) ((muP H 114 ((muP H 100 w p).1) ((muP H 100 w p).2)).2)).1) ((muP H 97 ((muP H 114 ((muP H 100 w p).1) ((muP H 100 w p).2)).1) ((muP H 114 ((muP H 100 w p).1) ((muP H 100 w p).2)).2)).2)).2) o ((muP H 119 ((muP H 97 ((muP H 114 ((muP H 100 w p).1) ((muP H 100 w p).2)).1) ((muP H 114 ((muP H 100 w p).1) ((muP H 100 w p).2)).2)).1) ((muP H 97 ((muP H 114 ((muP H 100 w p).1) ((muP H 100 w p).2)).1) ((muP H 114 ((muP H 100 w p).1) ((muP H 100 w p).2)).2)).2)).1) l mo (muG hH (c := 119) (by decide) (w := (muP H 97 ((muP H 114 ((muP H 100 w p).1) ((muP H 100 w p).2)).1) ((muP H 114 ((muP H 100 w p).1) ((muP H 100 w p).2)).2)).1) (muG hH (c := 97) (by decide) (w := (muP H 114 ((muP H 100 w p).1) ((muP H 100 w p).2)).1) (muG hH (c := 114) (by decide) (w := (muP H 100 w p).1) (muG hH (c := 100) (by decide) (w := w) hp)))) 32) (by rw [ow]; exact clv_RX12_84) ((LY.mp hL : LY (mpH h B a ((muP H 119 ((muP H 97 ((muP H 114 ((muP H 100 w p).1) ((muP H 100 w p).2)).1) ((muP H 114 ((muP H 100 w p).1) ((muP H 100 w p).2)).2)).1) ((muP H 97 ((muP H 114 ((muP H 100 w p).1) ((muP H 100 w p).2)).1) ((muP H 114 ((muP H 100 w p).1) ((muP H 100 w p).2)).2)).2)).2) ((muP H 119 ((muP H 97 ((muP H 114 ((muP H 100 w p).1) ((muP H 100 w p).2)).1) ((muP H 114 ((muP H 100 w p).1) ((muP H 100 w p).2)).2)).1) ((muP H 97 ((muP H 114 ((muP H 100 w p).1) ((muP H 100 w p).2)).1) ((muP H 114 ((muP H 100 w p).1) ((muP H 100 w p).2)).2)).2)).1) o l mo) B).1 51 (by decide)) (by decide) rfl rfl rfl (Nat.le_of_ble_eq_true rfl) (by rw [hr]; exact ⟨by decide, by decide⟩) (by rw [hr]; exact ⟨Nat.le_of_ble_eq_true rfl, Nat.le_of_ble_eq_true rfl⟩) ?_
  intro rv h' hp_
  rw [hp_.1, hp_.2]
  show AW V 0 0 (mpH h B a ((muP H 32 ((muP H 119 ((muP H 97 ((muP H 114 ((muP H 100 w p).1) ((muP H 100 w p).2)).1) ((muP H 114 ((muP H 100 w p).1) ((muP H 100 w p).2)).2)).1) ((muP H 97 ((muP H 114 ((muP H 100 w p).1) ((muP H 100 w p).2)).1) ((muP H 114 ((muP H 100 w p).1) ((muP H 100 w p).2)).2)).2)).1) ((muP H 119 ((muP H 97 ((muP H 114 ((muP H 100 w p).1) ((muP H 100 w p).2)).1) ((muP H 114 ((muP H 100 w p).1) ((muP H 100 w p).2)).2)).1) ((muP H 97 ((muP H 114 ((muP H 100 w p).1) ((muP H 100 w p).2)).1) ((muP H 114 ((muP H 100 w p).1) ((muP H 100 w p).2)).2)).2)).2)).2) ((muP H 32 ((muP H 119 ((muP H 97 ((muP H 114 ((muP H 100 w p).1) ((muP H 100 w p).2)).1) ((muP H 114 ((muP H 100 w p).1) ((muP H 100 w p).2)).2)).1) ((muP H 97 ((muP H 114 ((muP H 100 w p).1) ((muP H 100 w p).2)).1) ((muP H 114 ((muP H 100 w p).1) ((muP H 100 w p).2)).2)).2)).1) ((muP H 119 ((muP H 97 ((muP H 114 ((muP H 100 w p).1) ((muP H 100 w p).2)).1) ((muP H 114 ((muP H 100 w p).1) ((muP H 100 w p).2)).2)).1) ((muP H 97 ((muP H 114 ((muP H 100 w p).1) ((muP H 100 w p).2)).1) ((muP H 114 ((muP H 100 w p).1) ((muP H 100 w p).2)).2)).2)).2)).1) o l mo) 19 [(2, .int 4), (0, .ref (B + 51)), (1, .ref (gS V.1 (2 + 4)))] []
  refine a_iinc (v := (4 + 1)) (L' := [(2, .int (4 + 1)), (0, .ref (B + 51)), (1, .ref (gS V.1 (2 + 4)))]) hb dX12_spells_19 0 rfl rfl (by rw [hml]; decide) rfl ?_
  refine a_goto hb 2 dX12_spells_22 (by decide) ?_
  rw [show ((4 : Int32) + 1) = 5 from by decide]
  show AW V 0 0 (mpH h B a ((muP H 32 ((muP H 119 ((muP H 97 ((muP H 114 ((muP H 100 w p).1) ((muP H 100 w p).2)).1) ((muP H 114 ((muP H 100 w p).1) ((muP H 100 w p).2)).2)).1) ((muP H 97 ((muP H 114 ((muP H 100 w p).1) ((muP H 100 w p).2)).1) ((muP H 114 ((muP H 100 w p).1) ((muP H 100 w p).2)).2)).2)).1) ((muP H 119 ((muP H 97 ((muP H 114 ((muP H 100 w p).1) ((muP H 100 w p).2)).1) ((muP H 114 ((muP H 100 w p).1) ((muP H 100 w p).2)).2)).1) ((muP H 97 ((muP H 114 ((muP H 100 w p).1) ((muP H 100 w p).2)).1) ((muP H 114 ((muP H 100 w p).1) ((muP H 100 w p).2)).2)).2)).2)).2) ((muP H 32 ((muP H 119 ((muP H 97 ((muP H 114 ((muP H 100 w p).1) ((muP H 100 w p).2)).1) ((muP H 114 ((muP H 100 w p).1) ((muP H 100 w p).2)).2)).1) ((muP H 97 ((muP H 114 ((muP H 100 w p).1) ((muP H 100 w p).2)).1) ((muP H 114 ((muP H 100 w p).1) ((muP H 100 w p).2)).2)).2)).1) ((muP H 119 ((muP H 97 ((muP H 114 ((muP H 100 w p).1) ((muP H 100 w p).2)).1) ((muP H 114 ((muP H 100 w p).1) ((muP H 100 w p).2)).2)).1) ((muP H 97 ((muP H 114 ((muP H 100 w p).1) ((muP H 100 w p).2)).1) ((muP H 114 ((muP H 100 w p).1) ((muP H 100 w p).2)).2)).2)).2)).1) o l mo) 2 [(2, .int 5), (0, .ref (B + 51)), (1, .ref (gS V.1 (2 + 4)))] []
  refine a_iload_n hb dX12_spells_2 rfl 0 rfl ?_
  refine a_aload_n hb dX12_spells_3 rfl 2 rfl ?_
  refine a_callT (i := 4) hb (by decide) dX12_spells_4 (by rw [hg]; exact j_length g (mpH h B a ((muP H 32 ((muP H 119 ((muP H 97 ((muP H 114 ((muP H 100 w p).1) ((muP H 100 w p).2)).1) ((muP H 114 ((muP H 100 w p).1) ((muP H 100 w p).2)).2)).1) ((muP H 97 ((muP H 114 ((muP H 100 w p).1) ((muP H 100 w p).2)).1) ((muP H 114 ((muP H 100 w p).1) ((muP H 100 w p).2)).2)).2)).1) ((muP H 119 ((muP H 97 ((muP H 114 ((muP H 100 w p).1) ((muP H 100 w p).2)).1) ((muP H 114 ((muP H 100 w p).1) ((muP H 100 w p).2)).2)).1) ((muP H 97 ((muP H 114 ((muP H 100 w p).1) ((muP H 100 w p).2)).1) ((muP H 114 ((muP H 100 w p).1) ((muP H 100 w p).2)).2)).2)).2)).2) ((muP H 32 ((muP H 119 ((muP H 97 ((muP H 114 ((muP H 100 w p).1) ((muP H 100 w p).2)).1) ((muP H 114 ((muP H 100 w p).1) ((muP H 100 w p).2)).2)).1) ((muP H 97 ((muP H 114 ((muP H 100 w p).1) ((muP H 100 w p).2)).1) ((muP H 114 ((muP H 100 w p).1) ((muP H 100 w p).2)).2)).2)).1) ((muP H 119 ((muP H 97 ((muP H 114 ((muP H 100 w p).1) ((muP H 100 w p).2)).1) ((muP H 114 ((muP H 100 w p).1) ((muP H 100 w p).2)).2)).1) ((muP H 97 ((muP H 114 ((muP H 100 w p).1) ((muP H 100 w p).2)).1) ((muP H 114 ((muP H 100 w p).1) ((muP H 100 w p).2)).2)).2)).2)).1) o l mo) 4 (by decide)) (by rw [ow]; exact clv_RX12_75) rfl rfl rfl (Nat.le_of_ble_eq_true rfl) (by rw [hr]; exact ⟨by decide, by decide⟩) (by rw [hr]; exact ⟨Nat.le_of_ble_eq_true rfl, Nat.le_of_ble_eq_true rfl⟩) ?_
  intro rv h' hp_
  rw [hp_.1, hp_.2, show Int32.ofNat (aw_tl.getD 4 0) = 5 from by decide]
  show AW V 0 0 (mpH h B a ((muP H 32 ((muP H 119 ((muP H 97 ((muP H 114 ((muP H 100 w p).1) ((muP H 100 w p).2)).1) ((muP H 114 ((muP H 100 w p).1) ((muP H 100 w p).2)).2)).1) ((muP H 97 ((muP H 114 ((muP H 100 w p).1) ((muP H 100 w p).2)).1) ((muP H 114 ((muP H 100 w p).1) ((muP H 100 w p).2)).2)).2)).1) ((muP H 119 ((muP H 97 ((muP H 114 ((muP H 100 w p).1) ((muP H 100 w p).2)).1) ((muP H 114 ((muP H 100 w p).1) ((muP H 100 w p).2)).2)).1) ((muP H 97 ((muP H 114 ((muP H 100 w p).1) ((muP H 100 w p).2)).1) ((muP H 114 ((muP H 100 w p).1) ((muP H 100 w p).2)).2)).2)).2)).2) ((muP H 32 ((muP H 119 ((muP H 97 ((muP H 114 ((muP H 100 w p).1) ((muP H 100 w p).2)).1) ((muP H 114 ((muP H 100 w p).1) ((muP H 100 w p).2)).2)).1) ((muP H 97 ((muP H 114 ((muP H 100 w p).1) ((muP H 100 w p).2)).1) ((muP H 114 ((muP H 100 w p).1) ((muP H 100 w p).2)).2)).2)).1) ((muP H 119 ((muP H 97 ((muP H 114 ((muP H 100 w p).1) ((muP H 100 w p).2)).1) ((muP H 114 ((muP H 100 w p).1) ((muP H 100 w p).2)).2)).1) ((muP H 97 ((muP H 114 ((muP H 100 w p).1) ((muP H 100 w p).2)).1) ((muP H 114 ((muP H 100 w p).1) ((muP H 100 w p).2)).2)).2)).2)).1) o l mo) 7 [(2, .int 5), (0, .ref (B + 51)), (1, .ref (gS V.1 (2 + 4)))] [.int 5, .int 5]
  refine a_icmp_ge hb 25 dX12_spells_7 (by decide) (fun c7_0 => ?_) (fun c7_0 => absurd (by decide) c7_0)
  exact a_return hb hz dX12_spells_25 hret (by rw [hr]; exact Nat.le_of_ble_eq_true rfl) (by rw [hr]; exact Nat.le_of_ble_eq_true rfl) (⟨rfl, rfl⟩)
theorem spG {tx : Nat → Int32} {n : Nat} {H : Nat → Int32} (hH : H = hrT tx n) {l : List Int32} (hl : ∀ c ∈ l, c ≠ -1) {w : Bool} {p : Nat} (hp : p ≤ n) : (spS H l w p).2 ≤ n := by subst hH; exact (spS_g l w p hl).2 hp
theorem fgG {tx : Nat → Int32} {n : Nat} {H : Nat → Int32} (hH : H = hrT tx n) {w : Bool} {p : Nat} (hp : p ≤ n) : (fgP H w p).2.1 ≤ n := by subst hH; exact fgP_g.2.1 hp
theorem fgV {tx : Nat → Int32} {n : Nat} {H : Nat → Int32} (hH : H = hrT tx n) {w : Bool} {p : Nat} : (fgP H w p).2.2 ≤ 999 := by subst hH; exact fgP_g.2.2
set_option maxRecDepth 100000 in
theorem m_among0 (g : GG) (h : AH) (B : Nat) (hL : LY h B) (a n : Nat) (ha : a < 5) (hac : hI h (B + 51) 4 = nI a) (he : hI h (B + 51) 6 = nI n) (hn : n ≤ 120) (H : Nat → Int32) (hH : H = hrT (fun i => hI h (B + 52) (10 + i)) n) (p o : Nat) (w : Bool) (l : List Int32) (mo : Int32) (hp : p ≤ n) : AM g 5 0 0 mX12_among [.ref (B + 51), .ref (gS g (2 + 0))] (mpH h B a p w o l mo) (fun rv h' => rv = some (.int (if ix5 (H p) = 5 then -1 else nI (ix5 (H p)))) ∧ h' = (mpH h B a (if ix5 (H p) = 5 then p else p + 1) w o l mo)) := by
  refine AM.of [(0, .ref (B + 51)), (1, .ref (gS g (2 + 0)))] (by decide) (Nat.le_of_ble_eq_true rfl) rfl ?_
  intro V hV
  have hb : V.2.1.2.1 = cX12_among := by subst hV; rfl
  have ow : V.2.1.1.cls = RX12 := by subst hV; rfl
  have hr : V.2.2.1 = aw_rm 5 0 0 := by subst hV; rfl
  have hz : V.2.2.2 = aw_Z V.1 (fun rv h' => rv = some (.int (if ix5 (H p) = 5 then -1 else nI (ix5 (H p)))) ∧ h' = (mpH h B a (if ix5 (H p) = 5 then p else p + 1) w o l mo)) V.2.2.1 := by subst hV; rfl
  have hg : V.1 = g := by subst hV; rfl
  have hret : V.2.1.2.2.2 = (some .int) := by subst hV; rfl
  have hml : V.2.1.2.2.1 = 3 := by subst hV; rfl
  clear hV
  rw [← hg]
  refine a_iconst (v := 0) hb dX12_among_0 (by decide) ?_
  refine a_istore_n (L' := [(2, .int 0), (0, .ref (B + 51)), (1, .ref (gS V.1 (2 + 0)))]) hb dX12_among_1 rfl (by rw [hml]; decide) rfl ?_
  refine a_iload_n hb dX12_among_2 rfl 0 rfl ?_
  refine a_aload_n hb dX12_among_3 rfl 2 rfl ?_
  refine a_callT (i := 0) hb (by decide) dX12_among_4 (by rw [hg]; exact j_length g (mpH h B a p w o l mo) 0 (by decide)) (by rw [ow]; exact clv_RX12_75) rfl rfl rfl (Nat.le_of_ble_eq_true rfl) (by rw [hr]; exact ⟨by decide, by decide⟩) (by rw [hr]; exact ⟨Nat.le_of_ble_eq_true rfl, Nat.le_of_ble_eq_true rfl⟩) ?_
  intro rv h' hp_
  rw [hp_.1, hp_.2, show Int32.ofNat (aw_tl.getD 0 0) = 5 from by decide]
  show AW V 0 0 (mpH h B a p w o l mo) 7 [(2, .int 0), (0, .ref (B + 51)), (1, .ref (gS V.1 (2 + 0)))] [.int 5, .int 0]
  refine a_icmp_ge hb 40 dX12_among_7 (by decide) (fun c7_0 => absurd c7_0 (by decide)) (fun c7_0 => ?_)
  refine a_aload_n hb dX12_among_10 rfl 1 rfl ?_
  refine a_callV hb dX12_among_11 (by rw [hg]; exact m_here g h B hL a n ha hac he hn H hH p o w l mo hp) (by rw [ow]; exact clv_RX12_71) ((LY.mp hL : LY (mpH h B a p w o l mo) B).1 51 (by decide)) (by decide) rfl rfl rfl (Nat.le_of_ble_eq_true rfl) (by rw [hr]; exact ⟨by decide, by decide⟩) (by rw [hr]; exact ⟨Nat.le_of_ble_eq_true rfl, Nat.le_of_ble_eq_true rfl⟩) ?_
  intro rv h' hp_
  rw [hp_.1, hp_.2]
  show AW V 0 0 (mpH h B a p w o l mo) 14 [(2, .int 0), (0, .ref (B + 51)), (1, .ref (gS V.1 (2 + 0)))] [.int (H p)]
  refine a_aload_n hb dX12_among_14 rfl 2 rfl ?_
  refine a_iload_n hb dX12_among_15 rfl 0 rfl ?_
  refine a_callT (i := 0) hb (by decide) dX12_among_16 (by rw [hg]; exact j_char g (mpH h B a p w o l mo) 0 (by decide) 0 0 ⟨by decide, by decide⟩ (by decide) (by decide) (by decide) rfl) (by rw [ow]; exact clv_RX12_80) rfl rfl rfl (Nat.le_of_ble_eq_true rfl) (by rw [hr]; exact ⟨by decide, by decide⟩) (by rw [hr]; exact ⟨Nat.le_of_ble_eq_true rfl, Nat.le_of_ble_eq_true rfl⟩) ?_
  intro rv h' hp_
  rw [hp_.1, hp_.2, show (aw_tb.getD 0 []).getD 0 0 = 97 from by decide]
  show AW V 0 0 (mpH h B a p w o l mo) 19 [(2, .int 0), (0, .ref (B + 51)), (1, .ref (gS V.1 (2 + 0)))] [.int 97, .int (H p)]
  refine a_icmp_ne hb 34 dX12_among_19 (by decide) (fun c19_0 => ?_) (fun c19_0 => ?_)
  · refine a_iinc (v := (0 + 1)) (L' := [(2, .int (0 + 1)), (0, .ref (B + 51)), (1, .ref (gS V.1 (2 + 0)))]) hb dX12_among_34 0 rfl rfl (by rw [hml]; decide) rfl ?_
    refine a_goto hb 2 dX12_among_37 (by decide) ?_
    rw [show ((0 : Int32) + 1) = 1 from by decide]
    show AW V 0 0 (mpH h B a p w o l mo) 2 [(2, .int 1), (0, .ref (B + 51)), (1, .ref (gS V.1 (2 + 0)))] []
    refine a_iload_n hb dX12_among_2 rfl 0 rfl ?_
    refine a_aload_n hb dX12_among_3 rfl 2 rfl ?_
    refine a_callT (i := 0) hb (by decide) dX12_among_4 (by rw [hg]; exact j_length g (mpH h B a p w o l mo) 0 (by decide)) (by rw [ow]; exact clv_RX12_75) rfl rfl rfl (Nat.le_of_ble_eq_true rfl) (by rw [hr]; exact ⟨by decide, by decide⟩) (by rw [hr]; exact ⟨Nat.le_of_ble_eq_true rfl, Nat.le_of_ble_eq_true rfl⟩) ?_
    intro rv h' hp_
    rw [hp_.1, hp_.2, show Int32.ofNat (aw_tl.getD 0 0) = 5 from by decide]
    show AW V 0 0 (mpH h B a p w o l mo) 7 [(2, .int 1), (0, .ref (B + 51)), (1, .ref (gS V.1 (2 + 0)))] [.int 5, .int 1]
    refine a_icmp_ge hb 40 dX12_among_7 (by decide) (fun c7_1 => absurd c7_1 (by decide)) (fun c7_1 => ?_)
    refine a_aload_n hb dX12_among_10 rfl 1 rfl ?_
    refine a_callV hb dX12_among_11 (by rw [hg]; exact m_here g h B hL a n ha hac he hn H hH p o w l mo hp) (by rw [ow]; exact clv_RX12_71) ((LY.mp hL : LY (mpH h B a p w o l mo) B).1 51 (by decide)) (by decide) rfl rfl rfl (Nat.le_of_ble_eq_true rfl) (by rw [hr]; exact ⟨by decide, by decide⟩) (by rw [hr]; exact ⟨Nat.le_of_ble_eq_true rfl, Nat.le_of_ble_eq_true rfl⟩) ?_
    intro rv h' hp_
    rw [hp_.1, hp_.2]
    show AW V 0 0 (mpH h B a p w o l mo) 14 [(2, .int 1), (0, .ref (B + 51)), (1, .ref (gS V.1 (2 + 0)))] [.int (H p)]
    refine a_aload_n hb dX12_among_14 rfl 2 rfl ?_
    refine a_iload_n hb dX12_among_15 rfl 0 rfl ?_
    refine a_callT (i := 0) hb (by decide) dX12_among_16 (by rw [hg]; exact j_char g (mpH h B a p w o l mo) 0 (by decide) 1 1 ⟨by decide, by decide⟩ (by decide) (by decide) (by decide) rfl) (by rw [ow]; exact clv_RX12_80) rfl rfl rfl (Nat.le_of_ble_eq_true rfl) (by rw [hr]; exact ⟨by decide, by decide⟩) (by rw [hr]; exact ⟨Nat.le_of_ble_eq_true rfl, Nat.le_of_ble_eq_true rfl⟩) ?_
    intro rv h' hp_
    rw [hp_.1, hp_.2, show (aw_tb.getD 0 []).getD 1 0 = 99 from by decide]
    show AW V 0 0 (mpH h B a p w o l mo) 19 [(2, .int 1), (0, .ref (B + 51)), (1, .ref (gS V.1 (2 + 0)))] [.int 99, .int (H p)]
    refine a_icmp_ne hb 34 dX12_among_19 (by decide) (fun c19_1 => ?_) (fun c19_1 => ?_)
    · refine a_iinc (v := (1 + 1)) (L' := [(2, .int (1 + 1)), (0, .ref (B + 51)), (1, .ref (gS V.1 (2 + 0)))]) hb dX12_among_34 0 rfl rfl (by rw [hml]; decide) rfl ?_
      refine a_goto hb 2 dX12_among_37 (by decide) ?_
      rw [show ((1 : Int32) + 1) = 2 from by decide]
      show AW V 0 0 (mpH h B a p w o l mo) 2 [(2, .int 2), (0, .ref (B + 51)), (1, .ref (gS V.1 (2 + 0)))] []
      refine a_iload_n hb dX12_among_2 rfl 0 rfl ?_
      refine a_aload_n hb dX12_among_3 rfl 2 rfl ?_
      refine a_callT (i := 0) hb (by decide) dX12_among_4 (by rw [hg]; exact j_length g (mpH h B a p w o l mo) 0 (by decide)) (by rw [ow]; exact clv_RX12_75) rfl rfl rfl (Nat.le_of_ble_eq_true rfl) (by rw [hr]; exact ⟨by decide, by decide⟩) (by rw [hr]; exact ⟨Nat.le_of_ble_eq_true rfl, Nat.le_of_ble_eq_true rfl⟩) ?_
      intro rv h' hp_
      rw [hp_.1, hp_.2, show Int32.ofNat (aw_tl.getD 0 0) = 5 from by decide]
      show AW V 0 0 (mpH h B a p w o l mo) 7 [(2, .int 2), (0, .ref (B + 51)), (1, .ref (gS V.1 (2 + 0)))] [.int 5, .int 2]
      refine a_icmp_ge hb 40 dX12_among_7 (by decide) (fun c7_2 => absurd c7_2 (by decide)) (fun c7_2 => ?_)
      refine a_aload_n hb dX12_among_10 rfl 1 rfl ?_
      refine a_callV hb dX12_among_11 (by rw [hg]; exact m_here g h B hL a n ha hac he hn H hH p o w l mo hp) (by rw [ow]; exact clv_RX12_71) ((LY.mp hL : LY (mpH h B a p w o l mo) B).1 51 (by decide)) (by decide) rfl rfl rfl (Nat.le_of_ble_eq_true rfl) (by rw [hr]; exact ⟨by decide, by decide⟩) (by rw [hr]; exact ⟨Nat.le_of_ble_eq_true rfl, Nat.le_of_ble_eq_true rfl⟩) ?_
      intro rv h' hp_
      rw [hp_.1, hp_.2]
      show AW V 0 0 (mpH h B a p w o l mo) 14 [(2, .int 2), (0, .ref (B + 51)), (1, .ref (gS V.1 (2 + 0)))] [.int (H p)]
      refine a_aload_n hb dX12_among_14 rfl 2 rfl ?_
      refine a_iload_n hb dX12_among_15 rfl 0 rfl ?_
      refine a_callT (i := 0) hb (by decide) dX12_among_16 (by rw [hg]; exact j_char g (mpH h B a p w o l mo) 0 (by decide) 2 2 ⟨by decide, by decide⟩ (by decide) (by decide) (by decide) rfl) (by rw [ow]; exact clv_RX12_80) rfl rfl rfl (Nat.le_of_ble_eq_true rfl) (by rw [hr]; exact ⟨by decide, by decide⟩) (by rw [hr]; exact ⟨Nat.le_of_ble_eq_true rfl, Nat.le_of_ble_eq_true rfl⟩) ?_
      intro rv h' hp_
      rw [hp_.1, hp_.2, show (aw_tb.getD 0 []).getD 2 0 = 115 from by decide]
      show AW V 0 0 (mpH h B a p w o l mo) 19 [(2, .int 2), (0, .ref (B + 51)), (1, .ref (gS V.1 (2 + 0)))] [.int 115, .int (H p)]
      refine a_icmp_ne hb 34 dX12_among_19 (by decide) (fun c19_2 => ?_) (fun c19_2 => ?_)
      · refine a_iinc (v := (2 + 1)) (L' := [(2, .int (2 + 1)), (0, .ref (B + 51)), (1, .ref (gS V.1 (2 + 0)))]) hb dX12_among_34 0 rfl rfl (by rw [hml]; decide) rfl ?_
        refine a_goto hb 2 dX12_among_37 (by decide) ?_
        rw [show ((2 : Int32) + 1) = 3 from by decide]
        show AW V 0 0 (mpH h B a p w o l mo) 2 [(2, .int 3), (0, .ref (B + 51)), (1, .ref (gS V.1 (2 + 0)))] []
        refine a_iload_n hb dX12_among_2 rfl 0 rfl ?_
        refine a_aload_n hb dX12_among_3 rfl 2 rfl ?_
        refine a_callT (i := 0) hb (by decide) dX12_among_4 (by rw [hg]; exact j_length g (mpH h B a p w o l mo) 0 (by decide)) (by rw [ow]; exact clv_RX12_75) rfl rfl rfl (Nat.le_of_ble_eq_true rfl) (by rw [hr]; exact ⟨by decide, by decide⟩) (by rw [hr]; exact ⟨Nat.le_of_ble_eq_true rfl, Nat.le_of_ble_eq_true rfl⟩) ?_
        intro rv h' hp_
        rw [hp_.1, hp_.2, show Int32.ofNat (aw_tl.getD 0 0) = 5 from by decide]
        show AW V 0 0 (mpH h B a p w o l mo) 7 [(2, .int 3), (0, .ref (B + 51)), (1, .ref (gS V.1 (2 + 0)))] [.int 5, .int 3]
        refine a_icmp_ge hb 40 dX12_among_7 (by decide) (fun c7_3 => absurd c7_3 (by decide)) (fun c7_3 => ?_)
        refine a_aload_n hb dX12_among_10 rfl 1 rfl ?_
        refine a_callV hb dX12_among_11 (by rw [hg]; exact m_here g h B hL a n ha hac he hn H hH p o w l mo hp) (by rw [ow]; exact clv_RX12_71) ((LY.mp hL : LY (mpH h B a p w o l mo) B).1 51 (by decide)) (by decide) rfl rfl rfl (Nat.le_of_ble_eq_true rfl) (by rw [hr]; exact ⟨by decide, by decide⟩) (by rw [hr]; exact ⟨Nat.le_of_ble_eq_true rfl, Nat.le_of_ble_eq_true rfl⟩) ?_
        intro rv h' hp_
        rw [hp_.1, hp_.2]
        show AW V 0 0 (mpH h B a p w o l mo) 14 [(2, .int 3), (0, .ref (B + 51)), (1, .ref (gS V.1 (2 + 0)))] [.int (H p)]
        refine a_aload_n hb dX12_among_14 rfl 2 rfl ?_
        refine a_iload_n hb dX12_among_15 rfl 0 rfl ?_
        refine a_callT (i := 0) hb (by decide) dX12_among_16 (by rw [hg]; exact j_char g (mpH h B a p w o l mo) 0 (by decide) 3 3 ⟨by decide, by decide⟩ (by decide) (by decide) (by decide) rfl) (by rw [ow]; exact clv_RX12_80) rfl rfl rfl (Nat.le_of_ble_eq_true rfl) (by rw [hr]; exact ⟨by decide, by decide⟩) (by rw [hr]; exact ⟨Nat.le_of_ble_eq_true rfl, Nat.le_of_ble_eq_true rfl⟩) ?_
        intro rv h' hp_
        rw [hp_.1, hp_.2, show (aw_tb.getD 0 []).getD 3 0 = 107 from by decide]
        show AW V 0 0 (mpH h B a p w o l mo) 19 [(2, .int 3), (0, .ref (B + 51)), (1, .ref (gS V.1 (2 + 0)))] [.int 107, .int (H p)]
        refine a_icmp_ne hb 34 dX12_among_19 (by decide) (fun c19_3 => ?_) (fun c19_3 => ?_)
        · refine a_iinc (v := (3 + 1)) (L' := [(2, .int (3 + 1)), (0, .ref (B + 51)), (1, .ref (gS V.1 (2 + 0)))]) hb dX12_among_34 0 rfl rfl (by rw [hml]; decide) rfl ?_
          refine a_goto hb 2 dX12_among_37 (by decide) ?_
          rw [show ((3 : Int32) + 1) = 4 from by decide]
          show AW V 0 0 (mpH h B a p w o l mo) 2 [(2, .int 4), (0, .ref (B + 51)), (1, .ref (gS V.1 (2 + 0)))] []
          refine a_iload_n hb dX12_among_2 rfl 0 rfl ?_
          refine a_aload_n hb dX12_among_3 rfl 2 rfl ?_
          refine a_callT (i := 0) hb (by decide) dX12_among_4 (by rw [hg]; exact j_length g (mpH h B a p w o l mo) 0 (by decide)) (by rw [ow]; exact clv_RX12_75) rfl rfl rfl (Nat.le_of_ble_eq_true rfl) (by rw [hr]; exact ⟨by decide, by decide⟩) (by rw [hr]; exact ⟨Nat.le_of_ble_eq_true rfl, Nat.le_of_ble_eq_true rfl⟩) ?_
          intro rv h' hp_
          rw [hp_.1, hp_.2, show Int32.ofNat (aw_tl.getD 0 0) = 5 from by decide]
          show AW V 0 0 (mpH h B a p w o l mo) 7 [(2, .int 4), (0, .ref (B + 51)), (1, .ref (gS V.1 (2 + 0)))] [.int 5, .int 4]
          refine a_icmp_ge hb 40 dX12_among_7 (by decide) (fun c7_4 => absurd c7_4 (by decide)) (fun c7_4 => ?_)
          refine a_aload_n hb dX12_among_10 rfl 1 rfl ?_
          refine a_callV hb dX12_among_11 (by rw [hg]; exact m_here g h B hL a n ha hac he hn H hH p o w l mo hp) (by rw [ow]; exact clv_RX12_71) ((LY.mp hL : LY (mpH h B a p w o l mo) B).1 51 (by decide)) (by decide) rfl rfl rfl (Nat.le_of_ble_eq_true rfl) (by rw [hr]; exact ⟨by decide, by decide⟩) (by rw [hr]; exact ⟨Nat.le_of_ble_eq_true rfl, Nat.le_of_ble_eq_true rfl⟩) ?_
          intro rv h' hp_
          rw [hp_.1, hp_.2]
          show AW V 0 0 (mpH h B a p w o l mo) 14 [(2, .int 4), (0, .ref (B + 51)), (1, .ref (gS V.1 (2 + 0)))] [.int (H p)]
          refine a_aload_n hb dX12_among_14 rfl 2 rfl ?_
          refine a_iload_n hb dX12_among_15 rfl 0 rfl ?_
          refine a_callT (i := 0) hb (by decide) dX12_among_16 (by rw [hg]; exact j_char g (mpH h B a p w o l mo) 0 (by decide) 4 4 ⟨by decide, by decide⟩ (by decide) (by decide) (by decide) rfl) (by rw [ow]; exact clv_RX12_80) rfl rfl rfl (Nat.le_of_ble_eq_true rfl) (by rw [hr]; exact ⟨by decide, by decide⟩) (by rw [hr]; exact ⟨Nat.le_of_ble_eq_true rfl, Nat.le_of_ble_eq_true rfl⟩) ?_
          intro rv h' hp_
          rw [hp_.1, hp_.2, show (aw_tb.getD 0 []).getD 4 0 = 116 from by decide]
          show AW V 0 0 (mpH h B a p w o l mo) 19 [(2, .int 4), (0, .ref (B + 51)), (1, .ref (gS V.1 (2 + 0)))] [.int 116, .int (H p)]
          refine a_icmp_ne hb 34 dX12_among_19 (by decide) (fun c19_4 => ?_) (fun c19_4 => ?_)
          · refine a_iinc (v := (4 + 1)) (L' := [(2, .int (4 + 1)), (0, .ref (B + 51)), (1, .ref (gS V.1 (2 + 0)))]) hb dX12_among_34 0 rfl rfl (by rw [hml]; decide) rfl ?_
            refine a_goto hb 2 dX12_among_37 (by decide) ?_
            rw [show ((4 : Int32) + 1) = 5 from by decide]
            show AW V 0 0 (mpH h B a p w o l mo) 2 [(2, .int 5), (0, .ref (B + 51)), (1, .ref (gS V.1 (2 + 0)))] []
            refine a_iload_n hb dX12_among_2 rfl 0 rfl ?_
            refine a_aload_n hb dX12_among_3 rfl 2 rfl ?_
            refine a_callT (i := 0) hb (by decide) dX12_among_4 (by rw [hg]; exact j_length g (mpH h B a p w o l mo) 0 (by decide)) (by rw [ow]; exact clv_RX12_75) rfl rfl rfl (Nat.le_of_ble_eq_true rfl) (by rw [hr]; exact ⟨by decide, by decide⟩) (by rw [hr]; exact ⟨Nat.le_of_ble_eq_true rfl, Nat.le_of_ble_eq_true rfl⟩) ?_
            intro rv h' hp_
            rw [hp_.1, hp_.2, show Int32.ofNat (aw_tl.getD 0 0) = 5 from by decide]
            show AW V 0 0 (mpH h B a p w o l mo) 7 [(2, .int 5), (0, .ref (B + 51)), (1, .ref (gS V.1 (2 + 0)))] [.int 5, .int 5]
            refine a_icmp_ge hb 40 dX12_among_7 (by decide) (fun c7_5 => ?_) (fun c7_5 => absurd (by decide) c7_5)
            refine a_iconst (v := (-1)) hb dX12_among_40 (by decide) ?_
            exact a_ireturn (ty := .int) hb hz dX12_among_41 hret rfl (by rw [hr]; exact Nat.le_of_ble_eq_true rfl) (by rw [hr]; exact Nat.le_of_ble_eq_true rfl) (⟨by clear hH; simp [ix5, *] <;> rfl, by clear hH; simp [ix5, *]⟩)
          · refine a_aload_n hb dX12_among_22 rfl 1 rfl ?_
            refine a_dup hb dX12_among_23 rfl ?_
            refine a_getI hb dX12_among_24 (by rw [ow]; exact fl_RX12_61_12) ((LY.mp hL : LY (mpH h B a p w o l mo) B).1 51 (by decide)) ?_
            rw [mp_f5]
            show AW V 0 0 (mpH h B a p w o l mo) 27 [(2, .int 4), (0, .ref (B + 51)), (1, .ref (gS V.1 (2 + 0)))] [.int (nI p), .ref (B + 51)]
            refine a_iconst (v := 1) hb dX12_among_27 (by decide) ?_
            refine a_iadd hb dX12_among_28 ?_
            refine a_putI (fty := .int) hb dX12_among_29 (by rw [ow]; exact fp_RX12_61_12) (Or.inr (fun C T N hq => by cases hq; rfl)) ((LY.mp hL : LY (mpH h B a p w o l mo) B).1 51 (by decide)) rfl rfl ?_
            rw [mp_5 (q := (p + 1)) (by rw [nI_1])]
            show AW V 0 0 (mpH h B a (p + 1) w o l mo) 32 [(2, .int 4), (0, .ref (B + 51)), (1, .ref (gS V.1 (2 + 0)))] []
            refine a_iload_n hb dX12_among_32 rfl 0 rfl ?_
            exact a_ireturn (ty := .int) hb hz dX12_among_33 hret rfl (by rw [hr]; exact Nat.le_of_ble_eq_true rfl) (by rw [hr]; exact Nat.le_of_ble_eq_true rfl) (⟨by clear hH; simp [ix5, *] <;> rfl, by clear hH; simp [ix5, *]⟩)
        · refine a_aload_n hb dX12_among_22 rfl 1 rfl ?_
          refine a_dup hb dX12_among_23 rfl ?_
          refine a_getI hb dX12_among_24 (by rw [ow]; exact fl_RX12_61_12) ((LY.mp hL : LY (mpH h B a p w o l mo) B).1 51 (by decide)) ?_
          rw [mp_f5]
          show AW V 0 0 (mpH h B a p w o l mo) 27 [(2, .int 3), (0, .ref (B + 51)), (1, .ref (gS V.1 (2 + 0)))] [.int (nI p), .ref (B + 51)]
          refine a_iconst (v := 1) hb dX12_among_27 (by decide) ?_
          refine a_iadd hb dX12_among_28 ?_
          refine a_putI (fty := .int) hb dX12_among_29 (by rw [ow]; exact fp_RX12_61_12) (Or.inr (fun C T N hq => by cases hq; rfl)) ((LY.mp hL : LY (mpH h B a p w o l mo) B).1 51 (by decide)) rfl rfl ?_
          rw [mp_5 (q := (p + 1)) (by rw [nI_1])]
          show AW V 0 0 (mpH h B a (p + 1) w o l mo) 32 [(2, .int 3), (0, .ref (B + 51)), (1, .ref (gS V.1 (2 + 0)))] []
          refine a_iload_n hb dX12_among_32 rfl 0 rfl ?_
          exact a_ireturn (ty := .int) hb hz dX12_among_33 hret rfl (by rw [hr]; exact Nat.le_of_ble_eq_true rfl) (by rw [hr]; exact Nat.le_of_ble_eq_true rfl) (⟨by clear hH; simp [ix5, *] <;> rfl, by clear hH; simp [ix5, *]⟩)
      · refine a_aload_n hb dX12_among_22 rfl 1 rfl ?_
        refine a_dup hb dX12_among_23 rfl ?_
        refine a_getI hb dX12_among_24 (by rw [ow]; exact fl_RX12_61_12) ((LY.mp hL : LY (mpH h B a p w o l mo) B).1 51 (by decide)) ?_
        rw [mp_f5]
        show AW V 0 0 (mpH h B a p w o l mo) 27 [(2, .int 2), (0, .ref (B + 51)), (1, .ref (gS V.1 (2 + 0)))] [.int (nI p), .ref (B + 51)]
        refine a_iconst (v := 1) hb dX12_among_27 (by decide) ?_
        refine a_iadd hb dX12_among_28 ?_
        refine a_putI (fty := .int) hb dX12_among_29 (by rw [ow]; exact fp_RX12_61_12) (Or.inr (fun C T N hq => by cases hq; rfl)) ((LY.mp hL : LY (mpH h B a p w o l mo) B).1 51 (by decide)) rfl rfl ?_
        rw [mp_5 (q := (p + 1)) (by rw [nI_1])]
        show AW V 0 0 (mpH h B a (p + 1) w o l mo) 32 [(2, .int 2), (0, .ref (B + 51)), (1, .ref (gS V.1 (2 + 0)))] []
        refine a_iload_n hb dX12_among_32 rfl 0 rfl ?_
        exact a_ireturn (ty := .int) hb hz dX12_among_33 hret rfl (by rw [hr]; exact Nat.le_of_ble_eq_true rfl) (by rw [hr]; exact Nat.le_of_ble_eq_true rfl) (⟨by clear hH; simp [ix5, *] <;> rfl, by clear hH; simp [ix5, *]⟩)
    · refine a_aload_n hb dX12_among_22 rfl 1 rfl ?_
      refine a_dup hb dX12_among_23 rfl ?_
      refine a_getI hb dX12_among_24 (by rw [ow]; exact fl_RX12_61_12) ((LY.mp hL : LY (mpH h B a p w o l mo) B).1 51 (by decide)) ?_
      rw [mp_f5]
      show AW V 0 0 (mpH h B a p w o l mo) 27 [(2, .int 1), (0, .ref (B + 51)), (1, .ref (gS V.1 (2 + 0)))] [.int (nI p), .ref (B + 51)]
      refine a_iconst (v := 1) hb dX12_among_27 (by decide) ?_
      refine a_iadd hb dX12_among_28 ?_
      refine a_putI (fty := .int) hb dX12_among_29 (by rw [ow]; exact fp_RX12_61_12) (Or.inr (fun C T N hq => by cases hq; rfl)) ((LY.mp hL : LY (mpH h B a p w o l mo) B).1 51 (by decide)) rfl rfl ?_
      rw [mp_5 (q := (p + 1)) (by rw [nI_1])]
      show AW V 0 0 (mpH h B a (p + 1) w o l mo) 32 [(2, .int 1), (0, .ref (B + 51)), (1, .ref (gS V.1 (2 + 0)))] []
      refine a_iload_n hb dX12_among_32 rfl 0 rfl ?_
      exact a_ireturn (ty := .int) hb hz dX12_among_33 hret rfl (by rw [hr]; exact Nat.le_of_ble_eq_true rfl) (by rw [hr]; exact Nat.le_of_ble_eq_true rfl) (⟨by clear hH; simp [ix5, *] <;> rfl, by clear hH; simp [ix5, *]⟩)
  · refine a_aload_n hb dX12_among_22 rfl 1 rfl ?_
    refine a_dup hb dX12_among_23 rfl ?_
    refine a_getI hb dX12_among_24 (by rw [ow]; exact fl_RX12_61_12) ((LY.mp hL : LY (mpH h B a p w o l mo) B).1 51 (by decide)) ?_
    rw [mp_f5]
    show AW V 0 0 (mpH h B a p w o l mo) 27 [(2, .int 0), (0, .ref (B + 51)), (1, .ref (gS V.1 (2 + 0)))] [.int (nI p), .ref (B + 51)]
    refine a_iconst (v := 1) hb dX12_among_27 (by decide) ?_
    refine a_iadd hb dX12_among_28 ?_
    refine a_putI (fty := .int) hb dX12_among_29 (by rw [ow]; exact fp_RX12_61_12) (Or.inr (fun C T N hq => by cases hq; rfl)) ((LY.mp hL : LY (mpH h B a p w o l mo) B).1 51 (by decide)) rfl rfl ?_
    rw [mp_5 (q := (p + 1)) (by rw [nI_1])]
    show AW V 0 0 (mpH h B a (p + 1) w o l mo) 32 [(2, .int 0), (0, .ref (B + 51)), (1, .ref (gS V.1 (2 + 0)))] []
    refine a_iload_n hb dX12_among_32 rfl 0 rfl ?_
    exact a_ireturn (ty := .int) hb hz dX12_among_33 hret rfl (by rw [hr]; exact Nat.le_of_ble_eq_true rfl) (by rw [hr]; exact Nat.le_of_ble_eq_true rfl) (⟨by clear hH; simp [ix5, *] <;> rfl, by clear hH; simp [ix5, *]⟩)
set_option maxRecDepth 100000 in
theorem m_among1 (g : GG) (h : AH) (B : Nat) (hL : LY h B) (a n : Nat) (ha : a < 5) (hac : hI h (B + 51) 4 = nI a) (he : hI h (B + 51) 6 = nI n) (hn : n ≤ 120) (H : Nat → Int32) (hH : H = hrT (fun i => hI h (B + 52) (10 + i)) n) (p o : Nat) (w : Bool) (l : List Int32) (mo : Int32) (hp : p ≤ n) : AM g 5 0 0 mX12_among [.ref (B + 51), .ref (gS g (2 + 1))] (mpH h B a p w o l mo) (fun rv h' => rv = some (.int (if ix3 (H p) = 3 then -1 else nI (ix3 (H p)))) ∧ h' = (mpH h B a (if ix3 (H p) = 3 then p else p + 1) w o l mo)) := by
  refine AM.of [(0, .ref (B + 51)), (1, .ref (gS g (2 + 1)))] (by decide) (Nat.le_of_ble_eq_true rfl) rfl ?_
  intro V hV
  have hb : V.2.1.2.1 = cX12_among := by subst hV; rfl
  have ow : V.2.1.1.cls = RX12 := by subst hV; rfl
  have hr : V.2.2.1 = aw_rm 5 0 0 := by subst hV; rfl
  have hz : V.2.2.2 = aw_Z V.1 (fun rv h' => rv = some (.int (if ix3 (H p) = 3 then -1 else nI (ix3 (H p)))) ∧ h' = (mpH h B a (if ix3 (H p) = 3 then p else p + 1) w o l mo)) V.2.2.1 := by subst hV; rfl
  have hg : V.1 = g := by subst hV; rfl
  have hret : V.2.1.2.2.2 = (some .int) := by subst hV; rfl
  have hml : V.2.1.2.2.1 = 3 := by subst hV; rfl
  clear hV
  rw [← hg]
  refine a_iconst (v := 0) hb dX12_among_0 (by decide) ?_
  refine a_istore_n (L' := [(2, .int 0), (0, .ref (B + 51)), (1, .ref (gS V.1 (2 + 1)))]) hb dX12_among_1 rfl (by rw [hml]; decide) rfl ?_
  refine a_iload_n hb dX12_among_2 rfl 0 rfl ?_
  refine a_aload_n hb dX12_among_3 rfl 2 rfl ?_
  refine a_callT (i := 1) hb (by decide) dX12_among_4 (by rw [hg]; exact j_length g (mpH h B a p w o l mo) 1 (by decide)) (by rw [ow]; exact clv_RX12_75) rfl rfl rfl (Nat.le_of_ble_eq_true rfl) (by rw [hr]; exact ⟨by decide, by decide⟩) (by rw [hr]; exact ⟨Nat.le_of_ble_eq_true rfl, Nat.le_of_ble_eq_true rfl⟩) ?_
  intro rv h' hp_
  rw [hp_.1, hp_.2, show Int32.ofNat (aw_tl.getD 1 0) = 3 from by decide]
  show AW V 0 0 (mpH h B a p w o l mo) 7 [(2, .int 0), (0, .ref (B + 51)), (1, .ref (gS V.1 (2 + 1)))] [.int 3, .int 0]
  refine a_icmp_ge hb 40 dX12_among_7 (by decide) (fun c7_0 => absurd c7_0 (by decide)) (fun c7_0 => ?_)
  refine a_aload_n hb dX12_among_10 rfl 1 rfl ?_
  refine a_callV hb dX12_among_11 (by rw [hg]; exact m_here g h B hL a n ha hac he hn H hH p o w l mo hp) (by rw [ow]; exact clv_RX12_71) ((LY.mp hL : LY (mpH h B a p w o l mo) B).1 51 (by decide)) (by decide) rfl rfl rfl (Nat.le_of_ble_eq_true rfl) (by rw [hr]; exact ⟨by decide, by decide⟩) (by rw [hr]; exact ⟨Nat.le_of_ble_eq_true rfl, Nat.le_of_ble_eq_true rfl⟩) ?_
  intro rv h' hp_
  rw [hp_.1, hp_.2]
  show AW V 0 0 (mpH h B a p w o l mo) 14 [(2, .int 0), (0, .ref (B + 51)), (1, .ref (gS V.1 (2 + 1)))] [.int (H p)]
  refine a_aload_n hb dX12_among_14 rfl 2 rfl ?_
  refine a_iload_n hb dX12_among_15 rfl 0 rfl ?_
  refine a_callT (i := 1) hb (by decide) dX12_among_16 (by rw [hg]; exact j_char g (mpH h B a p w o l mo) 1 (by decide) 0 0 ⟨by decide, by decide⟩ (by decide) (by decide) (by decide) rfl) (by rw [ow]; exact clv_RX12_80) rfl rfl rfl (Nat.le_of_ble_eq_true rfl) (by rw [hr]; exact ⟨by decide, by decide⟩) (by rw [hr]; exact ⟨Nat.le_of_ble_eq_true rfl, Nat.le_of_ble_eq_true rfl⟩) ?_
  intro rv h' hp_
  rw [hp_.1, hp_.2, show (aw_tb.getD 1 []).getD 0 0 = 60 from by decide]
  show AW V 0 0 (mpH h B a p w o l mo) 19 [(2, .int 0), (0, .ref (B + 51)), (1, .ref (gS V.1 (2 + 1)))] [.int 60, .int (H p)]
  refine a_icmp_ne hb 34 dX12_among_19 (by decide) (fun c19_0 => ?_) (fun c19_0 => ?_)
  · refine a_iinc (v := (0 + 1)) (L' := [(2, .int (0 + 1)), (0, .ref (B + 51)), (1, .ref (gS V.1 (2 + 1)))]) hb dX12_among_34 0 rfl rfl (by rw [hml]; decide) rfl ?_
    refine a_goto hb 2 dX12_among_37 (by decide) ?_
    rw [show ((0 : Int32) + 1) = 1 from by decide]
    show AW V 0 0 (mpH h B a p w o l mo) 2 [(2, .int 1), (0, .ref (B + 51)), (1, .ref (gS V.1 (2 + 1)))] []
    refine a_iload_n hb dX12_among_2 rfl 0 rfl ?_
    refine a_aload_n hb dX12_among_3 rfl 2 rfl ?_
    refine a_callT (i := 1) hb (by decide) dX12_among_4 (by rw [hg]; exact j_length g (mpH h B a p w o l mo) 1 (by decide)) (by rw [ow]; exact clv_RX12_75) rfl rfl rfl (Nat.le_of_ble_eq_true rfl) (by rw [hr]; exact ⟨by decide, by decide⟩) (by rw [hr]; exact ⟨Nat.le_of_ble_eq_true rfl, Nat.le_of_ble_eq_true rfl⟩) ?_
    intro rv h' hp_
    rw [hp_.1, hp_.2, show Int32.ofNat (aw_tl.getD 1 0) = 3 from by decide]
    show AW V 0 0 (mpH h B a p w o l mo) 7 [(2, .int 1), (0, .ref (B + 51)), (1, .ref (gS V.1 (2 + 1)))] [.int 3, .int 1]
    refine a_icmp_ge hb 40 dX12_among_7 (by decide) (fun c7_1 => absurd c7_1 (by decide)) (fun c7_1 => ?_)
    refine a_aload_n hb dX12_among_10 rfl 1 rfl ?_
    refine a_callV hb dX12_among_11 (by rw [hg]; exact m_here g h B hL a n ha hac he hn H hH p o w l mo hp) (by rw [ow]; exact clv_RX12_71) ((LY.mp hL : LY (mpH h B a p w o l mo) B).1 51 (by decide)) (by decide) rfl rfl rfl (Nat.le_of_ble_eq_true rfl) (by rw [hr]; exact ⟨by decide, by decide⟩) (by rw [hr]; exact ⟨Nat.le_of_ble_eq_true rfl, Nat.le_of_ble_eq_true rfl⟩) ?_
    intro rv h' hp_
    rw [hp_.1, hp_.2]
    show AW V 0 0 (mpH h B a p w o l mo) 14 [(2, .int 1), (0, .ref (B + 51)), (1, .ref (gS V.1 (2 + 1)))] [.int (H p)]
    refine a_aload_n hb dX12_among_14 rfl 2 rfl ?_
    refine a_iload_n hb dX12_among_15 rfl 0 rfl ?_
    refine a_callT (i := 1) hb (by decide) dX12_among_16 (by rw [hg]; exact j_char g (mpH h B a p w o l mo) 1 (by decide) 1 1 ⟨by decide, by decide⟩ (by decide) (by decide) (by decide) rfl) (by rw [ow]; exact clv_RX12_80) rfl rfl rfl (Nat.le_of_ble_eq_true rfl) (by rw [hr]; exact ⟨by decide, by decide⟩) (by rw [hr]; exact ⟨Nat.le_of_ble_eq_true rfl, Nat.le_of_ble_eq_true rfl⟩) ?_
    intro rv h' hp_
    rw [hp_.1, hp_.2, show (aw_tb.getD 1 []).getD 1 0 = 61 from by decide]
    show AW V 0 0 (mpH h B a p w o l mo) 19 [(2, .int 1), (0, .ref (B + 51)), (1, .ref (gS V.1 (2 + 1)))] [.int 61, .int (H p)]
    refine a_icmp_ne hb 34 dX12_among_19 (by decide) (fun c19_1 => ?_) (fun c19_1 => ?_)
    · refine a_iinc (v := (1 + 1)) (L' := [(2, .int (1 + 1)), (0, .ref (B + 51)), (1, .ref (gS V.1 (2 + 1)))]) hb dX12_among_34 0 rfl rfl (by rw [hml]; decide) rfl ?_
      refine a_goto hb 2 dX12_among_37 (by decide) ?_
      rw [show ((1 : Int32) + 1) = 2 from by decide]
      show AW V 0 0 (mpH h B a p w o l mo) 2 [(2, .int 2), (0, .ref (B + 51)), (1, .ref (gS V.1 (2 + 1)))] []
      refine a_iload_n hb dX12_among_2 rfl 0 rfl ?_
      refine a_aload_n hb dX12_among_3 rfl 2 rfl ?_
      refine a_callT (i := 1) hb (by decide) dX12_among_4 (by rw [hg]; exact j_length g (mpH h B a p w o l mo) 1 (by decide)) (by rw [ow]; exact clv_RX12_75) rfl rfl rfl (Nat.le_of_ble_eq_true rfl) (by rw [hr]; exact ⟨by decide, by decide⟩) (by rw [hr]; exact ⟨Nat.le_of_ble_eq_true rfl, Nat.le_of_ble_eq_true rfl⟩) ?_
      intro rv h' hp_
      rw [hp_.1, hp_.2, show Int32.ofNat (aw_tl.getD 1 0) = 3 from by decide]
      show AW V 0 0 (mpH h B a p w o l mo) 7 [(2, .int 2), (0, .ref (B + 51)), (1, .ref (gS V.1 (2 + 1)))] [.int 3, .int 2]
      refine a_icmp_ge hb 40 dX12_among_7 (by decide) (fun c7_2 => absurd c7_2 (by decide)) (fun c7_2 => ?_)
      refine a_aload_n hb dX12_among_10 rfl 1 rfl ?_
      refine a_callV hb dX12_among_11 (by rw [hg]; exact m_here g h B hL a n ha hac he hn H hH p o w l mo hp) (by rw [ow]; exact clv_RX12_71) ((LY.mp hL : LY (mpH h B a p w o l mo) B).1 51 (by decide)) (by decide) rfl rfl rfl (Nat.le_of_ble_eq_true rfl) (by rw [hr]; exact ⟨by decide, by decide⟩) (by rw [hr]; exact ⟨Nat.le_of_ble_eq_true rfl, Nat.le_of_ble_eq_true rfl⟩) ?_
      intro rv h' hp_
      rw [hp_.1, hp_.2]
      show AW V 0 0 (mpH h B a p w o l mo) 14 [(2, .int 2), (0, .ref (B + 51)), (1, .ref (gS V.1 (2 + 1)))] [.int (H p)]
      refine a_aload_n hb dX12_among_14 rfl 2 rfl ?_
      refine a_iload_n hb dX12_among_15 rfl 0 rfl ?_
      refine a_callT (i := 1) hb (by decide) dX12_among_16 (by rw [hg]; exact j_char g (mpH h B a p w o l mo) 1 (by decide) 2 2 ⟨by decide, by decide⟩ (by decide) (by decide) (by decide) rfl) (by rw [ow]; exact clv_RX12_80) rfl rfl rfl (Nat.le_of_ble_eq_true rfl) (by rw [hr]; exact ⟨by decide, by decide⟩) (by rw [hr]; exact ⟨Nat.le_of_ble_eq_true rfl, Nat.le_of_ble_eq_true rfl⟩) ?_
      intro rv h' hp_
      rw [hp_.1, hp_.2, show (aw_tb.getD 1 []).getD 2 0 = 62 from by decide]
      show AW V 0 0 (mpH h B a p w o l mo) 19 [(2, .int 2), (0, .ref (B + 51)), (1, .ref (gS V.1 (2 + 1)))] [.int 62, .int (H p)]
      refine a_icmp_ne hb 34 dX12_among_19 (by decide) (fun c19_2 => ?_) (fun c19_2 => ?_)
      · refine a_iinc (v := (2 + 1)) (L' := [(2, .int (2 + 1)), (0, .ref (B + 51)), (1, .ref (gS V.1 (2 + 1)))]) hb dX12_among_34 0 rfl rfl (by rw [hml]; decide) rfl ?_
        refine a_goto hb 2 dX12_among_37 (by decide) ?_
        rw [show ((2 : Int32) + 1) = 3 from by decide]
        show AW V 0 0 (mpH h B a p w o l mo) 2 [(2, .int 3), (0, .ref (B + 51)), (1, .ref (gS V.1 (2 + 1)))] []
        refine a_iload_n hb dX12_among_2 rfl 0 rfl ?_
        refine a_aload_n hb dX12_among_3 rfl 2 rfl ?_
        refine a_callT (i := 1) hb (by decide) dX12_among_4 (by rw [hg]; exact j_length g (mpH h B a p w o l mo) 1 (by decide)) (by rw [ow]; exact clv_RX12_75) rfl rfl rfl (Nat.le_of_ble_eq_true rfl) (by rw [hr]; exact ⟨by decide, by decide⟩) (by rw [hr]; exact ⟨Nat.le_of_ble_eq_true rfl, Nat.le_of_ble_eq_true rfl⟩) ?_
        intro rv h' hp_
        rw [hp_.1, hp_.2, show Int32.ofNat (aw_tl.getD 1 0) = 3 from by decide]
        show AW V 0 0 (mpH h B a p w o l mo) 7 [(2, .int 3), (0, .ref (B + 51)), (1, .ref (gS V.1 (2 + 1)))] [.int 3, .int 3]
        refine a_icmp_ge hb 40 dX12_among_7 (by decide) (fun c7_3 => ?_) (fun c7_3 => absurd (by decide) c7_3)
        refine a_iconst (v := (-1)) hb dX12_among_40 (by decide) ?_
        exact a_ireturn (ty := .int) hb hz dX12_among_41 hret rfl (by rw [hr]; exact Nat.le_of_ble_eq_true rfl) (by rw [hr]; exact Nat.le_of_ble_eq_true rfl) (⟨by clear hH; simp [ix3, *] <;> rfl, by clear hH; simp [ix3, *]⟩)
      · refine a_aload_n hb dX12_among_22 rfl 1 rfl ?_
        refine a_dup hb dX12_among_23 rfl ?_
        refine a_getI hb dX12_among_24 (by rw [ow]; exact fl_RX12_61_12) ((LY.mp hL : LY (mpH h B a p w o l mo) B).1 51 (by decide)) ?_
        rw [mp_f5]
        show AW V 0 0 (mpH h B a p w o l mo) 27 [(2, .int 2), (0, .ref (B + 51)), (1, .ref (gS V.1 (2 + 1)))] [.int (nI p), .ref (B + 51)]
        refine a_iconst (v := 1) hb dX12_among_27 (by decide) ?_
        refine a_iadd hb dX12_among_28 ?_
        refine a_putI (fty := .int) hb dX12_among_29 (by rw [ow]; exact fp_RX12_61_12) (Or.inr (fun C T N hq => by cases hq; rfl)) ((LY.mp hL : LY (mpH h B a p w o l mo) B).1 51 (by decide)) rfl rfl ?_
        rw [mp_5 (q := (p + 1)) (by rw [nI_1])]
        show AW V 0 0 (mpH h B a (p + 1) w o l mo) 32 [(2, .int 2), (0, .ref (B + 51)), (1, .ref (gS V.1 (2 + 1)))] []
        refine a_iload_n hb dX12_among_32 rfl 0 rfl ?_
        exact a_ireturn (ty := .int) hb hz dX12_among_33 hret rfl (by rw [hr]; exact Nat.le_of_ble_eq_true rfl) (by rw [hr]; exact Nat.le_of_ble_eq_true rfl) (⟨by clear hH; simp [ix3, *] <;> rfl, by clear hH; simp [ix3, *]⟩)
    · refine a_aload_n hb dX12_among_22 rfl 1 rfl ?_
      refine a_dup hb dX12_among_23 rfl ?_
      refine a_getI hb dX12_among_24 (by rw [ow]; exact fl_RX12_61_12) ((LY.mp hL : LY (mpH h B a p w o l mo) B).1 51 (by decide)) ?_
      rw [mp_f5]
      show AW V 0 0 (mpH h B a p w o l mo) 27 [(2, .int 1), (0, .ref (B + 51)), (1, .ref (gS V.1 (2 + 1)))] [.int (nI p), .ref (B + 51)]
      refine a_iconst (v := 1) hb dX12_among_27 (by decide) ?_
      refine a_iadd hb dX12_among_28 ?_
      refine a_putI (fty := .int) hb dX12_among_29 (by rw [ow]; exact fp_RX12_61_12) (Or.inr (fun C T N hq => by cases hq; rfl)) ((LY.mp hL : LY (mpH h B a p w o l mo) B).1 51 (by decide)) rfl rfl ?_
      rw [mp_5 (q := (p + 1)) (by rw [nI_1])]
      show AW V 0 0 (mpH h B a (p + 1) w o l mo) 32 [(2, .int 1), (0, .ref (B + 51)), (1, .ref (gS V.1 (2 + 1)))] []
      refine a_iload_n hb dX12_among_32 rfl 0 rfl ?_
      exact a_ireturn (ty := .int) hb hz dX12_among_33 hret rfl (by rw [hr]; exact Nat.le_of_ble_eq_true rfl) (by rw [hr]; exact Nat.le_of_ble_eq_true rfl) (⟨by clear hH; simp [ix3, *] <;> rfl, by clear hH; simp [ix3, *]⟩)
  · refine a_aload_n hb dX12_among_22 rfl 1 rfl ?_
    refine a_dup hb dX12_among_23 rfl ?_
    refine a_getI hb dX12_among_24 (by rw [ow]; exact fl_RX12_61_12) ((LY.mp hL : LY (mpH h B a p w o l mo) B).1 51 (by decide)) ?_
    rw [mp_f5]
    show AW V 0 0 (mpH h B a p w o l mo) 27 [(2, .int 0), (0, .ref (B + 51)), (1, .ref (gS V.1 (2 + 1)))] [.int (nI p), .ref (B + 51)]
    refine a_iconst (v := 1) hb dX12_among_27 (by decide) ?_
    refine a_iadd hb dX12_among_28 ?_
    refine a_putI (fty := .int) hb dX12_among_29 (by rw [ow]; exact fp_RX12_61_12) (Or.inr (fun C T N hq => by cases hq; rfl)) ((LY.mp hL : LY (mpH h B a p w o l mo) B).1 51 (by decide)) rfl rfl ?_
    rw [mp_5 (q := (p + 1)) (by rw [nI_1])]
    show AW V 0 0 (mpH h B a (p + 1) w o l mo) 32 [(2, .int 0), (0, .ref (B + 51)), (1, .ref (gS V.1 (2 + 1)))] []
    refine a_iload_n hb dX12_among_32 rfl 0 rfl ?_
    exact a_ireturn (ty := .int) hb hz dX12_among_33 hret rfl (by rw [hr]; exact Nat.le_of_ble_eq_true rfl) (by rw [hr]; exact Nat.le_of_ble_eq_true rfl) (⟨by clear hH; simp [ix3, *] <;> rfl, by clear hH; simp [ix3, *]⟩)
set_option maxRecDepth 100000 in
theorem m_figures (g : GG) (h : AH) (B : Nat) (hL : LY h B) (a n : Nat) (ha : a < 5) (hac : hI h (B + 51) 4 = nI a) (he : hI h (B + 51) 6 = nI n) (hn : n ≤ 120) (H : Nat → Int32) (hH : H = hrT (fun i => hI h (B + 52) (10 + i)) n) (p o : Nat) (w : Bool) (l : List Int32) (mo : Int32) (hp : p ≤ n) : AM g 3 0 0 mX12_figures [.ref (B + 51)] (mpH h B a p w o l mo) (fun rv h' => rv = some (.int (nI (fgP H w p).2.2)) ∧ h' = (mpH h B a ((fgP H w p).2.1) ((fgP H w p).1) o l mo)) := by
  refine AM.of [(0, .ref (B + 51))] (by decide) (Nat.le_of_ble_eq_true rfl) rfl ?_
  intro V hV
  have hb : V.2.1.2.1 = cX12_figures := by subst hV; rfl
  have ow : V.2.1.1.cls = RX12 := by subst hV; rfl
  have hr : V.2.2.1 = aw_rm 3 0 0 := by subst hV; rfl
  have hz : V.2.2.2 = aw_Z V.1 (fun rv h' => rv = some (.int (nI (fgP H w p).2.2)) ∧ h' = (mpH h B a ((fgP H w p).2.1) ((fgP H w p).1) o l mo)) V.2.2.1 := by subst hV; rfl
  have hg : V.1 = g := by subst hV; rfl
  have hret : V.2.1.2.2.2 = (some .int) := by subst hV; rfl
  have hml : V.2.1.2.2.1 = 3 := by subst hV; rfl
  clear hV
  have dv9 : ∀ c, isD c = true → dvD c ≤ 9 := fun c q => (dvD_i q).2
  refine a_aload_n hb dX12_figures_0 rfl 0 rfl ?_
  refine a_aload_n hb dX12_figures_1 rfl 0 rfl ?_
  refine a_getI hb dX12_figures_2 (by rw [ow]; exact fl_RX12_67_12) ((LY.mp hL : LY (mpH h B a p w o l mo) B).1 51 (by decide)) ?_
  rw [mp_f7]
  show AW V 0 0 (mpH h B a p w o l mo) 5 [(0, .ref (B + 51))] [.int (b2i w), .ref (B + 51)]
  refine a_if_ne hb 22 dX12_figures_5 (by decide) (fun c5_0 => ?_) (fun c5_0 => ?_)
  · simp [b2i_0] at c5_0
    refine a_iconst (v := 1) hb dX12_figures_22 (by decide) ?_
    refine a_goto hb 27 dX12_figures_23 (by decide) ?_
    refine a_putI (fty := .boolean) hb dX12_figures_27 (by rw [ow]; exact fp_RX12_67_12) (Or.inr (fun C T N hq => by cases hq; rfl)) ((LY.mp hL : LY (mpH h B a p w o l mo) B).1 51 (by decide)) rfl rfl ?_
    rw [mp_7 (q := true) (v := 1) rfl]
    show AW V 0 0 (mpH h B a p true o l mo) 30 [(0, .ref (B + 51))] []
    refine a_iconst (v := 0) hb dX12_figures_30 (by decide) ?_
    refine a_istore_n (L' := [(1, .int 0), (0, .ref (B + 51))]) hb dX12_figures_31 rfl (by rw [hml]; decide) rfl ?_
    refine a_iconst (v := 0) hb dX12_figures_32 (by decide) ?_
    refine a_istore_n (L' := [(2, .int 0), (1, .int 0), (0, .ref (B + 51))]) hb dX12_figures_33 rfl (by rw [hml]; decide) rfl ?_
    refine a_iload_n hb dX12_figures_34 rfl 0 rfl ?_
    refine a_iconst (v := 3) hb dX12_figures_35 (by decide) ?_
    refine a_icmp_ge hb 97 dX12_figures_36 (by decide) (fun c36_1 => absurd c36_1 (by decide)) (fun c36_1 => ?_)
    refine a_aload_n hb dX12_figures_39 rfl 2 rfl ?_
    refine a_getI hb dX12_figures_40 (by rw [ow]; exact fl_RX12_67_12) ((LY.mp hL : LY (mpH h B a p true o l mo) B).1 51 (by decide)) ?_
    rw [mp_f7]
    show AW V 0 0 (mpH h B a p true o l mo) 43 [(2, .int 0), (1, .int 0), (0, .ref (B + 51))] [.int 1]
    refine a_if_ne hb 97 dX12_figures_43 (by decide) (fun c43_1 => ?_) (fun c43_1 => absurd c43_1 (by decide))
    refine a_iload_n hb dX12_figures_97 rfl 1 rfl ?_
    exact a_ireturn (ty := .int) hb hz dX12_figures_98 hret rfl (by rw [hr]; exact Nat.le_of_ble_eq_true rfl) (by rw [hr]; exact Nat.le_of_ble_eq_true rfl) (⟨by clear hH; simp [fgP, pN, nmL, *] <;> rfl, by clear hH; simp [fgP, pN, nmL, *]⟩)
  · simp [b2i_0] at c5_0
    refine a_aload_n hb dX12_figures_8 rfl 0 rfl ?_
    refine a_callV hb dX12_figures_9 (by rw [hg]; exact m_here g h B hL a n ha hac he hn H hH p o w l mo hp) (by rw [ow]; exact clv_RX12_71) ((LY.mp hL : LY (mpH h B a p w o l mo) B).1 51 (by decide)) (by decide) rfl rfl rfl (Nat.le_of_ble_eq_true rfl) (by rw [hr]; exact ⟨by decide, by decide⟩) (by rw [hr]; exact ⟨Nat.le_of_ble_eq_true rfl, Nat.le_of_ble_eq_true rfl⟩) ?_
    intro rv h' hp_
    rw [hp_.1, hp_.2]
    show AW V 0 0 (mpH h B a p w o l mo) 12 [(0, .ref (B + 51))] [.int (H p), .ref (B + 51)]
    refine a_bipush (v := 48) hb dX12_figures_12 (by decide) ?_
    refine a_bipush (v := 57) hb dX12_figures_14 (by decide) ?_
    refine a_callS hb dX12_figures_16 (by rw [hg]; exact w_in g (mpH h B a p w o l mo) (H p) 48 57) (by rw [ow]; exact cls_RX12_48) rfl rfl (Nat.le_of_ble_eq_true rfl) (by rw [hr]; exact ⟨by decide, by decide⟩) (by rw [hr]; exact ⟨Nat.le_of_ble_eq_true rfl, Nat.le_of_ble_eq_true rfl⟩) ?_
    intro rv h' hq_
    rw [hq_.1, hq_.2]
    show AW V 0 0 (mpH h B a p w o l mo) 19 [(0, .ref (B + 51))] [.int (b2i (!oO (H p) 48 57)), .ref (B + 51)]
    refine a_if_ne hb 26 dX12_figures_19 (by decide) (fun c19_1 => ?_) (fun c19_1 => ?_)
    · simp [b2i_0] at c19_1
      have dg0 : isD (H p) = true := isD_iff.mpr c19_1
      have lt0 : p + 0 < n := by rw [hH] at dg0; exact hrT_d dg0
      have l9_0 := dv9 _ dg0
      refine a_iconst (v := 0) hb dX12_figures_26 (by decide) ?_
      refine a_putI (fty := .boolean) hb dX12_figures_27 (by rw [ow]; exact fp_RX12_67_12) (Or.inr (fun C T N hq => by cases hq; rfl)) ((LY.mp hL : LY (mpH h B a p w o l mo) B).1 51 (by decide)) rfl rfl ?_
      rw [mp_7 (q := false) (v := 0) rfl]
      show AW V 0 0 (mpH h B a p false o l mo) 30 [(0, .ref (B + 51))] []
      refine a_iconst (v := 0) hb dX12_figures_30 (by decide) ?_
      refine a_istore_n (L' := [(1, .int 0), (0, .ref (B + 51))]) hb dX12_figures_31 rfl (by rw [hml]; decide) rfl ?_
      refine a_iconst (v := 0) hb dX12_figures_32 (by decide) ?_
      refine a_istore_n (L' := [(2, .int 0), (1, .int 0), (0, .ref (B + 51))]) hb dX12_figures_33 rfl (by rw [hml]; decide) rfl ?_
      refine a_iload_n hb dX12_figures_34 rfl 0 rfl ?_
      refine a_iconst (v := 3) hb dX12_figures_35 (by decide) ?_
      refine a_icmp_ge hb 97 dX12_figures_36 (by decide) (fun c36_2 => absurd c36_2 (by decide)) (fun c36_2 => ?_)
      refine a_aload_n hb dX12_figures_39 rfl 2 rfl ?_
      refine a_getI hb dX12_figures_40 (by rw [ow]; exact fl_RX12_67_12) ((LY.mp hL : LY (mpH h B a p false o l mo) B).1 51 (by decide)) ?_
      rw [mp_f7]
      show AW V 0 0 (mpH h B a p false o l mo) 43 [(2, .int 0), (1, .int 0), (0, .ref (B + 51))] [.int 0]
      refine a_if_ne hb 97 dX12_figures_43 (by decide) (fun c43_2 => absurd c43_2 (by decide)) (fun c43_2 => ?_)
      refine a_aload_n hb dX12_figures_46 rfl 2 rfl ?_
      refine a_callV hb dX12_figures_47 (by rw [hg]; exact m_here g h B hL a n ha hac he hn H hH p o false l mo hp) (by rw [ow]; exact clv_RX12_71) ((LY.mp hL : LY (mpH h B a p false o l mo) B).1 51 (by decide)) (by decide) rfl rfl rfl (Nat.le_of_ble_eq_true rfl) (by rw [hr]; exact ⟨by decide, by decide⟩) (by rw [hr]; exact ⟨Nat.le_of_ble_eq_true rfl, Nat.le_of_ble_eq_true rfl⟩) ?_
      intro rv h' hp_
      rw [hp_.1, hp_.2]
      show AW V 0 0 (mpH h B a p false o l mo) 50 [(2, .int 0), (1, .int 0), (0, .ref (B + 51))] [.int (H p)]
      refine a_bipush (v := 48) hb dX12_figures_50 (by decide) ?_
      refine a_bipush (v := 57) hb dX12_figures_52 (by decide) ?_
      refine a_callS hb dX12_figures_54 (by rw [hg]; exact w_in g (mpH h B a p false o l mo) (H p) 48 57) (by rw [ow]; exact cls_RX12_48) rfl rfl (Nat.le_of_ble_eq_true rfl) (by rw [hr]; exact ⟨by decide, by decide⟩) (by rw [hr]; exact ⟨Nat.le_of_ble_eq_true rfl, Nat.le_of_ble_eq_true rfl⟩) ?_
      intro rv h' hq_
      rw [hq_.1, hq_.2]
      show AW V 0 0 (mpH h B a p false o l mo) 57 [(2, .int 0), (1, .int 0), (0, .ref (B + 51))] [.int (b2i (!oO (H p) 48 57))]
      refine a_if_eq hb 97 dX12_figures_57 (by decide) (fun c57_2 => absurd c57_2 ((fun q => by rw [b2i_0, isD_iff.mp dg0] at q; exact absurd q (by decide)))) (fun c57_2 => ?_)
      refine a_iload_n hb dX12_figures_60 rfl 0 rfl ?_
      refine a_if_eq hb 68 dX12_figures_61 (by decide) (fun c61_2 => ?_) (fun c61_2 => absurd (by decide) c61_2)
      refine a_bipush (v := 10) hb dX12_figures_68 (by decide) ?_
      refine a_iload_n hb dX12_figures_70 rfl 1 rfl ?_
      refine a_imul hb dX12_figures_71 ?_
      refine a_aload_n hb dX12_figures_72 rfl 2 rfl ?_
      refine a_callV hb dX12_figures_73 (by rw [hg]; exact m_here g h B hL a n ha hac he hn H hH p o false l mo hp) (by rw [ow]; exact clv_RX12_71) ((LY.mp hL : LY (mpH h B a p false o l mo) B).1 51 (by decide)) (by decide) rfl rfl rfl (Nat.le_of_ble_eq_true rfl) (by rw [hr]; exact ⟨by decide, by decide⟩) (by rw [hr]; exact ⟨Nat.le_of_ble_eq_true rfl, Nat.le_of_ble_eq_true rfl⟩) ?_
      intro rv h' hp_
      rw [hp_.1, hp_.2]
      show AW V 0 0 (mpH h B a p false o l mo) 76 [(2, .int 0), (1, .int 0), (0, .ref (B + 51))] [.int (H p), .int (10 * 0)]
      refine a_iadd hb dX12_figures_76 ?_
      refine a_bipush (v := 48) hb dX12_figures_77 (by decide) ?_
      refine a_isub hb dX12_figures_79 ?_
      refine a_istore_n (L' := [(1, .int (((10 * 0) + (H p)) - 48)), (2, .int 0), (0, .ref (B + 51))]) hb dX12_figures_80 rfl (by rw [hml]; decide) rfl ?_
      refine a_aload_n hb dX12_figures_81 rfl 2 rfl ?_
      refine a_dup hb dX12_figures_82 rfl ?_
      refine a_getI hb dX12_figures_83 (by rw [ow]; exact fl_RX12_61_12) ((LY.mp hL : LY (mpH h B a p false o l mo) B).1 51 (by decide)) ?_
      rw [mp_f5]
      show AW V 0 0 (mpH h B a p false o l mo) 86 [(1, .int (((10 * 0) + (H p)) - 48)), (2, .int 0), (0, .ref (B + 51))] [.int (nI p), .ref (B + 51)]
      refine a_iconst (v := 1) hb dX12_figures_86 (by decide) ?_
      refine a_iadd hb dX12_figures_87 ?_
      refine a_putI (fty := .int) hb dX12_figures_88 (by rw [ow]; exact fp_RX12_61_12) (Or.inr (fun C T N hq => by cases hq; rfl)) ((LY.mp hL : LY (mpH h B a p false o l mo) B).1 51 (by decide)) rfl rfl ?_
      rw [mp_5 (q := (p + 1)) (by rw [nI_1])]
      show AW V 0 0 (mpH h B a (p + 1) false o l mo) 91 [(1, .int (((10 * 0) + (H p)) - 48)), (2, .int 0), (0, .ref (B + 51))] []
      refine a_iinc (v := (0 + 1)) (L' := [(2, .int (0 + 1)), (1, .int (((10 * 0) + (H p)) - 48)), (0, .ref (B + 51))]) hb dX12_figures_91 1 rfl rfl (by rw [hml]; decide) rfl ?_
      refine a_goto hb 34 dX12_figures_94 (by decide) ?_
      rw [show ((0 : Int32) + 1) = 1 from by decide]
      rw [fg_0 dg0]
      show AW V 0 0 (mpH h B a (p + 1) false o l mo) 34 [(2, .int 1), (1, .int (nI (dvD (H p)))), (0, .ref (B + 51))] []
      refine a_iload_n hb dX12_figures_34 rfl 0 rfl ?_
      refine a_iconst (v := 3) hb dX12_figures_35 (by decide) ?_
      refine a_icmp_ge hb 97 dX12_figures_36 (by decide) (fun c36_2 => absurd c36_2 (by decide)) (fun c36_2 => ?_)
      refine a_aload_n hb dX12_figures_39 rfl 2 rfl ?_
      refine a_getI hb dX12_figures_40 (by rw [ow]; exact fl_RX12_67_12) ((LY.mp hL : LY (mpH h B a (p + 1) false o l mo) B).1 51 (by decide)) ?_
      rw [mp_f7]
      show AW V 0 0 (mpH h B a (p + 1) false o l mo) 43 [(2, .int 1), (1, .int (nI (dvD (H p)))), (0, .ref (B + 51))] [.int 0]
      refine a_if_ne hb 97 dX12_figures_43 (by decide) (fun c43_2 => absurd c43_2 (by decide)) (fun c43_2 => ?_)
      refine a_aload_n hb dX12_figures_46 rfl 2 rfl ?_
      refine a_callV hb dX12_figures_47 (by rw [hg]; exact m_here g h B hL a n ha hac he hn H hH (p + 1) o false l mo (by first | omega | exact Nat.le_of_lt lt0)) (by rw [ow]; exact clv_RX12_71) ((LY.mp hL : LY (mpH h B a (p + 1) false o l mo) B).1 51 (by decide)) (by decide) rfl rfl rfl (Nat.le_of_ble_eq_true rfl) (by rw [hr]; exact ⟨by decide, by decide⟩) (by rw [hr]; exact ⟨Nat.le_of_ble_eq_true rfl, Nat.le_of_ble_eq_true rfl⟩) ?_
      intro rv h' hp_
      rw [hp_.1, hp_.2]
      show AW V 0 0 (mpH h B a (p + 1) false o l mo) 50 [(2, .int 1), (1, .int (nI (dvD (H p)))), (0, .ref (B + 51))] [.int (H (p + 1))]
      refine a_bipush (v := 48) hb dX12_figures_50 (by decide) ?_
      refine a_bipush (v := 57) hb dX12_figures_52 (by decide) ?_
      refine a_callS hb dX12_figures_54 (by rw [hg]; exact w_in g (mpH h B a (p + 1) false o l mo) (H (p + 1)) 48 57) (by rw [ow]; exact cls_RX12_48) rfl rfl (Nat.le_of_ble_eq_true rfl) (by rw [hr]; exact ⟨by decide, by decide⟩) (by rw [hr]; exact ⟨Nat.le_of_ble_eq_true rfl, Nat.le_of_ble_eq_true rfl⟩) ?_
      intro rv h' hq_
      rw [hq_.1, hq_.2]
      show AW V 0 0 (mpH h B a (p + 1) false o l mo) 57 [(2, .int 1), (1, .int (nI (dvD (H p)))), (0, .ref (B + 51))] [.int (b2i (!oO (H (p + 1)) 48 57))]
      refine a_if_eq hb 97 dX12_figures_57 (by decide) (fun c57_2 => ?_) (fun c57_2 => ?_)
      · simp [b2i_0] at c57_2
        have nd : ¬ isD (H (p + 1)) = true := by rw [isD_iff, c57_2]; decide
        refine a_iload_n hb dX12_figures_97 rfl 1 rfl ?_
        exact a_ireturn (ty := .int) hb hz dX12_figures_98 hret rfl (by rw [hr]; exact Nat.le_of_ble_eq_true rfl) (by rw [hr]; exact Nat.le_of_ble_eq_true rfl) (⟨by clear hH; simp [fgP, pN, nmL, *] <;> rfl, by clear hH; simp [fgP, pN, nmL, *]⟩)
      · simp [b2i_0] at c57_2
        have dg1 : isD (H (p + 1)) = true := isD_iff.mpr c57_2
        have lt1 : p + 1 < n := by rw [hH] at dg1; exact hrT_d dg1
        have l9_1 := dv9 _ dg1
        refine a_iload_n hb dX12_figures_60 rfl 0 rfl ?_
        refine a_if_eq hb 68 dX12_figures_61 (by decide) (fun c61_3 => absurd c61_3 (by decide)) (fun c61_3 => ?_)
        refine a_iload_n hb dX12_figures_64 rfl 1 rfl ?_
        refine a_if_le hb 97 dX12_figures_65 (by decide) (fun c65_3 => ?_) (fun c65_3 => ?_)
        · have vz1 : (dvD (H p)) = 0 := (Nat.eq_zero_of_le_zero ((nI_leI (b := 0) (by omega) (by omega)).mp c65_3))
          refine a_iload_n hb dX12_figures_97 rfl 1 rfl ?_
          exact a_ireturn (ty := .int) hb hz dX12_figures_98 hret rfl (by rw [hr]; exact Nat.le_of_ble_eq_true rfl) (by rw [hr]; exact Nat.le_of_ble_eq_true rfl) (⟨by clear hH; simp [fgP, pN, nmL, *] <;> rfl, by clear hH; simp [fgP, pN, nmL, *]⟩)
        · have vp1 : 0 < (dvD (H p)) := Nat.pos_of_ne_zero (fun q => c65_3 (by rw [q]; decide))
          refine a_bipush (v := 10) hb dX12_figures_68 (by decide) ?_
          refine a_iload_n hb dX12_figures_70 rfl 1 rfl ?_
          refine a_imul hb dX12_figures_71 ?_
          refine a_aload_n hb dX12_figures_72 rfl 2 rfl ?_
          refine a_callV hb dX12_figures_73 (by rw [hg]; exact m_here g h B hL a n ha hac he hn H hH (p + 1) o false l mo (by first | omega | exact Nat.le_of_lt lt0)) (by rw [ow]; exact clv_RX12_71) ((LY.mp hL : LY (mpH h B a (p + 1) false o l mo) B).1 51 (by decide)) (by decide) rfl rfl rfl (Nat.le_of_ble_eq_true rfl) (by rw [hr]; exact ⟨by decide, by decide⟩) (by rw [hr]; exact ⟨Nat.le_of_ble_eq_true rfl, Nat.le_of_ble_eq_true rfl⟩) ?_
          intro rv h' hp_
          rw [hp_.1, hp_.2]
          show AW V 0 0 (mpH h B a (p + 1) false o l mo) 76 [(2, .int 1), (1, .int (nI (dvD (H p)))), (0, .ref (B + 51))] [.int (H (p + 1)), .int (10 * (nI (dvD (H p))))]
          refine a_iadd hb dX12_figures_76 ?_
          refine a_bipush (v := 48) hb dX12_figures_77 (by decide) ?_
          refine a_isub hb dX12_figures_79 ?_
          refine a_istore_n (L' := [(1, .int (((10 * (nI (dvD (H p)))) + (H (p + 1))) - 48)), (2, .int 1), (0, .ref (B + 51))]) hb dX12_figures_80 rfl (by rw [hml]; decide) rfl ?_
          refine a_aload_n hb dX12_figures_81 rfl 2 rfl ?_
          refine a_dup hb dX12_figures_82 rfl ?_
          refine a_getI hb dX12_figures_83 (by rw [ow]; exact fl_RX12_61_12) ((LY.mp hL : LY (mpH h B a (p + 1) false o l mo) B).1 51 (by decide)) ?_
          rw [mp_f5]
          show AW V 0 0 (mpH h B a (p + 1) false o l mo) 86 [(1, .int (((10 * (nI (dvD (H p)))) + (H (p + 1))) - 48)), (2, .int 1), (0, .ref (B + 51))] [.int (nI (p + 1)), .ref (B + 51)]
          refine a_iconst (v := 1) hb dX12_figures_86 (by decide) ?_
          refine a_iadd hb dX12_figures_87 ?_
          refine a_putI (fty := .int) hb dX12_figures_88 (by rw [ow]; exact fp_RX12_61_12) (Or.inr (fun C T N hq => by cases hq; rfl)) ((LY.mp hL : LY (mpH h B a (p + 1) false o l mo) B).1 51 (by decide)) rfl rfl ?_
          rw [mp_5 (q := (p + 2)) (by rw [nI_1])]
          show AW V 0 0 (mpH h B a (p + 2) false o l mo) 91 [(1, .int (((10 * (nI (dvD (H p)))) + (H (p + 1))) - 48)), (2, .int 1), (0, .ref (B + 51))] []
          refine a_iinc (v := (1 + 1)) (L' := [(2, .int (1 + 1)), (1, .int (((10 * (nI (dvD (H p)))) + (H (p + 1))) - 48)), (0, .ref (B + 51))]) hb dX12_figures_91 1 rfl rfl (by rw [hml]; decide) rfl ?_
          refine a_goto hb 34 dX12_figures_94 (by decide) ?_
          rw [show ((1 : Int32) + 1) = 2 from by decide]
          rw [fg_n dg1]
          have vp2 : 0 < (10 * (dvD (H p)) + dvD (H (p + 1))) := by omega
          show AW V 0 0 (mpH h B a (p + 2) false o l mo) 34 [(2, .int 2), (1, .int (nI (10 * (dvD (H p)) + dvD (H (p + 1))))), (0, .ref (B + 51))] []
          refine a_iload_n hb dX12_figures_34 rfl 0 rfl ?_
          refine a_iconst (v := 3) hb dX12_figures_35 (by decide) ?_
          refine a_icmp_ge hb 97 dX12_figures_36 (by decide) (fun c36_4 => absurd c36_4 (by decide)) (fun c36_4 => ?_)
          refine a_aload_n hb dX12_figures_39 rfl 2 rfl ?_
          refine a_getI hb dX12_figures_40 (by rw [ow]; exact fl_RX12_67_12) ((LY.mp hL : LY (mpH h B a (p + 2) false o l mo) B).1 51 (by decide)) ?_
          rw [mp_f7]
          show AW V 0 0 (mpH h B a (p + 2) false o l mo) 43 [(2, .int 2), (1, .int (nI (10 * (dvD (H p)) + dvD (H (p + 1))))), (0, .ref (B + 51))] [.int 0]
          refine a_if_ne hb 97 dX12_figures_43 (by decide) (fun c43_4 => absurd c43_4 (by decide)) (fun c43_4 => ?_)
          refine a_aload_n hb dX12_figures_46 rfl 2 rfl ?_
          refine a_callV hb dX12_figures_47 (by rw [hg]; exact m_here g h B hL a n ha hac he hn H hH (p + 2) o false l mo (by first | omega | exact Nat.le_of_lt lt0)) (by rw [ow]; exact clv_RX12_71) ((LY.mp hL : LY (mpH h B a (p + 2) false o l mo) B).1 51 (by decide)) (by decide) rfl rfl rfl (Nat.le_of_ble_eq_true rfl) (by rw [hr]; exact ⟨by decide, by decide⟩) (by rw [hr]; exact ⟨Nat.le_of_ble_eq_true rfl, Nat.le_of_ble_eq_true rfl⟩) ?_
          intro rv h' hp_
          rw [hp_.1, hp_.2]
          show AW V 0 0 (mpH h B a (p + 2) false o l mo) 50 [(2, .int 2), (1, .int (nI (10 * (dvD (H p)) + dvD (H (p + 1))))), (0, .ref (B + 51))] [.int (H (p + 2))]
          refine a_bipush (v := 48) hb dX12_figures_50 (by decide) ?_
          refine a_bipush (v := 57) hb dX12_figures_52 (by decide) ?_
          refine a_callS hb dX12_figures_54 (by rw [hg]; exact w_in g (mpH h B a (p + 2) false o l mo) (H (p + 2)) 48 57) (by rw [ow]; exact cls_RX12_48) rfl rfl (Nat.le_of_ble_eq_true rfl) (by rw [hr]; exact ⟨by decide, by decide⟩) (by rw [hr]; exact ⟨Nat.le_of_ble_eq_true rfl, Nat.le_of_ble_eq_true rfl⟩) ?_
          intro rv h' hq_
          rw [hq_.1, hq_.2]
          show AW V 0 0 (mpH h B a (p + 2) false o l mo) 57 [(2, .int 2), (1, .int (nI (10 * (dvD (H p)) + dvD (H (p + 1))))), (0, .ref (B + 51))] [.int (b2i (!oO (H (p + 2)) 48 57))]
          refine a_if_eq hb 97 dX12_figures_57 (by decide) (fun c57_4 => ?_) (fun c57_4 => ?_)
          · simp [b2i_0] at c57_4
            have nd : ¬ isD (H (p + 2)) = true := by rw [isD_iff, c57_4]; decide
            refine a_iload_n hb dX12_figures_97 rfl 1 rfl ?_
            exact a_ireturn (ty := .int) hb hz dX12_figures_98 hret rfl (by rw [hr]; exact Nat.le_of_ble_eq_true rfl) (by rw [hr]; exact Nat.le_of_ble_eq_true rfl) (⟨by clear hH; simp [fgP, pN, nmL, *] <;> rfl, by clear hH; simp [fgP, pN, nmL, *]⟩)
          · simp [b2i_0] at c57_4
            have dg2 : isD (H (p + 2)) = true := isD_iff.mpr c57_4
            have lt2 : p + 2 < n := by rw [hH] at dg2; exact hrT_d dg2
            have l9_2 := dv9 _ dg2
            refine a_iload_n hb dX12_figures_60 rfl 0 rfl ?_
            refine a_if_eq hb 68 dX12_figures_61 (by decide) (fun c61_5 => absurd c61_5 (by decide)) (fun c61_5 => ?_)
            refine a_iload_n hb dX12_figures_64 rfl 1 rfl ?_
            refine a_if_le hb 97 dX12_figures_65 (by decide) (fun c65_5 => absurd c65_5 (nI_nle (by omega) (by omega))) (fun c65_5 => ?_)
            refine a_bipush (v := 10) hb dX12_figures_68 (by decide) ?_
            refine a_iload_n hb dX12_figures_70 rfl 1 rfl ?_
            refine a_imul hb dX12_figures_71 ?_
            refine a_aload_n hb dX12_figures_72 rfl 2 rfl ?_
            refine a_callV hb dX12_figures_73 (by rw [hg]; exact m_here g h B hL a n ha hac he hn H hH (p + 2) o false l mo (by first | omega | exact Nat.le_of_lt lt0)) (by rw [ow]; exact clv_RX12_71) ((LY.mp hL : LY (mpH h B a (p + 2) false o l mo) B).1 51 (by decide)) (by decide) rfl rfl rfl (Nat.le_of_ble_eq_true rfl) (by rw [hr]; exact ⟨by decide, by decide⟩) (by rw [hr]; exact ⟨Nat.le_of_ble_eq_true rfl, Nat.le_of_ble_eq_true rfl⟩) ?_
            intro rv h' hp_
            rw [hp_.1, hp_.2]
            show AW V 0 0 (mpH h B a (p + 2) false o l mo) 76 [(2, .int 2), (1, .int (nI (10 * (dvD (H p)) + dvD (H (p + 1))))), (0, .ref (B + 51))] [.int (H (p + 2)), .int (10 * (nI (10 * (dvD (H p)) + dvD (H (p + 1)))))]
            refine a_iadd hb dX12_figures_76 ?_
            refine a_bipush (v := 48) hb dX12_figures_77 (by decide) ?_
            refine a_isub hb dX12_figures_79 ?_
            refine a_istore_n (L' := [(1, .int (((10 * (nI (10 * (dvD (H p)) + dvD (H (p + 1))))) + (H (p + 2))) - 48)), (2, .int 2), (0, .ref (B + 51))]) hb dX12_figures_80 rfl (by rw [hml]; decide) rfl ?_
            refine a_aload_n hb dX12_figures_81 rfl 2 rfl ?_
            refine a_dup hb dX12_figures_82 rfl ?_
            refine a_getI hb dX12_figures_83 (by rw [ow]; exact fl_RX12_61_12) ((LY.mp hL : LY (mpH h B a (p + 2) false o l mo) B).1 51 (by decide)) ?_
            rw [mp_f5]
            show AW V 0 0 (mpH h B a (p + 2) false o l mo) 86 [(1, .int (((10 * (nI (10 * (dvD (H p)) + dvD (H (p + 1))))) + (H (p + 2))) - 48)), (2, .int 2), (0, .ref (B + 51))] [.int (nI (p + 2)), .ref (B + 51)]
            refine a_iconst (v := 1) hb dX12_figures_86 (by decide) ?_
            refine a_iadd hb dX12_figures_87 ?_
            refine a_putI (fty := .int) hb dX12_figures_88 (by rw [ow]; exact fp_RX12_61_12) (Or.inr (fun C T N hq => by cases hq; rfl)) ((LY.mp hL : LY (mpH h B a (p + 2) false o l mo) B).1 51 (by decide)) rfl rfl ?_
            rw [mp_5 (q := (p + 3)) (by rw [nI_1])]
            show AW V 0 0 (mpH h B a (p + 3) false o l mo) 91 [(1, .int (((10 * (nI (10 * (dvD (H p)) + dvD (H (p + 1))))) + (H (p + 2))) - 48)), (2, .int 2), (0, .ref (B + 51))] []
            refine a_iinc (v := (2 + 1)) (L' := [(2, .int (2 + 1)), (1, .int (((10 * (nI (10 * (dvD (H p)) + dvD (H (p + 1))))) + (H (p + 2))) - 48)), (0, .ref (B + 51))]) hb dX12_figures_91 1 rfl rfl (by rw [hml]; decide) rfl ?_
            refine a_goto hb 34 dX12_figures_94 (by decide) ?_
            rw [show ((2 : Int32) + 1) = 3 from by decide]
            rw [fg_n dg2]
            show AW V 0 0 (mpH h B a (p + 3) false o l mo) 34 [(2, .int 3), (1, .int (nI (10 * (10 * (dvD (H p)) + dvD (H (p + 1))) + dvD (H (p + 2))))), (0, .ref (B + 51))] []
            refine a_iload_n hb dX12_figures_34 rfl 0 rfl ?_
            refine a_iconst (v := 3) hb dX12_figures_35 (by decide) ?_
            refine a_icmp_ge hb 97 dX12_figures_36 (by decide) (fun c36_5 => ?_) (fun c36_5 => absurd (by decide) c36_5)
            refine a_iload_n hb dX12_figures_97 rfl 1 rfl ?_
            exact a_ireturn (ty := .int) hb hz dX12_figures_98 hret rfl (by rw [hr]; exact Nat.le_of_ble_eq_true rfl) (by rw [hr]; exact Nat.le_of_ble_eq_true rfl) (⟨by clear hH; simp [fgP, pN, nmL, *] <;> rfl, by clear hH; simp [fgP, pN, nmL, *]⟩)
    · simp [b2i_0] at c19_1
      have nd : ¬ isD (H p) = true := by rw [isD_iff, c19_1]; decide
      refine a_iconst (v := 1) hb dX12_figures_22 (by decide) ?_
      refine a_goto hb 27 dX12_figures_23 (by decide) ?_
      refine a_putI (fty := .boolean) hb dX12_figures_27 (by rw [ow]; exact fp_RX12_67_12) (Or.inr (fun C T N hq => by cases hq; rfl)) ((LY.mp hL : LY (mpH h B a p w o l mo) B).1 51 (by decide)) rfl rfl ?_
      rw [mp_7 (q := true) (v := 1) rfl]
      show AW V 0 0 (mpH h B a p true o l mo) 30 [(0, .ref (B + 51))] []
      refine a_iconst (v := 0) hb dX12_figures_30 (by decide) ?_
      refine a_istore_n (L' := [(1, .int 0), (0, .ref (B + 51))]) hb dX12_figures_31 rfl (by rw [hml]; decide) rfl ?_
      refine a_iconst (v := 0) hb dX12_figures_32 (by decide) ?_
      refine a_istore_n (L' := [(2, .int 0), (1, .int 0), (0, .ref (B + 51))]) hb dX12_figures_33 rfl (by rw [hml]; decide) rfl ?_
      refine a_iload_n hb dX12_figures_34 rfl 0 rfl ?_
      refine a_iconst (v := 3) hb dX12_figures_35 (by decide) ?_
      refine a_icmp_ge hb 97 dX12_figures_36 (by decide) (fun c36_2 => absurd c36_2 (by decide)) (fun c36_2 => ?_)
      refine a_aload_n hb dX12_figures_39 rfl 2 rfl ?_
      refine a_getI hb dX12_figures_40 (by rw [ow]; exact fl_RX12_67_12) ((LY.mp hL : LY (mpH h B a p true o l mo) B).1 51 (by decide)) ?_
      rw [mp_f7]
      show AW V 0 0 (mpH h B a p true o l mo) 43 [(2, .int 0), (1, .int 0), (0, .ref (B + 51))] [.int 1]
      refine a_if_ne hb 97 dX12_figures_43 (by decide) (fun c43_2 => ?_) (fun c43_2 => absurd c43_2 (by decide))
      refine a_iload_n hb dX12_figures_97 rfl 1 rfl ?_
      exact a_ireturn (ty := .int) hb hz dX12_figures_98 hret rfl (by rw [hr]; exact Nat.le_of_ble_eq_true rfl) (by rw [hr]; exact Nat.le_of_ble_eq_true rfl) (⟨by clear hH; simp [fgP, pN, nmL, *] <;> rfl, by clear hH; simp [fgP, pN, nmL, *]⟩)
set_option maxRecDepth 100000 in
theorem m_emits (g : GG) (h : AH) (B : Nat) (hL : LY h B) (a n : Nat) (ha : a < 5) (hac : hI h (B + 51) 4 = nI a) (he : hI h (B + 51) 6 = nI n) (hn : n ≤ 120) (H : Nat → Int32) (hH : H = hrT (fun i => hI h (B + 52) (10 + i)) n) (p o : Nat) (w : Bool) (l : List Int32) (mo : Int32) (hp : p ≤ n) (s : Int32) (hll : l.length < 140) : AM g 1 0 0 mX12_emits [.ref (B + 51), .int s] (mpH h B a p w o l mo) (fun rv h' => rv = none ∧ h' = (mpH h B a p w o (emL w l s) mo)) := by
  refine AM.of [(0, .ref (B + 51)), (1, .int s)] (by decide) (Nat.le_of_ble_eq_true rfl) rfl ?_
  intro V hV
  have hb : V.2.1.2.1 = cX12_emits := by subst hV; rfl
  have ow : V.2.1.1.cls = RX12 := by subst hV; rfl
  have hr : V.2.2.1 = aw_rm 1 0 0 := by subst hV; rfl
  have hz : V.2.2.2 = aw_Z V.1 (fun rv h' => rv = none ∧ h' = (mpH h B a p w o (emL w l s) mo)) V.2.2.1 := by subst hV; rfl
  have hg : V.1 = g := by subst hV; rfl
  have hret : V.2.1.2.2.2 = none := by subst hV; rfl
  have hml : V.2.1.2.2.1 = 2 := by subst hV; rfl
  clear hV
  refine a_aload_n hb dX12_emits_0 rfl 0 rfl ?_
  refine a_getI hb dX12_emits_1 (by rw [ow]; exact fl_RX12_67_12) ((LY.mp hL : LY (mpH h B a p w o l mo) B).1 51 (by decide)) ?_
  rw [mp_f7]
  show AW V 0 0 (mpH h B a p w o l mo) 4 [(0, .ref (B + 51)), (1, .int s)] [.int (b2i w)]
  refine a_if_ne hb 56 dX12_emits_4 (by decide) (fun c4 => ?_) (fun c4 => ?_)
  · simp [b2i_0] at c4
    exact a_return hb hz dX12_emits_56 hret (by rw [hr]; exact Nat.le_of_ble_eq_true rfl) (by rw [hr]; exact Nat.le_of_ble_eq_true rfl) (⟨rfl, by clear hH; simp [emL, *]⟩)
  · simp [b2i_0] at c4
    refine a_aload_n hb dX12_emits_7 rfl 0 rfl ?_
    refine a_getQ (q := (B + 52)) hb dX12_emits_8 (by rw [ow]; exact fl_RX12_9_12) ((LY.mp hL : LY (mpH h B a p w o l mo) B).1 51 (by decide)) ((LY.mp hL : LY (mpH h B a p w o l mo) B).2.1 (51, 1, 52) (by decide)) ?_
    refine a_sipush (v := 218) hb dX12_emits_11 (by decide) ?_
    refine a_sipush (v := 140) hb dX12_emits_14 (by decide) ?_
    refine a_aload_n hb dX12_emits_17 rfl 0 rfl ?_
    refine a_getI hb dX12_emits_18 (by rw [ow]; exact fl_RX12_88_12) ((LY.mp hL : LY (mpH h B a p w o l mo) B).1 51 (by decide)) ?_
    rw [mp_f4, hac]
    show AW V 0 0 (mpH h B a p w o l mo) 21 [(0, .ref (B + 51)), (1, .int s)] [.int (nI a), .int 140, .int 218, .ref (B + 52)]
    refine a_imul hb dX12_emits_21 ?_
    refine a_iadd hb dX12_emits_22 ?_
    refine a_aload_n hb dX12_emits_23 rfl 0 rfl ?_
    refine a_getQ (q := (B + 52)) hb dX12_emits_24 (by rw [ow]; exact fl_RX12_9_12) ((LY.mp hL : LY (mpH h B a p w o l mo) B).1 51 (by decide)) ((LY.mp hL : LY (mpH h B a p w o l mo) B).2.1 (51, 1, 52) (by decide)) ?_
    refine a_sipush (v := 213) hb dX12_emits_27 (by decide) ?_
    refine a_aload_n hb dX12_emits_30 rfl 0 rfl ?_
    refine a_getI hb dX12_emits_31 (by rw [ow]; exact fl_RX12_88_12) ((LY.mp hL : LY (mpH h B a p w o l mo) B).1 51 (by decide)) ?_
    rw [mp_f4, hac]
    show AW V 0 0 (mpH h B a p w o l mo) 34 [(0, .ref (B + 51)), (1, .int s)] [.int (nI a), .int 213, .ref (B + 52), .int (218 + (140 * (nI a))), .ref (B + 52)]
    refine a_iadd hb dX12_emits_34 ?_
    refine b_iald (j := (213 + a)) hb dX12_emits_35 ((LY.mp hL : LY (mpH h B a p w o l mo) B).1 52 (by decide)) (IX.add ⟨by decide, by decide⟩ (IX.n (by omega)) (by omega)) (by omega) ?_
    rw [mp_2, mpR_13 ha]
    show AW V 0 0 (mpH h B a p w o l mo) 36 [(0, .ref (B + 51)), (1, .int s)] [.int (nI l.length), .int (218 + (140 * (nI a))), .ref (B + 52)]
    refine a_iadd hb dX12_emits_36 ?_
    refine a_iload_n hb dX12_emits_37 rfl 1 rfl ?_
    refine b_iast (j := ((218 + (140 * a)) + l.length)) hb dX12_emits_38 ((LY.mp hL : LY (mpH h B a p w o l mo) B).1 52 (by decide)) (IX.add (IX.add ⟨by decide, by decide⟩ (IX.mul ⟨by decide, by decide⟩ (IX.n (by omega)) (by omega)) (by omega)) (IX.n (by omega)) (by omega)) (by omega) ?_
    refine a_aload_n hb dX12_emits_39 rfl 0 rfl ?_
    refine a_getQ (q := (B + 52)) hb dX12_emits_40 (by rw [ow]; exact fl_RX12_9_12) ((LY.mp hL : LY (mpH h B a p w o l mo) B).1 51 (by decide)) ((LY.mp hL : LY (mpH h B a p w o l mo) B).2.1 (51, 1, 52) (by decide)) ?_
    refine a_sipush (v := 213) hb dX12_emits_43 (by decide) ?_
    refine a_aload_n hb dX12_emits_46 rfl 0 rfl ?_
    refine a_getI hb dX12_emits_47 (by rw [ow]; exact fl_RX12_88_12) ((LY.mp hL : LY (mpH h B a p w o l mo) B).1 51 (by decide)) ?_
    rw [hI_setI_n (by omega), mp_f4, hac]
    show AW V 0 0 (setI (mpH h B a p w o l mo) (B + 52) ((218 + (140 * a)) + l.length) s) 50 [(0, .ref (B + 51)), (1, .int s)] [.int (nI a), .int 213, .ref (B + 52)]
    refine a_iadd hb dX12_emits_50 ?_
    refine a_dup2_11 hb dX12_emits_51 rfl rfl ?_
    refine b_iald (j := (213 + a)) hb dX12_emits_52 ((LY.mp hL : LY (mpH h B a p w o l mo) B).1 52 (by decide)) (IX.add ⟨by decide, by decide⟩ (IX.n (by omega)) (by omega)) (by omega) ?_
    rw [hI_setI_s, upd_n (by omega), mp_2, mpR_13 ha]
    show AW V 0 0 (setI (mpH h B a p w o l mo) (B + 52) ((218 + (140 * a)) + l.length) s) 53 [(0, .ref (B + 51)), (1, .int s)] [.int (nI l.length), .int (213 + (nI a)), .ref (B + 52)]
    refine a_iconst (v := 1) hb dX12_emits_53 (by decide) ?_
    refine a_iadd hb dX12_emits_54 ?_
    refine b_iast (j := (213 + a)) hb dX12_emits_55 ((LY.mp hL : LY (mpH h B a p w o l mo) B).1 52 (by decide)) (IX.add ⟨by decide, by decide⟩ (IX.n (by omega)) (by omega)) (by omega) ?_
    rw [mp_e ha rfl]
    show AW V 0 0 (mpH h B a p w o (l ++ [s]) mo) 56 [(0, .ref (B + 51)), (1, .int s)] []
    exact a_return hb hz dX12_emits_56 hret (by rw [hr]; exact Nat.le_of_ble_eq_true rfl) (by rw [hr]; exact Nat.le_of_ble_eq_true rfl) (⟨rfl, by clear hH; simp [emL, *]⟩)
