/-! ===== sure and worst: the class's ways are the model's ===== -/
theorem dmS_c {P : PF} {S dl dl' : Nat → Int32} {hl : Nat} {t : Int32} : ∀ n, (∀ p, p < n → dl p = dl' p) → dmS P S dl hl t n = dmS P S dl' hl t n
  | 0, _ => rfl
  | n + 1, h => by
    show dmS P S dl hl t n + dwS P S dl hl t n = dmS P S dl' hl t n + dwS P S dl' hl t n
    rw [dmS_c n (fun p q => h p (by omega))]
    unfold dwS
    rw [h n (by omega)]
theorem fbW_c {P : PF} {S dl dl' : Nat → Int32} {hl np n : Nat} {c : Int32} (h : ∀ p, p < np → dl p = dl' p) : fbW P S dl hl np n c = fbW P S dl' hl np n c := by
  unfold fbW
  have : (fun t => dmS P S dl hl (nI t) np) = fun t => dmS P S dl' hl (nI t) np := funext fun t => dmS_c np h
  rw [this]
theorem dgS_d {dl dl' : Nat → Int32} : ∀ n, (∀ p, p < n → dl p = dl' p) → dgS dl n = dgS dl' n
  | 0, _ => rfl
  | n + 1, h => by
    show dgS dl n * 10 + dl n = dgS dl' n * 10 + dl' n
    rw [dgS_d n (fun p q => h p (by omega)), h n (by omega)]
/-- ways of the last m breaks -/
def mM (S : Nat → Int32) (np : Nat) : Nat → Nat
  | 0 => 1
  | m + 1 => mM S np m * (if S (162 + (np - 1 - m)) < 10 then 3 else 1)
theorem mM_pos {S : Nat → Int32} {np : Nat} : ∀ m, 0 < mM S np m
  | 0 => Nat.one_pos
  | m + 1 => by
    unfold mM
    exact Nat.mul_pos (mM_pos m) (by split <;> decide)
theorem mM_dvd {S : Nat → Int32} {np k : Nat} : ∀ j, ∃ Q, mM S np (k + j) = mM S np k * Q
  | 0 => ⟨1, (Nat.mul_one _).symm⟩
  | j + 1 => by
    obtain ⟨Q, h⟩ := mM_dvd (S := S) (np := np) (k := k) j
    refine ⟨Q * (if S (162 + (np - 1 - (k + j))) < 10 then 3 else 1), ?_⟩
    rw [← Nat.mul_assoc, ← h]; rfl
theorem mM_nw {S : Nat → Int32} {np : Nat} : ∀ m, m ≤ np → mM S np m * nwN S (np - m) = nwN S np
  | 0, _ => Nat.one_mul _
  | m + 1, h => by
    have e := mM_nw (S := S) (np := np) m (by omega)
    rw [show np - m = (np - (m + 1)) + 1 by omega] at e
    rw [← e]
    show mM S np m * (if S (162 + (np - 1 - m)) < 10 then 3 else 1) * nwN S (np - (m + 1)) = mM S np m * (nwN S (np - (m + 1)) * (if S (162 + (np - (m + 1))) < 10 then 3 else 1))
    rw [show np - 1 - m = np - (m + 1) by omega, Nat.mul_assoc, Nat.mul_comm (nwN S (np - (m + 1)))]
theorem rsT_m {S : Nat → Int32} {np w : Nat} : ∀ m, rsT S np w m = w / mM S np m
  | 0 => (Nat.div_one w).symm
  | m + 1 => by
    unfold rsT mM
    rw [rsT_m m]
    split
    · rw [Nat.div_div_eq_div_mul]
    · rw [Nat.mul_one]
section DY
variable {S : Nat → Int32} {np : Nat}
theorem dv_1 {M y1 y2 : Nat} (hM : 0 < M) (h : y2 < M) : (y1 * M + y2) / M = y1 := by
  rw [Nat.mul_comm, Nat.mul_add_div hM, Nat.div_eq_of_lt h, Nat.add_zero]
theorem dy_r {k p y1 y2 : Nat} (hp : k ≤ np - 1 - p) (h : y2 < mM S np k) : dyT S np (y1 * mM S np k + y2) p = dyT S np (y1 * mM S np k) p := by
  unfold dyT
  split
  · obtain ⟨Q, hQ⟩ := mM_dvd (S := S) (np := np) (k := k) (np - 1 - p - k)
    have e1 := dv_1 (y1 := y1) (mM_pos (S := S) (np := np) k) h
    have e0 : y1 * mM S np k / mM S np k = y1 := Nat.mul_div_cancel _ (mM_pos k)
    rw [rsT_m, rsT_m, show np - 1 - p = k + (np - 1 - p - k) by omega, hQ, ← Nat.div_div_eq_div_mul, ← Nat.div_div_eq_div_mul, e1, e0]
  · rfl
theorem dy_d {b y1 d y2 : Nat} (hl : S (162 + b) < 10) (hd : d < 3) (h : y2 < mM S np (np - 1 - b)) : dyT S np ((y1 * 3 + d) * mM S np (np - 1 - b) + y2) b = d := by
  unfold dyT
  rw [if_pos hl, rsT_m, dv_1 (mM_pos _) h]
  omega
/-- how likely, as a number -/
def onN (S : Nat → Int32) (p d : Nat) : Nat := (odS S p (nI d)).toNatClampNeg
def opN (S : Nat → Int32) (np y : Nat) : Nat → Nat
  | 0 => 1
  | b + 1 => opN S np y b * (if S (162 + b) < 10 then onN S b (dyT S np y b) else 1)
/-- what the rows of odds keep -/
def OD (S : Nat → Int32) (np : Nat) : Prop := (∀ p, p < np → ∀ d, d < 3 → odS S p (nI d) = nI (onN S p d) ∧ onN S p d ≤ 10) ∧ (∀ p, p < np → ¬ S (162 + p) < 10 → S (162 + p) = 10 ∧ S (170 + p) = 0) ∧ ∀ p, p < np → S (162 + p) < 10 → ∃ d, d < 3 ∧ 0 < onN S p d
theorem opN_c {y y' : Nat} : ∀ b, (∀ p, p < b → dyT S np y p = dyT S np y' p) → opN S np y b = opN S np y' b
  | 0, _ => rfl
  | b + 1, h => by
    unfold opN
    rw [opN_c b (fun p q => h p (by omega)), h b (by omega)]
theorem opN_z {y b : Nat} (h : opN S np y b = 0) : ∀ j, opN S np y (b + j) = 0
  | 0 => h
  | j + 1 => by
    show opN S np y (b + j) * _ = 0
    rw [opN_z h j, Nat.zero_mul]
theorem dy_3 {y p : Nat} : dyT S np y p < 3 := by
  unfold dyT
  split
  · exact Nat.mod_lt _ (by decide)
  · decide
theorem odT_p (hO : OD S np) {y : Nat} : ∀ m, m ≤ np → odT S np y m * nI (opN S np y (np - m)) = nI (opN S np y np)
  | 0, _ => Int32.one_mul _
  | m + 1, h => by
    have e := odT_p hO (y := y) m (by omega)
    rw [← e, show np - m = (np - (m + 1)) + 1 by omega]
    show (if S (162 + (np - 1 - m)) < 10 then odT S np y m * odS S (np - 1 - m) (nI (rsT S np y m % 3)) else odT S np y m) * nI (opN S np y (np - (m + 1))) = odT S np y m * nI (opN S np y (np - (m + 1)) * (if S (162 + (np - (m + 1))) < 10 then onN S (np - (m + 1)) (dyT S np y (np - (m + 1))) else 1))
    rw [show np - 1 - m = np - (m + 1) by omega]
    split
    · rename_i hl
      have ed : dyT S np y (np - (m + 1)) = rsT S np y m % 3 := by
        unfold dyT
        rw [if_pos hl, show np - 1 - (np - (m + 1)) = m by omega]
      rw [ed, (hO.1 (np - (m + 1)) (by omega) _ (Nat.mod_lt _ (by decide))).1, ← pk_mul, Int32.mul_assoc, Int32.mul_comm (nI (onN _ _ _))]
    · rw [Nat.mul_one]
theorem odT_n (hO : OD S np) {y : Nat} : odT S np y np = nI (opN S np y np) := by
  have e := odT_p hO (y := y) np (Nat.le_refl _)
  rw [Nat.sub_self] at e
  have e2 : odT S np y np * nI 1 = nI (opN S np y np) := e
  rw [show nI 1 = (1 : Int32) from rfl, Int32.mul_one] at e2
  exact e2
/-- how many may come later -/
def lcN (S : Nat → Int32) : Nat → Nat
  | 0 => 0
  | b + 1 => lcN S b + (if S (162 + b) < 10 then 1 else 0)
theorem lcN_e : ∀ b, ltM S b = nI (lcN S b)
  | 0 => rfl
  | b + 1 => by
    unfold ltM lcN
    rw [lcN_e b]
    split
    · rw [show (1 : Int32) = nI 1 from rfl, nI_add]
    · rw [Int32.add_zero, Nat.add_zero]
theorem lcN_le : ∀ b, lcN S b ≤ b
  | 0 => Nat.le_refl _
  | b + 1 => by
    have := lcN_le b
    unfold lcN
    split <;> omega
theorem opN_b (hO : OD S np) {y : Nat} : ∀ b, b ≤ np → opN S np y b ≤ 10 ^ lcN S b
  | 0, _ => Nat.le_refl _
  | b + 1, h => by
    have e := opN_b hO (y := y) b (by omega)
    unfold opN lcN
    split
    · have := (hO.1 b (by omega) _ (dy_3 (S := S) (np := np) (y := y) (p := b))).2
      rw [Nat.pow_succ]
      exact Nat.mul_le_mul e this
    · rw [Nat.mul_one, Nat.add_zero]; exact e
theorem nwN_3 : ∀ b, nwN S b = 3 ^ lcN S b
  | 0 => rfl
  | b + 1 => by
    unfold nwN lcN
    rw [nwN_3 b]
    split
    · rw [Nat.pow_succ]
    · rw [Nat.mul_one, Nat.add_zero]
theorem lc_4 (hn : np ≤ 8) (h : ¬ 4 < ltM S np) : lcN S np ≤ 4 := by
  rw [lcN_e] at h
  have := lcN_le (S := S) np
  have z : ¬ 4 < lcN S np := fun q => h ((nI_ltI (a := 4) (b := lcN S np) (by decide) (by omega)).mpr q)
  omega
theorem opN_4 (hO : OD S np) (hn : np ≤ 8) (h : ¬ 4 < ltM S np) (y : Nat) : opN S np y np ≤ 10000 := by
  have e := opN_b hO (y := y) np (Nat.le_refl _)
  have p : 10 ^ lcN S np ≤ 10 ^ 4 := Nat.pow_le_pow_right (by decide) (lc_4 hn h)
  have : (10 : Nat) ^ 4 = 10000 := by decide
  omega
theorem nwN_4 (hn : np ≤ 8) (h : ¬ 4 < ltM S np) : nwN S np ≤ 81 := by
  rw [nwN_3]
  have p : 3 ^ lcN S np ≤ 3 ^ 4 := Nat.pow_le_pow_right (by decide) (lc_4 hn h)
  exact p
end DY
theorem nI_J {n : Nat} (h : n < 2 ^ 31) : (nI n).toInt64 = lJ n := by
  apply Int64.toInt_inj.mp
  rw [Int32.toInt_toInt64, nI_toInt h, lJ_toInt (by omega)]
theorem lJ_mul {a b : Nat} : lJ a * lJ b = lJ (a * b) := by
  unfold lJ; exact (Int64.ofNat_mul a b).symm
theorem lJ_add {a b : Nat} : lJ a + lJ b = lJ (a + b) := by
  unfold lJ; exact (Int64.ofNat_add a b).symm
theorem nI_p {n : Nat} (h : n < 2 ^ 31) : 0 < nI n ↔ 0 < n := nI_ltI (a := 0) (b := n) (by decide) h
/-- one after another -/
def fdS (st : Nat → WY → WY) (y0 : Nat) : Nat → WY → WY
  | 0, W => W
  | n + 1, W => st (y0 + n) (fdS st y0 n W)
theorem fd_add {st : Nat → WY → WY} {y0 n : Nat} {W : WY} : ∀ m, fdS st y0 (n + m) W = fdS st (y0 + n) m (fdS st y0 n W)
  | 0 => rfl
  | m + 1 => by
    show st (y0 + (n + m)) (fdS st y0 (n + m) W) = st (y0 + n + m) (fdS st (y0 + n) m (fdS st y0 n W))
    rw [fd_add m, Nat.add_assoc]
theorem fd_id {st : Nat → WY → WY} {y0 : Nat} {W : WY} : ∀ n, (∀ i, i < n → ∀ W, st (y0 + i) W = W) → fdS st y0 n W = W
  | 0, _ => rfl
  | n + 1, h => by
    show st (y0 + n) (fdS st y0 n W) = W
    rw [h n (by omega), fd_id n (fun i q => h i (by omega))]
def stW (fb : (Nat → Int32) → Int32) (S : Nat → Int32) (np y : Nat) (W : WY) : WY := if 0 < odT S np y np then wyL (fb (fun p => nI (dyT S np y p))) (odT S np y np).toInt64 (dgS (fun p => nI (dyT S np y p)) np) W else W
theorem wyS_s {fb : (Nat → Int32) → Int32} {S : Nat → Int32} {k b : Nat} {dl : Nat → Int32} {often : Int64} {way : Int32} {W : WY} : wyS fb S (k + 1) b dl often way W = wyF (fun d W => if 0 < odS S b (nI d) then wyS fb S k (b + 1) (upd dl b (nI d)) (if S (162 + b) = 10 then often else often * (odS S b (nI d)).toInt64) (10 * way + nI d) W else W) 3 W := rfl
theorem wyF_3 {st : Nat → WY → WY} {W : WY} : wyF st 3 W = st 2 (st 1 (st 0 W)) := rfl
theorem wy_f {fb : (Nat → Int32) → Int32} {S : Nat → Int32} {np : Nat} (hO : OD S np) (hn : np ≤ 8) (h4 : ¬ 4 < ltM S np) (hfb : ∀ dl dl' : Nat → Int32, (∀ p, p < np → dl p = dl' p) → fb dl = fb dl') : ∀ k b, b + k = np → ∀ (y1 : Nat) (dl : Nat → Int32) (often : Int64) (way : Int32) (W : WY), (∀ p, p < b → dl p = nI (dyT S np (y1 * mM S np k) p)) → often = lJ (opN S np (y1 * mM S np k) b) → 0 < opN S np (y1 * mM S np k) b → way = dgS (fun p => nI (dyT S np (y1 * mM S np k) p)) b → wyS fb S k b dl often way W = fdS (stW fb S np) (y1 * mM S np k) (mM S np k) W
  | 0, b, hb, y1, dl, often, way, W, h1, h2, h3, h5 => by
    have hbn : b = np := by omega
    subst hbn
    have o4 := opN_4 hO hn h4 (y1 * mM S b 0)
    show wyL (fb dl) often way W = stW fb S b (y1 * mM S b 0 + 0) W
    rw [Nat.add_zero]
    unfold stW
    rw [odT_n hO, if_pos ((nI_p (by omega)).mpr h3), nI_J (by omega), hfb dl _ h1, h2, h5]
  | k + 1, b, hb, y1, dl, often, way, W, h1, h2, h3, h5 => by
    have hkb : np - 1 - k = b := by omega
    have hbk : np - 1 - b = k := by omega
    have hbn : b < np := by omega
    rw [wyS_s, wyF_3]
    by_cases hl : S (162 + b) < 10
    · have hM : mM S np (k + 1) = mM S np k * 3 := by
        show mM S np k * (if S (162 + (np - 1 - k)) < 10 then 3 else 1) = _
        rw [hkb, if_pos hl]
      have hMp := mM_pos (S := S) (np := np) k
      have way_ : ∀ d, d < 3 → ∀ W, (if 0 < odS S b (nI d) then wyS fb S k (b + 1) (upd dl b (nI d)) (if S (162 + b) = 10 then often else often * (odS S b (nI d)).toInt64) (10 * way + nI d) W else W) = fdS (stW fb S np) ((y1 * 3 + d) * mM S np k) (mM S np k) W := fun d hd W => by
        have on := hO.1 b hbn d hd
        have ey : ∀ i, i < mM S np k → (y1 * 3 + d) * mM S np k + i = y1 * mM S np (k + 1) + (d * mM S np k + i) := fun i hi => by
          rw [hM, Nat.add_mul, Nat.mul_comm (mM S np k) 3, ← Nat.mul_assoc, Nat.add_assoc]
        have lt_ : ∀ i, i < mM S np k → d * mM S np k + i < mM S np (k + 1) := fun i hi => by
          have : d * mM S np k ≤ 2 * mM S np k := Nat.mul_le_mul_right _ (by omega)
          rw [hM]; omega
        have pre : ∀ i, i < mM S np k → ∀ p, p < b → dyT S np ((y1 * 3 + d) * mM S np k + i) p = dyT S np (y1 * mM S np (k + 1)) p := fun i hi p hp => by
          rw [ey i hi]; exact dy_r (by omega) (lt_ i hi)
        have own : ∀ i, i < mM S np k → dyT S np ((y1 * 3 + d) * mM S np k + i) b = d := fun i hi => by
          have := dy_d (S := S) (np := np) (b := b) (y1 := y1) (d := d) (y2 := i) hl hd (by rw [hbk]; exact hi)
          rw [hbk] at this; exact this
        have op1 : ∀ i, i < mM S np k → opN S np ((y1 * 3 + d) * mM S np k + i) (b + 1) = opN S np (y1 * mM S np (k + 1)) b * onN S b d := fun i hi => by
          show opN S np _ b * (if S (162 + b) < 10 then onN S b (dyT S np _ b) else 1) = _
          rw [if_pos hl, own i hi, opN_c b (pre i hi)]
        by_cases h0 : 0 < onN S b d
        · rw [if_pos (by rw [on.1]; exact (nI_p (by omega)).mpr h0), if_neg (fun q => by rw [q] at hl; exact absurd hl (by decide))]
          have pre0 := pre 0 hMp
          have own0 := own 0 hMp
          have op0 := op1 0 hMp
          rw [Nat.add_zero] at pre0 own0 op0
          refine wy_f hO hn h4 hfb k (b + 1) (by omega) (y1 * 3 + d) _ _ _ W (fun p hp => ?_) ?_ ?_ ?_
          · by_cases e : p = b
            · subst e; rw [upd_s, own0]
            · rw [upd_n e, h1 p (by omega), pre0 p (by omega)]
          · rw [op0, h2, on.1, nI_J (by omega), lJ_mul]
          · rw [op0]; exact Nat.mul_pos h3 h0
          · show _ = dgS _ b * 10 + nI (dyT S np ((y1 * 3 + d) * mM S np k) b)
            rw [own0, h5, Int32.mul_comm]
            congr 2
            exact dgS_d b (fun p hp => by rw [pre0 p hp])
        · rw [if_neg (by rw [on.1]; exact fun q => h0 ((nI_p (by omega)).mp q))]
          refine (fd_id _ (fun i hi W => ?_)).symm
          have z : opN S np ((y1 * 3 + d) * mM S np k + i) (b + 1) = 0 := by
            rw [op1 i hi, show onN S b d = 0 by omega, Nat.mul_zero]
          have z2 := opN_z z (np - (b + 1))
          rw [show b + 1 + (np - (b + 1)) = np by omega] at z2
          unfold stW
          rw [odT_n hO, z2, if_neg (by decide)]
      show (if 0 < odS S b (nI 2) then wyS fb S k (b + 1) (upd dl b (nI 2)) (if S (162 + b) = 10 then often else often * (odS S b (nI 2)).toInt64) (10 * way + nI 2) (if 0 < odS S b (nI 1) then wyS fb S k (b + 1) (upd dl b (nI 1)) (if S (162 + b) = 10 then often else often * (odS S b (nI 1)).toInt64) (10 * way + nI 1) (if 0 < odS S b (nI 0) then wyS fb S k (b + 1) (upd dl b (nI 0)) (if S (162 + b) = 10 then often else often * (odS S b (nI 0)).toInt64) (10 * way + nI 0) W else W) else (if 0 < odS S b (nI 0) then wyS fb S k (b + 1) (upd dl b (nI 0)) (if S (162 + b) = 10 then often else often * (odS S b (nI 0)).toInt64) (10 * way + nI 0) W else W)) else (if 0 < odS S b (nI 1) then wyS fb S k (b + 1) (upd dl b (nI 1)) (if S (162 + b) = 10 then often else often * (odS S b (nI 1)).toInt64) (10 * way + nI 1) (if 0 < odS S b (nI 0) then wyS fb S k (b + 1) (upd dl b (nI 0)) (if S (162 + b) = 10 then often else often * (odS S b (nI 0)).toInt64) (10 * way + nI 0) W else W) else (if 0 < odS S b (nI 0) then wyS fb S k (b + 1) (upd dl b (nI 0)) (if S (162 + b) = 10 then often else often * (odS S b (nI 0)).toInt64) (10 * way + nI 0) W else W))) = _
      rw [way_ 2 (by decide), way_ 1 (by decide), way_ 0 (by decide), hM, show mM S np k * 3 = mM S np k + mM S np k + mM S np k by omega, fd_add, fd_add]
      congr 1
      · rw [← Nat.add_assoc]
        rw [show y1 * (mM S np k + mM S np k + mM S np k) = y1 * 3 * mM S np k by rw [Nat.mul_assoc]; congr 1; omega, Nat.add_mul]
        omega
      · congr 1
        · rw [show y1 * (mM S np k + mM S np k + mM S np k) = y1 * 3 * mM S np k by rw [Nat.mul_assoc]; congr 1; omega, Nat.add_mul]
          omega
        · rw [show y1 * (mM S np k + mM S np k + mM S np k) = y1 * 3 * mM S np k by rw [Nat.mul_assoc]; congr 1; omega, Nat.add_zero]
    · obtain ⟨s1, s2⟩ := hO.2.1 b hbn hl
      have hM : mM S np (k + 1) = mM S np k := by
        show mM S np k * (if S (162 + (np - 1 - k)) < 10 then 3 else 1) = _
        rw [hkb, if_neg hl, Nat.mul_one]
      have o0 : odS S b (nI 0) = 10 := by unfold odS; rw [if_pos (by decide), s1]
      have o1 : odS S b (nI 1) = 0 := by unfold odS; rw [if_neg (by decide), if_pos (by decide), s2]
      have o2 : odS S b (nI 2) = 0 := by unfold odS; rw [if_neg (by decide), if_neg (by decide), s1, s2]; decide
      show (if 0 < odS S b (nI 2) then _ else _) = _
      rw [o2, if_neg (by decide), o1, if_neg (by decide), o0, if_pos (by decide), if_pos s1]
      rw [hM] at h1 h2 h3 h5 ⊢
      have d0 : dyT S np (y1 * mM S np k) b = 0 := by unfold dyT; rw [if_neg hl]
      have op0 : opN S np (y1 * mM S np k) (b + 1) = opN S np (y1 * mM S np k) b := by
        show opN S np _ b * (if S (162 + b) < 10 then _ else 1) = _
        rw [if_neg hl, Nat.mul_one]
      refine wy_f hO hn h4 hfb k (b + 1) (by omega) y1 _ _ _ W (fun p hp => ?_) (by rw [op0]; exact h2) (by rw [op0]; exact h3) ?_
      · by_cases e : p = b
        · subst e; rw [upd_s, d0]
        · rw [upd_n e, h1 p (by omega)]
      · show _ = dgS _ b * 10 + nI (dyT S np (y1 * mM S np k) b)
        rw [d0, h5, Int32.mul_comm]
