/-! ===== THE FRAME, 3: fields, arrays, calls ===== -/
theorem aw_good {X : List Cond} (h : ∀ w ∈ X, w ∈ aw_wd) : GoodIn aw_wd X := fun w hw => ⟨h w hw, good_of_word (aw_wd_good w (h w hw)).2⟩
/-- the object's cell at an address -/
theorem aw_obj {g : GG} {h : AH} {H : Heap} (hH : aw_H g h H) {a kd len : Nat} (ht : hT h a = (kd, len)) (hk : kd < 13) : va_at (gD g) aw_cl (a, .inr (kd, aw_fs h a kd)) H := by
  have h1 := (hH.2.2 a (by rw [ht]; show kd < 99; omega)).2.2
  rw [aw_e_o ht hk] at h1
  exact h1
theorem aw_one {D : va_G} {cl : List vw_C} {q : Nat × va_E} {H : Heap} (h : va_at D cl q H) : va_P D cl [q] H := by
  intro k x hx
  have hz : k < 1 := (List.getElem?_eq_some_iff.mp hx).1
  rw [show k = 0 by omega] at hx
  cases hx
  exact h
/-- the array's cell at an address -/
theorem aw_arrI {g : GG} {h : AH} {H : Heap} (hH : aw_H g h H) {a kd len : Nat} (ht : hT h a = (kd, len)) (hk : kd = 13 ∨ kd = 14 ∨ kd = 16) : H[a]? = some (arrV (gC g kd) len (fun j => .int (hI h a j))) := by
  have h1 := (hH.2.2 a (by rw [ht]; show kd < 99; omega)).2.2
  rw [aw_e_i ht hk] at h1
  exact h1
theorem aw_arrJ {g : GG} {h : AH} {H : Heap} (hH : aw_H g h H) {a len : Nat} (ht : hT h a = (15, len)) : H[a]? = some (arrV (gC g 15) len (fun j => .long (hJ h a j))) := by
  have h1 := (hH.2.2 a (by rw [ht]; show 15 < 99; omega)).2.2
  rw [aw_e_j ht] at h1
  exact h1
theorem aw_arrQ {g : GG} {h : AH} {H : Heap} (hH : aw_H g h H) {a kd len : Nat} (ht : hT h a = (kd, len)) (hk : 17 ≤ kd) (hk2 : kd ≤ 20) : H[a]? = some (arrV (gC g kd) len (fun j => va_rf (hQ h a j))) := by
  have h1 := (hH.2.2 a (by rw [ht]; show kd < 99; omega)).2.2
  rw [aw_e_q ht hk] at h1
  exact h1
def aw_ty : Nat → FieldType
  | 13 => .byte
  | 14 => .int
  | 15 => .long
  | 16 => .boolean
  | 17 => .object RX1
  | 18 => .object RX2
  | 19 => .object RX10
  | _ => .array .int
theorem aw_arrT {g : GG} {s : State} (hK : va_K (gD g) aw_cl (aw_tys g) s) {kd : Nat} (h1 : 13 ≤ kd) (h2 : kd ≤ 20) : ArrOfT s (gC g kd) (aw_ty kd) ∧ va_RA s (gC g kd) (aw_ty kd) := by
  rcases (show kd = 13 ∨ kd = 14 ∨ kd = 15 ∨ kd = 16 ∨ kd = 17 ∨ kd = 18 ∨ kd = 19 ∨ kd = 20 by omega) with rfl | rfl | rfl | rfl | rfl | rfl | rfl | rfl
  · exact hK.2 0 _ rfl
  · exact hK.2 1 _ rfl
  · exact hK.2 2 _ rfl
  · exact hK.2 3 _ rfl
  · exact hK.2 4 _ rfl
  · exact hK.2 5 _ rfl
  · exact hK.2 6 _ rfl
  · exact hK.2 7 _ rfl
/-- field k, of type t, of an object of kind kd: that pool entry of that class names it -/
def FL (own : String) (idx kd k t : Nat) : Prop := ∃ (C : String) (T : u_T) (N : Nat) (ref : String), aw_cl[kd]? = some (C, T, N) ∧ k < N ∧ N = (aw_ft kd).length ∧ kd < 13 ∧ (∀ w ∈ u_ws C T N, w ∈ aw_wd) ∧ Cond.fieldLink own idx ref (T k).2.1 (T k).2.2.1 ∈ aw_wd ∧ (ref = (T k).1 ∨ Cond.sameField ref (T k).1 (T k).2.1 (T k).2.2.1 ∈ aw_wd) ∧ (aw_ft kd).getD k 0 = t
/-- such a field may be written there; its descriptor's type -/
def FP (own : String) (idx kd k t : Nat) (fty : FieldType) : Prop := ∃ (C : String) (T : u_T) (N : Nat) (ref : String) (ty0 : Nat → FieldType), aw_cl[kd]? = some (C, T, N) ∧ k < N ∧ N = (aw_ft kd).length ∧ kd < 13 ∧ (∀ w ∈ u_ws C T N, w ∈ aw_wd) ∧ Cond.fieldLink own idx ref (T k).2.1 (T k).2.2.1 ∈ aw_wd ∧ (ref = (T k).1 ∨ Cond.sameField ref (T k).1 (T k).2.1 (T k).2.2.1 ∈ aw_wd) ∧ (aw_ft kd).getD k 0 = t ∧ (∀ k, k < N → parseFieldDescriptor (T k).2.2.1 = some (ty0 k)) ∧ (∀ a, a < N → ∀ b, b < N → a ≠ b → (T a).2.1 ≠ (T b).2.1) ∧ parseFieldDescriptor (T k).2.2.1 = some fty ∧ ((T k).2.2.2 = false ∨ ((T k).2.2.2 = true ∧ (T k).1 = own))
section AWF
variable {V : VV} {cs ss : Nat} {h : AH} {pc : Nat} {L : List (Nat × Value)} {st : List Value} {cc : ByteArray}
theorem a_getG (hb : V.2.1.2.1 = cc) {a idx kd len k t : Nat} (hd : decode cc pc = .ok (.getfield idx, 3)) (hf : FL V.2.1.1.cls idx kd k t) (ht : hT h a = (kd, len)) (kk : AW V cs ss h (pc + 3) L (aw_fv h a t k :: st)) : AW V cs ss h pc L (.ref a :: st) := by
  intro p e s m args below meth c C H locs ls hH hl hS
  obtain ⟨Cn, T, N, ref, h1, h2, h3, h4, h5, h6, h7, h8⟩ := hf
  refine va_get (ref := ref) (C := Cn) (T := T) (N := N) (ci := kd) C.1 (C.2.1.trans hb) C.2.2.2.2.1 h5 C.2.2.2.2.2.1 C.2.2.2.2.2.2.2.2.1 (aw_one (aw_obj hH ht h4)) 0 rfl h1 k h2 (C.2.2.2.2.1 _ h6) ?_ (v := aw_fv h a t k) ?_ hd (kk p e s m args below meth c C H locs ls hH hl hS)
  · intro x hx
    rcases h7 with rfl | h7
    · exact hx
    · exact u_same (C.2.2.2.2.1 _ h7) x hx
  · rw [aw_fs_get (by rw [← h3]; exact h2), h8]
theorem a_getI (hb : V.2.1.2.1 = cc) {a idx kd len k : Nat} (hd : decode cc pc = .ok (.getfield idx, 3)) (hf : FL V.2.1.1.cls idx kd k 0) (ht : hT h a = (kd, len)) (kk : AW V cs ss h (pc + 3) L (.int (hI h a k) :: st)) : AW V cs ss h pc L (.ref a :: st) := a_getG hb hd hf ht kk
theorem a_getJ (hb : V.2.1.2.1 = cc) {a idx kd len k : Nat} (hd : decode cc pc = .ok (.getfield idx, 3)) (hf : FL V.2.1.1.cls idx kd k 1) (ht : hT h a = (kd, len)) (kk : AW V cs ss h (pc + 3) L (.long (hJ h a k) :: st)) : AW V cs ss h pc L (.ref a :: st) := a_getG hb hd hf ht kk
theorem a_getQ (hb : V.2.1.2.1 = cc) {a idx kd len k q : Nat} (hd : decode cc pc = .ok (.getfield idx, 3)) (hf : FL V.2.1.1.cls idx kd k 2) (ht : hT h a = (kd, len)) (hq : hQ h a k = some q) (kk : AW V cs ss h (pc + 3) L (.ref q :: st)) : AW V cs ss h pc L (.ref a :: st) := by
  refine a_getG hb hd hf ht ?_
  show AW V cs ss h (pc + 3) L (va_rf (hQ h a k) :: st)
  rw [hq]
  exact kk
theorem a_putG (hb : V.2.1.2.1 = cc) {a idx kd len k t : Nat} {fty : FieldType} {v : Value} {h' : AH} (hd : decode cc pc = .ok (.putfield idx, 3)) (hf : FP V.2.1.1.cls idx kd k t fty) (hfin : V.2.1.1.name = "<init>" ∨ (∀ C T N, aw_cl[kd]? = some (C, T, N) → (T k).2.2.2 = false)) (ht : hT h a = (kd, len)) (hn : narrow fty v = v) (hft : fits fty v = true)
    (e1 : hN h' = hN h) (e2 : hT h' = hT h) (e3 : ∀ b, b ≠ a → aw_e (gC V.1) h' b = aw_e (gC V.1) h b) (e4 : aw_fv h' a t k = v) (e5 : ∀ j, j ≠ k → ∀ t', aw_fv h' a t' j = aw_fv h a t' j)
    (kk : AW V cs ss h' (pc + 3) L st) : AW V cs ss h pc L (v :: .ref a :: st) := by
  intro p e s m args below meth c C H locs ls hH hl hS
  obtain ⟨Cn, T, N, ref, ty0, h1, h2, h3, h4, h5, h6, h7, h8, h9, h10, h11, h12⟩ := hf
  have hK := C.2.2.2.2.2.2.2.2.1
  have hts := C.2.2.2.2.1
  have hown := C.2.2.2.2.2.1
  have hap := va_apart (own := V.2.1.1.cls) (D := gD V.1) hts h5 ty0 h9 h10 hK h1
  have hat := aw_obj hH ht h4
  obtain ⟨r, g1, cell, q1, q2, q3, q4⟩ := hat
  have hr : r = (Cn, T, N) := Option.some.inj (g1.symm.trans h1)
  subst hr
  obtain ⟨hSl, hfc, kC, hkC, hkind⟩ := hK.1 kd _ h1
  obtain ⟨cf, kf, fi, f, hi, hsl⟩ := hSl k h2
  have hi' : s.fieldFound? ref (T k).2.1 (T k).2.2.1 = some (cf, kf, fi, f) := by
    rcases h7 with rfl | h7
    · exact hi
    · exact u_same (hts _ h7) _ hi
  have hlink := hts _ h6
  have hst := (u_facts hfc hkC (u_lays hts h5 h2) hi).1
  have hlay := hts _ (h5 _ (u_in_lay h2))
  have fin : ∀ (H' : Heap), H'[a]? = some (cell.setSlot f.slot v) → H'.size = H.size → (∀ q, q ≠ a → H'[q]? = H[q]?) → W p (gL V.1) e V.2.2.1 s m args below meth c H' (locs ++ [⟨a, f.slot⟩]) cs ss (V.2.2.2 below args s) (F0 m (pc + 3) ls st) := by
    intro H' w1 w2 w3
    have hA : aw_A V.1 a := (hH.2.2 a (by rw [ht]; show kd < 99; omega)).1
    rw [hsl] at w1
    refine kk p e s m args below meth c C H' _ ls (hH.put e1 e2 ?_ e3 w2 w3) hl (hS.put w2 w3 hA)
    rw [aw_e_o (kd := kd) (len := len) (by rw [e2]; exact ht) h4]
    refine ⟨_, h1, t_OB.to (V := updV (vp_V (aw_fs h a kd)) k v) ⟨_, w1, q2, q3, t_set q4 hap h2 v⟩ (fun j hj => ?_)⟩
    refine aw_fv_V (by rw [← h3]; exact hj) (by rw [h8]; exact e4) (fun hjk => e5 j hjk _)
  unfold u_lay at hlay
  rcases hfin with hinit | hnf
  · by_cases hfl : (T k).2.2.2 = true
    · have hdecl : (T k).1 = V.2.1.1.cls := by
        rcases h12 with q | q
        · rw [hfl] at q; cases q
        · exact q.2
      rw [if_pos hfl] at hlay
      have hcf : m.cls = cf := by
        obtain ⟨_, _, c', _, _, _, -, -, hf', -, -, -, hown2, -⟩ := Cond.laysFinal_spec hlay
        have e1 : c' = cf := by have := hi.symm.trans hf'; simp at this; exact this.1.symm
        rw [hdecl] at hown2
        rw [← e1]; exact Option.some.inj (hown.symm.trans hown2)
      have h13 := u_fits hfc hkC hkind (Or.inr hlay) hi h11 hn hft
      exact W.putFinK C.1 (C.2.1.trans hb) hown hlink hi' hst hcf (C.2.2.2.2.2.2.2.1.trans hinit) (by rw [q2]; exact h13) q1 q3 (by rw [hsl]; exact k2_hasslot (q4 k h2)) rfl rfl hd fin
    · rw [if_neg hfl] at hlay
      have h13 := u_store hfc hkC hkind hlay hi h11 hn hft
      exact W.putK C.1 (C.2.1.trans hb) (f := f) ⟨hown, hlink, ⟨_, _, _, hi'⟩, hst⟩ (by rw [q2]; exact h13) q1 q3 (by rw [hsl]; exact k2_hasslot (q4 k h2)) rfl rfl hd fin
  · rw [if_neg (by rw [hnf _ _ _ h1]; decide)] at hlay
    have h13 := u_store hfc hkC hkind hlay hi h11 hn hft
    exact W.putK C.1 (C.2.1.trans hb) (f := f) ⟨hown, hlink, ⟨_, _, _, hi'⟩, hst⟩ (by rw [q2]; exact h13) q1 q3 (by rw [hsl]; exact k2_hasslot (q4 k h2)) rfl rfl hd fin
theorem a_putI (hb : V.2.1.2.1 = cc) {a idx kd len k : Nat} {fty : FieldType} {v : Int32} (hd : decode cc pc = .ok (.putfield idx, 3)) (hf : FP V.2.1.1.cls idx kd k 0 fty) (hfin : V.2.1.1.name = "<init>" ∨ (∀ C T N, aw_cl[kd]? = some (C, T, N) → (T k).2.2.2 = false)) (ht : hT h a = (kd, len)) (hn : narrow fty (.int v) = .int v) (hft : fits fty (.int v) = true) (kk : AW V cs ss (setI h a k v) (pc + 3) L st) : AW V cs ss h pc L (.int v :: .ref a :: st) := by
  refine a_putG (h' := setI h a k v) hb hd hf hfin ht hn hft rfl rfl (fun b hb => aw_setI_e hb) (by show Value.int (u2 (hI h) a k v a k) = _; rw [u2_s]) (fun j hj t' => ?_) kk
  match t' with
  | 0 => show Value.int (u2 (hI h) a k v a j) = .int (hI h a j); rw [u2_k hj]
  | 1 => rfl
  | _ + 2 => rfl
theorem a_putJ (hb : V.2.1.2.1 = cc) {a idx kd len k : Nat} {fty : FieldType} {v : Int64} (hd : decode cc pc = .ok (.putfield idx, 3)) (hf : FP V.2.1.1.cls idx kd k 1 fty) (hfin : V.2.1.1.name = "<init>" ∨ (∀ C T N, aw_cl[kd]? = some (C, T, N) → (T k).2.2.2 = false)) (ht : hT h a = (kd, len)) (hn : narrow fty (.long v) = .long v) (hft : fits fty (.long v) = true) (kk : AW V cs ss (setJ h a k v) (pc + 3) L st) : AW V cs ss h pc L (.long v :: .ref a :: st) := by
  refine a_putG (h' := setJ h a k v) hb hd hf hfin ht hn hft rfl rfl (fun b hb => aw_setJ_e hb) (by show Value.long (u2 (hJ h) a k v a k) = _; rw [u2_s]) (fun j hj t' => ?_) kk
  match t' with
  | 0 => rfl
  | 1 => show Value.long (u2 (hJ h) a k v a j) = .long (hJ h a j); rw [u2_k hj]
  | _ + 2 => rfl
theorem a_putQ (hb : V.2.1.2.1 = cc) {a idx kd len k q : Nat} {fty : FieldType} (hd : decode cc pc = .ok (.putfield idx, 3)) (hf : FP V.2.1.1.cls idx kd k 2 fty) (hfin : V.2.1.1.name = "<init>" ∨ (∀ C T N, aw_cl[kd]? = some (C, T, N) → (T k).2.2.2 = false)) (ht : hT h a = (kd, len)) (hn : narrow fty (.ref q) = .ref q) (hft : fits fty (.ref q) = true) (kk : AW V cs ss (setQ h a k (some q)) (pc + 3) L st) : AW V cs ss h pc L (.ref q :: .ref a :: st) := by
  refine a_putG (h' := setQ h a k (some q)) hb hd hf hfin ht hn hft rfl rfl (fun b hb => aw_setQ_e hb) (by show va_rf (u2 (hQ h) a k (some q) a k) = _; rw [u2_s]; rfl) (fun j hj t' => ?_) kk
  match t' with
  | 0 => rfl
  | 1 => rfl
  | _ + 2 => show va_rf (u2 (hQ h) a k (some q) a j) = va_rf (hQ h a j); rw [u2_k hj]
/-! arrays -/
theorem a_iald (hb : V.2.1.2.1 = cc) {a len : Nat} {i : Int32} (hd : decode cc pc = .ok (.iaload, 1)) (ht : hT h a = (14, len)) (hi : vp_in i len) (kk : AW V cs ss h (pc + 1) L (.int (hI h a i.toNatClampNeg) :: st)) : AW V cs ss h pc L (.int i :: .ref a :: st) := by
  intro p e s m args below meth c C H locs ls hH hl hS
  have hlt : i.toNatClampNeg < len := Nat.not_le.mp fun q => hi (Or.inr q)
  exact W.iald (v := .int (hI h a i.toNatClampNeg)) C.1 (C.2.1.trans hb) (aw_arrI hH ht (by simp)) ((aw_arrT C.2.2.2.2.2.2.2.2.1 (kd := 14) (by omega) (by omega)).1 len _) (fun q => by cases q) (by rw [arrV_size]; exact hi) (by rw [arrV_read _ _ hlt]) rfl rfl hd (kk p e s m args below meth c C H locs ls hH hl hS)
theorem a_bald (hb : V.2.1.2.1 = cc) {a len : Nat} {i : Int32} (hd : decode cc pc = .ok (.baload, 1)) (ht : hT h a = (13, len)) (hi : vp_in i len) (kk : AW V cs ss h (pc + 1) L (.int (hI h a i.toNatClampNeg) :: st)) : AW V cs ss h pc L (.int i :: .ref a :: st) := by
  intro p e s m args below meth c C H locs ls hH hl hS
  have hlt : i.toNatClampNeg < len := Nat.not_le.mp fun q => hi (Or.inr q)
  exact W.bald (v := .int (hI h a i.toNatClampNeg)) C.1 (C.2.1.trans hb) (aw_arrI hH ht (by simp)) ((aw_arrT C.2.2.2.2.2.2.2.2.1 (kd := 13) (by omega) (by omega)).1 len _) (fun q => by cases q) (by rw [arrV_size]; exact hi) (by rw [arrV_read _ _ hlt]) rfl rfl hd (kk p e s m args below meth c C H locs ls hH hl hS)
theorem a_zald (hb : V.2.1.2.1 = cc) {a len : Nat} {i : Int32} (hd : decode cc pc = .ok (.baload, 1)) (ht : hT h a = (16, len)) (hi : vp_in i len) (kk : AW V cs ss h (pc + 1) L (.int (hI h a i.toNatClampNeg) :: st)) : AW V cs ss h pc L (.int i :: .ref a :: st) := by
  intro p e s m args below meth c C H locs ls hH hl hS
  have hlt : i.toNatClampNeg < len := Nat.not_le.mp fun q => hi (Or.inr q)
  exact W.zald (v := .int (hI h a i.toNatClampNeg)) C.1 (C.2.1.trans hb) (aw_arrI hH ht (by simp)) ((aw_arrT C.2.2.2.2.2.2.2.2.1 (kd := 16) (by omega) (by omega)).1 len _) (fun q => by cases q) (by rw [arrV_size]; exact hi) (by rw [arrV_read _ _ hlt]) rfl rfl hd (kk p e s m args below meth c C H locs ls hH hl hS)
theorem a_lald (hb : V.2.1.2.1 = cc) {a len : Nat} {i : Int32} (hd : decode cc pc = .ok (.laload, 1)) (ht : hT h a = (15, len)) (hi : vp_in i len) (kk : AW V cs ss h (pc + 1) L (.long (hJ h a i.toNatClampNeg) :: st)) : AW V cs ss h pc L (.int i :: .ref a :: st) := by
  intro p e s m args below meth c C H locs ls hH hl hS
  have hlt : i.toNatClampNeg < len := Nat.not_le.mp fun q => hi (Or.inr q)
  exact W.lald (v := .long (hJ h a i.toNatClampNeg)) C.1 (C.2.1.trans hb) (aw_arrJ hH ht) ((aw_arrT C.2.2.2.2.2.2.2.2.1 (kd := 15) (by omega) (by omega)).1 len _) (fun q => by cases q) (by rw [arrV_size]; exact hi) (by rw [arrV_read _ _ hlt]) rfl rfl hd (kk p e s m args below meth c C H locs ls hH hl hS)
theorem a_aald (hb : V.2.1.2.1 = cc) {a kd len : Nat} {i : Int32} (hd : decode cc pc = .ok (.aaload, 1)) (ht : hT h a = (kd, len)) (h1 : 17 ≤ kd) (h2 : kd ≤ 20) (hi : vp_in i len) (kk : AW V cs ss h (pc + 1) L (va_rf (hQ h a i.toNatClampNeg) :: st)) : AW V cs ss h pc L (.int i :: .ref a :: st) := by
  intro p e s m args below meth c C H locs ls hH hl hS
  have hlt : i.toNatClampNeg < len := Nat.not_le.mp fun q => hi (Or.inr q)
  refine W.aald (v := va_rf (hQ h a i.toNatClampNeg)) C.1 (C.2.1.trans hb) (aw_arrQ hH ht h1 h2) ((aw_arrT C.2.2.2.2.2.2.2.2.1 (kd := kd) (by omega) h2).1 len _) ?_ (fun q => by cases q) (by rw [arrV_size]; exact hi) (by rw [arrV_read _ _ hlt]) rfl rfl hd (kk p e s m args below meth c C H locs ls hH hl hS)
  rcases (show kd = 17 ∨ kd = 18 ∨ kd = 19 ∨ kd = 20 by omega) with rfl | rfl | rfl | rfl <;> rfl
theorem a_aaldS (hb : V.2.1.2.1 = cc) {a kd len q : Nat} {i : Int32} (hd : decode cc pc = .ok (.aaload, 1)) (ht : hT h a = (kd, len)) (h1 : 17 ≤ kd) (h2 : kd ≤ 20) (hi : vp_in i len) (hq : hQ h a i.toNatClampNeg = some q) (kk : AW V cs ss h (pc + 1) L (.ref q :: st)) : AW V cs ss h pc L (.int i :: .ref a :: st) := by
  refine a_aald hb hd ht h1 h2 hi ?_
  rw [hq]
  exact kk
theorem a_alenI (hb : V.2.1.2.1 = cc) {a kd len : Nat} {v : Int32} (hd : decode cc pc = .ok (.arraylength, 1)) (ht : hT h a = (kd, len)) (hk : kd = 13 ∨ kd = 14 ∨ kd = 16) (hv : Int32.ofNat len = v) (kk : AW V cs ss h (pc + 1) L (.int v :: st)) : AW V cs ss h pc L (.ref a :: st) := by
  intro p e s m args below meth c C H locs ls hH hl hS
  exact W.alen (n := v) C.1 (C.2.1.trans hb) (aw_arrI hH ht hk) ((aw_arrT C.2.2.2.2.2.2.2.2.1 (kd := kd) (by omega) (by omega)).1 len _) (by rw [arrV_size]; exact hv) rfl rfl hd (kk p e s m args below meth c C H locs ls hH hl hS)
theorem a_alenQ (hb : V.2.1.2.1 = cc) {a kd len : Nat} {v : Int32} (hd : decode cc pc = .ok (.arraylength, 1)) (ht : hT h a = (kd, len)) (h1 : 17 ≤ kd) (h2 : kd ≤ 20) (hv : Int32.ofNat len = v) (kk : AW V cs ss h (pc + 1) L (.int v :: st)) : AW V cs ss h pc L (.ref a :: st) := by
  intro p e s m args below meth c C H locs ls hH hl hS
  exact W.alen (n := v) C.1 (C.2.1.trans hb) (aw_arrQ hH ht h1 h2) ((aw_arrT C.2.2.2.2.2.2.2.2.1 (kd := kd) (by omega) (by omega)).1 len _) (by rw [arrV_size]; exact hv) rfl rfl hd (kk p e s m args below meth c C H locs ls hH hl hS)
theorem aw_putArr {g : GG} {h h' : AH} {H H1 : Heap} {a kd len : Nat} (hH : aw_H g h H) (ht : hT h a = (kd, len)) (hk : kd < 99) (e1 : hN h' = hN h) (e2 : hT h' = hT h) (e3 : ∀ b, b ≠ a → aw_e (gC g) h' b = aw_e (gC g) h b) (hc : va_at (gD g) aw_cl (a, aw_e (gC g) h' a) H1) (z : H1.size = H.size) (oq : ∀ q : Nat, q ≠ a → H1[q]? = H[q]?) : aw_H g h' H1 ∧ aw_A g a :=
  ⟨hH.put e1 e2 hc e3 z oq, (hH.2.2 a (by rw [ht]; exact hk)).1⟩
theorem aw_updI {h : AH} {a k : Nat} {v : Int32} : (fun j => Value.int (hI (setI h a k v) a j)) = updV (fun j => .int (hI h a j)) k (.int v) := by
  funext j
  show Value.int (u2 (hI h) a k v a j) = _
  by_cases e : j = k
  · subst e; rw [u2_s]; simp [updV]
  · rw [u2_k e]; simp [updV, e]
theorem a_iast (hb : V.2.1.2.1 = cc) {a len : Nat} {i x : Int32} (hd : decode cc pc = .ok (.iastore, 1)) (ht : hT h a = (14, len)) (hi : vp_in i len) (kk : AW V cs ss (setI h a i.toNatClampNeg x) (pc + 1) L st) : AW V cs ss h pc L (.int x :: .int i :: .ref a :: st) := by
  intro p e s m args below meth c C H locs ls hH hl hS
  refine W.iast C.1 (C.2.1.trans hb) (aw_arrI hH ht (by simp)) ((aw_arrT C.2.2.2.2.2.2.2.2.1 (kd := 14) (by omega) (by omega)).1 len _) (fun q => by cases q) (by rw [arrV_size]; exact hi) rfl rfl hd fun H1 w z oq => ?_
  obtain ⟨h1, h2⟩ := aw_putArr (h' := setI h a i.toNatClampNeg x) hH ht (by omega) rfl rfl (fun b hb => aw_setI_e hb) (by
    rw [aw_e_i (h := setI h a i.toNatClampNeg x) (kd := 14) (len := len) ht (by simp)]
    show H1[a]? = some (vp_cell _ _)
    rw [w, arrV_store, vp_cell_i, aw_updI]) z oq
  exact kk p e s m args below meth c C H1 _ ls h1 hl (hS.put z oq h2)
theorem a_bast (hb : V.2.1.2.1 = cc) {a len : Nat} {i x v : Int32} (hd : decode cc pc = .ok (.bastore, 1)) (ht : hT h a = (13, len)) (hi : vp_in i len) (hv : x.toInt8.toInt32 = v) (kk : AW V cs ss (setI h a i.toNatClampNeg v) (pc + 1) L st) : AW V cs ss h pc L (.int x :: .int i :: .ref a :: st) := by
  subst hv
  intro p e s m args below meth c C H locs ls hH hl hS
  refine W.bast C.1 (C.2.1.trans hb) (aw_arrI hH ht (by simp)) ((aw_arrT C.2.2.2.2.2.2.2.2.1 (kd := 13) (by omega) (by omega)).1 len _) (fun q => by cases q) (by rw [arrV_size]; exact hi) rfl rfl hd fun H1 w z oq => ?_
  obtain ⟨h1, h2⟩ := aw_putArr (h' := setI h a i.toNatClampNeg x.toInt8.toInt32) hH ht (by omega) rfl rfl (fun b hb => aw_setI_e hb) (by
    rw [aw_e_i (h := setI h a i.toNatClampNeg x.toInt8.toInt32) (kd := 13) (len := len) ht (by simp)]
    show H1[a]? = some (vp_cell _ _)
    rw [w, arrV_store, vp_cell_i, aw_updI]; rfl) z oq
  exact kk p e s m args below meth c C H1 _ ls h1 hl (hS.put z oq h2)
theorem a_zast (hb : V.2.1.2.1 = cc) {a len : Nat} {i x : Int32} (hd : decode cc pc = .ok (.bastore, 1)) (ht : hT h a = (16, len)) (hi : vp_in i len) (hv : narrow .boolean (.int x) = .int x) (kk : AW V cs ss (setI h a i.toNatClampNeg x) (pc + 1) L st) : AW V cs ss h pc L (.int x :: .int i :: .ref a :: st) := by
  intro p e s m args below meth c C H locs ls hH hl hS
  refine W.zast C.1 (C.2.1.trans hb) (aw_arrI hH ht (by simp)) ((aw_arrT C.2.2.2.2.2.2.2.2.1 (kd := 16) (by omega) (by omega)).1 len _) (fun q => by cases q) (by rw [arrV_size]; exact hi) rfl rfl hd fun H1 w z oq => ?_
  obtain ⟨h1, h2⟩ := aw_putArr (h' := setI h a i.toNatClampNeg x) hH ht (by omega) rfl rfl (fun b hb => aw_setI_e hb) (by
    rw [aw_e_i (h := setI h a i.toNatClampNeg x) (kd := 16) (len := len) ht (by simp)]
    show H1[a]? = some (vp_cell _ _)
    rw [w, hv, arrV_store, vp_cell_i, aw_updI]) z oq
  exact kk p e s m args below meth c C H1 _ ls h1 hl (hS.put z oq h2)
theorem a_last (hb : V.2.1.2.1 = cc) {a len : Nat} {i : Int32} {x : Int64} (hd : decode cc pc = .ok (.lastore, 1)) (ht : hT h a = (15, len)) (hi : vp_in i len) (kk : AW V cs ss (setJ h a i.toNatClampNeg x) (pc + 1) L st) : AW V cs ss h pc L (.long x :: .int i :: .ref a :: st) := by
  intro p e s m args below meth c C H locs ls hH hl hS
  refine W.last C.1 (C.2.1.trans hb) (aw_arrJ hH ht) ((aw_arrT C.2.2.2.2.2.2.2.2.1 (kd := 15) (by omega) (by omega)).1 len _) (fun q => by cases q) (by rw [arrV_size]; exact hi) rfl rfl hd fun H1 w z oq => ?_
  obtain ⟨h1, h2⟩ := aw_putArr (h' := setJ h a i.toNatClampNeg x) hH ht (by omega) rfl rfl (fun b hb => aw_setJ_e hb) (by
    rw [aw_e_j (h := setJ h a i.toNatClampNeg x) (len := len) ht]
    show H1[a]? = some (vp_cell _ _)
    rw [w, arrV_store, vp_cell_l]
    congr 2
    funext j
    show _ = Value.long (u2 (hJ h) a i.toNatClampNeg x a j)
    by_cases e : j = i.toNatClampNeg
    · subst e; rw [u2_s]; simp [updV]
    · rw [u2_k e]; simp [updV, e]) z oq
  exact kk p e s m args below meth c C H1 _ ls h1 hl (hS.put z oq h2)
end AWF
