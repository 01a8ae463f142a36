/-! ===== THE FRAME, 5: making, storing references, copying, statics, texts, the script ===== -/
/-- a class may be made there -/
def CN (own : String) (idx kd N : Nat) : Prop := ∃ (C : String) (T : u_T) (ty : Nat → FieldType), aw_cl[kd]? = some (C, T, N) ∧ N = (aw_ft kd).length ∧ kd < 13 ∧ (∀ w ∈ u_ws C T N, w ∈ aw_wd) ∧ Cond.classLink own idx C ∈ aw_wd ∧ Cond.instantiable C N ∈ aw_wd ∧ Cond.initialized C ∈ aw_wd ∧ (∀ k, k < N → parseFieldDescriptor (T k).2.2.1 = some (ty k)) ∧ (∀ j, j < N → defaultValue (ty j) = (match (aw_ft kd).getD j 0 with | 0 => Value.int 0 | 1 => Value.long 0 | _ => Value.null))
section AWN
variable {V : VV} {cs ss : Nat} {h : AH} {pc : Nat} {L : List (Nat × Value)} {st : List Value} {cc : ByteArray}
theorem aw_S_new {g : GG} {h : AH} {H0 H H1 : Heap} {locs : List Loc} (hS : va_S (aw_A g) H0 H locs) (z : H1.size = H.size + 1) (oq : ∀ q : Nat, q < H.size → H1[q]? = H[q]?) : va_S (aw_A g) H0 H1 locs :=
  ⟨Nat.le_trans hS.1 (by omega), fun x h1 h2 => (oq x (Nat.lt_of_lt_of_le h1 hS.1)).trans (hS.2.1 x h1 h2), hS.2.2⟩
theorem a_new (hb : V.2.1.2.1 = cc) {idx kd N : Nat} (hd : decode cc pc = .ok (.new idx, 3)) (hc : CN V.2.1.1.cls idx kd N) (hC : cs + 1 ≤ V.2.2.1.cells ∧ ss + N ≤ V.2.2.1.slots) (kk : AW V (cs + 1) (ss + N) (newC h kd 0) (pc + 3) L (.ref (hN h) :: st)) : AW V cs ss h pc L st := by
  intro p e s m args below meth c C H locs ls hH hl hS
  obtain ⟨Cn, T, ty, c1, c2, c3, c4, c5, c6, c7, c8, c9⟩ := hc
  have hts := C.2.2.2.2.1
  have hKn := C.2.2.2.2.2.2.2.2.1.1 kd _ c1
  refine W.newcK C.1 (C.2.1.trans hb) C.2.2.2.2.2.1 (hts _ c5) (hts _ c6) (hts _ c7) rfl hd hC.1 hC.2 hKn.2.1 hH.1 fun H1 kC hkC e1 z1 o1 => ?_
  have hH1 : aw_H V.1 (newC h kd 0) H1 := by
    refine hH.new ?_ (by rw [z1, hH.1]) (by rw [hH.1]; exact o1)
    have ht0 : hT (newC h kd 0) (hN h) = (kd, 0) := u1_s
    rw [aw_e_o ht0 c3]
    refine ⟨_, c1, (u_born ty hts c4 hKn hkC e1 c8).to (fun j hj => ?_)⟩
    have hj' : j < (aw_ft kd).length := by rw [← c2]; exact hj
    rw [aw_fs_V hj', c9 j hj]
    generalize (aw_ft kd).getD j 0 = t
    match t with
    | 0 => show Value.int 0 = .int (u1 (hI h) (hN h) (fun _ => 0) (hN h) j); rw [u1_s]
    | 1 => show Value.long 0 = .long (u1 (hJ h) (hN h) (fun _ => 0) (hN h) j); rw [u1_s]
    | _ + 2 => show Value.null = va_rf (u1 (hQ h) (hN h) (fun _ => none) (hN h) j); rw [u1_s]; rfl
  exact kk p e s m args below meth c C H1 locs ls hH1 hl (aw_S_new (h := h) hS (by rw [z1, hH.1]) (by rw [hH.1]; exact o1))
theorem a_newa (hb : V.2.1.2.1 = cc) {atype : ArrayType} {kd N : Nat} {n : Int32} (hd : decode cc pc = .ok (.newarray atype, 2)) (hk : newarray.typeOf atype = aw_ty kd) (hk1 : 13 ≤ kd) (hk2 : kd ≤ 16) (ha : Cond.arrayClass (newarray.typeOf atype) ∈ aw_wd) (hn : ¬ n < 0) (hN' : n.toNatClampNeg = N) (hs : N ≤ 60000000) (hC : cs + 1 ≤ V.2.2.1.cells ∧ ss + N ≤ V.2.2.1.slots) (kk : AW V (cs + 1) (ss + N) (newC h kd N) (pc + 2) L (.ref (hN h) :: st)) : AW V cs ss h pc L (.int n :: st) := by
  intro p e s m args below meth c C H locs ls hH hl hS
  have hts := C.2.2.2.2.1
  have hbytes : N * componentBytes (newarray.typeOf atype) ≤ 536870912 := by
    have : componentBytes (newarray.typeOf atype) ≤ 8 := by cases atype <;> decide
    calc N * componentBytes (newarray.typeOf atype) ≤ 60000000 * 8 := Nat.mul_le_mul hs this
      _ ≤ 536870912 := Nat.le_of_ble_eq_true rfl
  refine va_newaK C.1 (C.2.1.trans hb) (hts _ ha) rfl hd rfl hn hN' hbytes hC.1 hC.2 hH.1 fun H1 cA e1 z1 o1 hAr hNm => ?_
  have hRA := (aw_arrT C.2.2.2.2.2.2.2.2.1 (kd := kd) (by omega) (by omega)).2
  have hcA : cA = gC V.1 kd := by
    rcases (show kd = 13 ∨ kd = 14 ∨ kd = 15 ∨ kd = 16 by omega) with rfl | rfl | rfl | rfl <;> (rw [hk] at hNm; exact Option.some.inj (hNm.symm.trans hRA))
  subst hcA
  have hH1 : aw_H V.1 (newC h kd N) H1 := by
    refine hH.new ?_ (by rw [z1, hH.1]) (by rw [hH.1]; exact o1)
    rw [hk] at e1
    have ht : hT (newC h kd N) (hN h) = (kd, N) := u1_s
    have hI' : hI (newC h kd N) (hN h) = fun _ => 0 := u1_s
    have hJ' : hJ (newC h kd N) (hN h) = fun _ => 0 := u1_s
    rcases (show kd = 13 ∨ kd = 14 ∨ kd = 15 ∨ kd = 16 by omega) with rfl | rfl | rfl | rfl
    · rw [aw_e_i ht (by simp), hI']; exact e1
    · rw [aw_e_i ht (by simp), hI']; exact e1
    · rw [aw_e_j ht, hJ']; exact e1
    · rw [aw_e_i ht (by simp), hI']; exact e1
  exact kk p e s m args below meth c C H1 locs ls hH1 hl (aw_S_new (h := h) hS (by rw [z1, hH.1]) (by rw [hH.1]; exact o1))
theorem a_newq (hb : V.2.1.2.1 = cc) {idx kd N : Nat} {n : Int32} {E : String} (hd : decode cc pc = .ok (.anewarray idx, 3)) (hk : aw_ty kd = .object E) (hk1 : 17 ≤ kd) (hk2 : kd ≤ 19) (h1 : Cond.classLink V.2.1.1.cls idx E ∈ aw_wd) (ha : E ∈ aw_ao) (hn : ¬ n < 0) (hN' : n.toNatClampNeg = N) (hs : N ≤ 60000000) (hC : cs + 1 ≤ V.2.2.1.cells ∧ ss + N ≤ V.2.2.1.slots) (kk : AW V (cs + 1) (ss + N) (newC h kd N) (pc + 3) L (.ref (hN h) :: st)) : AW V cs ss h pc L (.int n :: st) := by
  subst hN'
  intro p e s m args below meth c C H locs ls hH hl hS
  have hts := C.2.2.2.2.1
  refine W.anew C.1 (C.2.1.trans hb) C.2.2.2.2.2.1 (hts _ h1) (va_AO.use (C.2.2.2.2.2.2.2.2.2.2.1.2.2.2.2.1 _ ha)) rfl hd rfl hn (by omega) hC.1 hC.2 fun cA kA comp f1 f2 f3 f4 => ?_
  have hRA := (aw_arrT C.2.2.2.2.2.2.2.2.1 (kd := kd) (by omega) (by omega)).2
  rw [hk] at hRA
  obtain ⟨_, _, -, -, -, hRA⟩ := hRA
  have hcA : cA = gC V.1 kd := Option.some.inj (f1.symm.trans hRA)
  subst hcA
  generalize hH1 : H.push ({ cls := gC V.1 kd, slots := Array.replicate n.toNatClampNeg .null, vm := .none } : Cell) = H1
  have z1 : H1.size = H.size + 1 := by rw [← hH1, Array.size_push]
  have e1 : H1[H.size]? = some (arrV (gC V.1 kd) n.toNatClampNeg (fun _ => .null)) := by rw [← hH1, Array.getElem?_push_size, ← arrV_new]
  have o1 : ∀ q : Nat, q < H.size → H1[q]? = H[q]? := fun q hq => by rw [← hH1, Array.getElem?_push, if_neg (Nat.ne_of_lt hq)]
  have hHn : aw_H V.1 (newC h kd n.toNatClampNeg) H1 := by
    refine hH.new ?_ z1 o1
    have ht : hT (newC h kd n.toNatClampNeg) (hN h) = (kd, n.toNatClampNeg) := u1_s
    have hQ' : hQ (newC h kd n.toNatClampNeg) (hN h) = fun _ => none := u1_s
    rw [aw_e_q ht hk1, hQ', ← hH.1]
    exact e1
  rw [hH.1]
  exact kk p e s m args below meth c C H1 locs ls hHn hl (aw_S_new (h := h) hS z1 o1)
theorem aw_updQ {h : AH} {a k : Nat} {v : Option Nat} : (fun j => va_rf (hQ (setQ h a k v) a j)) = updV (fun j => va_rf (hQ h a j)) k (va_rf v) := by
  funext j
  show va_rf (u2 (hQ h) a k v a j) = _
  by_cases e : j = k
  · subst e; rw [u2_s]; simp [updV]
  · rw [u2_k e]; simp [updV, e]
theorem a_aast (hb : V.2.1.2.1 = cc) {a v kd len kd2 len2 : Nat} {Cn E : String} {i : Int32} (hd : decode cc pc = .ok (.aastore, 1)) (ht : hT h a = (kd, len)) (hk1 : 17 ≤ kd) (hk2 : kd ≤ 19) (hE : aw_ty kd = .object E) (hv : hT h v = (kd2, len2)) (hk3 : kd2 < 13) (hkc : (aw_cl[kd2]?).map (fun q => q.1) = some Cn) (hc : Cn = E ∨ (Cn, E) ∈ aw_cs) (hi : vp_in i len) (kk : AW V cs ss (setQ h a i.toNatClampNeg (some v)) (pc + 1) L st) : AW V cs ss h pc L (.ref v :: .int i :: .ref a :: st) := by
  intro p e s m args below meth c C H locs ls hH hl hS
  have hts := C.2.2.2.2.1
  have hK := C.2.2.2.2.2.2.2.2.1
  have hlt : i.toNatClampNeg < len := Nat.not_le.mp fun q => hi (Or.inr q)
  obtain ⟨cellV, g1, g2, g3⟩ := aw_recv hK hH hv hk3 hkc
  have hRA := (aw_arrT hK (kd := kd) (by omega) (by omega)).2
  rw [hE] at hRA
  obtain ⟨kA, comp, r1, r2, r3, -⟩ := hRA
  obtain ⟨kE, hkE, -⟩ := Vm.findClass_spec r3
  obtain ⟨kV, hkV, -⟩ := Vm.findClass_spec g3
  have hasg : s.vm.assignable cellV.cls comp = true := by
    rcases hc with rfl | hc
    · cases g3.symm.trans r3; exact va_asg _ _
    · obtain ⟨c0, t0, f1, f2, f3⟩ := Cond.castable_spec (C.2.2.2.2.2.2.2.2.2.2.1.2.2.1 _ hc)
      cases g3.symm.trans f1
      cases r3.symm.trans f2
      exact f3
  refine W.aast C.1 (C.2.1.trans hb) (aw_arrQ hH ht hk1 (by omega)) (fun q h => by cases h) (fun h => by cases h) r1 r2 rfl hkE ⟨fun q => hi (Or.inl q), by rw [arrV_size]; exact hlt⟩ g1 (fun q h => by rw [h] at g2; cases g2) hkV hasg rfl rfl hd fun H1 w z oq => ?_
  obtain ⟨h1, h2⟩ := aw_putArr (h' := setQ h a i.toNatClampNeg (some v)) hH ht (by omega) rfl rfl (fun b hb => aw_setQ_e hb) (by
    rw [aw_e_q (h := setQ h a i.toNatClampNeg (some v)) (kd := kd) (len := len) ht hk1]
    show H1[a]? = some (vp_cell _ _)
    rw [w, arrV_store, vp_cell_q, aw_updQ]; rfl) z oq
  exact kk p e s m args below meth c C H1 _ ls h1 hl (hS.put z oq h2)
theorem a_aastN (hb : V.2.1.2.1 = cc) {a kd len : Nat} {E : String} {i : Int32} (hd : decode cc pc = .ok (.aastore, 1)) (ht : hT h a = (kd, len)) (hk1 : 17 ≤ kd) (hk2 : kd ≤ 19) (hE : aw_ty kd = .object E) (hi : vp_in i len) (kk : AW V cs ss (setQ h a i.toNatClampNeg none) (pc + 1) L st) : AW V cs ss h pc L (.null :: .int i :: .ref a :: st) := by
  intro p e s m args below meth c C H locs ls hH hl hS
  have hK := C.2.2.2.2.2.2.2.2.1
  have hT1 := (aw_arrT hK (kd := kd) (by omega) (by omega)).1
  rw [hE] at hT1
  refine va_WaastN (C := E) C.1 (C.2.1.trans hb) (aw_arrQ hH ht hk1 (by omega)) (hT1 len _) (fun h => by cases h) (by rw [arrV_size]; exact hi) rfl rfl hd fun H1 w z oq => ?_
  obtain ⟨h1, h2⟩ := aw_putArr (h' := setQ h a i.toNatClampNeg none) hH ht (by omega) rfl rfl (fun b hb => aw_setQ_e hb) (by
    rw [aw_e_q (h := setQ h a i.toNatClampNeg none) (kd := kd) (len := len) ht hk1]
    show H1[a]? = some (vp_cell _ _)
    rw [w, arrV_store, vp_cell_q, aw_updQ]; rfl) z oq
  exact kk p e s m args below meth c C H1 _ ls h1 hl (hS.put z oq h2)
/-! instanceof -/
theorem a_instY (hb : V.2.1.2.1 = cc) {a idx kd len : Nat} {Cn nm : String} (hd : decode cc pc = .ok (.instanceof idx, 3)) (ht : hT h a = (kd, len)) (hk : kd < 13) (hkc : (aw_cl[kd]?).map (fun q => q.1) = some Cn) (h1 : Cond.classLink V.2.1.1.cls idx nm ∈ aw_wd) (hc : Cn = nm ∨ (Cn, nm) ∈ aw_cs) (kk : AW V cs ss h (pc + 3) L (.int 1 :: st)) : AW V cs ss h pc L (.ref a :: st) := by
  intro p e s m args below meth c C H locs ls hH hl hS
  have hts := C.2.2.2.2.1
  have hr := aw_recv C.2.2.2.2.2.2.2.2.1 hH ht hk hkc
  rcases hc with rfl | hc
  · exact va_instE C.1 (C.2.1.trans hb) C.2.2.2.2.2.1 (hts _ h1) hr hd (kk p e s m args below meth c C H locs ls hH hl hS)
  · exact va_instY C.1 (C.2.1.trans hb) C.2.2.2.2.2.1 (hts _ h1) (C.2.2.2.2.2.2.2.2.2.2.1.2.2.1 _ hc) hr hd (kk p e s m args below meth c C H locs ls hH hl hS)
theorem a_instNo (hb : V.2.1.2.1 = cc) {a idx kd len : Nat} {Cn nm : String} (hd : decode cc pc = .ok (.instanceof idx, 3)) (ht : hT h a = (kd, len)) (hk : kd < 13) (hkc : (aw_cl[kd]?).map (fun q => q.1) = some Cn) (h1 : Cond.classLink V.2.1.1.cls idx nm ∈ aw_wd) (hc : (Cn, nm) ∈ aw_nc) (kk : AW V cs ss h (pc + 3) L (.int 0 :: st)) : AW V cs ss h pc L (.ref a :: st) := by
  intro p e s m args below meth c C H locs ls hH hl hS
  have hts := C.2.2.2.2.1
  have hr := aw_recv C.2.2.2.2.2.2.2.2.1 hH ht hk hkc
  exact va_instNo C.1 (C.2.1.trans hb) C.2.2.2.2.2.1 (hts _ h1) (C.2.2.2.2.2.2.2.2.2.2.1.2.2.2.1 _ hc) hr hd (kk p e s m args below meth c C H locs ls hH hl hS)
/-! statics, the script -/
theorem a_gets (hb : V.2.1.2.1 = cc) {idx : Nat} {Cn n d : String} {v : Value} (hd : decode cc pc = .ok (.getstatic idx, 3)) (h1 : Cond.fieldLink V.2.1.1.cls idx Cn n d ∈ aw_wd) (hz : ∀ U H, aw_St V.1 U H → va_Z Cn n d v (aw_A V.1) U H) (kk : AW V cs ss h (pc + 3) L (v :: st)) : AW V cs ss h pc L st := by
  intro p e s m args below meth c C H locs ls hH hl hS
  exact va_gets C.1 (C.2.1.trans hb) (hz _ _ C.2.2.2.2.2.2.2.2.2.1) hS C.2.2.2.2.2.1 (C.2.2.2.2.1 _ h1) (fun _ h => h) hd (kk p e s m args below meth c C H locs ls hH hl hS)
theorem a_getsLeast (hb : V.2.1.2.1 = cc) {idx : Nat} (hd : decode cc pc = .ok (.getstatic idx, 3)) (h1 : Cond.fieldLink V.2.1.1.cls idx RX11 "LEAST_SETTINGS" "[I" ∈ aw_wd) (kk : AW V cs ss h (pc + 3) L (.ref (gS V.1 0) :: st)) : AW V cs ss h pc L st := a_gets hb hd h1 (fun _ _ q => q.1.1) kk
theorem a_getsMost (hb : V.2.1.2.1 = cc) {idx : Nat} (hd : decode cc pc = .ok (.getstatic idx, 3)) (h1 : Cond.fieldLink V.2.1.1.cls idx RX11 "MOST_SETTINGS" "[I" ∈ aw_wd) (kk : AW V cs ss h (pc + 3) L (.ref (gS V.1 1) :: st)) : AW V cs ss h pc L st := a_gets hb hd h1 (fun _ _ q => q.2.1.1) kk
theorem a_getsCompact (hb : V.2.1.2.1 = cc) {idx : Nat} (hd : decode cc pc = .ok (.getstatic idx, 3)) (h1 : Cond.fieldLink V.2.1.1.cls idx "java/lang/String" "COMPACT_STRINGS" "Z" ∈ aw_wd) (kk : AW V cs ss h (pc + 3) L (.int 1 :: st)) : AW V cs ss h pc L st := a_gets hb hd h1 (fun _ _ q => q.2.2.1) kk
/-- a reference that is only carried: null or one -/
theorem a_getsFmt (hb : V.2.1.2.1 = cc) {idx : Nat} (hd : decode cc pc = .ok (.getstatic idx, 3)) (h1 : Cond.fieldLink V.2.1.1.cls idx "jdk/internal/util/Preconditions" "SIOOBE_FORMATTER" "Ljava/util/function/BiFunction;" ∈ aw_wd) (kk : ∀ r : Option Nat, AW V cs ss h (pc + 3) L (va_rf r :: st)) : AW V cs ss h pc L st := by
  intro p e s m args below meth c C H locs ls hH hl hS
  rcases C.2.2.2.2.2.2.2.2.2.1.2.2.2.1 with hz | ⟨t, hz⟩
  · exact va_gets C.1 (C.2.1.trans hb) hz hS C.2.2.2.2.2.1 (C.2.2.2.2.1 _ h1) (fun _ h => h) hd (kk none p e s m args below meth c C H locs ls hH hl hS)
  · exact va_gets C.1 (C.2.1.trans hb) hz hS C.2.2.2.2.2.1 (C.2.2.2.2.1 _ h1) (fun _ h => h) hd (kk (some t) p e s m args below meth c C H locs ls hH hl hS)
theorem a_ldLeast (hb : V.2.1.2.1 = cc) {i : Int32} (hd : decode cc pc = .ok (.iaload, 1)) (hi : vp_in i 3) (kk : AW V cs ss h (pc + 1) L (.int (([0, 1, 1] : List Int32).getD i.toNatClampNeg 0) :: st)) : AW V cs ss h pc L (.int i :: .ref (gS V.1 0) :: st) := by
  intro p e s m args below meth c C H locs ls hH hl hS
  exact va_ti C.1 (C.2.1.trans hb) C.2.2.2.2.2.2.2.2.2.1.1.2 hS hi rfl hd (kk p e s m args below meth c C H locs ls hH hl hS)
theorem a_ldMost (hb : V.2.1.2.1 = cc) {i : Int32} (hd : decode cc pc = .ok (.iaload, 1)) (hi : vp_in i 3) (kk : AW V cs ss h (pc + 1) L (.int (([9, 9, 999] : List Int32).getD i.toNatClampNeg 0) :: st)) : AW V cs ss h pc L (.int i :: .ref (gS V.1 1) :: st) := by
  intro p e s m args below meth c C H locs ls hH hl hS
  exact va_ti C.1 (C.2.1.trans hb) C.2.2.2.2.2.2.2.2.2.1.2.1.2 hS hi rfl hd (kk p e s m args below meth c C H locs ls hH hl hS)
theorem a_ldScript (hb : V.2.1.2.1 = cc) {i : Int32} (hd : decode cc pc = .ok (.iaload, 1)) (hi : vp_in i (gX V.1).2.1) (kk : AW V cs ss h (pc + 1) L (.int ((gX V.1).2.2 i.toNatClampNeg) :: st)) : AW V cs ss h pc L (.int i :: .ref (gX V.1).1 :: st) := by
  intro p e s m args below meth c C H locs ls hH hl hS
  have hx := C.2.2.2.2.2.2.2.2.2.1.2.2.2.2.2
  have hz := C.2.2.2.2.2.2.2.2.2.2.2
  exact va_sld C.1 (C.2.1.trans hb) hx.1 (Nat.lt_of_lt_of_le hx.2 hz) (Nat.not_le.mpr hx.2) hS hi hd (kk p e s m args below meth c C H locs ls hH hl hS)
theorem a_lenScript (hb : V.2.1.2.1 = cc) (hd : decode cc pc = .ok (.arraylength, 1)) (kk : AW V cs ss h (pc + 1) L (.int (Int32.ofNat (gX V.1).2.1) :: st)) : AW V cs ss h pc L (.ref (gX V.1).1 :: st) := by
  intro p e s m args below meth c C H locs ls hH hl hS
  have hx := C.2.2.2.2.2.2.2.2.2.1.2.2.2.2.2
  have hz := C.2.2.2.2.2.2.2.2.2.2.2
  exact va_slen C.1 (C.2.1.trans hb) hx.1 (Nat.lt_of_lt_of_le hx.2 hz) (Nat.not_le.mpr hx.2) hS hd (kk p e s m args below meth c C H locs ls hH hl hS)
/-! texts -/
theorem a_ldcS (hb : V.2.1.2.1 = cc) {idx i : Nat} {tx : String} (hd : decode cc pc = .ok (.ldc idx, 2)) (hq : (V.2.1.1.cls, idx, tx, i) ∈ aw_srs) (kk : AW V cs ss h (pc + 2) L (.ref (gS V.1 (2 + i)) :: st)) : AW V cs ss h pc L st := by
  intro p e s m args below meth c C H locs ls hH hl hS
  exact va_ldcS C.1 (C.2.1.trans hb) C.2.2.2.2.2.1 (C.2.2.2.2.2.2.2.2.2.2.1.1 _ hq) hd (kk p e s m args below meth c C H locs ls hH hl hS)
theorem a_getTv (hb : V.2.1.2.1 = cc) {idx i : Nat} (hi : i < 5) (hd : decode cc pc = .ok (.getfield idx, 3)) (h1 : Cond.fieldLink V.2.1.1.cls idx "java/lang/String" "value" "[B" ∈ aw_wd) (kk : AW V cs ss h (pc + 3) L (.ref (gS V.1 (7 + i)) :: st)) : AW V cs ss h pc L (.ref (gS V.1 (2 + i)) :: st) := by
  intro p e s m args below meth c C H locs ls hH hl hS
  exact vk_getf C.1 (C.2.1.trans hb) (C.2.2.2.2.2.2.2.2.2.1.2.2.2.2.1.1 i hi).2.2.1 hS C.2.2.2.2.2.1 (C.2.2.2.2.1 _ h1) (fun _ h => h) hd (kk p e s m args below meth c C H locs ls hH hl hS)
theorem a_getTc (hb : V.2.1.2.1 = cc) {idx i : Nat} (hi : i < 5) (hd : decode cc pc = .ok (.getfield idx, 3)) (h1 : Cond.fieldLink V.2.1.1.cls idx "java/lang/String" "coder" "B" ∈ aw_wd) (kk : AW V cs ss h (pc + 3) L (.int 0 :: st)) : AW V cs ss h pc L (.ref (gS V.1 (2 + i)) :: st) := by
  intro p e s m args below meth c C H locs ls hH hl hS
  exact vk_getf C.1 (C.2.1.trans hb) (C.2.2.2.2.2.2.2.2.2.1.2.2.2.2.1.1 i hi).2.1 hS C.2.2.2.2.2.1 (C.2.2.2.2.1 _ h1) (fun _ h => h) hd (kk p e s m args below meth c C H locs ls hH hl hS)
theorem a_ldT (hb : V.2.1.2.1 = cc) {i : Nat} {j : Int32} (hi : i < 5) (hd : decode cc pc = .ok (.baload, 1)) (hj : vp_in j (aw_tl.getD i 0)) (kk : AW V cs ss h (pc + 1) L (.int ((aw_tb.getD i []).getD j.toNatClampNeg 0) :: st)) : AW V cs ss h pc L (.int j :: .ref (gS V.1 (7 + i)) :: st) := by
  intro p e s m args below meth c C H locs ls hH hl hS
  exact va_tb C.1 (C.2.1.trans hb) (C.2.2.2.2.2.2.2.2.2.1.2.2.2.2.1.1 i hi).2.2.2 hS hj rfl hd (kk p e s m args below meth c C H locs ls hH hl hS)
theorem a_lenT (hb : V.2.1.2.1 = cc) {i : Nat} {v : Int32} (hi : i < 5) (hd : decode cc pc = .ok (.arraylength, 1)) (hv : Int32.ofNat (aw_tl.getD i 0) = v) (kk : AW V cs ss h (pc + 1) L (.int v :: st)) : AW V cs ss h pc L (.ref (gS V.1 (7 + i)) :: st) := by
  intro p e s m args below meth c C H locs ls hH hl hS
  exact va_tlen C.1 (C.2.1.trans hb) (C.2.2.2.2.2.2.2.2.2.1.2.2.2.2.1.1 i hi).2.2.2 hS hv hd (kk p e s m args below meth c C H locs ls hH hl hS)
/-- a call on a text -/
theorem a_callT (hb : V.2.1.2.1 = cc) {idx n d mc ms i : Nat} {M : MK} {As : List Value} {st0 : List Value} {Po : Option Value → AH → Prop} (hi : i < 5) (hd : decode cc pc = .ok (.invokevirtual idx, 3)) (hm : AM V.1 d mc ms M (.ref (gS V.1 (2 + i)) :: As) h Po) (hc : CLV V.2.1.1.cls idx M n) (hcl : M.1.cls = "java/lang/String") (hn : As.length = n) (hst : As.reverse ++ .ref (gS V.1 (2 + i)) :: st = st0) (h8 : (st.map fun v => v.category).sum ≤ 8) (hR : d + 1 ≤ V.2.2.1.frames ∧ 8 + (M.2.2.1 + 11) + 64 * d ≤ V.2.2.1.locals) (hC : cs + mc ≤ V.2.2.1.cells ∧ ss + ms ≤ V.2.2.1.slots)
    (kk : ∀ v h', Po v h' → AW V (cs + mc) (ss + ms) h' (pc + 3) L (v.toList ++ st)) : AW V cs ss h pc L st0 := by
  subst hst
  intro p e s m args below meth c C H locs ls hH hl hS
  obtain ⟨c1, c2, c3, c4, c5, c6, c7⟩ := hc
  have hts := C.2.2.2.2.1
  have hr := va_runV (e := e) (below := below) (meth := meth) (cells := cs) (slots := ss) (rest := st) (g := F0 m pc ls (As.reverse ++ .ref (gS V.1 (2 + i)) :: st)) (H := H) (locs := locs) ⟨C.1, C.2.1.trans hb, C.2.2.1, C.2.2.2.2.2.1, hts⟩ hm
    (⟨⟨rfl, rfl, hR.1, hR.2, aw_pay hts c5, List.mem_cons_self, hts _ c5, hts _ c4, c6, aw_len c7, hts _ c1⟩, hts _ c3, hts _ c2⟩ : CallW V.2.2.1 s args V.2.1.1.cls M.1.cls idx M.1 M.2.1 M.2.2.1 M.2.2.2 (aw_ws M) (aw_rm d mc ms) mc ms n)
    ⟨aw_U.calls, by rw [hcl]; exact vk_recv (adK := fun i => gS V.1 (2 + i)) (i := i) C.2.2.2.2.2.2.2.2.2.1.2.2.2.2.1 hi hS, aw_U.start C hH hS⟩ rfl hn hl.1 rfl (lv_room h8) hd hC
  exact aw_back C hl hS hr kk
end AWN
