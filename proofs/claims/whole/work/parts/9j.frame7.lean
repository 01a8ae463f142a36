/-! ===== THE FRAME, 7: clone of a byte[], a cast to it; Arrays.copyOf ===== -/
theorem kw_400 : (Jvm.Cond.sameMethod "[B" "java/lang/Object" "clone" "()Ljava/lang/Object;") ∈ aw_wd := mw 400 (by decide +kernel) (by decide +kernel)
theorem kw_403 : (Jvm.Cond.selects "[B" ({ cls := "[B", name := "clone", desc := "()Ljava/lang/Object;" } : Jvm.MethodName) ({ cls := "java/lang/Object", name := "clone", desc := "()Ljava/lang/Object;" } : Jvm.MethodName)) ∈ aw_wd := mw 403 (by decide +kernel) (by decide +kernel)
section AWC
variable {V : VV} {cs ss : Nat} {h : AH} {pc : Nat} {L : List (Nat × Value)} {st : List Value} {cc : ByteArray}
theorem a_clone (hb : V.2.1.2.1 = cc) {idx N a : Nat} (hd : decode cc pc = .ok (.invokevirtual idx, 3)) (w1 : Cond.methodLink V.2.1.1.cls idx ⟨"[B", "clone", "()Ljava/lang/Object;"⟩ ∈ aw_wd) (ht : hT h a = (13, N)) (hfit : ∀ i : Nat, i < N → fits (aw_ty 13) (.int (hI h a i)) = true) (hR : 1 ≤ V.2.2.1.frames ∧ (st.map fun v => v.category).sum + 14 ≤ V.2.2.1.locals) (hC : cs + 1 ≤ V.2.2.1.cells ∧ ss + N ≤ V.2.2.1.slots) (kk : AW V (cs + 1) (ss + N) (setR (newC h 13 N) (hN h) (hI h a)) (pc + 3) L (.ref (hN h) :: st)) : AW V cs ss h pc L (.ref a :: st) := by
  intro p e s m args below meth c C H locs ls hH hl hS T hT' X
  have hts := C.2.2.2.2.1
  have hK := C.2.2.2.2.2.2.2.2.1
  have hSr := C.2.2.2.2.2.2.2.2.2.2.1
  have hc0 : H[a]? = some (arrV (gC V.1 13) N (fun j => .int (hI h a j))) := aw_arrI hH ht (Or.inl rfl)
  obtain ⟨hA0, hRA⟩ := aw_arrT hK (kd := 13) (by omega) (by omega)
  have hnm := va_nm_byte hRA
  obtain ⟨c0, t0, f1, f2, f3⟩ := Cond.castable_spec (va_Nw.use (A := args) rfl (hSr.2.2.1 ("[B", "java/lang/Cloneable") (by decide)))
  cases hnm.symm.trans f1
  obtain ⟨-, kA, hkA, comp, hkind⟩ := State.isArrayOf_alike X.warmed.alike (hA0 0 (fun _ => .null))
  obtain ⟨-, kS, hkS, compS, hkindS⟩ := hA0 0 (fun _ => .null)
  generalize hcell : arrV (gC V.1 13) N (fun j => Value.int (hI h a j)) = cell at hc0
  have hv0 : cell.vm = .none := by rw [← hcell]; rfl
  have hcl0 : cell.cls = gC V.1 13 := by rw [← hcell]; rfl
  have hsz : cell.slots.size = N := by rw [← hcell]; exact arrV_size _ _ _
  have hce : ({ cls := cell.cls, slots := cell.slots } : Cell) = cell := by rw [← hcell]; rfl
  obtain ⟨vm', X', st'⟩ := X.cloneArray C.1 C.2.2.2.2.2.1 (hts _ w1) (hts _ kw_400) (hts _ kw_401) (hts _ kw_402) (hts _ kw_403) (a := a) (cell := cell) (by rw [hT']; exact hc0) (fun k q => by rw [hv0] at q; cases q) (by rw [hv0]; exact fun q => by cases q) (by rw [hcl0]; exact hnm) f2 (by rw [hcl0]; exact f3)
    (fun i v hv => by
      rw [hcl0]
      have hk' : T.vm.classes[gC V.1 13]? = some kA := hkA
      have hf : fits (aw_ty 13) v = true := va_fit (cA := gC V.1 13) (n := N) (F := fun j => Value.int (hI h a j)) hfit i v (by rw [hcell]; exact hv)
      simpa [State.fitsSlot, State.slotType?, hk', hkind] using hf)
    (g := F0 m pc ls (.ref a :: st)) rfl (by rw [C.2.2.1]; exact hl.1) (rest := st) rfl (by rw [C.2.1, hb]; exact hd) hR.1 (by have := hR.2; show 2 * 0 + _ + 14 ≤ _; omega) hC.1 (by rw [hsz]; exact hC.2) (hloader := by rw [hcl0]; exact Vm.clonesLoader_of_array hkS hkindS)
  rw [hce, hsz] at X'
  have hN' : H.size = hN h := hH.1
  have z1 : (H.push cell).size = H.size + 1 := Array.size_push _
  have o1 : ∀ q : Nat, q < H.size → (H.push cell)[q]? = H[q]? := fun q hq => by rw [Array.getElem?_push, if_neg (Nat.ne_of_lt hq)]
  have hH0 : aw_H V.1 (newC h 13 N) (H.push (arrV (gC V.1 13) N (fun _ => .int 0))) := by
    refine hH.new ?_ (Array.size_push _) (fun q hq => by rw [Array.getElem?_push, if_neg (Nat.ne_of_lt hq)])
    have htn : hT (newC h 13 N) (hN h) = (13, N) := u1_s
    have hI' : hI (newC h 13 N) (hN h) = fun _ => 0 := u1_s
    rw [aw_e_i htn (by simp), hI', ← hN']
    show (H.push _)[H.size]? = some (vp_cell _ _)
    rw [Array.getElem?_push_size, vp_cell_i]
  have hH1 : aw_H V.1 (setR (newC h 13 N) (hN h) (hI h a)) (H.push cell) := by
    refine hH0.put (a := hN h) rfl rfl ?_ (fun b hb => aw_setR_e hb) (by rw [Array.size_push, Array.size_push]) (fun q hq => by
      rw [Array.getElem?_push, Array.getElem?_push, hN', if_neg hq, if_neg hq])
    have htn : hT (setR (newC h 13 N) (hN h) (hI h a)) (hN h) = (13, N) := u1_s
    have hI' : hI (setR (newC h 13 N) (hN h) (hI h a)) (hN h) = hI h a := u1_s
    rw [aw_e_i htn (by simp), hI', ← hN']
    show (H.push cell)[H.size]? = some (vp_cell _ _)
    rw [Array.getElem?_push_size, vp_cell_i, ← hcell]
  obtain ⟨t, a1, b1⟩ := kk p e s m args below meth c C _ _ ls hH1 hl (aw_S_new (h := h) hS z1 o1) ((T.setVm vm').pushCell cell) (by rw [← hT']; rfl) X'
  refine ⟨t, st' t ?_, b1⟩
  rw [hce, hT', hN']
  exact a1
theorem a_castB (hb : V.2.1.2.1 = cc) {idx N a : Nat} (hd : decode cc pc = .ok (.checkcast idx, 3)) (w1 : Cond.classLink V.2.1.1.cls idx "[B" ∈ aw_wd) (ht : hT h a = (13, N)) (kk : AW V cs ss h (pc + 3) L (.ref a :: st)) : AW V cs ss h pc L (.ref a :: st) := by
  intro p e s m args below meth c C H locs ls hH hl hS T hT' X
  have hts := C.2.2.2.2.1
  have hc0 : H[a]? = some (arrV (gC V.1 13) N (fun j => .int (hI h a j))) := aw_arrI hH ht (Or.inl rfl)
  have hnm := va_nm_byte (aw_arrT C.2.2.2.2.2.2.2.2.1 (kd := 13) (by omega) (by omega)).2
  obtain ⟨vm', X', st'⟩ := X.checkcastYes C.1 C.2.2.2.2.2.1 (hts _ w1) (by rw [hT']; exact hc0) rfl hnm (va_asg _ _) (g := F0 m pc ls (.ref a :: st)) rfl rfl (by rw [C.2.1, hb]; exact hd)
  obtain ⟨t, a1, b1⟩ := kk p e s m args below meth c C H locs ls hH hl hS (T.setVm vm') hT' X'
  exact ⟨t, st' t a1, b1⟩
end AWC
theorem cpy_0 {f g : Nat → Int32} {n j : Nat} (h : j < n) : va_cpy f g 0 0 n j = f j := by
  unfold va_cpy
  rw [if_pos ⟨Nat.zero_le _, by omega⟩]
  congr 1; omega
set_option maxRecDepth 100000 in
theorem j_copyOf (g : GG) (h : AH) (a m n : Nat) (ht : hT h a = (13, m)) (hm : m ≤ 120) (hnm : n ≤ m) (hlt : a < hN h) (hf : ∀ i : Nat, i < m → fits (aw_ty 13) (.int (hI h a i)) = true) : AM g 2 1 120 mJ7_copyOf_9075b [.ref a, .int (nI n)] h (fun rv h' => rv = some (.ref (hN h)) ∧ ∃ f, h' = setR (newC h 13 n) (hN h) f ∧ ∀ j, j < n → f j = hI h a j) := by
  refine AM.of [(0, .ref a), (1, .int (nI n))] (by decide) (Nat.le_of_ble_eq_true rfl) rfl ?_
  intro V hV
  have hb : V.2.1.2.1 = cJ7_copyOf_9075b := by subst hV; rfl
  have ow : V.2.1.1.cls = RJ7 := by subst hV; rfl
  have hr : V.2.2.1 = aw_rm 2 1 120 := by subst hV; rfl
  have hz : V.2.2.2 = aw_Z V.1 (fun rv h' => rv = some (.ref (hN h)) ∧ ∃ f, h' = setR (newC h 13 n) (hN h) f ∧ ∀ j, j < n → f j = hI h a j) V.2.2.1 := by subst hV; rfl
  have hg : V.1 = g := by subst hV; rfl
  have hret : V.2.1.2.2.2 = (some (.array .byte)) := by subst hV; rfl
  have hml : V.2.1.2.2.1 = 3 := by subst hV; rfl
  clear hV
  refine a_iload_n hb dJ7_copyOf_9075b_0 rfl 1 rfl ?_
  refine a_aload_n hb dJ7_copyOf_9075b_1 rfl 0 rfl ?_
  refine a_alenI (v := (nI m)) hb dJ7_copyOf_9075b_2 ht (by decide) rfl ?_
  refine a_icmp_ne hb 14 dJ7_copyOf_9075b_3 (by decide) (fun c3 => ?_) (fun c3 => ?_)
  · refine a_iload_n hb dJ7_copyOf_9075b_14 rfl 1 rfl ?_
    refine a_newa (kd := 13) (N := n) hb dJ7_copyOf_9075b_15 rfl (by decide) (by decide) kw_176 (nI_pos (by omega)) (nI_clamp (by omega)) (by omega) (by rw [hr]; exact ⟨by decide, show 0 + n ≤ 120 from by omega⟩) ?_
    refine AW.wide (cs' := 1) (ss' := 120) (by decide) (by omega) ?_
    show AW V 1 120 (newC h 13 n) 17 [(0, .ref a), (1, .int (nI n))] [.ref (hN h)]
    refine a_astore_n (L' := [(2, .ref (hN h)), (0, .ref a), (1, .int (nI n))]) hb dJ7_copyOf_9075b_17 rfl (by rw [hml]; decide) rfl ?_
    refine a_aload_n hb dJ7_copyOf_9075b_18 rfl 1 rfl ?_
    refine a_iconst (v := 0) hb dJ7_copyOf_9075b_19 (by decide) ?_
    refine a_aload_n hb dJ7_copyOf_9075b_20 rfl 0 rfl ?_
    refine a_iconst (v := 0) hb dJ7_copyOf_9075b_21 (by decide) ?_
    refine a_aload_n hb dJ7_copyOf_9075b_22 rfl 1 rfl ?_
    refine a_alenI (v := (nI m)) hb dJ7_copyOf_9075b_23 ((u1_n (by omega)).trans ht) (by decide) rfl ?_
    refine a_iload_n hb dJ7_copyOf_9075b_24 rfl 2 rfl ?_
    refine a_mmin hb dJ7_copyOf_9075b_25 (by rw [ow]; exact kw_406) kw_407 kw_94 kw_408 (by rw [hr]; exact ⟨by decide, Nat.le_of_ble_eq_true rfl⟩) (by rw [hr]; exact ⟨Nat.le_of_ble_eq_true rfl, Nat.le_of_ble_eq_true rfl⟩) ?_
    rw [show (if nI n < nI m then nI n else nI m) = nI n from by rcases Nat.lt_or_ge n m with q | q; exact if_pos ((nI_ltI (by omega) (by omega)).mpr q); rw [show n = m by omega, ite_self]]
    show AW V 1 120 (newC h 13 n) 28 [(2, .ref (hN h)), (0, .ref a), (1, .int (nI n))] [.int (nI n), .int 0, .ref (hN h), .int 0, .ref a]
    refine a_acopy (kd := 13) hb dJ7_copyOf_9075b_28 (by rw [ow]; exact kw_409) kw_411 kw_410 kw_95 (by decide) ((u1_n (by omega)).trans ht) u1_s (by decide) (by decide) (nI_pos (by omega)) (by rw [nI_clamp (by omega)]; show 0 + n ≤ m; omega) (by rw [nI_clamp (by omega)]; show 0 + n ≤ n; omega) (fun i hi => by rw [nI_clamp (by omega)] at hi; rw [show hI (newC h 13 n) a = hI h a from u1_n (by omega)]; show fits _ (.int (hI h a (0 + i))) = true; rw [Nat.zero_add]; exact hf i (by omega)) (by rw [hr]; exact ⟨by decide, Nat.le_of_ble_eq_true rfl⟩) ?_
    rw [show (0 : Int32).toNatClampNeg = 0 from by decide, nI_clamp (n := n) (by omega), show hI (newC h 13 n) a = hI h a from u1_n (by omega)]
    show AW V 1 120 (setR (newC h 13 n) (hN h) (va_cpy (hI h a) (hI (newC h 13 n) (hN h)) 0 0 n)) 31 [(2, .ref (hN h)), (0, .ref a), (1, .int (nI n))] []
    refine a_aload_n hb dJ7_copyOf_9075b_31 rfl 0 rfl ?_
    exact a_areturn (ty := (.array .byte)) hb hz dJ7_copyOf_9075b_32 hret (Or.inr ⟨_, rfl⟩) (by rw [hr]; exact Nat.le_of_ble_eq_true rfl) (by rw [hr]; exact Nat.le_of_ble_eq_true rfl) (⟨rfl, _, rfl, fun j hj => cpy_0 hj⟩)
  · have e_ : n = m := (nI_eq (by omega) (by omega)).mp (by simpa using c3)
    refine a_aload_n hb dJ7_copyOf_9075b_6 rfl 0 rfl ?_
    refine a_clone hb dJ7_copyOf_9075b_7 (by rw [ow]; exact kw_399) ht (fun i hi => hf i (by omega)) (by rw [hr]; exact ⟨by decide, Nat.le_of_ble_eq_true rfl⟩) (by rw [hr]; exact ⟨by decide, show 0 + m ≤ 120 from by omega⟩) ?_
    refine AW.wide (cs' := 1) (ss' := 120) (by decide) (by omega) ?_
    show AW V 1 120 (setR (newC h 13 m) (hN h) (hI h a)) 10 [(0, .ref a), (1, .int (nI n))] [.ref (hN h)]
    refine a_castB hb dJ7_copyOf_9075b_10 (by rw [ow]; exact kw_405) (N := m) u1_s ?_
    exact a_areturn (ty := (.array .byte)) hb hz dJ7_copyOf_9075b_13 hret (Or.inr ⟨_, rfl⟩) (by rw [hr]; exact Nat.le_of_ble_eq_true rfl) (by rw [hr]; exact Nat.le_of_ble_eq_true rfl) (⟨rfl, hI h a, by rw [e_], fun j _ => rfl⟩)
