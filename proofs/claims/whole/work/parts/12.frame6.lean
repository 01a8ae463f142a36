/-! ===== THE FRAME, 6: System.arraycopy, new int[n][k], a super's inherited method ===== -/
section AWX
variable {V : VV} {cs ss : Nat} {h : AH} {pc : Nat} {L : List (Nat × Value)} {st : List Value} {cc : ByteArray}
theorem aw_nn {z : Int32} (hz : ¬ z < 0) : z.toInt = (z.toNatClampNeg : Int) := by
  have hz0 : (0 : Int) ≤ z.toInt := by
    have := Int32.not_lt.mp hz
    simpa using Int32.le_iff_toInt_le.mp this
  show z.toInt = ((z.toInt.toNat : Nat) : Int)
  omega
theorem a_acopy (hb : V.2.1.2.1 = cc) {idx kd n0 n1 a0 a1 : Nat} {sp dp n : Int32} (hd : decode cc pc = .ok (.invokestatic idx, 3)) (w1 : Cond.methodLink V.2.1.1.cls idx arraycopyName ∈ aw_wd) (w2 : Cond.native arraycopyName ∈ aw_wd) (w3 : Cond.static arraycopyName ∈ aw_wd) (w4 : Cond.initialized "java/lang/System" ∈ aw_wd) (hk : kd = 13 ∨ kd = 14) (ht0 : hT h a0 = (kd, n0)) (ht1 : hT h a1 = (kd, n1)) (h1 : ¬ sp < 0) (h2 : ¬ dp < 0) (h3 : ¬ n < 0) (h4 : sp.toNatClampNeg + n.toNatClampNeg ≤ n0) (h5 : dp.toNatClampNeg + n.toNatClampNeg ≤ n1) (hfit : ∀ i : Nat, i < n.toNatClampNeg → fits (aw_ty kd) (.int (hI h a0 (sp.toNatClampNeg + i))) = true)
    (hR : 1 ≤ V.2.2.1.frames ∧ (st.map fun v => v.category).sum + (nativeFrameWords "java/lang/System" "arraycopy" 5 + 11) ≤ V.2.2.1.locals) (kk : AW V cs ss (setR h a1 (va_cpy (hI h a0) (hI h a1) sp.toNatClampNeg dp.toNatClampNeg n.toNatClampNeg)) (pc + 3) L st) : AW V cs ss h pc L (.int n :: .int dp :: .ref a1 :: .int sp :: .ref a0 :: st) := by
  intro p e s m args below meth c C H locs ls hH hl hS T hT' X
  have hts := C.2.2.2.2.1
  have hK := C.2.2.2.2.2.2.2.2.1
  have hk' : kd = 13 ∨ kd = 14 ∨ kd = 16 := by omega
  have hc0 : H[a0]? = some (arrV (gC V.1 kd) n0 (fun j => .int (hI h a0 j))) := aw_arrI hH ht0 hk'
  have hc1 : H[a1]? = some (arrV (gC V.1 kd) n1 (fun j => .int (hI h a1 j))) := aw_arrI hH ht1 hk'
  obtain ⟨-, k0, hk0, cm0, hkk0⟩ := (aw_arrT hK (kd := kd) (by omega) (by omega)).1 n0 (fun j => .int (hI h a0 j))
  obtain ⟨-, k1, hk1, cm1, hkk1⟩ := (aw_arrT hK (kd := kd) (by omega) (by omega)).1 n1 (fun j => .int (hI h a1 j))
  obtain ⟨vm', X', step⟩ := X.arraycopy C.1 C.2.2.2.2.2.1 (hts _ w1) (hts _ w2) (hts _ w3) (hts _ w4) (src := a0) (dst := a1) (cs := arrV (gC V.1 kd) n0 (fun j => .int (hI h a0 j))) (cd := arrV (gC V.1 kd) n1 (fun j => .int (hI h a1 j))) (srcPos := sp) (destPos := dp) (n := n) (by rw [hT']; exact hc0) (by rw [hT']; exact hc1)
    (fun _ h => by cases h) (fun _ h => by cases h) (fun h => by cases h) (fun h => by cases h) hk0 hk1 hkk0 hkk1 (by rcases hk with rfl | rfl <;> simp [aw_ty, refKind]) h1 h2 h3
    (by rw [aw_nn h1, aw_nn h3, arrV_size]; omega)
    (by rw [aw_nn h2, aw_nn h3, arrV_size]; omega)
    (fun vm₁ _ i hi => by
      have e : (arrV (gC V.1 kd) n0 (fun j => Value.int (hI h a0 j))).slots.getD (sp.toNatClampNeg + i) .null = .int (hI h a0 (sp.toNatClampNeg + i)) := by
        rw [Array.getD_eq_getD_getElem?, arrV_read _ _ (by omega)]
        rfl
      rw [e]
      exact ⟨hfit i hi, trivial⟩)
    (g := F0 m pc ls (.int n :: .int dp :: .ref a1 :: .int sp :: .ref a0 :: st)) rfl (by rw [C.2.2.1]; exact hl.1) (rest := st) rfl (by rw [C.2.1, hb]; exact hd) hR.1 (by have := hR.2; show 2 * 0 + _ + _ ≤ _; omega)
  have e1 : copied (arrV (gC V.1 kd) n0 (fun j => .int (hI h a0 j))) (arrV (gC V.1 kd) n1 (fun j => .int (hI h a1 j))) sp dp n = arrV (gC V.1 kd) n1 (fun j => .int (va_cpy (hI h a0) (hI h a1) sp.toNatClampNeg dp.toNatClampNeg n.toNatClampNeg j)) := va_copied (fun z => .int z) _ _ _ _ h4
  rw [e1] at X' step
  have hl1 : a1 < H.size := (Array.getElem?_eq_some_iff.mp hc1).1
  have hA : aw_A V.1 a1 := (hH.2.2 a1 (by rw [ht1]; show kd < 99; omega)).1
  generalize hcell : arrV (gC V.1 kd) n1 (fun j => Value.int (va_cpy (hI h a0) (hI h a1) sp.toNatClampNeg dp.toNatClampNeg n.toNatClampNeg j)) = cell at X' step
  have hheap : ((T.setVm vm').setCell a1 cell).heap = H.setIfInBounds a1 cell := by rw [← hT']; rfl
  have w : (H.setIfInBounds a1 cell)[a1]? = some cell := by simp [Array.getElem?_setIfInBounds, hl1]
  have z : (H.setIfInBounds a1 cell).size = H.size := by simp
  have oq : ∀ q : Nat, q ≠ a1 → (H.setIfInBounds a1 cell)[q]? = H[q]? := fun q hq => by simp [Array.getElem?_setIfInBounds, Ne.symm hq]
  have hH1 : aw_H V.1 (setR h a1 (va_cpy (hI h a0) (hI h a1) sp.toNatClampNeg dp.toNatClampNeg n.toNatClampNeg)) (H.setIfInBounds a1 cell) := by
    refine hH.put rfl rfl ?_ (fun b hb => aw_setR_e hb) z oq
    rw [aw_e_i (h := setR h a1 _) (kd := kd) (len := n1) ht1 hk']
    show (H.setIfInBounds a1 cell)[a1]? = some (vp_cell _ _)
    rw [w, ← hcell, vp_cell_i]
    have : hI (setR h a1 (va_cpy (hI h a0) (hI h a1) sp.toNatClampNeg dp.toNatClampNeg n.toNatClampNeg)) a1 = va_cpy (hI h a0) (hI h a1) sp.toNatClampNeg dp.toNatClampNeg n.toNatClampNeg := u1_s
    rw [this]
  obtain ⟨t, a1', b1⟩ := kk p e s m args below meth c C _ _ ls hH1 hl ⟨by rw [z]; exact hS.1, fun q g1 g2 => by
      rw [oq q (fun e => g2 (by rw [e]; exact hA))]
      exact hS.2.1 q g1 g2, fun q hq => by
      rcases List.mem_append.mp hq with h | h
      · exact hS.2.2 q h
      · obtain ⟨y, -, hy⟩ := List.mem_map.mp h
        rw [← hy]
        exact hA⟩ _ hheap X'
  exact ⟨t, step t a1', b1⟩
/-- super.m(..), where the class above has m from farther up -/
theorem a_callP2 (hb : V.2.1.2.1 = cc) {idx n d mc ms kd len b : Nat} {Cn sup : String} {M : MK} {As : List Value} {st0 : List Value} {Po : Option Value → AH → Prop} (hd : decode cc pc = .ok (.invokespecial idx, 3)) (hm : AM V.1 d mc ms M (.ref b :: As) h Po) (w1 : Cond.methodLink V.2.1.1.cls idx ⟨sup, M.1.name, M.1.desc⟩ ∈ aw_wd) (w2 : Cond.sameMethod sup M.1.cls M.1.name M.1.desc ∈ aw_wd) (w3 : Cond.superclass V.2.1.1.cls sup ∈ aw_wd) (w4 : Cond.superclass sup M.1.cls ∈ aw_wd) (hno : M.1.name ≠ "<init>") (hc : CL0 M n) (ht : hT h b = (kd, len)) (hk : kd < 13) (hkc : (aw_cl[kd]?).map (fun q => q.1) = some Cn) (hn : As.length = n) (hst : As.reverse ++ .ref b :: st = st0) (h8 : (st.map fun v => v.category).sum ≤ 8) (hR : d + 1 ≤ V.2.2.1.frames ∧ 8 + (M.2.2.1 + 11) + 64 * d ≤ V.2.2.1.locals) (hC : cs + mc ≤ V.2.2.1.cells ∧ ss + ms ≤ V.2.2.1.slots)
    (kk : ∀ v h', Po v h' → AW V (cs + mc) (ss + ms) h' (pc + 3) L (v.toList ++ st)) : AW V cs ss h pc L st0 := by
  subst hst
  intro p e s m args below meth c C H locs ls hH hl hS
  obtain ⟨c3, c4, c5, c6, c7⟩ := hc
  have hts := C.2.2.2.2.1
  have hK := C.2.2.2.2.2.2.2.2.1
  have hM : Met (gL V.1) M.1 (aw_ws M) (aw_rm d mc ms) (va_Pc (.ref b :: As) (aw_U V.1 h)) (aw_Q V.1 Po) mc ms (aw_A V.1) := hm
  have hBk : Back (gL V.1) V.2.2.1 p e below s args M.1 3 8 (PreOf V.2.2.1 mc ms (va_Pc (.ref b :: As) (aw_U V.1 h))) (PostOf (aw_Q V.1 Po) mc ms (aw_A V.1)) := back_of (bytes := M.2.1) (maxL := M.2.2.1) (ret := M.2.2.2) hM aw_U.calls rfl rfl hR.1 hR.2 (aw_pay hts c5) List.mem_cons_self (fun a' U hW => word_at hW (Or.inl (by first | rfl | simp [Cond.onTables, Cond.keeps, Cond.steady])) (hts _ c4))
  obtain ⟨cellB, hcB, hoB, hclB⟩ := aw_recv hK hH ht hk hkc
  obtain ⟨kB, hkB, -⟩ := Vm.findClass_spec hclB
  refine aw_back (mc := mc) (ms := ms) (a := (Value.ref b :: As).toArray) (Po := Po) C hl hS ?_ kk
  intro T hT' X
  obtain ⟨mk, methM, hnamed, hmethM, hstM, habM⟩ := Cond.instanceMethod_spec (hts _ c3)
  obtain ⟨methM', cM, hmethM', -, -, -, -, -, -, hsigM⟩ := Cond.code_spec hnamed (hts _ c5)
  cases hmethM.symm.trans hmethM'
  obtain ⟨ps, dk, kp, hps, hdk, hkp, hsuper, -, -, hnid⟩ := Cond.superclass_spec C.2.2.2.2.2.1 (hts _ w3)
  obtain ⟨ps2, dk2, kp2, hps2, hdk2, hkp2, hsuper2, -, -, -⟩ := Cond.superclass_spec hps (hts _ w4)
  have hn' : s.methodNamed? ⟨M.1.cls, M.1.name, M.1.desc⟩ = some mk := hnamed
  have hpm : ps2 = mk.cls := Option.some.inj (hps2.symm.trans (findClass_of_methodNamed hnamed))
  have hsub : s.vm.isSubclass ps mk.cls = true := by
    rw [← hpm]
    show s.vm.isSubclassAux _ _ _ = true
    simp only [Vm.isSubclassAux, hdk2, hsuper2]
    simp
    refine Or.inr ?_
    obtain ⟨k, hk⟩ : ∃ k, s.vm.classes.size = k + 1 := ⟨s.vm.classes.size - 1, by have := (Array.getElem?_eq_some_iff.mp hdk2).1; omega⟩
    rw [hk]
    simp [Vm.isSubclassAux]
  obtain ⟨vm₁, X₁, hstep₁⟩ := X.invokespecialUp C.1 C.2.2.2.2.2.1 (hts _ w1) (hts _ w2) hn' hmethM hstM habM hno hdk hnid hps hsuper hsub (a := b) (cell := cellB) (by rw [hT']; exact hcB)
    (fun z h => by rw [h] at hoB; cases hoB) hkB (g := F0 m pc ls (As.reverse ++ .ref b :: st)) rfl (argsL := As) (rest := st) (by rw [hn, aw_len c7 _ hsigM]) rfl (by rw [C.2.1, hb]; exact hd)
  obtain ⟨v, ⟨U', l2, c2, s2⟩, X', ⟨g', mk2, t, L2, e1, e2, hq, g1, hL, g2, g3⟩, hsteps⟩ := hBk m meth c ⟨T.setVm vm₁, locs, cs, ss⟩ { F0 m pc ls (As.reverse ++ .ref b :: st) with stack := st } (.invokespecial idx) mk (Value.ref b :: As).toArray X₁ rfl (by rw [C.2.2.1]; exact hl.1) (by rw [C.2.1, hb]; exact hd) (lv_room (m := m) (pc := pc) (ls := ls) (rest := st) h8) (X₁.named hnamed) ⟨hC.1, hC.2, aw_U.start C hH hS (T.setVm vm₁) hT' X₁.warmed⟩
  dsimp only [Pt.U, Pt.locs, Pt.cells, Pt.slots] at X' e1 e2 g1 g2 g3 hsteps
  subst g1; subst g2; subst g3
  exact ⟨v, (T.setVm vm₁).calling g' mk2 (Value.ref b :: As).toArray, t, U', L2, hT', X', hL, e1, e2, hq, fun target h => hstep₁ _ (by rw [doInvoke_state]; exact hsteps.trans h)⟩
end AWX
