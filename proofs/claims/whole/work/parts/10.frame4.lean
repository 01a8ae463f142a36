/-! ===== THE FRAME, 4: calls ===== -/
theorem aw_U.calls {g : GG} {vs : List Value} {h : AH} : FrameBlind (va_Pc vs (aw_U g h)) := by
  intro a U fr mk hq
  obtain ⟨q0, hH, hK, hSt, hSr⟩ := hq
  exact ⟨q0, hH, va_K.moved (u := U) (U := U.calling fr mk a) (Vm.Alike.refl U.vm) hK, aw_St.moved (u := U) (U := U.calling fr mk a) (Vm.Alike.refl U.vm) hSt, aw_Sr.same (u := U) (U := U.calling fr mk a) rfl hSr⟩
theorem aw_U.start {g : GG} {M : MK} {p : Program} {s : State} {m : MethodId} {args : Array Value} {meth : Method} {c : Code} {h : AH} {H : Heap} {locs : List Loc} {vs : List Value} (C : aw_Cx g M p s m args meth c) (hH : aw_H g h H) (hS : va_S (aw_A g) s.heap H locs) : ∀ U : State, U.heap = H → s.WarmedH U.vm → va_Pc vs (aw_U g h) vs.toArray U := by
  intro U hU hW
  obtain ⟨-, -, -, -, -, -, -, -, hK, hSt, hSr, hz⟩ := C
  refine ⟨rfl, by rw [hU]; exact hH, hK.moved hW.alike, ?_, hSr.warm hW⟩
  rw [hU]
  exact (hSt.moved hW.alike).kept hz hS.2.1
/-- what a call of M asks of the tables, apart from how it is linked -/
def CL0 (M : MK) (n : Nat) : Prop := Cond.instanceMethod M.1 ∈ aw_wd ∧ Cond.initialized M.1.cls ∈ aw_wd ∧ Cond.code M.1 M.2.1 M.2.2.1 M.2.2.2 ∈ aw_wd ∧ (M.1.cls ≠ "java/lang/invoke/MethodHandle" ∧ M.1.cls ≠ "java/lang/invoke/VarHandle") ∧ (parseMethodDescriptor M.1.desc).map (fun d => d.parameters.length) = some n
def CS0 (M : MK) (n : Nat) : Prop := Cond.static M.1 ∈ aw_wd ∧ Cond.initialized M.1.cls ∈ aw_wd ∧ Cond.code M.1 M.2.1 M.2.2.1 M.2.2.2 ∈ aw_wd ∧ (M.1.cls ≠ "java/lang/invoke/MethodHandle" ∧ M.1.cls ≠ "java/lang/invoke/VarHandle") ∧ (parseMethodDescriptor M.1.desc).map (fun d => d.parameters.length) = some n
/-- of its own class -/
def CLV (own : String) (idx : Nat) (M : MK) (n : Nat) : Prop := Cond.methodLink own idx M.1 ∈ aw_wd ∧ Cond.selects M.1.cls M.1 M.1 ∈ aw_wd ∧ CL0 M n
/-- named as x of 'owner', run as M, on an object of the class C -/
def CLU (own : String) (idx : Nat) (C owner : String) (x : MethodName) (M : MK) (n : Nat) : Prop := Cond.methodLink own idx x ∈ aw_wd ∧ Cond.sameMethod x.cls owner x.name x.desc ∈ aw_wd ∧ (∃ (b0 : ByteArray) (m0 : Nat) (r0 : Option FieldType), Cond.instanceMethod ⟨owner, x.name, x.desc⟩ ∈ aw_wd ∧ Cond.code ⟨owner, x.name, x.desc⟩ b0 m0 r0 ∈ aw_wd) ∧ (owner ≠ "java/lang/invoke/MethodHandle" ∧ owner ≠ "java/lang/invoke/VarHandle") ∧ Cond.selects C x M.1 ∈ aw_wd ∧ x.desc = M.1.desc ∧ CL0 M n
def CLI (own : String) (idx : Nat) (M : MK) (n : Nat) : Prop := Cond.methodLink own idx M.1 ∈ aw_wd ∧ M.1.name = "<init>" ∧ M.2.2.2 = none ∧ CL0 M n
def CLN (own host : String) (idx : Nat) (M : MK) (n : Nat) : Prop := (own, idx, M.1, host) ∈ aw_nl ∧ M.1.name = "<init>" ∧ M.2.2.2 = none ∧ CL0 M n
def CLP (own : String) (idx : Nat) (M : MK) (n : Nat) : Prop := Cond.methodLink own idx M.1 ∈ aw_wd ∧ Cond.sameMethod M.1.cls M.1.cls M.1.name M.1.desc ∈ aw_wd ∧ Cond.superclass own M.1.cls ∈ aw_wd ∧ M.1.name ≠ "<init>" ∧ CL0 M n
def CLS (own : String) (idx : Nat) (M : MK) (n : Nat) : Prop := Cond.methodLink own idx M.1 ∈ aw_wd ∧ CS0 M n
theorem aw_len {M : MK} {n : Nat} (h : (parseMethodDescriptor M.1.desc).map (fun d => d.parameters.length) = some n) : ∀ sig, parseMethodDescriptor M.1.desc = some sig → n = sig.parameters.length := by
  intro sig hs
  rw [hs] at h
  exact (Option.some.inj h).symm
theorem aw_pay {s : State} {args : Array Value} {M : MK} (hts : ∀ w ∈ aw_wd, w.before args s = true) (hc : Cond.code M.1 M.2.1 M.2.2.1 M.2.2.2 ∈ aw_wd) : ∀ w ∈ aw_ws M, ∀ (a' : Array Value) (U : State), s.WarmedH U.vm → w.before a' U = true := by
  refine pay_in hts (aw_good fun w hw => ?_)
  rcases List.mem_cons.mp hw with rfl | hw
  · exact hc
  · exact hw
section AWC
variable {V : VV} {cs ss : Nat} {h : AH} {pc : Nat} {L : List (Nat × Value)} {st : List Value} {cc : ByteArray}
/-- behind a call -/
theorem aw_back {p : Program} {e : Env} {s : State} {m : MethodId} {args : Array Value} {below : List Frame} {meth : Method} {c : Code} {H : Heap} {locs : List Loc} {ls : Array Slot} {mc ms : Nat} {st0 : List Value} {Po : Option Value → AH → Prop} {a : Array Value} (C : aw_Cx V.1 V.2.1 p s m args meth c) (hl : lv_has ls V.2.1.2.2.1 L) (hS : va_S (aw_A V.1) s.heap H locs)
    (hr : va_Run p (gL V.1) e V.2.2.1 s m args below meth c H locs cs ss mc ms (F0 m pc ls st0) st (aw_Q V.1 Po a) (aw_A V.1)) (kk : ∀ v h', Po v h' → AW V (cs + mc) (ss + ms) h' (pc + 3) L (v.toList ++ st)) : W p (gL V.1) e V.2.2.1 s m args below meth c H locs cs ss (V.2.2.2 below args s) (F0 m pc ls st0) := by
  intro T hT X
  obtain ⟨v, st₀, t, T', L', h0, X', hL, e1, e2, ⟨⟨v', h', hv, hp, hH'⟩, hz, hk⟩, stp⟩ := hr T hT X
  cases hv
  rw [h0] at hz hk
  rw [← e1] at hH'
  obtain ⟨t2, a1, b1⟩ := kk v h' hp p e s m args below meth c C T'.heap (locs ++ L') ls hH' hl ⟨Nat.le_trans hS.1 (by rw [e1]; exact hz), fun q h1 h2 => by
      rw [e1, hk q (Nat.lt_of_lt_of_le h1 hS.1) h2]; exact hS.2.1 q h1 h2, fun q hq => by
      rcases List.mem_append.mp hq with h | h
      · exact hS.2.2 q h
      · exact hL q h⟩ T' rfl X'
  exact ⟨t2, stp t2 a1, b1⟩
theorem aw_recv {g : GG} {s : State} {H : Heap} {b kd len : Nat} {Cn : String} (hK : va_K (gD g) aw_cl (aw_tys g) s) (hH : aw_H g h H) (ht : hT h b = (kd, len)) (hk : kd < 13) (hc : (aw_cl[kd]?).map (fun q => q.1) = some Cn) : ∃ cell : Cell, H[b]? = some cell ∧ cell.vm.isStatics = false ∧ s.vm.findClass Cn = some cell.cls := by
  cases hq : aw_cl[kd]? with
  | none => rw [hq] at hc; cases hc
  | some q =>
    rw [hq] at hc
    cases hc
    exact va_recv hK (aw_one (aw_obj hH ht hk)) hq (q0 := 0) rfl
theorem a_callV (hb : V.2.1.2.1 = cc) {idx n d mc ms kd len b : Nat} {M : MK} {As : List Value} {st0 : List Value} {Po : Option Value → AH → Prop} (hd : decode cc pc = .ok (.invokevirtual idx, 3)) (hm : AM V.1 d mc ms M (.ref b :: As) h Po) (hc : CLV V.2.1.1.cls idx M n) (ht : hT h b = (kd, len)) (hk : kd < 13) (hkc : (aw_cl[kd]?).map (fun q => q.1) = some M.1.cls) (hn : As.length = n) (hst : As.reverse ++ .ref b :: st = st0) (h8 : (st.map fun v => v.category).sum ≤ 8) (hR : d + 1 ≤ V.2.2.1.frames ∧ 8 + (M.2.2.1 + 11) + 64 * d ≤ V.2.2.1.locals) (hC : cs + mc ≤ V.2.2.1.cells ∧ ss + ms ≤ V.2.2.1.slots)
    (kk : ∀ v h', Po v h' → AW V (cs + mc) (ss + ms) h' (pc + 3) L (v.toList ++ st)) : AW V cs ss h pc L st0 := by
  subst hst
  intro p e s m args below meth c C H locs ls hH hl hS
  obtain ⟨c1, c2, c3, c4, c5, c6, c7⟩ := hc
  have hts := C.2.2.2.2.1
  have hr := va_runV (e := e) (below := below) (meth := meth) (cells := cs) (slots := ss) (rest := st) (g := F0 m pc ls (As.reverse ++ .ref b :: st)) (H := H) (locs := locs) ⟨C.1, C.2.1.trans hb, C.2.2.1, C.2.2.2.2.2.1, hts⟩ hm
    (⟨⟨rfl, rfl, hR.1, hR.2, aw_pay hts c5, List.mem_cons_self, hts _ c5, hts _ c4, c6, aw_len c7, hts _ c1⟩, hts _ c3, hts _ c2⟩ : CallW V.2.2.1 s args V.2.1.1.cls M.1.cls idx M.1 M.2.1 M.2.2.1 M.2.2.2 (aw_ws M) (aw_rm d mc ms) mc ms n)
    ⟨aw_U.calls, aw_recv C.2.2.2.2.2.2.2.2.1 hH ht hk hkc, aw_U.start C hH hS⟩ rfl hn hl.1 rfl (lv_room h8) hd hC
  exact aw_back C hl hS hr kk
theorem a_callU (hb : V.2.1.2.1 = cc) {idx n d mc ms kd len b : Nat} {M : MK} {Cn owner : String} {x : MethodName} {As : List Value} {st0 : List Value} {Po : Option Value → AH → Prop} (hd : decode cc pc = .ok (.invokevirtual idx, 3)) (hm : AM V.1 d mc ms M (.ref b :: As) h Po) (hc : CLU V.2.1.1.cls idx Cn owner x M n) (ht : hT h b = (kd, len)) (hk : kd < 13) (hkc : (aw_cl[kd]?).map (fun q => q.1) = some Cn) (hn : As.length = n) (hst : As.reverse ++ .ref b :: st = st0) (h8 : (st.map fun v => v.category).sum ≤ 8) (hR : d + 1 ≤ V.2.2.1.frames ∧ 8 + (M.2.2.1 + 11) + 64 * d ≤ V.2.2.1.locals) (hC : cs + mc ≤ V.2.2.1.cells ∧ ss + ms ≤ V.2.2.1.slots)
    (kk : ∀ v h', Po v h' → AW V (cs + mc) (ss + ms) h' (pc + 3) L (v.toList ++ st)) : AW V cs ss h pc L st0 := by
  subst hst
  intro p e s m args below meth c C H locs ls hH hl hS
  obtain ⟨c1, c2, ⟨b0, m0, r0, c3, c4⟩, c5, c6, c7, d1, d2, d3, d4, d5⟩ := hc
  have hts := C.2.2.2.2.1
  have hr := va_runU (e := e) (below := below) (meth := meth) (cells := cs) (slots := ss) (rest := st) (g := F0 m pc ls (As.reverse ++ .ref b :: st)) (H := H) (locs := locs) ⟨C.1, C.2.1.trans hb, C.2.2.1, C.2.2.2.2.2.1, hts⟩ hm
    (⟨⟨rfl, rfl, hR.1, hR.2, aw_pay hts d3, List.mem_cons_self⟩, hts _ d3, hts _ d2, c5, by rw [c7]; exact aw_len d5, hts _ c1, hts _ c2, va_Decl.of (hts _ c3) (hts _ c4), hts _ c6, hts _ d1⟩ : va_CU V.2.2.1 s args V.2.1.1.cls Cn owner idx x M.1 M.2.1 M.2.2.1 M.2.2.2 (aw_ws M) (aw_rm d mc ms) mc ms n)
    ⟨aw_U.calls, aw_recv C.2.2.2.2.2.2.2.2.1 hH ht hk hkc, aw_U.start C hH hS⟩ rfl hn hl.1 rfl (lv_room h8) hd hC
  exact aw_back C hl hS hr kk
theorem a_callS (hb : V.2.1.2.1 = cc) {idx n d mc ms : Nat} {M : MK} {As : List Value} {st0 : List Value} {Po : Option Value → AH → Prop} (hd : decode cc pc = .ok (.invokestatic idx, 3)) (hm : AM V.1 d mc ms M As h Po) (hc : CLS V.2.1.1.cls idx M n) (hn : As.length = n) (hst : As.reverse ++ st = st0) (h8 : (st.map fun v => v.category).sum ≤ 8) (hR : d + 1 ≤ V.2.2.1.frames ∧ 8 + (M.2.2.1 + 11) + 64 * d ≤ V.2.2.1.locals) (hC : cs + mc ≤ V.2.2.1.cells ∧ ss + ms ≤ V.2.2.1.slots)
    (kk : ∀ v h', Po v h' → AW V (cs + mc) (ss + ms) h' (pc + 3) L (v.toList ++ st)) : AW V cs ss h pc L st0 := by
  subst hst
  intro p e s m args below meth c C H locs ls hH hl hS
  obtain ⟨c1, c3, c4, c5, c6, c7⟩ := hc
  have hts := C.2.2.2.2.1
  have hr := va_runS (e := e) (below := below) (meth := meth) (cells := cs) (slots := ss) (rest := st) (g := F0 m pc ls (As.reverse ++ st)) (H := H) (locs := locs) ⟨C.1, C.2.1.trans hb, C.2.2.1, C.2.2.2.2.2.1, hts⟩ hm
    (⟨⟨rfl, rfl, hR.1, hR.2, aw_pay hts c5, List.mem_cons_self, hts _ c5, hts _ c4, c6, aw_len c7, hts _ c1⟩, hts _ c3⟩ : CallB V.2.2.1 s args V.2.1.1.cls idx M.1 M.2.1 M.2.2.1 M.2.2.2 (aw_ws M) (aw_rm d mc ms) mc ms n ∧ _)
    ⟨aw_U.calls, aw_U.start C hH hS⟩ rfl hn hl.1 rfl (lv_room h8) hd hC
  exact aw_back C hl hS hr kk
theorem a_callI (hb : V.2.1.2.1 = cc) {idx n d mc ms b : Nat} {M : MK} {As : List Value} {st0 : List Value} {Po : Option Value → AH → Prop} (hd : decode cc pc = .ok (.invokespecial idx, 3)) (hm : AM V.1 d mc ms M (.ref b :: As) h Po) (hc : CLI V.2.1.1.cls idx M n) (hn : As.length = n) (hst : As.reverse ++ .ref b :: st = st0) (h8 : (st.map fun v => v.category).sum ≤ 8) (hR : d + 1 ≤ V.2.2.1.frames ∧ 8 + (M.2.2.1 + 11) + 64 * d ≤ V.2.2.1.locals) (hC : cs + mc ≤ V.2.2.1.cells ∧ ss + ms ≤ V.2.2.1.slots)
    (kk : ∀ v h', Po v h' → AW V (cs + mc) (ss + ms) h' (pc + 3) L (v.toList ++ st)) : AW V cs ss h pc L st0 := by
  subst hst
  intro p e s m args below meth c C H locs ls hH hl hS
  obtain ⟨c1, c2, c2r, c3, c4, c5, c6, c7⟩ := hc
  have hts := C.2.2.2.2.1
  have c5n : Cond.code M.1 M.2.1 M.2.2.1 none ∈ aw_wd := by rw [← c2r]; exact c5
  have hr := va_runI (e := e) (below := below) (meth := meth) (cells := cs) (slots := ss) (rest := st) (g := F0 m pc ls (As.reverse ++ .ref b :: st)) (H := H) (locs := locs) ⟨C.1, C.2.1.trans hb, C.2.2.1, C.2.2.2.2.2.1, hts⟩ hm
    (⟨⟨rfl, rfl, hR.1, hR.2, aw_pay hts c5, by rw [← c2r]; exact List.mem_cons_self, hts _ c5n, hts _ c4, c6, aw_len c7, hts _ c1⟩, c2, hts _ c3⟩ : CallB V.2.2.1 s args V.2.1.1.cls idx M.1 M.2.1 M.2.2.1 none (aw_ws M) (aw_rm d mc ms) mc ms n ∧ M.1.name = "<init>" ∧ _)
    ⟨aw_U.calls, aw_U.start C hH hS⟩ rfl hn hl.1 rfl (lv_room h8) hd hC
  exact aw_back C hl hS hr kk
theorem a_callN (hb : V.2.1.2.1 = cc) {idx n d mc ms b : Nat} {host : String} {M : MK} {As : List Value} {st0 : List Value} {Po : Option Value → AH → Prop} (hd : decode cc pc = .ok (.invokespecial idx, 3)) (hm : AM V.1 d mc ms M (.ref b :: As) h Po) (hc : CLN V.2.1.1.cls host idx M n) (hn : As.length = n) (hst : As.reverse ++ .ref b :: st = st0) (h8 : (st.map fun v => v.category).sum ≤ 8) (hR : d + 1 ≤ V.2.2.1.frames ∧ 8 + (M.2.2.1 + 11) + 64 * d ≤ V.2.2.1.locals) (hC : cs + mc ≤ V.2.2.1.cells ∧ ss + ms ≤ V.2.2.1.slots)
    (kk : ∀ v h', Po v h' → AW V (cs + mc) (ss + ms) h' (pc + 3) L (v.toList ++ st)) : AW V cs ss h pc L st0 := by
  subst hst
  intro p e s m args below meth c C H locs ls hH hl hS
  obtain ⟨c1, c2, c2r, c3, c4, c5, c6, c7⟩ := hc
  have hts := C.2.2.2.2.1
  have c5n : Cond.code M.1 M.2.1 M.2.2.1 none ∈ aw_wd := by rw [← c2r]; exact c5
  have hr := va_runIN (e := e) (below := below) (meth := meth) (cells := cs) (slots := ss) (rest := st) (g := F0 m pc ls (As.reverse ++ .ref b :: st)) (H := H) (locs := locs) ⟨C.1, C.2.1.trans hb, C.2.2.1, C.2.2.2.2.2.1, hts⟩ hm
    (⟨⟨⟨rfl, rfl, hR.1, hR.2, aw_pay hts c5, by rw [← c2r]; exact List.mem_cons_self⟩, hts _ c5n, hts _ c4, c6, aw_len c7, va_Nw.use rfl (C.2.2.2.2.2.2.2.2.2.2.1.2.1 _ c1)⟩, c2, hts _ c3⟩ : va_CN V.2.2.1 s args V.2.1.1.cls idx M.1 host M.2.1 M.2.2.1 none (aw_ws M) (aw_rm d mc ms) mc ms n ∧ M.1.name = "<init>" ∧ _)
    ⟨aw_U.calls, aw_U.start C hH hS⟩ rfl hn hl.1 rfl (lv_room h8) hd hC
  exact aw_back C hl hS hr kk
theorem a_callP (hb : V.2.1.2.1 = cc) {idx n d mc ms kd len b : Nat} {Cn : String} {M : MK} {As : List Value} {st0 : List Value} {Po : Option Value → AH → Prop} (hd : decode cc pc = .ok (.invokespecial idx, 3)) (hm : AM V.1 d mc ms M (.ref b :: As) h Po) (hc : CLP V.2.1.1.cls idx M n) (ht : hT h b = (kd, len)) (hk : kd < 13) (hkc : (aw_cl[kd]?).map (fun q => q.1) = some Cn) (hn : As.length = n) (hst : As.reverse ++ .ref b :: st = st0) (h8 : (st.map fun v => v.category).sum ≤ 8) (hR : d + 1 ≤ V.2.2.1.frames ∧ 8 + (M.2.2.1 + 11) + 64 * d ≤ V.2.2.1.locals) (hC : cs + mc ≤ V.2.2.1.cells ∧ ss + ms ≤ V.2.2.1.slots)
    (kk : ∀ v h', Po v h' → AW V (cs + mc) (ss + ms) h' (pc + 3) L (v.toList ++ st)) : AW V cs ss h pc L st0 := by
  subst hst
  intro p e s m args below meth c C H locs ls hH hl hS
  obtain ⟨c1, c2, c2b, c2c, c3, c4, c5, c6, c7⟩ := hc
  have hts := C.2.2.2.2.1
  have hK := C.2.2.2.2.2.2.2.2.1
  have hat : ∃ cC, ClassAt s Cn cC := by
    cases hq : aw_cl[kd]? with
    | none => rw [hq] at hkc; cases hkc
    | some q =>
      rw [hq] at hkc
      cases hkc
      exact ⟨_, (hK.1 kd q hq).2⟩
  obtain ⟨cC, hat⟩ := hat
  have hr := va_runSU (e := e) (below := below) (meth := meth) (cells := cs) (slots := ss) (rest := st) (g := F0 m pc ls (As.reverse ++ .ref b :: st)) (H := H) (locs := locs) hat ⟨C.1, C.2.1.trans hb, C.2.2.1, C.2.2.2.2.2.1, hts⟩ hm
    (⟨⟨rfl, rfl, hR.1, hR.2, aw_pay hts c5, List.mem_cons_self⟩, hts _ c1, hts _ c2, hts _ c2b, hts _ c3, hts _ c4, hts _ c5, c2c, aw_len c7⟩ : va_CS V.2.2.1 s args V.2.1.1.cls idx M.1 M.2.1 M.2.2.1 M.2.2.2 (aw_ws M) (aw_rm d mc ms) mc ms n)
    ⟨aw_U.calls, aw_recv hK hH ht hk hkc, aw_U.start C hH hS⟩ rfl hn hl.1 rfl (lv_room h8) hd hC
  exact aw_back C hl hS hr kk
theorem a_objInit (hb : V.2.1.2.1 = cc) {idx a : Nat} (hd : decode cc pc = .ok (.invokespecial idx, 3)) (h1 : Cond.methodLink V.2.1.1.cls idx objectInit ∈ aw_wd) (h2 : Cond.instanceMethod objectInit ∈ aw_wd) (h3 : Cond.code objectInit ⟨#[0xb1]⟩ 1 none ∈ aw_wd) (h8 : (st.map fun v => v.category).sum ≤ 8) (hR : 1 ≤ V.2.2.1.frames ∧ 20 ≤ V.2.2.1.locals) (kk : AW V cs ss h (pc + 3) L st) : AW V cs ss h pc L (.ref a :: st) := by
  intro p e s m args below meth c C H locs ls hH hl hS
  have hts := C.2.2.2.2.1
  exact W.objInit C.1 (C.2.1.trans hb) C.2.2.2.2.2.1 (hts _ h1) (hts _ h2) (hts _ h3) rfl (by rw [C.2.2.1]; exact hl.1) rfl hd hR.1 (by have := lv_room (m := m) (pc := pc) (ls := ls) (rest := .ref a :: st) (st := st) h8; omega) (kk p e s m args below meth c C H locs ls hH hl hS)
end AWC
