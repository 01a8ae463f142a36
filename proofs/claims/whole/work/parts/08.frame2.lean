/-! ===== THE FRAME, 2: a judgement over the abstract heap ===== -/
abbrev MK : Type := MethodName × ByteArray × Nat × Option FieldType
abbrev QZ : Type := List Frame → Array Value → State → State → Prop
abbrev VV : Type := GG × MK × Room × QZ
def aw_ws (M : MK) : List Cond := .code M.1 M.2.1 M.2.2.1 M.2.2.2 :: aw_wd
def aw_rm (d mc ms : Nat) : Room := { frames := d, cells := mc, slots := ms, locals := 64 * d }
/-- what stands around a walk of the method M -/
def aw_Cx (g : GG) (M : MK) (p : Program) (s : State) (m : MethodId) (args : Array Value) (meth : Method) (c : Code) : Prop :=
  p.tables.exec = Jvm.exec ∧ c.code = M.2.1 ∧ c.maxLocals = M.2.2.1 ∧ meth.sig.returnType = M.2.2.2 ∧ (∀ w ∈ aw_wd, w.before args s = true) ∧ s.vm.findClass M.1.cls = some m.cls ∧ meth.locks = false ∧ meth.name = M.1.name ∧ va_K (gD g) aw_cl (aw_tys g) s ∧ aw_St g s s.heap ∧ aw_Sr g s ∧ gB g ≤ s.heap.size
def AW (V : VV) (cs ss : Nat) (h : AH) (pc : Nat) (L : List (Nat × Value)) (st : List Value) : Prop :=
  ∀ (p : Program) (e : Env) (s : State) (m : MethodId) (args : Array Value) (below : List Frame) (meth : Method) (c : Code), aw_Cx V.1 V.2.1 p s m args meth c → ∀ (H : Heap) (locs : List Loc) (ls : Array Slot), aw_H V.1 h H → lv_has ls V.2.1.2.2.1 L → va_S (aw_A V.1) s.heap H locs → W p (gL V.1) e V.2.2.1 s m args below meth c H locs cs ss (V.2.2.2 below args s) (F0 m pc ls st)
/-- a method's end: the answer and the heap -/
def aw_Q (g : GG) (Po : Option Value → AH → Prop) : Array Value → State → Outcome → State → Prop := fun _ st o t => (∃ (v : Option Value) (h' : AH), o = .returned v ∧ Po v h' ∧ aw_H g h' t.heap) ∧ va_F (aw_A g) st t
def aw_Z (g : GG) (Po : Option Value → AH → Prop) (rm : Room) : QZ := fun below args s => MQ below (aw_Q g Po) args s rm.cells rm.slots (aw_A g)
/-- a contract: from these arguments, at this heap, the method returns, with Po of the answer and the heap -/
def AM (g : GG) (d mc ms : Nat) (M : MK) (vs : List Value) (h : AH) (Po : Option Value → AH → Prop) : Prop :=
  Met (gL g) M.1 (aw_ws M) (aw_rm d mc ms) (va_Pc vs (aw_U g h)) (aw_Q g Po) mc ms (aw_A g)
theorem AM.of {g : GG} {d mc ms : Nat} {M : MK} {vs : List Value} {h : AH} {Po : Option Value → AH → Prop} (L : List (Nat × Value)) (hy : plainName M.1.cls = true) (hn : (lg_sl vs).length ≤ M.2.2.1) (hL : lv_args 0 vs = L)
    (body : ∀ V : VV, V = (g, M, aw_rm d mc ms, aw_Z g Po (aw_rm d mc ms)) → AW V 0 0 h 0 L []) : AM g d mc ms M vs h Po := by
  refine Met.ofW (cc := M.2.1) (maxL := M.2.2.1) (ret := M.2.2.2) hy rfl ?_
  intro p e s m args below meth c s₁ B hml hv
  obtain ⟨rfl, hH, hK, hSt, hSr⟩ := hv
  have hts := atoms_spec (ws := aw_ws M) B.pre
  have hl := lv_entry vs (n := M.2.2.1) hn
  rw [hL] at hl
  rw [lg_entry_eq]
  exact body _ rfl p e s m vs.toArray below meth c ⟨B.exec, B.bytes, hml, B.returns, fun w hw => hts w (List.mem_cons_of_mem _ hw), findClass_of_methodNamed B.named, B.notSynchronized, (name_of_methodNamed B.named B.method).1, hK, hSt, hSr, by rw [hH.1]; exact hH.2.1⟩ s.heap [] _ hH hl va_S.rf
theorem AM.weak {g : GG} {d mc ms : Nat} {M : MK} {vs : List Value} {h : AH} {Po Po' : Option Value → AH → Prop} (hm : AM g d mc ms M vs h Po) (hp : ∀ v h', Po v h' → Po' v h') : AM g d mc ms M vs h Po' := by
  intro p e ha hc hk s m args below hf happ hP hK
  obtain ⟨k, o, h1, h2, h3, ⟨⟨v, h', e1, e2, e3⟩, hF⟩, hL⟩ := hm p e ha hc hk s m args below hf happ hP hK
  exact ⟨k, o, h1, h2, h3, ⟨⟨v, h', e1, hp v h' e2, e3⟩, hF⟩, hL⟩
section AWR
variable {V : VV} {cs ss : Nat} {h : AH} {pc : Nat} {L : List (Nat × Value)} {st : List Value} {cc : ByteArray}
theorem AW.eq {h' : AH} {pc' : Nat} {L' : List (Nat × Value)} {st' : List Value} (k : AW V cs ss h' pc' L' st') (e1 : h = h') (e2 : pc = pc') (e3 : L = L') (e4 : st = st') : AW V cs ss h pc L st := by subst e1; subst e2; subst e3; subst e4; exact k
theorem AW.wide {cs' ss' : Nat} (h1 : cs ≤ cs') (h2 : ss ≤ ss') (k : AW V cs' ss' h pc L st) : AW V cs ss h pc L st :=
  fun p e s m args below meth c C H locs ls hH hl hS => W.widen h1 h2 (k p e s m args below meth c C H locs ls hH hl hS)
theorem AW.sub {L' : List (Nat × Value)} (ks : List Nat) (hL : lv_pick L ks = L') (k : AW V cs ss h pc L' st) : AW V cs ss h pc L st :=
  fun p e s m args below meth c C H locs ls hH hl hS => k p e s m args below meth c C H locs ls hH (lv_sub hl ks hL) hS
theorem a_iconst (hb : V.2.1.2.1 = cc) {n : Int} {v : Int32} (hd : decode cc pc = .ok (.iconst n, 1)) (hv : Int32.ofInt n = v) (k : AW V cs ss h (pc + 1) L (.int v :: st)) : AW V cs ss h pc L (st) :=
  fun p e s m args below meth c C H locs ls hH hl hS => lv_iconst C.1 (C.2.1.trans hb) hd hv (k p e s m args below meth c C H locs ls hH hl hS)
theorem a_bipush (hb : V.2.1.2.1 = cc) {n : Int} {v : Int32} (hd : decode cc pc = .ok (.bipush n, 2)) (hv : (Int8.ofInt n).toInt32 = v) (k : AW V cs ss h (pc + 2) L (.int v :: st)) : AW V cs ss h pc L (st) :=
  fun p e s m args below meth c C H locs ls hH hl hS => lv_bipush C.1 (C.2.1.trans hb) hd hv (k p e s m args below meth c C H locs ls hH hl hS)
theorem a_sipush (hb : V.2.1.2.1 = cc) {n : Int} {v : Int32} (hd : decode cc pc = .ok (.sipush n, 3)) (hv : (Int16.ofInt n).toInt32 = v) (k : AW V cs ss h (pc + 3) L (.int v :: st)) : AW V cs ss h pc L (st) :=
  fun p e s m args below meth c C H locs ls hH hl hS => lv_sipush C.1 (C.2.1.trans hb) hd hv (k p e s m args below meth c C H locs ls hH hl hS)
theorem a_lconst (hb : V.2.1.2.1 = cc) {n : Fin 2} {v : Int64} (hd : decode cc pc = .ok (.lconst n, 1)) (hv : Int64.ofNat (n : Nat) = v) (k : AW V cs ss h (pc + 1) L (.long v :: st)) : AW V cs ss h pc L (st) :=
  fun p e s m args below meth c C H locs ls hH hl hS => lv_lconst C.1 (C.2.1.trans hb) hd hv (k p e s m args below meth c C H locs ls hH hl hS)
theorem a_iload_n (hb : V.2.1.2.1 = cc) {n : Fin 4} {i : Nat} {x : Int32} (hd : decode cc pc = .ok (.iload_n n, 1)) (hi : (n : Nat) = i) (j : Nat) (hj : L[j]? = some (i, .int x)) (k : AW V cs ss h (pc + 1) L (.int x :: st)) : AW V cs ss h pc L (st) :=
  fun p e s m args below meth c C H locs ls hH hl hS => lv_iload_n C.1 (C.2.1.trans hb) hd hi (lv_at hl j hj) (k p e s m args below meth c C H locs ls hH hl hS)
theorem a_iload (hb : V.2.1.2.1 = cc) {i : Nat} {x : Int32} (hd : decode cc pc = .ok (.iload i, 2)) (j : Nat) (hj : L[j]? = some (i, .int x)) (k : AW V cs ss h (pc + 2) L (.int x :: st)) : AW V cs ss h pc L (st) :=
  fun p e s m args below meth c C H locs ls hH hl hS => lv_iload C.1 (C.2.1.trans hb) hd (lv_at hl j hj) (k p e s m args below meth c C H locs ls hH hl hS)
theorem a_lload_n (hb : V.2.1.2.1 = cc) {n : Fin 4} {i : Nat} {x : Int64} (hd : decode cc pc = .ok (.lload_n n, 1)) (hi : (n : Nat) = i) (j : Nat) (hj : L[j]? = some (i, .long x)) (k : AW V cs ss h (pc + 1) L (.long x :: st)) : AW V cs ss h pc L (st) :=
  fun p e s m args below meth c C H locs ls hH hl hS => lv_lload_n C.1 (C.2.1.trans hb) hd hi (lv_at hl j hj) (k p e s m args below meth c C H locs ls hH hl hS)
theorem a_lload (hb : V.2.1.2.1 = cc) {i : Nat} {x : Int64} (hd : decode cc pc = .ok (.lload i, 2)) (j : Nat) (hj : L[j]? = some (i, .long x)) (k : AW V cs ss h (pc + 2) L (.long x :: st)) : AW V cs ss h pc L (st) :=
  fun p e s m args below meth c C H locs ls hH hl hS => lv_lload C.1 (C.2.1.trans hb) hd (lv_at hl j hj) (k p e s m args below meth c C H locs ls hH hl hS)
theorem a_aload_n (hb : V.2.1.2.1 = cc) {n : Fin 4} {i : Nat} {x : Nat} (hd : decode cc pc = .ok (.aload_n n, 1)) (hi : (n : Nat) = i) (j : Nat) (hj : L[j]? = some (i, .ref x)) (k : AW V cs ss h (pc + 1) L (.ref x :: st)) : AW V cs ss h pc L (st) :=
  fun p e s m args below meth c C H locs ls hH hl hS => lv_aload_n C.1 (C.2.1.trans hb) hd hi (lv_at hl j hj) (k p e s m args below meth c C H locs ls hH hl hS)
theorem a_aload (hb : V.2.1.2.1 = cc) {i : Nat} {x : Nat} (hd : decode cc pc = .ok (.aload i, 2)) (j : Nat) (hj : L[j]? = some (i, .ref x)) (k : AW V cs ss h (pc + 2) L (.ref x :: st)) : AW V cs ss h pc L (st) :=
  fun p e s m args below meth c C H locs ls hH hl hS => lv_aload C.1 (C.2.1.trans hb) hd (lv_at hl j hj) (k p e s m args below meth c C H locs ls hH hl hS)
theorem a_iadd (hb : V.2.1.2.1 = cc) {x y : Int32} (hd : decode cc pc = .ok (.iadd, 1)) (k : AW V cs ss h (pc + 1) L (.int (x + y) :: st)) : AW V cs ss h pc L (.int y :: .int x :: st) :=
  fun p e s m args below meth c C H locs ls hH hl hS => lv_iadd C.1 (C.2.1.trans hb) hd (k p e s m args below meth c C H locs ls hH hl hS)
theorem a_isub (hb : V.2.1.2.1 = cc) {x y : Int32} (hd : decode cc pc = .ok (.isub, 1)) (k : AW V cs ss h (pc + 1) L (.int (x - y) :: st)) : AW V cs ss h pc L (.int y :: .int x :: st) :=
  fun p e s m args below meth c C H locs ls hH hl hS => lv_isub C.1 (C.2.1.trans hb) hd (k p e s m args below meth c C H locs ls hH hl hS)
theorem a_imul (hb : V.2.1.2.1 = cc) {x y : Int32} (hd : decode cc pc = .ok (.imul, 1)) (k : AW V cs ss h (pc + 1) L (.int (x * y) :: st)) : AW V cs ss h pc L (.int y :: .int x :: st) :=
  fun p e s m args below meth c C H locs ls hH hl hS => lv_imul C.1 (C.2.1.trans hb) hd (k p e s m args below meth c C H locs ls hH hl hS)
theorem a_iand (hb : V.2.1.2.1 = cc) {x y : Int32} (hd : decode cc pc = .ok (.iand, 1)) (k : AW V cs ss h (pc + 1) L (.int (x &&& y) :: st)) : AW V cs ss h pc L (.int y :: .int x :: st) :=
  fun p e s m args below meth c C H locs ls hH hl hS => lv_iand C.1 (C.2.1.trans hb) hd (k p e s m args below meth c C H locs ls hH hl hS)
theorem a_ior (hb : V.2.1.2.1 = cc) {x y : Int32} (hd : decode cc pc = .ok (.ior, 1)) (k : AW V cs ss h (pc + 1) L (.int (x ||| y) :: st)) : AW V cs ss h pc L (.int y :: .int x :: st) :=
  fun p e s m args below meth c C H locs ls hH hl hS => lv_ior C.1 (C.2.1.trans hb) hd (k p e s m args below meth c C H locs ls hH hl hS)
theorem a_ixor (hb : V.2.1.2.1 = cc) {x y : Int32} (hd : decode cc pc = .ok (.ixor, 1)) (k : AW V cs ss h (pc + 1) L (.int (x ^^^ y) :: st)) : AW V cs ss h pc L (.int y :: .int x :: st) :=
  fun p e s m args below meth c C H locs ls hH hl hS => lv_ixor C.1 (C.2.1.trans hb) hd (k p e s m args below meth c C H locs ls hH hl hS)
theorem a_ladd (hb : V.2.1.2.1 = cc) {x y : Int64} (hd : decode cc pc = .ok (.ladd, 1)) (k : AW V cs ss h (pc + 1) L (.long (x + y) :: st)) : AW V cs ss h pc L (.long y :: .long x :: st) :=
  fun p e s m args below meth c C H locs ls hH hl hS => lv_ladd C.1 (C.2.1.trans hb) hd (k p e s m args below meth c C H locs ls hH hl hS)
theorem a_lsub (hb : V.2.1.2.1 = cc) {x y : Int64} (hd : decode cc pc = .ok (.lsub, 1)) (k : AW V cs ss h (pc + 1) L (.long (x - y) :: st)) : AW V cs ss h pc L (.long y :: .long x :: st) :=
  fun p e s m args below meth c C H locs ls hH hl hS => lv_lsub C.1 (C.2.1.trans hb) hd (k p e s m args below meth c C H locs ls hH hl hS)
theorem a_lmul (hb : V.2.1.2.1 = cc) {x y : Int64} (hd : decode cc pc = .ok (.lmul, 1)) (k : AW V cs ss h (pc + 1) L (.long (x * y) :: st)) : AW V cs ss h pc L (.long y :: .long x :: st) :=
  fun p e s m args below meth c C H locs ls hH hl hS => lv_lmul C.1 (C.2.1.trans hb) hd (k p e s m args below meth c C H locs ls hH hl hS)
theorem a_land (hb : V.2.1.2.1 = cc) {x y : Int64} (hd : decode cc pc = .ok (.land, 1)) (k : AW V cs ss h (pc + 1) L (.long (x &&& y) :: st)) : AW V cs ss h pc L (.long y :: .long x :: st) :=
  fun p e s m args below meth c C H locs ls hH hl hS => lv_land C.1 (C.2.1.trans hb) hd (k p e s m args below meth c C H locs ls hH hl hS)
theorem a_lor (hb : V.2.1.2.1 = cc) {x y : Int64} (hd : decode cc pc = .ok (.lor, 1)) (k : AW V cs ss h (pc + 1) L (.long (x ||| y) :: st)) : AW V cs ss h pc L (.long y :: .long x :: st) :=
  fun p e s m args below meth c C H locs ls hH hl hS => lv_lor C.1 (C.2.1.trans hb) hd (k p e s m args below meth c C H locs ls hH hl hS)
theorem a_idiv (hb : V.2.1.2.1 = cc) {x y : Int32} (hd : decode cc pc = .ok (.idiv, 1)) (hy : ¬ y = 0) (k : AW V cs ss h (pc + 1) L (.int (x / y) :: st)) : AW V cs ss h pc L (.int y :: .int x :: st) :=
  fun p e s m args below meth c C H locs ls hH hl hS => lv_idiv C.1 (C.2.1.trans hb) hd hy (k p e s m args below meth c C H locs ls hH hl hS)
theorem a_irem (hb : V.2.1.2.1 = cc) {x y : Int32} (hd : decode cc pc = .ok (.irem, 1)) (hy : ¬ y = 0) (k : AW V cs ss h (pc + 1) L (.int (x - x / y * y) :: st)) : AW V cs ss h pc L (.int y :: .int x :: st) :=
  fun p e s m args below meth c C H locs ls hH hl hS => lv_irem C.1 (C.2.1.trans hb) hd hy (k p e s m args below meth c C H locs ls hH hl hS)
theorem a_ldiv (hb : V.2.1.2.1 = cc) {x y : Int64} (hd : decode cc pc = .ok (.ldiv, 1)) (hy : ¬ y = 0) (k : AW V cs ss h (pc + 1) L (.long (x / y) :: st)) : AW V cs ss h pc L (.long y :: .long x :: st) :=
  fun p e s m args below meth c C H locs ls hH hl hS => lv_ldiv C.1 (C.2.1.trans hb) hd hy (k p e s m args below meth c C H locs ls hH hl hS)
theorem a_lrem (hb : V.2.1.2.1 = cc) {x y : Int64} (hd : decode cc pc = .ok (.lrem, 1)) (hy : ¬ y = 0) (k : AW V cs ss h (pc + 1) L (.long (x - x / y * y) :: st)) : AW V cs ss h pc L (.long y :: .long x :: st) :=
  fun p e s m args below meth c C H locs ls hH hl hS => lv_lrem C.1 (C.2.1.trans hb) hd hy (k p e s m args below meth c C H locs ls hH hl hS)
theorem a_ineg (hb : V.2.1.2.1 = cc) {x : Int32} (hd : decode cc pc = .ok (.ineg, 1)) (k : AW V cs ss h (pc + 1) L (.int (-x) :: st)) : AW V cs ss h pc L (.int x :: st) :=
  fun p e s m args below meth c C H locs ls hH hl hS => lv_ineg C.1 (C.2.1.trans hb) hd (k p e s m args below meth c C H locs ls hH hl hS)
theorem a_lneg (hb : V.2.1.2.1 = cc) {x : Int64} (hd : decode cc pc = .ok (.lneg, 1)) (k : AW V cs ss h (pc + 1) L (.long (-x) :: st)) : AW V cs ss h pc L (.long x :: st) :=
  fun p e s m args below meth c C H locs ls hH hl hS => lv_lneg C.1 (C.2.1.trans hb) hd (k p e s m args below meth c C H locs ls hH hl hS)
theorem a_ishl (hb : V.2.1.2.1 = cc) {x y : Int32} (hd : decode cc pc = .ok (.ishl, 1)) (k : AW V cs ss h (pc + 1) L (.int (x <<< (y &&& 31)) :: st)) : AW V cs ss h pc L (.int y :: .int x :: st) :=
  fun p e s m args below meth c C H locs ls hH hl hS => lv_ishl C.1 (C.2.1.trans hb) hd (k p e s m args below meth c C H locs ls hH hl hS)
theorem a_ishr (hb : V.2.1.2.1 = cc) {x y : Int32} (hd : decode cc pc = .ok (.ishr, 1)) (k : AW V cs ss h (pc + 1) L (.int (x >>> (y &&& 31)) :: st)) : AW V cs ss h pc L (.int y :: .int x :: st) :=
  fun p e s m args below meth c C H locs ls hH hl hS => lv_ishr C.1 (C.2.1.trans hb) hd (k p e s m args below meth c C H locs ls hH hl hS)
theorem a_i2l (hb : V.2.1.2.1 = cc) {x : Int32} {v : Int64} (hd : decode cc pc = .ok (.i2l, 1)) (hv : x.toInt64 = v) (k : AW V cs ss h (pc + 1) L (.long v :: st)) : AW V cs ss h pc L (.int x :: st) :=
  fun p e s m args below meth c C H locs ls hH hl hS => lv_i2l C.1 (C.2.1.trans hb) hd hv (k p e s m args below meth c C H locs ls hH hl hS)
theorem a_l2i (hb : V.2.1.2.1 = cc) {x : Int64} {v : Int32} (hd : decode cc pc = .ok (.l2i, 1)) (hv : x.toInt32 = v) (k : AW V cs ss h (pc + 1) L (.int v :: st)) : AW V cs ss h pc L (.long x :: st) :=
  fun p e s m args below meth c C H locs ls hH hl hS => lv_l2i C.1 (C.2.1.trans hb) hd hv (k p e s m args below meth c C H locs ls hH hl hS)
theorem a_i2b (hb : V.2.1.2.1 = cc) {x v : Int32} (hd : decode cc pc = .ok (.i2b, 1)) (hv : x.toInt8.toInt32 = v) (k : AW V cs ss h (pc + 1) L (.int v :: st)) : AW V cs ss h pc L (.int x :: st) :=
  fun p e s m args below meth c C H locs ls hH hl hS => lv_i2b C.1 (C.2.1.trans hb) hd hv (k p e s m args below meth c C H locs ls hH hl hS)
theorem a_i2c (hb : V.2.1.2.1 = cc) {x v : Int32} (hd : decode cc pc = .ok (.i2c, 1)) (hv : (x.toUInt32 % 65536).toInt32 = v) (k : AW V cs ss h (pc + 1) L (.int v :: st)) : AW V cs ss h pc L (.int x :: st) :=
  fun p e s m args below meth c C H locs ls hH hl hS => lv_i2c C.1 (C.2.1.trans hb) hd hv (k p e s m args below meth c C H locs ls hH hl hS)
theorem a_lshl (hb : V.2.1.2.1 = cc) {x v : Int64} {y : Int32} (hd : decode cc pc = .ok (.lshl, 1)) (hv : x <<< (y.toInt64 &&& 63) = v) (k : AW V cs ss h (pc + 1) L (.long v :: st)) : AW V cs ss h pc L (.int y :: .long x :: st) :=
  fun p e s m args below meth c C H locs ls hH hl hS => lv_lshl C.1 (C.2.1.trans hb) hd hv (k p e s m args below meth c C H locs ls hH hl hS)
theorem a_lshr (hb : V.2.1.2.1 = cc) {x v : Int64} {y : Int32} (hd : decode cc pc = .ok (.lshr, 1)) (hv : x >>> (y.toInt64 &&& 63) = v) (k : AW V cs ss h (pc + 1) L (.long v :: st)) : AW V cs ss h pc L (.int y :: .long x :: st) :=
  fun p e s m args below meth c C H locs ls hH hl hS => lv_lshr C.1 (C.2.1.trans hb) hd hv (k p e s m args below meth c C H locs ls hH hl hS)
theorem a_dup (hb : V.2.1.2.1 = cc) {va : Value} (hd : decode cc pc = .ok (.dup, 1)) (hva : va.category = 1) (k : AW V cs ss h (pc + 1) L (va :: va :: st)) : AW V cs ss h pc L (va :: st) :=
  fun p e s m args below meth c C H locs ls hH hl hS => lv_dup C.1 (C.2.1.trans hb) hd hva (k p e s m args below meth c C H locs ls hH hl hS)
theorem a_pop (hb : V.2.1.2.1 = cc) {va : Value} (hd : decode cc pc = .ok (.pop, 1)) (hva : va.category = 1) (k : AW V cs ss h (pc + 1) L (st)) : AW V cs ss h pc L (va :: st) :=
  fun p e s m args below meth c C H locs ls hH hl hS => lv_pop C.1 (C.2.1.trans hb) hd hva (k p e s m args below meth c C H locs ls hH hl hS)
theorem a_dup2_11 (hb : V.2.1.2.1 = cc) {va vb : Value} (hd : decode cc pc = .ok (.dup2, 1)) (hva : va.category = 1) (hvb : vb.category = 1) (k : AW V cs ss h (pc + 1) L (va :: vb :: va :: vb :: st)) : AW V cs ss h pc L (va :: vb :: st) :=
  fun p e s m args below meth c C H locs ls hH hl hS => lv_dup2_11 C.1 (C.2.1.trans hb) hd hva hvb (k p e s m args below meth c C H locs ls hH hl hS)
theorem a_lcmp (hb : V.2.1.2.1 = cc) {x y : Int64} (hd : decode cc pc = .ok (.lcmp, 1)) (k : AW V cs ss h (pc + 1) L (.int (lg_cmp x y) :: st)) : AW V cs ss h pc L (.long y :: .long x :: st) :=
  fun p e s m args below meth c C H locs ls hH hl hS => W.lcmp C.1 (C.2.1.trans hb) hd (k p e s m args below meth c C H locs ls hH hl hS)
theorem a_null (hb : V.2.1.2.1 = cc)  (hd : decode cc pc = .ok (.aconst_null, 1)) (k : AW V cs ss h (pc + 1) L (.null :: st)) : AW V cs ss h pc L (st) :=
  fun p e s m args below meth c C H locs ls hH hl hS => lv_null C.1 (C.2.1.trans hb) hd (k p e s m args below meth c C H locs ls hH hl hS)
theorem a_istore_n (hb : V.2.1.2.1 = cc) {n : Fin 4} {i : Nat} {x : Int32} {L' : List (Nat × Value)} (hd : decode cc pc = .ok (.istore_n n, 1)) (hi : (n : Nat) = i) (hn : i < V.2.1.2.2.1) (hL : (i, Value.int x) :: L.filter (fun q => !(q.1 == i) && !(q.1 + 1 == i && q.2.category == 2)) = L') (k : AW V cs ss h (pc + 1) L' st) : AW V cs ss h pc L (.int x :: st) :=
  fun p e s m args below meth c C H locs ls hH hl hS => lv_istore_n C.1 (C.2.1.trans hb) hd hi hl hn hL (fun ls hl => k p e s m args below meth c C H locs ls hH hl hS)
theorem a_istore (hb : V.2.1.2.1 = cc) {i : Nat} {x : Int32} {L' : List (Nat × Value)} (hd : decode cc pc = .ok (.istore i, 2)) (hn : i < V.2.1.2.2.1) (hL : (i, Value.int x) :: L.filter (fun q => !(q.1 == i) && !(q.1 + 1 == i && q.2.category == 2)) = L') (k : AW V cs ss h (pc + 2) L' st) : AW V cs ss h pc L (.int x :: st) :=
  fun p e s m args below meth c C H locs ls hH hl hS => lv_istore C.1 (C.2.1.trans hb) hd hl hn hL (fun ls hl => k p e s m args below meth c C H locs ls hH hl hS)
theorem a_astore_n (hb : V.2.1.2.1 = cc) {n : Fin 4} {i : Nat} {x : Nat} {L' : List (Nat × Value)} (hd : decode cc pc = .ok (.astore_n n, 1)) (hi : (n : Nat) = i) (hn : i < V.2.1.2.2.1) (hL : (i, Value.ref x) :: L.filter (fun q => !(q.1 == i) && !(q.1 + 1 == i && q.2.category == 2)) = L') (k : AW V cs ss h (pc + 1) L' st) : AW V cs ss h pc L (.ref x :: st) :=
  fun p e s m args below meth c C H locs ls hH hl hS => lv_astore_n C.1 (C.2.1.trans hb) hd hi hl hn hL (fun ls hl => k p e s m args below meth c C H locs ls hH hl hS)
theorem a_astore (hb : V.2.1.2.1 = cc) {i : Nat} {x : Nat} {L' : List (Nat × Value)} (hd : decode cc pc = .ok (.astore i, 2)) (hn : i < V.2.1.2.2.1) (hL : (i, Value.ref x) :: L.filter (fun q => !(q.1 == i) && !(q.1 + 1 == i && q.2.category == 2)) = L') (k : AW V cs ss h (pc + 2) L' st) : AW V cs ss h pc L (.ref x :: st) :=
  fun p e s m args below meth c C H locs ls hH hl hS => lv_astore C.1 (C.2.1.trans hb) hd hl hn hL (fun ls hl => k p e s m args below meth c C H locs ls hH hl hS)
theorem a_lstore_n (hb : V.2.1.2.1 = cc) {n : Fin 4} {i : Nat} {x : Int64} {L' : List (Nat × Value)} (hd : decode cc pc = .ok (.lstore_n n, 1)) (hi : (n : Nat) = i) (hn : i + 1 < V.2.1.2.2.1) (hL : (i, Value.long x) :: L.filter (fun q => !(q.1 == i) && (!(q.1 == i + 1) && !(q.1 + 1 == i && q.2.category == 2))) = L') (k : AW V cs ss h (pc + 1) L' st) : AW V cs ss h pc L (.long x :: st) :=
  fun p e s m args below meth c C H locs ls hH hl hS => lv_lstore_n C.1 (C.2.1.trans hb) hd hi hl hn hL (fun ls hl => k p e s m args below meth c C H locs ls hH hl hS)
theorem a_lstore (hb : V.2.1.2.1 = cc) {i : Nat} {x : Int64} {L' : List (Nat × Value)} (hd : decode cc pc = .ok (.lstore i, 2)) (hn : i + 1 < V.2.1.2.2.1) (hL : (i, Value.long x) :: L.filter (fun q => !(q.1 == i) && (!(q.1 == i + 1) && !(q.1 + 1 == i && q.2.category == 2))) = L') (k : AW V cs ss h (pc + 2) L' st) : AW V cs ss h pc L (.long x :: st) :=
  fun p e s m args below meth c C H locs ls hH hl hS => lv_lstore C.1 (C.2.1.trans hb) hd hl hn hL (fun ls hl => k p e s m args below meth c C H locs ls hH hl hS)
theorem a_iinc (hb : V.2.1.2.1 = cc) {i : Nat} {n : Int} {x v : Int32} {L' : List (Nat × Value)} (hd : decode cc pc = .ok (.iinc i n, 3)) (j : Nat) (hj : L[j]? = some (i, .int x)) (hv : x + Int32.ofInt n = v) (hn : i < V.2.1.2.2.1) (hL : (i, Value.int v) :: L.filter (fun q => !(q.1 == i) && !(q.1 + 1 == i && q.2.category == 2)) = L') (k : AW V cs ss h (pc + 3) L' st) : AW V cs ss h pc L st :=
  fun p e s m args below meth c C H locs ls hH hl hS => lv_iinc C.1 (C.2.1.trans hb) hd hl hj hv hn hL (fun ls hl => k p e s m args below meth c C H locs ls hH hl hS)
theorem a_if_eq (hb : V.2.1.2.1 = cc) {x : Int32} {off : Int} (tgt : Nat) (hd : decode cc pc = .ok (.ifCond .eq off, 3)) (ht : (pc : Int) + off = (tgt : Int)) (kt : x = 0 → AW V cs ss h tgt L st) (kf : ¬ x = 0 → AW V cs ss h (pc + 3) L st) : AW V cs ss h pc L (.int x :: st) :=
  fun p e s m args below meth c C H locs ls hH hl hS => lv_if_eq C.1 (C.2.1.trans hb) hd ht (fun q => kt q p e s m args below meth c C H locs ls hH hl hS) (fun q => kf q p e s m args below meth c C H locs ls hH hl hS)
theorem a_icmp_eq (hb : V.2.1.2.1 = cc) {x y : Int32} {off : Int} (tgt : Nat) (hd : decode cc pc = .ok (.if_icmp .eq off, 3)) (ht : (pc : Int) + off = (tgt : Int)) (kt : x = y → AW V cs ss h tgt L st) (kf : ¬ x = y → AW V cs ss h (pc + 3) L st) : AW V cs ss h pc L (.int y :: .int x :: st) :=
  fun p e s m args below meth c C H locs ls hH hl hS => lv_icmp_eq C.1 (C.2.1.trans hb) hd ht (fun q => kt q p e s m args below meth c C H locs ls hH hl hS) (fun q => kf q p e s m args below meth c C H locs ls hH hl hS)
theorem a_if_ne (hb : V.2.1.2.1 = cc) {x : Int32} {off : Int} (tgt : Nat) (hd : decode cc pc = .ok (.ifCond .ne off, 3)) (ht : (pc : Int) + off = (tgt : Int)) (kt : ¬ x = 0 → AW V cs ss h tgt L st) (kf : x = 0 → AW V cs ss h (pc + 3) L st) : AW V cs ss h pc L (.int x :: st) :=
  fun p e s m args below meth c C H locs ls hH hl hS => lv_if_ne C.1 (C.2.1.trans hb) hd ht (fun q => kt q p e s m args below meth c C H locs ls hH hl hS) (fun q => kf q p e s m args below meth c C H locs ls hH hl hS)
theorem a_icmp_ne (hb : V.2.1.2.1 = cc) {x y : Int32} {off : Int} (tgt : Nat) (hd : decode cc pc = .ok (.if_icmp .ne off, 3)) (ht : (pc : Int) + off = (tgt : Int)) (kt : ¬ x = y → AW V cs ss h tgt L st) (kf : x = y → AW V cs ss h (pc + 3) L st) : AW V cs ss h pc L (.int y :: .int x :: st) :=
  fun p e s m args below meth c C H locs ls hH hl hS => lv_icmp_ne C.1 (C.2.1.trans hb) hd ht (fun q => kt q p e s m args below meth c C H locs ls hH hl hS) (fun q => kf q p e s m args below meth c C H locs ls hH hl hS)
theorem a_if_lt (hb : V.2.1.2.1 = cc) {x : Int32} {off : Int} (tgt : Nat) (hd : decode cc pc = .ok (.ifCond .lt off, 3)) (ht : (pc : Int) + off = (tgt : Int)) (kt : x < 0 → AW V cs ss h tgt L st) (kf : ¬ x < 0 → AW V cs ss h (pc + 3) L st) : AW V cs ss h pc L (.int x :: st) :=
  fun p e s m args below meth c C H locs ls hH hl hS => lv_if_lt C.1 (C.2.1.trans hb) hd ht (fun q => kt q p e s m args below meth c C H locs ls hH hl hS) (fun q => kf q p e s m args below meth c C H locs ls hH hl hS)
theorem a_icmp_lt (hb : V.2.1.2.1 = cc) {x y : Int32} {off : Int} (tgt : Nat) (hd : decode cc pc = .ok (.if_icmp .lt off, 3)) (ht : (pc : Int) + off = (tgt : Int)) (kt : x < y → AW V cs ss h tgt L st) (kf : ¬ x < y → AW V cs ss h (pc + 3) L st) : AW V cs ss h pc L (.int y :: .int x :: st) :=
  fun p e s m args below meth c C H locs ls hH hl hS => lv_icmp_lt C.1 (C.2.1.trans hb) hd ht (fun q => kt q p e s m args below meth c C H locs ls hH hl hS) (fun q => kf q p e s m args below meth c C H locs ls hH hl hS)
theorem a_if_ge (hb : V.2.1.2.1 = cc) {x : Int32} {off : Int} (tgt : Nat) (hd : decode cc pc = .ok (.ifCond .ge off, 3)) (ht : (pc : Int) + off = (tgt : Int)) (kt : 0 ≤ x → AW V cs ss h tgt L st) (kf : ¬ 0 ≤ x → AW V cs ss h (pc + 3) L st) : AW V cs ss h pc L (.int x :: st) :=
  fun p e s m args below meth c C H locs ls hH hl hS => lv_if_ge C.1 (C.2.1.trans hb) hd ht (fun q => kt q p e s m args below meth c C H locs ls hH hl hS) (fun q => kf q p e s m args below meth c C H locs ls hH hl hS)
theorem a_icmp_ge (hb : V.2.1.2.1 = cc) {x y : Int32} {off : Int} (tgt : Nat) (hd : decode cc pc = .ok (.if_icmp .ge off, 3)) (ht : (pc : Int) + off = (tgt : Int)) (kt : y ≤ x → AW V cs ss h tgt L st) (kf : ¬ y ≤ x → AW V cs ss h (pc + 3) L st) : AW V cs ss h pc L (.int y :: .int x :: st) :=
  fun p e s m args below meth c C H locs ls hH hl hS => lv_icmp_ge C.1 (C.2.1.trans hb) hd ht (fun q => kt q p e s m args below meth c C H locs ls hH hl hS) (fun q => kf q p e s m args below meth c C H locs ls hH hl hS)
theorem a_if_gt (hb : V.2.1.2.1 = cc) {x : Int32} {off : Int} (tgt : Nat) (hd : decode cc pc = .ok (.ifCond .gt off, 3)) (ht : (pc : Int) + off = (tgt : Int)) (kt : 0 < x → AW V cs ss h tgt L st) (kf : ¬ 0 < x → AW V cs ss h (pc + 3) L st) : AW V cs ss h pc L (.int x :: st) :=
  fun p e s m args below meth c C H locs ls hH hl hS => lv_if_gt C.1 (C.2.1.trans hb) hd ht (fun q => kt q p e s m args below meth c C H locs ls hH hl hS) (fun q => kf q p e s m args below meth c C H locs ls hH hl hS)
theorem a_icmp_gt (hb : V.2.1.2.1 = cc) {x y : Int32} {off : Int} (tgt : Nat) (hd : decode cc pc = .ok (.if_icmp .gt off, 3)) (ht : (pc : Int) + off = (tgt : Int)) (kt : y < x → AW V cs ss h tgt L st) (kf : ¬ y < x → AW V cs ss h (pc + 3) L st) : AW V cs ss h pc L (.int y :: .int x :: st) :=
  fun p e s m args below meth c C H locs ls hH hl hS => lv_icmp_gt C.1 (C.2.1.trans hb) hd ht (fun q => kt q p e s m args below meth c C H locs ls hH hl hS) (fun q => kf q p e s m args below meth c C H locs ls hH hl hS)
theorem a_if_le (hb : V.2.1.2.1 = cc) {x : Int32} {off : Int} (tgt : Nat) (hd : decode cc pc = .ok (.ifCond .le off, 3)) (ht : (pc : Int) + off = (tgt : Int)) (kt : x ≤ 0 → AW V cs ss h tgt L st) (kf : ¬ x ≤ 0 → AW V cs ss h (pc + 3) L st) : AW V cs ss h pc L (.int x :: st) :=
  fun p e s m args below meth c C H locs ls hH hl hS => lv_if_le C.1 (C.2.1.trans hb) hd ht (fun q => kt q p e s m args below meth c C H locs ls hH hl hS) (fun q => kf q p e s m args below meth c C H locs ls hH hl hS)
theorem a_icmp_le (hb : V.2.1.2.1 = cc) {x y : Int32} {off : Int} (tgt : Nat) (hd : decode cc pc = .ok (.if_icmp .le off, 3)) (ht : (pc : Int) + off = (tgt : Int)) (kt : x ≤ y → AW V cs ss h tgt L st) (kf : ¬ x ≤ y → AW V cs ss h (pc + 3) L st) : AW V cs ss h pc L (.int y :: .int x :: st) :=
  fun p e s m args below meth c C H locs ls hH hl hS => lv_icmp_le C.1 (C.2.1.trans hb) hd ht (fun q => kt q p e s m args below meth c C H locs ls hH hl hS) (fun q => kf q p e s m args below meth c C H locs ls hH hl hS)
theorem a_goto (hb : V.2.1.2.1 = cc) {off : Int} (tgt : Nat) (hd : decode cc pc = .ok (.goto off, 3)) (ht : (pc : Int) + off = (tgt : Int)) (k : AW V cs ss h tgt L st) : AW V cs ss h pc L st :=
  fun p e s m args below meth c C H locs ls hH hl hS => lv_goto C.1 (C.2.1.trans hb) hd ht (k p e s m args below meth c C H locs ls hH hl hS)
theorem a_lookup (hb : V.2.1.2.1 = cc) {dflt : Int} {ps : Array (Int × Int)} {len : Nat} {x : Int32} {off : Int} (tgt : Nat) (hd : decode cc pc = .ok (.lookupswitch dflt ps, len)) (hp : (ps.toList.zip (ps.toList.drop 1)).all (fun (a, next) => a.1 < next.1) = true) (ho : Op.lookupswitch.offset ps.toList dflt x.toInt = off) (ht : (pc : Int) + off = (tgt : Int)) (k : AW V cs ss h tgt L st) : AW V cs ss h pc L (.int x :: st) :=
  fun p e s m args below meth c C H locs ls hH hl hS => lv_lookup C.1 (C.2.1.trans hb) hd hp ho ht (k p e s m args below meth c C H locs ls hH hl hS)
theorem a_tableOut (hb : V.2.1.2.1 = cc) {dflt lo hi : Int} {offs : Array Int} {len : Nat} {x : Int32} (tgt : Nat) (hd : decode cc pc = .ok (.tableswitch dflt lo hi offs, len)) (ho : x.toInt < lo ∨ hi < x.toInt) (ht : (pc : Int) + dflt = (tgt : Int)) (k : AW V cs ss h tgt L st) : AW V cs ss h pc L (.int x :: st) :=
  fun p e s m args below meth c C H locs ls hH hl hS => lv_tableOut C.1 (C.2.1.trans hb) hd ho ht (k p e s m args below meth c C H locs ls hH hl hS)
theorem a_tableIn (hb : V.2.1.2.1 = cc) {dflt lo hi : Int} {offs : Array Int} {len : Nat} {x : Int32} {off : Int} (tgt : Nat) (hd : decode cc pc = .ok (.tableswitch dflt lo hi offs, len)) (h1 : ¬ x.toInt < lo) (h2 : ¬ hi < x.toInt) (ho : offs[(x.toInt - lo).toNat]? = some off) (ht : (pc : Int) + off = (tgt : Int)) (k : AW V cs ss h tgt L st) : AW V cs ss h pc L (.int x :: st) :=
  fun p e s m args below meth c C H locs ls hH hl hS => lv_tableIn C.1 (C.2.1.trans hb) hd h1 h2 ho ht (k p e s m args below meth c C H locs ls hH hl hS)
theorem a_ifnull (hb : V.2.1.2.1 = cc) {x : Nat} {off : Int} (hd : decode cc pc = .ok (.ifnull off, 3)) (k : AW V cs ss h (pc + 3) L st) : AW V cs ss h pc L (.ref x :: st) :=
  fun p e s m args below meth c C H locs ls hH hl hS => lv_ifnull C.1 (C.2.1.trans hb) hd (k p e s m args below meth c C H locs ls hH hl hS)
theorem a_ifnonnull (hb : V.2.1.2.1 = cc) {x : Nat} {off : Int} (tgt : Nat) (hd : decode cc pc = .ok (.ifnonnull off, 3)) (ht : (pc : Int) + off = (tgt : Int)) (k : AW V cs ss h tgt L st) : AW V cs ss h pc L (.ref x :: st) :=
  fun p e s m args below meth c C H locs ls hH hl hS => lv_ifnonnull C.1 (C.2.1.trans hb) hd ht (k p e s m args below meth c C H locs ls hH hl hS)
theorem a_topi {x : Int32} (k : ∀ y : Int32, y = x → AW V cs ss h pc L (.int y :: st)) : AW V cs ss h pc L (.int x :: st) := k x rfl
theorem a_topl {x : Int64} (k : ∀ y : Int64, y = x → AW V cs ss h pc L (.long y :: st)) : AW V cs ss h pc L (.long x :: st) := k x rfl
theorem a_ldc2 (hb : V.2.1.2.1 = cc) {index : Nat} {v : Int64} (hd : decode cc pc = .ok (.ldc2_w index, 3)) (hc : Jvm.Cond.constantLong V.2.1.1.cls index v ∈ aw_wd) (k : AW V cs ss h (pc + 3) L (.long v :: st)) : AW V cs ss h pc L st :=
  fun p e s m args below meth c C H locs ls hH hl hS => lv_ldc2 C.1 (C.2.1.trans hb) C.2.2.2.2.2.1 (C.2.2.2.2.1 _ hc) hd (k p e s m args below meth c C H locs ls hH hl hS)
/-- the ends -/
theorem a_ireturn (hb : V.2.1.2.1 = cc) {Po : Option Value → AH → Prop} {v : Int32} {ty : FieldType} (hz : V.2.2.2 = aw_Z V.1 Po V.2.2.1) (hd : decode cc pc = .ok (.ireturn, 1)) (hr : V.2.1.2.2.2 = some ty) (hn : narrow ty (.int v) = .int v) (h1 : cs ≤ V.2.2.1.cells) (h2 : ss ≤ V.2.2.1.slots) (hp : Po (some (.int v)) h) : AW V cs ss h pc L [.int v] := by
  intro p e s m args below meth c C H locs ls hH hl hS
  rw [hz]
  refine W.widen h1 h2 ?_
  exact W.zret C.1 (C.2.1.trans hb) (C.2.2.2.1.trans hr) hn (fun t ht _ => ⟨⟨_, h, rfl, hp, by rw [ht]; exact hH⟩, hS.F ht⟩) hS.2.2 hd C.2.2.2.2.2.2.1
theorem a_lreturn (hb : V.2.1.2.1 = cc) {Po : Option Value → AH → Prop} {v : Int64} (hz : V.2.2.2 = aw_Z V.1 Po V.2.2.1) (hd : decode cc pc = .ok (.lreturn, 1)) (hr : V.2.1.2.2.2 = some .long) (h1 : cs ≤ V.2.2.1.cells) (h2 : ss ≤ V.2.2.1.slots) (hp : Po (some (.long v)) h) : AW V cs ss h pc L [.long v] := by
  intro p e s m args below meth c C H locs ls hH hl hS
  rw [hz]
  refine W.widen h1 h2 ?_
  exact W.lret C.1 (C.2.1.trans hb) (C.2.2.2.1.trans hr) (fun t ht _ => ⟨⟨_, h, rfl, hp, by rw [ht]; exact hH⟩, hS.F ht⟩) hS.2.2 hd C.2.2.2.2.2.2.1
theorem a_return (hb : V.2.1.2.1 = cc) {Po : Option Value → AH → Prop} (hz : V.2.2.2 = aw_Z V.1 Po V.2.2.1) (hd : decode cc pc = .ok (.return_, 1)) (hr : V.2.1.2.2.2 = none) (h1 : cs ≤ V.2.2.1.cells) (h2 : ss ≤ V.2.2.1.slots) (hp : Po none h) : AW V cs ss h pc L [] := by
  intro p e s m args below meth c C H locs ls hH hl hS
  rw [hz]
  refine W.widen h1 h2 ?_
  exact W.vret C.1 (C.2.1.trans hb) (C.2.2.2.1.trans hr) (fun t ht _ => ⟨⟨_, h, rfl, hp, by rw [ht]; exact hH⟩, hS.F ht⟩) hS.2.2 hd C.2.2.2.2.2.2.1
theorem a_areturn (hb : V.2.1.2.1 = cc) {Po : Option Value → AH → Prop} {a : Nat} {ty : FieldType} (hz : V.2.2.2 = aw_Z V.1 Po V.2.2.1) (hd : decode cc pc = .ok (.areturn, 1)) (hr : V.2.1.2.2.2 = some ty) (ht : (∃ n, ty = .object n) ∨ ∃ t, ty = .array t) (h1 : cs ≤ V.2.2.1.cells) (h2 : ss ≤ V.2.2.1.slots) (hp : Po (some (.ref a)) h) : AW V cs ss h pc L [.ref a] := by
  intro p e s m args below meth c C H locs ls hH hl hS
  rw [hz]
  refine W.widen h1 h2 ?_
  exact W.aret C.1 (C.2.1.trans hb) (C.2.2.2.1.trans hr) ht (Or.inr ⟨a, rfl⟩) (fun t ht _ => ⟨⟨_, h, rfl, hp, by rw [ht]; exact hH⟩, hS.F ht⟩) hS.2.2 hd C.2.2.2.2.2.2.1
end AWR
