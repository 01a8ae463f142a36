/-! ===== THE FRAME, 8: new int[n][k] ===== -/
/-- the outer row, i of its places laid -/
def gCl (cA : ClassId) (N b i : Nat) : Cell := arrV cA N (fun j => if j < i then .ref (b + 1 + j) else .null)
/-- a state in which i inner rows are made -/
def gST (s : State) (cA cI : ClassId) (N K : Nat) : Nat → State
  | 0 => s.pushCell (gCl cA N s.heap.size 0)
  | i + 1 => ((gST s cA cI N K i).pushCell (arrV cI K (fun _ => .int 0))).setCell s.heap.size (gCl cA N s.heap.size (i + 1))
theorem gCl_s (cA : ClassId) (N b i : Nat) : (gCl cA N b i).setSlot i (.ref (b + 1 + i)) = gCl cA N b (i + 1) := by
  unfold gCl
  rw [arrV_store]
  congr 1
  funext j
  unfold updV
  by_cases e : j = i
  · subst e; rw [if_pos rfl, if_pos (Nat.lt_succ_self _)]
  · rw [if_neg e]
    show (if j < i then Value.ref (b + 1 + j) else Value.null) = if j < i + 1 then Value.ref (b + 1 + j) else Value.null
    by_cases l : j < i
    · rw [if_pos l, if_pos (by omega)]
    · rw [if_neg l, if_neg (by omega)]
section GST
variable {s : State} {cA cI : ClassId} {N K : Nat}
theorem gST_f : ∀ i, (gST s cA cI N K i).heap.size = s.heap.size + 1 + i ∧ (gST s cA cI N K i).heap[s.heap.size]? = some (gCl cA N s.heap.size i) ∧ (gST s cA cI N K i).vm = s.vm ∧ (gST s cA cI N K i).slotsUsed = s.slotsUsed + N + i * K
  | 0 => ⟨by simp [gST], by simp [gST], rfl, by simp [gST, gCl, arrV]⟩
  | i + 1 => by
    obtain ⟨a, b, c, d⟩ := gST_f i
    have hlt : s.heap.size < (gST s cA cI N K i).heap.size := by omega
    have hb' : ((gST s cA cI N K i).pushCell (arrV cI K (fun _ => .int 0))).heap[s.heap.size]? = some (gCl cA N s.heap.size i) := by rw [State.heap_pushCell_of_lt (h := hlt)]; exact b
    refine ⟨?_, State.heap_setCell_self hb', by simp [gST, c], ?_⟩
    · simp [gST, State.setCell, a]; omega
    · simp [gST, d, arrV, Nat.succ_mul]; omega
theorem gST_o {a : Nat} (ha : a < s.heap.size) : ∀ i, (gST s cA cI N K i).heap[a]? = s.heap[a]?
  | 0 => State.heap_pushCell_of_lt _ _ ha
  | i + 1 => by
    have f1 := (gST_f (s := s) (cA := cA) (cI := cI) (N := N) (K := K) i).1
    show (((gST s cA cI N K i).pushCell _).setCell s.heap.size _).heap[a]? = _
    rw [State.heap_setCell_other (Nat.ne_of_gt ha), State.heap_pushCell_of_lt (h := show a < _ by rw [f1]; omega)]
    exact gST_o ha i
theorem gST_i : ∀ i j, j < i → (gST s cA cI N K i).heap[s.heap.size + 1 + j]? = some (arrV cI K (fun _ => .int 0))
  | 0, _, h => absurd h (Nat.not_lt_zero _)
  | i + 1, j, h => by
    have f1 := (gST_f (s := s) (cA := cA) (cI := cI) (N := N) (K := K) i).1
    show (((gST s cA cI N K i).pushCell _).setCell s.heap.size _).heap[s.heap.size + 1 + j]? = _
    rw [State.heap_setCell_other (show s.heap.size ≠ s.heap.size + 1 + j by omega)]
    by_cases hj : j < i
    · rw [State.heap_pushCell_of_lt (h := show s.heap.size + 1 + j < _ by rw [f1]; omega)]
      exact gST_i i j hj
    · obtain rfl : j = i := by omega
      rw [← f1]; simp
theorem gST_t {f : JFrame} : ∀ i, gST (s.setTop f) cA cI N K i = (gST s cA cI N K i).setTop f
  | 0 => rfl
  | i + 1 => by simp only [gST, gST_t i, State.heap_setTop, State.pushCell_setTop, State.setCell_setTop]
end GST
section GWP
variable {E : CtlPost} {e : Env} {d : Bool} {acts : List Action} {s : State}
theorem g_new {c comp : ClassId} {k : Class} {ty : FieldType} {len : Nat} {z : Value} (hk : s.vm.classes[c]? = some k) (hkind : k.kind = .array comp ty) (hl : ¬ len > e.platform.arrayLengthLimit) (hh : ¬ len * componentBytes ty > e.platform.maxHeapBytes) (hfit : fits ty z = true) (hdef : z.isDefault = true) {Q : Addr → Pre} (h1 : s.heap.size < e.platform.maxCells) (h2 : s.slotsUsed + len ≤ e.platform.maxSlots) (hq : Q s.heap.size d acts (s.pushCell (arrV c len (fun _ => z)))) : wp (Jvm.newArray c len z) Q E e d acts s := by
  rw [← arrV_new] at hq
  have hf : ∀ i v, (Array.replicate len z)[i]? = some v → s.fitsSlot c .none i v = true := fun i v hv => by
    rw [Array.getElem?_replicate] at hv
    split at hv
    · cases hv; simp [State.fitsSlot, State.slotType?, hk, hkind, hfit]
    · cases hv
  have ha : allocActs (Array.replicate len z) s.heap.size acts = acts := by
    unfold allocActs
    rw [if_pos (by rw [Array.all_replicate]; split <;> simp [hdef])]
  simp only [Jvm.newArray, Jvm.arrayFits, wp_bind', Jvm.W.ask, Jvm.W.ite, hl, if_false, wp_pure', Jvm.W.theClass, hk, hkind, hh, Jvm.W.alloc, Jvm.W.stop, Option.some.injEq, exists_eq_left', Array.size_replicate, ha]
  rw [if_neg (by omega)]
  exact ⟨h1, h2, hf, hq⟩
theorem g_in {cI cc : ClassId} {kc : Class} {m : Int32} (hk : s.vm.classes[cI]? = some kc) (hkind : kc.kind = .array cc .int) (hm : ¬ m < 0) (hl : ¬ m.toNatClampNeg > e.platform.arrayLengthLimit) (hh : ¬ m.toNatClampNeg * componentBytes .int > e.platform.maxHeapBytes) (h1 : s.heap.size < e.platform.maxCells) (h2 : s.slotsUsed + m.toNatClampNeg ≤ e.platform.maxSlots) {Q : Addr → Pre} (hq : Q s.heap.size d acts (s.pushCell (arrV cI m.toNatClampNeg (fun _ => .int 0)))) : wp (Jvm.Op.multianewarray.make cI [m]) Q E e d acts s := by
  rw [Jvm.Op.multianewarray.make]
  simp only [wp_bind', Jvm.W.ite, hm, if_false, wp_pure', Jvm.W.theClass, hk, hkind, Option.some.injEq, exists_eq_left']
  exact g_new hk hkind hl hh rfl rfl h1 h2 hq
theorem g_out {cA cI cc : ClassId} {k kc : Class} {n m : Int32} (hk : s.vm.classes[cA]? = some k) (hkind : k.kind = .array cI (.array .int)) (hkc : s.vm.classes[cI]? = some kc) (hkindc : kc.kind = .array cc .int) (hn : ¬ n < 0) (hm : ¬ m < 0) (hl1 : ¬ n.toNatClampNeg > e.platform.arrayLengthLimit) (hh1 : ¬ n.toNatClampNeg * componentBytes (.array .int) > e.platform.maxHeapBytes) (hl2 : ¬ m.toNatClampNeg > e.platform.arrayLengthLimit) (hh2 : ¬ m.toNatClampNeg * componentBytes .int > e.platform.maxHeapBytes) (hc : s.heap.size + 1 + n.toNatClampNeg ≤ e.platform.maxCells) (hs : s.slotsUsed + n.toNatClampNeg + n.toNatClampNeg * m.toNatClampNeg ≤ e.platform.maxSlots) {Q : Addr → Pre} (hq : ∀ d' acts', Q s.heap.size d' acts' (gST s cA cI n.toNatClampNeg m.toNatClampNeg n.toNatClampNeg)) : wp (Jvm.Op.multianewarray.make cA [n, m]) Q E e d acts s := by
  have hfind : ([m].find? (· < 0)) = none := by simp [hm]
  rw [Jvm.Op.multianewarray.make]
  simp only [wp_bind', Jvm.W.ite, hn, if_false, wp_pure', Jvm.W.theClass, hk, hkind, Option.some.injEq, exists_eq_left']
  refine g_new hk hkind hl1 hh1 rfl rfl (by omega) (by omega) ?_
  have e0 : (arrV cA n.toNatClampNeg (fun _ => .null)) = gCl cA n.toNatClampNeg s.heap.size 0 := congrArg (arrV cA _) (funext fun j => (if_neg (Nat.not_lt_zero j)).symm)
  rw [e0]
  simp only [hfind]
  rw [ite_self, wp_bind', Std.Legacy.Range.forIn_eq_forIn_range', show ([:n.toNatClampNeg] : Std.Legacy.Range).size = n.toNatClampNeg by simp [Std.Legacy.Range.size]]
  show wp (forIn (List.range' 0 n.toNatClampNeg 1) PUnit.unit _) _ E e d acts _
  refine wp_forIn_inv (fun rest s' => ∃ i, i ≤ n.toNatClampNeg ∧ rest = List.range' i (n.toNatClampNeg - i) ∧ s' = gST s cA cI n.toNatClampNeg m.toNatClampNeg i) _ _ ⟨0, Nat.zero_le _, rfl, rfl⟩ ?_ ?_
  · rintro x rest s' d' acts' Q' ⟨i, hi, hl, rfl⟩ hnext
    have hlt : i < n.toNatClampNeg := Nat.lt_of_not_le (fun h => by rw [show n.toNatClampNeg - i = 0 by omega] at hl; cases hl)
    rw [show n.toNatClampNeg - i = (n.toNatClampNeg - (i + 1)) + 1 by omega, List.range'_succ] at hl
    obtain ⟨rfl, hrest⟩ := List.cons.inj hl
    obtain ⟨f1, f2, f3, f4⟩ := gST_f (s := s) (cA := cA) (cI := cI) (N := n.toNatClampNeg) (K := m.toNatClampNeg) x
    have hmul : x * m.toNatClampNeg + m.toNatClampNeg ≤ n.toNatClampNeg * m.toNatClampNeg := by
      rw [← Nat.succ_mul]; exact Nat.mul_le_mul_right _ hlt
    have hlt0 : s.heap.size < (gST s cA cI n.toNatClampNeg m.toNatClampNeg x).heap.size := by rw [f1]; omega
    simp only [wp_bind']
    refine g_in (by rw [f3]; exact hkc) hkindc hm hl2 hh2 (by rw [f1]; omega) (by rw [f4]; omega) ?_
    simp only [wp_bind', Jvm.W.writeLoc, wp_pure']
    refine ⟨gCl cA n.toNatClampNeg s.heap.size x, by rw [State.heap_pushCell_of_lt (h := hlt0)]; exact f2, by show (VmData.none : VmData) ≠ VmData.unknown; simp, by rw [show (gCl cA n.toNatClampNeg s.heap.size x).slots.size = n.toNatClampNeg from arrV_size _ _ _]; exact hlt, ?_, hnext _ _ _ ⟨x + 1, hlt, hrest, ?_⟩⟩
    · show State.fitsSlot _ cA .none _ _ = true
      simp [State.fitsSlot, State.slotType?, f3, hk, hkind, fits]
    · rw [f1, gCl_s]; rfl
  · rintro s' d' acts' ⟨i, hi, hl, rfl⟩
    have hiN : i = n.toNatClampNeg := by
      by_cases h : i < n.toNatClampNeg
      · rw [show n.toNatClampNeg - i = (n.toNatClampNeg - (i + 1)) + 1 by omega, List.range'_succ] at hl; cases hl
      · omega
    subst hiN
    simp only [wp_pure']
    exact hq _ _
end GWP
section GSD
variable {p : Program} {l : Launch} {e : Env} {R : Room} {s : State} {m : MethodId} {args : Array Value} {below : List Frame} {meth : Method} {c : Code} {T : State} {locs : List Loc} {cells slots : Nat}
theorem g_stand (X : Stand p l e R s m args below meth c T locs cells slots) (cA cI : ClassId) (N K : Nat) : ∀ i, ∃ J : List Loc, (∀ x ∈ J, x.base = T.heap.size) ∧ Stand p l e R s m args below meth c (gST T cA cI N K i) (locs ++ J) (cells + 1 + i) (slots + N + i * K)
  | 0 => by
    have h := X.pushed (gCl cA N T.heap.size 0)
    rw [show (gCl cA N T.heap.size 0).slots.size = N from arrV_size _ _ _] at h
    exact ⟨[], fun x hx => absurd hx List.not_mem_nil, by rw [List.append_nil, Nat.zero_mul]; exact h⟩
  | i + 1 => by
    obtain ⟨J, hJ, Xi⟩ := g_stand X cA cI N K i
    obtain ⟨f1, f2, f3, f4⟩ := gST_f (s := T) (cA := cA) (cI := cI) (N := N) (K := K) i
    have hcell : ((gST T cA cI N K i).pushCell (arrV cI K (fun _ => .int 0))).heap[T.heap.size]? = some (gCl cA N T.heap.size i) := by rw [State.heap_pushCell_of_lt (h := show T.heap.size < _ by rw [f1]; omega)]; exact f2
    have h := (Xi.pushed (arrV cI K (fun _ => .int 0))).stored hcell i (.ref (T.heap.size + 1 + i))
    rw [arrV_size, gCl_s] at h
    refine ⟨J ++ [⟨T.heap.size, i⟩], fun x hx => ?_, ?_⟩
    · rcases List.mem_append.mp hx with hx | hx
      · exact hJ x hx
      · rw [List.mem_singleton.mp hx]
    · rw [← List.append_assoc, show slots + N + (i + 1) * K = slots + N + i * K + K by rw [Nat.succ_mul]; omega]
      exact h
theorem g_multi (X : Stand p l e R s m args below meth c T locs cells slots) (hexec : p.tables.exec = Jvm.exec) {own : String} {index : Nat} (hown : s.vm.findClass own = some m.cls) (hlink : (Cond.classLink own index "[[I").before args s = true) (hover : (Cond.arrayOver (.array .int)).before #[] s = true) (harr : (Cond.arrayClass .int).before args s = true) {g : JFrame} (hg : g.method = m) (hdg : decode c.code g.pc = .ok (.multianewarray index 2, 4)) {n k : Int32} {rest : List Value} (hst : g.stack = .int k :: .int n :: rest) (hn : ¬ n < 0) (hk : ¬ k < 0) (b1 : n.toNatClampNeg ≤ 1000) (b2 : k.toNatClampNeg ≤ 1000) (hcells : cells + (1 + n.toNatClampNeg) ≤ R.cells) (hslots : slots + (n.toNatClampNeg + n.toNatClampNeg * k.toNatClampNeg) ≤ R.slots) :
    ∃ (vm' : Vm) (cA cI : ClassId), s.vm.findClass "[[I" = some cA ∧ s.vm.findClass "[I" = some cI ∧ Stand p l e R s m args below meth c (gST (T.setVm vm') cA cI n.toNatClampNeg k.toNatClampNeg n.toNatClampNeg) locs (cells + 1 + n.toNatClampNeg) (slots + n.toNatClampNeg + n.toNatClampNeg * k.toNatClampNeg) ∧
      ∀ target, Steps p.tables e below ((gST (T.setVm vm') cA cI n.toNatClampNeg k.toNatClampNeg n.toNatClampNeg).setTop { g with pc := g.pc + 4, stack := .ref T.heap.size :: rest }) target → Steps p.tables e below (T.setTop g) target := by
  subst hg
  have hpl : e.platform.magicAccessors = ({} : Platform).magicAccessors := by rw [X.admits.platform]
  have s1 : (FieldType.array .int).toString = "[I" := by decide +kernel
  have s2 : "[" ++ (FieldType.array .int).toString = "[[I" := by decide +kernel
  obtain ⟨comp, cA, kA, hcomp, hidx, hkA, hkindA, hnameA⟩ := arrayOverA_spec hover
  rw [s1] at hcomp
  rw [s2] at hnameA
  obtain ⟨comp', kC, cc, hcomp', hkC, hkindC⟩ := Cond.arrayClass_spec harr
  have ec : comp' = comp := Option.some.inj (hcomp'.symm.trans (by rw [show ("[" ++ FieldType.int.toString : String) = "[I" by decide +kernel]; exact hcomp))
  subst ec
  obtain ⟨c0, hfc0, hcl⟩ := Cond.classLink_spec hown hlink e.platform hpl
  cases hnameA.symm.trans hfc0
  obtain ⟨hg1, hwarm, hready⟩ := State.classEntry (e := e) X.warmed hcl
  generalize T.vm.noted g.method.cls index (.cls cA) = vm' at hg1 hwarm hready
  obtain ⟨kA', hkA', heA⟩ := hwarm.alike.2.2 _ _ hkA
  obtain ⟨kC', hkC', heC⟩ := hwarm.alike.2.2 _ _ hkC
  have X1 := X.noted hwarm
  obtain ⟨hr1, hr2⟩ := X.roomAbove hcells hslots
  obtain ⟨J, hJ, XF⟩ := g_stand X1 cA comp' n.toNatClampNeg k.toNatClampNeg n.toNatClampNeg
  have XF' := XF.dropFresh (fun x hx => by rw [hJ x hx]; exact X.heapGrown)
  refine ⟨vm', cA, comp', hnameA, hcomp, XF', fun target hrest => ?_⟩
  have hl1 : ¬ n.toNatClampNeg > e.platform.arrayLengthLimit := by rw [Launch.admits_arrayLengthLimit X.admits]; omega
  have hh1 : ¬ n.toNatClampNeg * componentBytes (.array .int) > e.platform.maxHeapBytes := by
    rw [Launch.admits_maxHeapBytes X.admits]; show ¬ n.toNatClampNeg * 4 > 536870912; omega
  have hl2 : ¬ k.toNatClampNeg > e.platform.arrayLengthLimit := by rw [Launch.admits_arrayLengthLimit X.admits]; omega
  have hh2 : ¬ k.toNatClampNeg * componentBytes .int > e.platform.maxHeapBytes := by rw [Launch.admits_maxHeapBytes X.admits]; show ¬ k.toNatClampNeg * 4 > 536870912; omega
  jvm_step X.here [hexec, hdg]
  simp only [Jvm.Op.multianewarray.sem, wp_bind', Jvm.W.resolveClassAt_links (State.method?_setTop g X.here.top) hg1]
  rw [Jvm.W.popN, if_neg (by decide)]
  refine ⟨g, State.topJava?_setTop' (s := T.setVm vm') g X.here.top, [.int n, .int k], rest, rfl, hst, ?_⟩
  simp only [List.mapM_cons, List.mapM_nil, wp_bind', wp_pure']
  refine g_out (k := kA') (kc := kC') (cI := comp') (cc := cc) hkA' (by rw [heA]; exact hkindA) hkC' (by rw [heC]; exact hkindC) hn hk hl1 hh1 hl2 hh2 (by show T.heap.size + 1 + _ ≤ _; omega) (by show T.slotsUsed + _ + _ ≤ _; omega) (fun d' acts' => ?_)
  have eS : ((T.setTop g).setVm vm').setTop { g with stack := rest } = (T.setVm vm').setTop { g with stack := rest } := by
    show ((T.setVm vm').setTop g).setTop _ = _
    rw [State.setTop_setTop]
  rw [eS, gST_t]
  simp only [wp_bind', Jvm.W.mark, Jvm.W.pushRef, State.topJava?_setTop' _ XF'.here.top, Option.some.injEq, exists_eq_left', State.setTop_setTop, State.heap_setTop]
  intro acts
  simp [jvm, XF'.here.top]
  exact hrest
end GSD
/-- a grid made: the row of rows, and the rows behind it -/
def grH (h : AH) (N K : Nat) : AH := (hN h + 1 + N, fun a => if a = hN h then (20, N) else if hN h < a ∧ a < hN h + 1 + N then (14, K) else hT h a, fun a => if hN h ≤ a ∧ a < hN h + 1 + N then fun _ => 0 else hI h a, fun a => if hN h ≤ a ∧ a < hN h + 1 + N then fun _ => 0 else hJ h a, fun a => if a = hN h then fun j => if j < N then some (hN h + 1 + j) else none else if hN h < a ∧ a < hN h + 1 + N then fun _ => none else hQ h a)
section GR
variable {h : AH} {N K : Nat}
theorem gr_t0 : hT (grH h N K) (hN h) = (20, N) := if_pos rfl
theorem gr_t1 {j : Nat} (hj : j < N) : hT (grH h N K) (hN h + 1 + j) = (14, K) := (if_neg (by omega)).trans (if_pos (by omega))
theorem gr_t {a : Nat} (ha : a < hN h ∨ hN h + 1 + N ≤ a) : hT (grH h N K) a = hT h a := (if_neg (by omega)).trans (if_neg (by omega))
theorem gr_i {a : Nat} (ha : a < hN h ∨ hN h + 1 + N ≤ a) : hI (grH h N K) a = hI h a := if_neg (by omega)
theorem gr_j {a : Nat} (ha : a < hN h ∨ hN h + 1 + N ≤ a) : hJ (grH h N K) a = hJ h a := if_neg (by omega)
theorem gr_q {a : Nat} (ha : a < hN h ∨ hN h + 1 + N ≤ a) : hQ (grH h N K) a = hQ h a := (if_neg (by omega)).trans (if_neg (by omega))
theorem gr_q0 {j : Nat} (hj : j < N) : hQ (grH h N K) (hN h) j = some (hN h + 1 + j) := by
  show (if hN h = hN h then fun j => if j < N then some (hN h + 1 + j) else none else _) j = _
  rw [if_pos rfl]
  exact if_pos hj
theorem gr_i1 {a : Nat} (h1 : hN h ≤ a) (h2 : a < hN h + 1 + N) : hI (grH h N K) a = fun _ => 0 := if_pos ⟨h1, h2⟩
end GR
theorem a_multi {V : VV} {cs ss : Nat} {h : AH} {pc : Nat} {L : List (Nat × Value)} {st : List Value} {cc : ByteArray} (hb : V.2.1.2.1 = cc) {idx N K : Nat} {n k : Int32} (hd : decode cc pc = .ok (.multianewarray idx 2, 4)) (w1 : Cond.classLink V.2.1.1.cls idx "[[I" ∈ aw_wd) (w3 : Cond.arrayClass .int ∈ aw_wd) (hn : ¬ n < 0) (hk : ¬ k < 0) (hN' : n.toNatClampNeg = N) (hK' : k.toNatClampNeg = K) (hs : N ≤ 1000 ∧ K ≤ 1000) (hC : cs + (1 + N) ≤ V.2.2.1.cells ∧ ss + (N + N * K) ≤ V.2.2.1.slots) (kk : AW V (cs + 1 + N) (ss + N + N * K) (grH h N K) (pc + 4) L (.ref (hN h) :: st)) : AW V cs ss h pc L (.int k :: .int n :: st) := by
  subst hN'
  subst hK'
  intro p e s m args below meth c C H locs ls hH hl hS T hT' X
  have hts := C.2.2.2.2.1
  have hKK := C.2.2.2.2.2.2.2.2.1
  have hSr := C.2.2.2.2.2.2.2.2.2.2.1
  obtain ⟨vm₁, cA, comp, hfA, hfC, X1, step⟩ := g_multi X C.1 C.2.2.2.2.2.1 (hts _ w1) hSr.2.2.2.2.2 (hts _ w3) (g := F0 m pc ls (.int k :: .int n :: st)) rfl (by rw [C.2.1, hb]; exact hd) (rest := st) rfl hn hk hs.1 hs.2 hC.1 hC.2
  have r20 := (aw_arrT hKK (kd := 20) (by omega) (by omega)).2
  have r14 := va_nm_int (aw_arrT hKK (kd := 14) (by omega) (by omega)).2
  have eA : cA = gC V.1 20 := Option.some.inj (hfA.symm.trans (by rw [← show ("[" ++ (FieldType.array .int).toString : String) = "[[I" by decide +kernel]; exact r20))
  have eC : comp = gC V.1 14 := Option.some.inj (hfC.symm.trans r14)
  subst eA
  subst eC
  obtain ⟨f1, f2, f3, f4⟩ := gST_f (s := T.setVm vm₁) (cA := gC V.1 20) (cI := gC V.1 14) (N := n.toNatClampNeg) (K := k.toNatClampNeg) n.toNatClampNeg
  have fo := fun (a : Nat) (ha : a < T.heap.size) => gST_o (s := T.setVm vm₁) (cA := gC V.1 20) (cI := gC V.1 14) (N := n.toNatClampNeg) (K := k.toNatClampNeg) (a := a) ha n.toNatClampNeg
  have fi := gST_i (s := T.setVm vm₁) (cA := gC V.1 20) (cI := gC V.1 14) (N := n.toNatClampNeg) (K := k.toNatClampNeg) n.toNatClampNeg
  generalize gST (T.setVm vm₁) (gC V.1 20) (gC V.1 14) n.toNatClampNeg k.toNatClampNeg n.toNatClampNeg = T1 at f1 f2 f3 f4 fo fi X1 step
  have hz : T.heap.size = hN h := by rw [hT']; exact hH.1
  change T1.heap.size = T.heap.size + 1 + n.toNatClampNeg at f1
  change T1.heap[T.heap.size]? = some (gCl (gC V.1 20) n.toNatClampNeg T.heap.size n.toNatClampNeg) at f2
  change ∀ j, j < n.toNatClampNeg → T1.heap[T.heap.size + 1 + j]? = some (arrV (gC V.1 14) k.toNatClampNeg (fun _ => .int 0)) at fi
  change ∀ a, a < T.heap.size → T1.heap[a]? = T.heap[a]? at fo
  rw [hz] at f1 f2 fi fo
  rw [hT'] at fo
  have hH1 : aw_H V.1 (grH h n.toNatClampNeg k.toNatClampNeg) T1.heap := by
    refine ⟨f1, by have := hH.2.1; show _ ≤ hN h + 1 + _; omega, fun b h1 => ?_⟩
    by_cases e0 : b = hN h
    · subst e0
      refine ⟨hH.2.1, by show hN h < hN h + 1 + _; omega, ?_⟩
      rw [aw_e_q gr_t0 (by decide)]
      show T1.heap[hN h]? = some (arrV (gC V.1 20) n.toNatClampNeg (fun j => va_rf (hQ (grH h n.toNatClampNeg k.toNatClampNeg) (hN h) j)))
      rw [f2]
      refine congrArg some ?_
      unfold gCl
      refine congrArg (arrV _ _) (funext fun j => ?_)
      show _ = va_rf ((if hN h = hN h then fun j => if j < n.toNatClampNeg then some (hN h + 1 + j) else none else _) j)
      rw [if_pos (rfl : hN h = hN h)]
      by_cases l : j < n.toNatClampNeg
      · rw [if_pos l]
        show _ = va_rf (if j < n.toNatClampNeg then some (hN h + 1 + j) else none)
        rw [if_pos l]; rfl
      · rw [if_neg l]
        show _ = va_rf (if j < n.toNatClampNeg then some (hN h + 1 + j) else none)
        rw [if_neg l]; rfl
    · by_cases e1 : hN h < b ∧ b < hN h + 1 + n.toNatClampNeg
      · obtain ⟨j, hj⟩ : ∃ j, b = hN h + 1 + j := ⟨b - (hN h + 1), by omega⟩
        subst hj
        have hjn : j < n.toNatClampNeg := by omega
        refine ⟨by have := hH.2.1; omega, e1.2, ?_⟩
        rw [aw_e_i (gr_t1 hjn) (by simp), gr_i1 (by omega) (by omega)]
        exact fi j hjn
      · have ho : b < hN h ∨ hN h + 1 + n.toNatClampNeg ≤ b := by omega
        rw [gr_t ho] at h1
        obtain ⟨h3, h4, h5⟩ := hH.2.2 b h1
        rw [show aw_e (gC V.1) (grH h n.toNatClampNeg k.toNatClampNeg) b = aw_e (gC V.1) h b from aw_e_congr (gr_t ho) (gr_i ho) (gr_j ho) (gr_q ho)]
        exact ⟨h3, by show b < hN h + 1 + _; omega, h5.kept (fo b h4)⟩
  have hS1 : va_S (aw_A V.1) s.heap T1.heap locs := ⟨Nat.le_trans hS.1 (by rw [f1, hH.1]; omega), fun x g1 g2 => (fo x (by have := hS.1; rw [hH.1] at this; omega)).trans (hS.2.1 x g1 g2), hS.2.2⟩
  obtain ⟨t, a1, b1⟩ := kk p e s m args below meth c C _ locs ls hH1 hl hS1 T1 rfl X1
  refine ⟨t, step t ?_, b1⟩
  rw [hz]
  exact a1
