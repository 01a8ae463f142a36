/-! ===== THE FRAME, 1: an abstract heap; what it says of the machine's heap ===== -/
abbrev aw_cl : List vw_C := [(RX0, TX0, 5), (RX1, TX1, 10), (RX2, TX2, 5), (RX3, TX3, 5), (RX4, TX4, 5), (RX5, TX5, 5), (RX6, TX6, 5), (RX7, TX7, 13), (RX8, TX8, 2), (RX9, TX9, 5), (RX10, TX10, 6), (RX11, TX11, 10), (RX12, TX12, 25)]
/-- of a class the fields: 0 a number of 32 bits, 1 of 64, 2 a reference -/
def aw_ft : Nat → List Nat
  | 0 => [0, 0, 0, 0, 0]
  | 1 => [2, 0, 0, 0, 2, 2, 0, 2, 0, 2]
  | 2 => [0, 0, 0, 0, 0]
  | 3 => [0, 0, 0, 0, 0]
  | 4 => [0, 0, 0, 0, 0]
  | 5 => [0, 0, 0, 0, 0]
  | 6 => [0, 0, 0, 0, 0]
  | 7 => [2, 2, 2, 0, 2, 0, 2, 0, 2, 0, 2, 0, 2]
  | 8 => [2, 0]
  | 9 => [0, 0, 0, 0, 0]
  | 10 => [0, 0, 0, 0, 0, 0]
  | 11 => [2, 2, 0, 2, 2, 2, 2, 2, 2, 2]
  | _ => [0, 2, 2, 0, 0, 0, 0, 0, 0, 2, 2, 2, 2, 2, 2, 1, 1, 0, 0, 2, 2, 0, 0, 0, 0]
/-- how many cells there are; of each its kind and length; its numbers, its references -/
abbrev AH : Type := Nat × (Nat → Nat × Nat) × (Nat → Nat → Int32) × (Nat → Nat → Int64) × (Nat → Nat → Option Nat)
def hN (h : AH) : Nat := h.1
def hT (h : AH) : Nat → Nat × Nat := h.2.1
def hI (h : AH) : Nat → Nat → Int32 := h.2.2.1
def hJ (h : AH) : Nat → Nat → Int64 := h.2.2.2.1
def hQ (h : AH) : Nat → Nat → Option Nat := h.2.2.2.2
def u2 {α : Type} (f : Nat → Nat → α) (a k : Nat) (v : α) : Nat → Nat → α := fun b j => if b = a ∧ j = k then v else f b j
def u1 {α : Type} (f : Nat → α) (a : Nat) (v : α) : Nat → α := fun b => if b = a then v else f b
def setI (h : AH) (a k : Nat) (v : Int32) : AH := (hN h, hT h, u2 (hI h) a k v, hJ h, hQ h)
def setJ (h : AH) (a k : Nat) (v : Int64) : AH := (hN h, hT h, hI h, u2 (hJ h) a k v, hQ h)
def setQ (h : AH) (a k : Nat) (v : Option Nat) : AH := (hN h, hT h, hI h, hJ h, u2 (hQ h) a k v)
def setR (h : AH) (a : Nat) (f : Nat → Int32) : AH := (hN h, hT h, u1 (hI h) a f, hJ h, hQ h)
/-- one cell more, of a kind and a length, with zeros -/
def newC (h : AH) (kd len : Nat) : AH := (hN h + 1, u1 (hT h) (hN h) (kd, len), u1 (hI h) (hN h) (fun _ => 0), u1 (hJ h) (hN h) (fun _ => 0), u1 (hQ h) (hN h) (fun _ => none))
theorem u2_s {α : Type} {f : Nat → Nat → α} {a k : Nat} {v : α} : u2 f a k v a k = v := by simp [u2]
theorem u2_a {α : Type} {f : Nat → Nat → α} {a k b j : Nat} {v : α} (h : b ≠ a) : u2 f a k v b j = f b j := by simp [u2, h]
theorem u2_k {α : Type} {f : Nat → Nat → α} {a k b j : Nat} {v : α} (h : j ≠ k) : u2 f a k v b j = f b j := by simp [u2, h]
theorem u1_s {α : Type} {f : Nat → α} {a : Nat} {v : α} : u1 f a v a = v := by simp [u1]
theorem u1_n {α : Type} {f : Nat → α} {a b : Nat} {v : α} (h : b ≠ a) : u1 f a v b = f b := by simp [u1, h]
/-- a field's value, by its type -/
def aw_fv (h : AH) (a t j : Nat) : Value := match t with
  | 0 => .int (hI h a j)
  | 1 => .long (hJ h a j)
  | _ => va_rf (hQ h a j)
def aw_fs (h : AH) (a kd : Nat) : List Value := (List.range (aw_ft kd).length).map (fun j => aw_fv h a ((aw_ft kd).getD j 0) j)
/-- kinds: 0 .. 12 the classes, 13 byte[], 14 int[], 15 long[], 16 boolean[], 17 Law[], 18 Pause[], 19 Work[], 20 int[][] -/
def aw_e (cy : Nat → ClassId) (h : AH) (a : Nat) : va_E :=
  if (hT h a).1 < 13 then .inr ((hT h a).1, aw_fs h a (hT h a).1)
  else if (hT h a).1 = 15 then .inl (cy (hT h a).1, (hT h a).2, .inr (.inl (hJ h a)))
  else if (hT h a).1 < 17 then .inl (cy (hT h a).1, (hT h a).2, .inl (hI h a))
  else .inl (cy (hT h a).1, (hT h a).2, .inr (.inr (.inr (.inr (hQ h a)))))
/-- launch, first address, class numbers and slots, array classes, static references; the script: its address, length, ints -/
abbrev GG : Type := Launch × Nat × va_G × (Nat → ClassId) × (Nat → Nat) × (Nat × Nat × (Nat → Int32))
def gL (g : GG) : Launch := g.1
def gB (g : GG) : Nat := g.2.1
def gD (g : GG) : va_G := g.2.2.1
def gC (g : GG) : Nat → ClassId := g.2.2.2.1
def gS (g : GG) : Nat → Nat := g.2.2.2.2.1
def gX (g : GG) : Nat × Nat × (Nat → Int32) := g.2.2.2.2.2
def aw_A (g : GG) : Nat → Prop := fun q => gB g ≤ q
def aw_H (g : GG) (h : AH) (H : Heap) : Prop := H.size = hN h ∧ gB g ≤ hN h ∧ ∀ a : Nat, (hT h a).1 < 99 → gB g ≤ a ∧ a < hN h ∧ va_at (gD g) aw_cl (a, aw_e (gC g) h a) H
abbrev aw_tys (g : GG) : List (ClassId × FieldType) := [(gC g 13, .byte), (gC g 14, .int), (gC g 15, .long), (gC g 16, .boolean), (gC g 17, .object RX1), (gC g 18, .object RX2), (gC g 19, .object RX10), (gC g 20, .array .int)]
/-- the texts: acskt, <=>, and the three words; their lengths and bytes -/
def aw_tl : List Nat := [5, 3, 5, 5, 5]
def aw_tb : List (List Int32) := [[97, 99, 115, 107, 116], [60, 61, 62], [109, 111, 115, 116, 32], [101, 97, 115, 101, 32], [100, 114, 97, 119, 32]]
/-- what lies below the first address and is read: two tables, a flag, a reference that is only carried, the texts, the script -/
def aw_St (g : GG) (U : State) (H : Heap) : Prop :=
  (va_Z RX11 "LEAST_SETTINGS" "[I" (.ref (gS g 0)) (aw_A g) U H ∧ va_T .int (gS g 0) 3 (fun j => .int (([0, 1, 1] : List Int32).getD j 0)) (aw_A g) U H) ∧
  (va_Z RX11 "MOST_SETTINGS" "[I" (.ref (gS g 1)) (aw_A g) U H ∧ va_T .int (gS g 1) 3 (fun j => .int (([9, 9, 999] : List Int32).getD j 0)) (aw_A g) U H) ∧
  va_Z "java/lang/String" "COMPACT_STRINGS" "Z" (.int 1) (aw_A g) U H ∧ va_Zq "jdk/internal/util/Preconditions" "SIOOBE_FORMATTER" "Ljava/util/function/BiFunction;" (aw_A g) U H ∧
  vk_S 5 aw_tl aw_tb (fun i => gS g (2 + i)) (fun i => gS g (7 + i)) (aw_A g) U H ∧
  (va_X (gX g).1 (gX g).2.1 (gX g).2.2 U H ∧ (gX g).1 < gB g)
def aw_srs : List (String × Nat × String × Nat) := [("KettleBeats$Law", 100, "acskt", 0), ("KettleBeats$Law", 106, "<=>", 1), ("KettleBeats$Law", 68, "most ", 2), ("KettleBeats$Law", 77, "ease ", 3), ("KettleBeats$Law", 79, "draw ", 4), ("KettleBeatsModel", 103, "acskt", 0), ("KettleBeatsModel", 109, "<=>", 1), ("KettleBeatsModel", 129, "most ", 2), ("KettleBeatsModel", 127, "ease ", 3), ("KettleBeatsModel", 121, "draw ", 4)]
/-- private members of a nest mate; casts that hold, that don't; arrays of references -/
def aw_nl : List (String × Nat × MethodName × String) := [(RX11, 11, yX7_init, RX11), (RX11, 27, yX8_init, RX11)]
def aw_cs : List (String × String) := [("KettleBeats$Late", "KettleBeats$Whistle"), ("KettleBeats$Spread", "KettleBeats$Whistle"), ("KettleBeats$Sky", "KettleBeats$Silent"), ("KettleBeats$Whistle", "KettleBeats$Pause"), ("KettleBeats$Late", "KettleBeats$Pause"), ("KettleBeats$Serial", "KettleBeats$Pause"), ("KettleBeats$Silent", "KettleBeats$Pause"), ("KettleBeats$Sky", "KettleBeats$Pause"), ("KettleBeats$Spread", "KettleBeats$Pause"), ("[B", "java/lang/Cloneable")]
def aw_nc : List (String × String) := [("KettleBeats$Late", "KettleBeats$Serial"), ("KettleBeats$Late", "KettleBeats$Silent"), ("KettleBeats$Late", "KettleBeats$Sky"), ("KettleBeats$Late", "KettleBeats$Spread"), ("KettleBeats$Pause", "KettleBeats$Late"), ("KettleBeats$Pause", "KettleBeats$Serial"), ("KettleBeats$Pause", "KettleBeats$Silent"), ("KettleBeats$Pause", "KettleBeats$Sky"), ("KettleBeats$Pause", "KettleBeats$Spread"), ("KettleBeats$Pause", "KettleBeats$Whistle"), ("KettleBeats$Serial", "KettleBeats$Late"), ("KettleBeats$Serial", "KettleBeats$Silent"), ("KettleBeats$Serial", "KettleBeats$Sky"), ("KettleBeats$Serial", "KettleBeats$Spread"), ("KettleBeats$Serial", "KettleBeats$Whistle"), ("KettleBeats$Silent", "KettleBeats$Late"), ("KettleBeats$Silent", "KettleBeats$Serial"), ("KettleBeats$Silent", "KettleBeats$Sky"), ("KettleBeats$Silent", "KettleBeats$Spread"), ("KettleBeats$Silent", "KettleBeats$Whistle"), ("KettleBeats$Sky", "KettleBeats$Late"), ("KettleBeats$Sky", "KettleBeats$Serial"), ("KettleBeats$Sky", "KettleBeats$Spread"), ("KettleBeats$Sky", "KettleBeats$Whistle"), ("KettleBeats$Spread", "KettleBeats$Late"), ("KettleBeats$Spread", "KettleBeats$Serial"), ("KettleBeats$Spread", "KettleBeats$Silent"), ("KettleBeats$Spread", "KettleBeats$Sky"), ("KettleBeats$Whistle", "KettleBeats$Late"), ("KettleBeats$Whistle", "KettleBeats$Serial"), ("KettleBeats$Whistle", "KettleBeats$Silent"), ("KettleBeats$Whistle", "KettleBeats$Sky"), ("KettleBeats$Whistle", "KettleBeats$Spread")]
def aw_ao : List String := [RX1, RX2, RX10]
def aw_Sr (g : GG) (U : State) : Prop := (∀ q ∈ aw_srs, vk_R q.1 q.2.1 q.2.2.1 (gS g (2 + q.2.2.2)) U) ∧ (∀ q ∈ aw_nl, va_Nw (.methodLinkNest q.1 q.2.1 q.2.2.1 q.2.2.2) U) ∧ (∀ q ∈ aw_cs, va_Nw (.castable q.1 q.2) U) ∧ (∀ q ∈ aw_nc, va_Nc q.1 q.2 U) ∧ (∀ q ∈ aw_ao, va_AO q U) ∧ (Cond.arrayOver (.array .int)).before #[] U = true
theorem aw_AOA.moved {u U : State} (hvm : u.vm.Alike U.vm) (h : (Cond.arrayOver (.array .int)).before #[] u = true) : (Cond.arrayOver (.array .int)).before #[] U = true := by
  obtain ⟨comp, c, k, h1, h2, h3, h4, h5⟩ := arrayOverA_spec h
  obtain ⟨k', hk', he⟩ := hvm.2.2 _ _ h3
  have hi : (U.vm.classes.findIdx? fun (x : Class) => match x.kind with | .array component _ => component == comp | _ => false) = some c := by
    refine (va_idx_bare U.vm comp).symm.trans ?_
    first | rw [hvm.bare_eq] | rw [← hvm.bare_eq]
    exact (va_idx_bare u.vm comp).trans h2
  have hkind : k'.kind = .array comp (.array .int) := by rw [he]; exact h4
  have f1 : U.vm.findClass (FieldType.array .int).toString = some comp := by rw [hvm.findClass]; exact h1
  have f2 : U.vm.findClass ("[" ++ (FieldType.array .int).toString) = some c := by rw [hvm.findClass]; exact h5
  unfold Cond.before Cond.holds
  simp only [Cond.value]
  rw [f1, Option.bind_some]
  refine (congrArg (fun o : Option Nat => (o.bind (fun c => (U.vm.classes[c]?).map fun (k : Class) => match k.kind with | .array _ ty => decide (ty = FieldType.array .int) && decide (U.vm.findClass ("[" ++ (FieldType.array .int).toString) = some c) | _ => false) == some true)) hi).trans ?_
  simp [hk', hkind, f2]
theorem aw_St.moved {g : GG} {u U : State} {H : Heap} (hvm : u.vm.Alike U.vm) (h : aw_St g u H) : aw_St g U H := by
  obtain ⟨⟨a1, a2⟩, ⟨b1, b2⟩, c1, d1, e1, f1, f2⟩ := h
  exact ⟨⟨a1.moved hvm, a2.moved hvm⟩, ⟨b1.moved hvm, b2.moved hvm⟩, c1.moved hvm, d1.moved hvm, e1.moved hvm, f1.moved hvm, f2⟩
theorem aw_St.kept {g : GG} {U : State} {H H1 : Heap} (h : aw_St g U H) (hz : gB g ≤ H.size) (hq : ∀ a : Nat, a < H.size → ¬ aw_A g a → H1[a]? = H[a]?) : aw_St g U H1 := by
  obtain ⟨⟨a1, a2⟩, ⟨b1, b2⟩, c1, d1, e1, f1, f2⟩ := h
  exact ⟨⟨a1.kept hq, a2.kept hq⟩, ⟨b1.kept hq, b2.kept hq⟩, c1.kept hq, d1.kept hq, e1.kept hq, f1.kept (hq _ (Nat.lt_of_lt_of_le f2 hz) (Nat.not_le.mpr f2)), f2⟩
theorem aw_Sr.warm {g : GG} {s U : State} (hW : s.WarmedH U.vm) (h : aw_Sr g s) : aw_Sr g U := ⟨fun q hq => (h.1 q hq).warm hW, fun q hq => (h.2.1 q hq).warmM hW, fun q hq => (h.2.2.1 q hq).warmC hW, fun q hq => (h.2.2.2.1 q hq).moved hW.alike, fun q hq => (h.2.2.2.2.1 q hq).moved hW.alike, aw_AOA.moved hW.alike h.2.2.2.2.2⟩
theorem aw_Sr.same {g : GG} {u U : State} (hv : U.vm = u.vm) (h : aw_Sr g u) : aw_Sr g U := ⟨fun q hq => (h.1 q hq).same hv, fun q hq => (h.2.1 q hq).same rfl hv.symm, fun q hq => (h.2.2.1 q hq).same rfl hv.symm, fun q hq => (h.2.2.2.1 q hq).moved (by rw [hv]; exact Vm.Alike.refl _), fun q hq => (h.2.2.2.2.1 q hq).moved (by rw [hv]; exact Vm.Alike.refl _), aw_AOA.moved (by rw [hv]; exact Vm.Alike.refl _) h.2.2.2.2.2⟩
/-- a state that a call may start at -/
def aw_U (g : GG) (h : AH) (U : State) : Prop := aw_H g h U.heap ∧ va_K (gD g) aw_cl (aw_tys g) U ∧ aw_St g U U.heap ∧ aw_Sr g U
/-! the cells of the abstract heap -/
theorem aw_e_o {cy : Nat → ClassId} {h : AH} {a kd len : Nat} (ht : hT h a = (kd, len)) (hk : kd < 13) : aw_e cy h a = .inr (kd, aw_fs h a kd) := by simp [aw_e, ht, hk]
theorem aw_e_i {cy : Nat → ClassId} {h : AH} {a kd len : Nat} (ht : hT h a = (kd, len)) (hk : kd = 13 ∨ kd = 14 ∨ kd = 16) : aw_e cy h a = .inl (cy kd, len, .inl (hI h a)) := by
  rcases hk with rfl | rfl | rfl <;> simp [aw_e, ht]
theorem aw_e_j {cy : Nat → ClassId} {h : AH} {a len : Nat} (ht : hT h a = (15, len)) : aw_e cy h a = .inl (cy 15, len, .inr (.inl (hJ h a))) := by simp [aw_e, ht]
theorem aw_e_q {cy : Nat → ClassId} {h : AH} {a kd len : Nat} (ht : hT h a = (kd, len)) (hk : 17 ≤ kd) : aw_e cy h a = .inl (cy kd, len, .inr (.inr (.inr (.inr (hQ h a))))) := by
  have h1 : ¬ kd < 13 := by omega
  have h2 : ¬ kd = 15 := by omega
  have h3 : ¬ kd < 17 := by omega
  simp [aw_e, ht, h1, h2, h3]
theorem aw_fs_len {h : AH} {a kd : Nat} : (aw_fs h a kd).length = (aw_ft kd).length := by simp [aw_fs]
theorem aw_fs_get {h : AH} {a kd j : Nat} (hj : j < (aw_ft kd).length) : (aw_fs h a kd)[j]? = some (aw_fv h a ((aw_ft kd).getD j 0) j) := by
  rw [aw_fs, List.getElem?_map, List.getElem?_range hj]; rfl
theorem aw_fs_V {h : AH} {a kd j : Nat} (hj : j < (aw_ft kd).length) : vp_V (aw_fs h a kd) j = aw_fv h a ((aw_ft kd).getD j 0) j := by
  rw [vp_V, List.getD_eq_getElem?_getD, aw_fs_get hj]; rfl
/-- a write at one address -/
theorem aw_H.put {g : GG} {h h' : AH} {H H1 : Heap} {a : Nat} (hH : aw_H g h H) (hn : hN h' = hN h) (ht : hT h' = hT h) (ha : va_at (gD g) aw_cl (a, aw_e (gC g) h' a) H1) (he : ∀ b, b ≠ a → aw_e (gC g) h' b = aw_e (gC g) h b) (z : H1.size = H.size) (oq : ∀ q : Nat, q ≠ a → H1[q]? = H[q]?) : aw_H g h' H1 := by
  refine ⟨by rw [z, hn]; exact hH.1, by rw [hn]; exact hH.2.1, fun b h1 => ?_⟩
  rw [ht] at h1
  obtain ⟨h2, h3, h4⟩ := hH.2.2 b h1
  refine ⟨h2, by rw [hn]; exact h3, ?_⟩
  by_cases hb : b = a
  · subst hb; exact ha
  · rw [he b hb]
    exact h4.kept (oq b hb)
theorem aw_e_congr {cy : Nat → ClassId} {h h' : AH} {a : Nat} (hT' : hT h' a = hT h a) (hI' : hI h' a = hI h a) (hJ' : hJ h' a = hJ h a) (hQ' : hQ h' a = hQ h a) : aw_e cy h' a = aw_e cy h a := by
  have hf : ∀ kd, aw_fs h' a kd = aw_fs h a kd := fun kd => by
    unfold aw_fs
    apply List.map_congr_left
    intro j _
    unfold aw_fv
    rw [hI', hJ', hQ']
  unfold aw_e
  rw [hT', hf, hI', hJ', hQ']
theorem aw_setI_e {cy : Nat → ClassId} {h : AH} {a k b : Nat} {v : Int32} (hb : b ≠ a) : aw_e cy (setI h a k v) b = aw_e cy h b := aw_e_congr rfl (funext fun _ => u2_a hb) rfl rfl
theorem aw_setJ_e {cy : Nat → ClassId} {h : AH} {a k b : Nat} {v : Int64} (hb : b ≠ a) : aw_e cy (setJ h a k v) b = aw_e cy h b := aw_e_congr rfl rfl (funext fun _ => u2_a hb) rfl
theorem aw_setQ_e {cy : Nat → ClassId} {h : AH} {a k b : Nat} {v : Option Nat} (hb : b ≠ a) : aw_e cy (setQ h a k v) b = aw_e cy h b := aw_e_congr rfl rfl rfl (funext fun _ => u2_a hb)
theorem aw_setR_e {cy : Nat → ClassId} {h : AH} {a b : Nat} {f : Nat → Int32} (hb : b ≠ a) : aw_e cy (setR h a f) b = aw_e cy h b := aw_e_congr rfl (u1_n hb) rfl rfl
theorem aw_newC_e {cy : Nat → ClassId} {h : AH} {kd len b : Nat} (hb : b ≠ hN h) : aw_e cy (newC h kd len) b = aw_e cy h b := aw_e_congr (u1_n hb) (u1_n hb) (u1_n hb) (u1_n hb)
/-- one cell more -/
theorem aw_H.new {g : GG} {h : AH} {H H1 : Heap} {kd len : Nat} (hH : aw_H g h H) (ha : va_at (gD g) aw_cl (hN h, aw_e (gC g) (newC h kd len) (hN h)) H1) (z : H1.size = H.size + 1) (oq : ∀ q : Nat, q < H.size → H1[q]? = H[q]?) : aw_H g (newC h kd len) H1 := by
  refine ⟨by rw [z, hH.1]; rfl, Nat.le_succ_of_le hH.2.1, fun b h1 => ?_⟩
  by_cases hb : b = hN h
  · subst hb; exact ⟨hH.2.1, Nat.lt_succ_self _, ha⟩
  · have h2 : hT (newC h kd len) b = hT h b := u1_n hb
    rw [h2] at h1
    obtain ⟨h3, h4, h5⟩ := hH.2.2 b h1
    rw [aw_newC_e hb]
    exact ⟨h3, Nat.lt_succ_of_lt h4, h5.kept (oq b (by rw [hH.1]; exact h4))⟩
theorem aw_fv_V {h : AH} {a kd k j : Nat} {v : Value} {h' : AH} (hj : j < (aw_ft kd).length) (hv : aw_fv h' a ((aw_ft kd).getD k 0) k = v) (ho : j ≠ k → aw_fv h' a ((aw_ft kd).getD j 0) j = aw_fv h a ((aw_ft kd).getD j 0) j) : updV (vp_V (aw_fs h a kd)) k v j = vp_V (aw_fs h' a kd) j := by
  rw [aw_fs_V hj]
  by_cases e : j = k
  · subst e; rw [hv]; simp [updV]
  · simp only [updV, if_neg e]; rw [aw_fs_V hj, ho e]
