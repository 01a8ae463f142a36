/-! ===== what the tables and the Statement give at the law's entry ===== -/
def gvc : Cond := Jvm.Cond.and given_1 narrow_1
def stT (i : Nat) : Term := Term.string "KettleBeats$Law" (([100, 106, 68, 77, 79] : List Nat).getD i 0)
def stV (i : Nat) : Term := Term.field (stT i) "java/lang/String" "value" "[B"
set_option maxRecDepth 100000 in
theorem sg_ex : ∀ i : Nat, i < 5 → (Cond.exactly (stT i) "java/lang/String") ∈ flatC gvc := by decide +kernel
set_option maxRecDepth 100000 in
theorem sg_co : ∀ i : Nat, i < 5 → (Cond.eq (.field (stT i) "java/lang/String" "coder" "B") (.int 0)) ∈ flatC gvc := by decide +kernel
set_option maxRecDepth 100000 in
theorem sg_ar : ∀ i : Nat, i < 5 → (Cond.arrayOf (.field (stT i) "java/lang/String" "value" "[B") .byte) ∈ flatC gvc := by decide +kernel
set_option maxRecDepth 100000 in
theorem sg_le : ∀ i : Nat, i < 5 → (Cond.eq (.length (.field (stT i) "java/lang/String" "value" "[B")) (.int (Int32.ofNat (aw_tl.getD i 0)))) ∈ flatC gvc := by decide +kernel
set_option maxRecDepth 100000 in
theorem sg_el : ∀ i : Nat, i < 5 → ∀ j : Nat, j < aw_tl.getD i 0 → (Cond.eq (.elem (.field (stT i) "java/lang/String" "value" "[B") (.int (Int32.ofNat j))) (.int ((aw_tb.getD i []).getD j 0))) ∈ flatC gvc := by decide +kernel
set_option maxRecDepth 100000 in
theorem sg_ne : ∀ i : Nat, i < 5 → ∀ j : Nat, j < 5 → i ≠ j → (Cond.not (Cond.eq (stT i) (stT j))) ∈ flatC gvc ∨ (Cond.not (Cond.eq (stT j) (stT i))) ∈ flatC gvc := by decide +kernel
set_option maxRecDepth 100000 in
theorem sg_nc : ∀ q ∈ aw_nc, (Cond.not (.castable q.1 q.2)) ∈ flatC gvc := by decide +kernel
set_option maxRecDepth 100000 in
theorem sg_cs : ∀ q ∈ aw_cs, (Cond.castable q.1 q.2) ∈ lw_tbl := by decide +kernel
set_option maxRecDepth 100000 in
theorem sg_nl : ∀ q ∈ aw_nl, (Cond.methodLinkNest q.1 q.2.1 q.2.2.1 q.2.2.2) ∈ lw_tbl := by decide +kernel
set_option maxRecDepth 100000 in
theorem sg_ao : ∀ q ∈ aw_ao, (Cond.arrayOver (.object q)) ∈ lw_tbl := by decide +kernel
set_option maxRecDepth 100000 in
theorem sg_a2 : (Cond.arrayOver (.array .int)) ∈ lw_tbl := by decide +kernel
set_option maxRecDepth 100000 in
theorem sg_sr : ∀ q ∈ aw_srs, (Cond.stringRef q.1 q.2.1 q.2.2.1) ∈ lw_tbl := by decide +kernel
/-- a constant of the model is the class's own of the same text -/
def sg_own (q : String × Nat × String × Nat) : Prop := Term.string q.1 q.2.1 = stT q.2.2.2 ∨ (Cond.eq (stT q.2.2.2) (Term.string q.1 q.2.1)) ∈ flatC gvc
set_option maxRecDepth 100000 in
theorem sg_sl : ∀ q ∈ aw_srs, q.2.2.2 < 5 ∧ (Term.string q.1 q.2.1 = stT q.2.2.2 ∨ (Cond.eq (stT q.2.2.2) (Term.string q.1 q.2.1)) ∈ flatC gvc) := by decide +kernel
set_option maxRecDepth 100000 in
theorem sg_in : ∀ q ∈ ([(RX0, 5), (RX1, 10), (RX2, 5), (RX3, 5), (RX4, 5), (RX5, 5), (RX6, 5), (RX7, 13), (RX8, 2), (RX9, 5), (RX10, 6), (RX11, 10), (RX12, 25)] : List (String × Nat)), (Cond.instantiable q.1 q.2) ∈ lw_tbl := by decide +kernel
set_option maxRecDepth 100000 in
theorem sg_pa : ∀ ty ∈ ([.byte, .int, .long, .boolean] : List FieldType), (Cond.arrayClass ty) ∈ lw_tbl := by decide +kernel
def slL : Term := Term.static RX11 "LEAST_SETTINGS" "[I"
def slM : Term := Term.static RX11 "MOST_SETTINGS" "[I"
set_option maxRecDepth 100000 in
theorem sg_L : (Cond.arrayOf slL .int) ∈ flatC gvc ∧ (Cond.eq (.length slL) (.int 3)) ∈ flatC gvc ∧ ∀ j : Nat, j < 3 → (Cond.eq (.elem slL (.int (Int32.ofNat j))) (.int (([0, 1, 1] : List Int32).getD j 0))) ∈ flatC gvc := by decide +kernel
set_option maxRecDepth 100000 in
theorem sg_M : (Cond.arrayOf slM .int) ∈ flatC gvc ∧ (Cond.eq (.length slM) (.int 3)) ∈ flatC gvc ∧ ∀ j : Nat, j < 3 → (Cond.eq (.elem slM (.int (Int32.ofNat j))) (.int (([9, 9, 999] : List Int32).getD j 0))) ∈ flatC gvc := by decide +kernel
set_option maxRecDepth 100000 in
theorem sg_z : (Cond.eq (.static "java/lang/String" "COMPACT_STRINGS" "Z") (.int 1)) ∈ flatC gvc ∧ (Cond.isRef (.static "jdk/internal/util/Preconditions" "SIOOBE_FORMATTER" "Ljava/util/function/BiFunction;")) ∈ flatC gvc := by decide +kernel
set_option maxRecDepth 100000 in
theorem sg_lay : (Cond.laysStatic RX11 "LEAST_SETTINGS" "[I") ∈ lw_tbl ∧ (Cond.laysStatic RX11 "MOST_SETTINGS" "[I") ∈ lw_tbl ∧ (Cond.laysStatic "java/lang/String" "COMPACT_STRINGS" "Z") ∈ lw_tbl ∧ (Cond.laysStatic "jdk/internal/util/Preconditions" "SIOOBE_FORMATTER" "Ljava/util/function/BiFunction;") ∈ lw_tbl := by decide +kernel
set_option maxRecDepth 100000 in
theorem sg_ini : (Cond.initialized RX11) ∈ lw_tbl ∧ (Cond.initialized "java/lang/String") ∈ lw_tbl ∧ (Cond.initialized "jdk/internal/util/Preconditions") ∈ lw_tbl := by decide +kernel
/-! the classes -/
theorem sg_k1 {s : State} {args : Array Value} (hts : ∀ w ∈ lw_tbl, w.before args s = true) {C : String} {T : u_T} {N : Nat} (hw : ∀ w ∈ u_ws C T N, w ∈ aw_wd) (hi : (Cond.instantiable C N) ∈ lw_tbl) : ∃ x : ClassId × (Nat → Nat), u_Kn s C T N x.1 x.2 := by
  obtain ⟨c, i, h⟩ := u_known (ws := lw_tbl) hts (fun w h => (aw_wd_good w (hw w h)).1) (hts _ hi)
  exact ⟨(c, i), h⟩
theorem sg_kn {s : State} {args : Array Value} (hts : ∀ w ∈ lw_tbl, w.before args s = true) : ∀ q ∈ aw_cl, ∃ x : ClassId × (Nat → Nat), u_Kn s q.1 q.2.1 q.2.2 x.1 x.2 := by
  have F := fun q hq => sg_in q hq
  refine List.forall_mem_cons.mpr ⟨sg_k1 hts wi_0 (F (RX0, 5) (by decide +kernel)), List.forall_mem_cons.mpr ⟨sg_k1 hts wi_1 (F (RX1, 10) (by decide +kernel)), List.forall_mem_cons.mpr ⟨sg_k1 hts wi_2 (F (RX2, 5) (by decide +kernel)), List.forall_mem_cons.mpr ⟨sg_k1 hts wi_3 (F (RX3, 5) (by decide +kernel)), List.forall_mem_cons.mpr ⟨sg_k1 hts wi_4 (F (RX4, 5) (by decide +kernel)), List.forall_mem_cons.mpr ⟨sg_k1 hts wi_5 (F (RX5, 5) (by decide +kernel)), List.forall_mem_cons.mpr ⟨sg_k1 hts wi_6 (F (RX6, 5) (by decide +kernel)), List.forall_mem_cons.mpr ⟨sg_k1 hts wi_7 (F (RX7, 13) (by decide +kernel)), List.forall_mem_cons.mpr ⟨sg_k1 hts wi_8 (F (RX8, 2) (by decide +kernel)), List.forall_mem_cons.mpr ⟨sg_k1 hts wi_9 (F (RX9, 5) (by decide +kernel)), List.forall_mem_cons.mpr ⟨sg_k1 hts wi_10 (F (RX10, 6) (by decide +kernel)), List.forall_mem_cons.mpr ⟨sg_k1 hts wi_11 (F (RX11, 10) (by decide +kernel)), List.forall_mem_cons.mpr ⟨sg_k1 hts wi_12 (F (RX12, 25) (by decide +kernel)), fun _ h => absurd h List.not_mem_nil⟩⟩⟩⟩⟩⟩⟩⟩⟩⟩⟩⟩⟩
theorem sg_D {s : State} {args : Array Value} (hts : ∀ w ∈ lw_tbl, w.before args s = true) : ∃ D : va_G, ∀ (c : Nat) (q : vw_C), aw_cl[c]? = some q → u_Kn s q.1 q.2.1 q.2.2 (D.1 c) (D.2 c) := by
  have h : ∀ c : Nat, ∃ x : ClassId × (Nat → Nat), ∀ q : vw_C, aw_cl[c]? = some q → u_Kn s q.1 q.2.1 q.2.2 x.1 x.2 := by
    intro c
    cases e : aw_cl[c]? with
    | none => exact ⟨(0, fun _ => 0), fun q h => by cases h⟩
    | some q =>
      obtain ⟨x, hx⟩ := sg_kn hts q (List.mem_of_getElem? e)
      exact ⟨x, fun q' h => by cases h; exact hx⟩
  obtain ⟨f, hf⟩ := Classical.axiomOfChoice h
  exact ⟨(fun c => (f c).1, fun c => (f c).2), fun c q hq => hf c q hq⟩
/-! the arrays' own -/
theorem sg_p {s : State} {args : Array Value} {ty : FieldType} (h : (Cond.arrayClass ty).before args s = true) (e : ∀ cA, va_RA s cA ty = (s.vm.findClass ("[" ++ ty.toString) = some cA)) : ∃ cA : ClassId, ArrOfT s cA ty ∧ va_RA s cA ty := by
  obtain ⟨c, k, comp, h1, h2, h3⟩ := Cond.arrayClass_spec h
  exact ⟨c, fun N z => ⟨(fun k h => by cases h), k, h2, comp, h3⟩, by rw [e]; exact h1⟩
theorem sg_o {s : State} {args : Array Value} {C : String} (h : (Cond.arrayOver (.object C)).before args s = true) : ∃ cA : ClassId, ArrOfT s cA (.object C) ∧ va_RA s cA (.object C) := by
  obtain ⟨comp, c, k, h1, h2, h3, h4, h5⟩ := Cond.arrayOver_spec h
  exact ⟨c, fun N z => ⟨(fun k h => by cases h), k, h3, comp, h4⟩, ⟨k, comp, h3, h4, h1, h5⟩⟩
theorem sg_a {s : State} {args : Array Value} (h : (Cond.arrayOver (.array .int)).before args s = true) : ∃ cA : ClassId, ArrOfT s cA (.array .int) ∧ va_RA s cA (.array .int) := by
  obtain ⟨comp, c, k, h1, h2, h3, h4, h5⟩ := arrayOverA_spec h
  exact ⟨c, fun N z => ⟨(fun k h => by cases h), k, h3, comp, h4⟩, h5⟩
def cyF (a b c d e f i j : ClassId) : Nat → ClassId := fun n => match n with
  | 13 => a
  | 14 => b
  | 15 => c
  | 16 => d
  | 17 => e
  | 18 => f
  | 19 => i
  | _ => j
theorem sg_C {s : State} {args : Array Value} (hts : ∀ w ∈ lw_tbl, w.before args s = true) : ∃ C : Nat → ClassId, ∀ q ∈ ([(C 13, .byte), (C 14, .int), (C 15, .long), (C 16, .boolean), (C 17, .object RX1), (C 18, .object RX2), (C 19, .object RX10), (C 20, .array .int)] : List (ClassId × FieldType)), ArrOfT s q.1 q.2 ∧ va_RA s q.1 q.2 := by
  obtain ⟨a, ha⟩ := sg_p (hts _ (sg_pa .byte (by decide +kernel))) (fun _ => rfl)
  obtain ⟨b, hb⟩ := sg_p (hts _ (sg_pa .int (by decide +kernel))) (fun _ => rfl)
  obtain ⟨c, hc⟩ := sg_p (hts _ (sg_pa .long (by decide +kernel))) (fun _ => rfl)
  obtain ⟨d, hd⟩ := sg_p (hts _ (sg_pa .boolean (by decide +kernel))) (fun _ => rfl)
  obtain ⟨e, he⟩ := sg_o (hts _ (sg_ao RX1 (by decide +kernel)))
  obtain ⟨f, hf⟩ := sg_o (hts _ (sg_ao RX2 (by decide +kernel)))
  obtain ⟨i, hi⟩ := sg_o (hts _ (sg_ao RX10 (by decide +kernel)))
  obtain ⟨j, hj⟩ := sg_a (hts _ sg_a2)
  exact ⟨cyF a b c d e f i j, List.forall_mem_cons.mpr ⟨ha, List.forall_mem_cons.mpr ⟨hb, List.forall_mem_cons.mpr ⟨hc, List.forall_mem_cons.mpr ⟨hd, List.forall_mem_cons.mpr ⟨he, List.forall_mem_cons.mpr ⟨hf, List.forall_mem_cons.mpr ⟨hi, List.forall_mem_cons.mpr ⟨hj, fun _ h => absurd h List.not_mem_nil⟩⟩⟩⟩⟩⟩⟩⟩⟩
/-! the tables, the texts -/
theorem sg_T {s : State} {b : Nat} {A : Nat → Prop} {n : String} {vs : List Int32} (hG : gvc.before #[Value.ref b] s = true) (hts : ∀ w ∈ lw_tbl, w.before #[Value.ref b] s = true) (hA : ∀ a : Nat, a < s.heap.size → ¬ A a) (h : (Cond.arrayOf (.static RX11 n "[I") .int) ∈ flatC gvc ∧ (Cond.eq (.length (.static RX11 n "[I")) (.int 3)) ∈ flatC gvc ∧ ∀ j : Nat, j < 3 → (Cond.eq (.elem (.static RX11 n "[I") (.int (Int32.ofNat j))) (.int (vs.getD j 0))) ∈ flatC gvc) (hl : (Cond.laysStatic RX11 n "[I") ∈ lw_tbl) : ∃ t : Nat, va_Z RX11 n "[I" (.ref t) A s s.heap ∧ va_T .int t 3 (fun j => .int (vs.getD j 0)) A s s.heap := by
  have F := flat_of_before _ hG
  obtain ⟨t, ht, hT⟩ := va_Tof (N := 3) (f := fun j => .int (vs.getD j 0)) (A := A) (by decide) (F _ h.1) (va_eqt (F _ h.2.1)) (fun j hj => va_eqt (F _ (h.2.2 j hj))) hA
  exact ⟨t, va_Zof (hts _ hl) (hts _ sg_ini.1) ht hA, hT⟩
theorem sg_S {s : State} {b : Nat} {A : Nat → Prop} (hG : gvc.before #[Value.ref b] s = true) (hA : ∀ a : Nat, a < s.heap.size → ¬ A a) : ∃ adK adV : Nat → Nat, vk_S 5 aw_tl aw_tb adK adV A s s.heap ∧ ∀ i : Nat, i < 5 → (stT i).eval #[Value.ref b] s none [] s = some (.ref (adK i)) := by
  have F := flat_of_before _ hG
  refine vk_Sof (tm := stT) (by decide) (fun i hi => F _ (sg_ex i hi)) (fun i hi => F _ (sg_co i hi)) (fun i hi => F _ (sg_ar i hi)) (fun i hi => F _ (sg_le i hi)) (fun i hi j hj => F _ (sg_el i hi j hj)) (fun i j hi hj e => ?_) hA
  rcases sg_ne i hi j hj e with h | h
  · exact Or.inl (F _ h)
  · exact Or.inr (F _ h)
def gSF (t0 t1 : Nat) (adK adV : Nat → Nat) : Nat → Nat := fun n => if n = 0 then t0 else if n = 1 then t1 else if n < 7 then adK (n - 2) else adV (n - 7)
theorem gSF_k {t0 t1 : Nat} {adK adV : Nat → Nat} {i : Nat} (h : i < 5) : gSF t0 t1 adK adV (2 + i) = adK i := by
  unfold gSF
  rw [if_neg (by omega), if_neg (by omega), if_pos (by omega)]
  congr 1; omega
theorem gSF_v {t0 t1 : Nat} {adK adV : Nat → Nat} {i : Nat} : gSF t0 t1 adK adV (7 + i) = adV i := by
  unfold gSF
  rw [if_neg (by omega), if_neg (by omega), if_neg (by omega)]
  congr 1; omega
theorem sg_S2 {s : State} {A : Nat → Prop} {t0 t1 : Nat} {adK adV : Nat → Nat} (h : vk_S 5 aw_tl aw_tb adK adV A s s.heap) : vk_S 5 aw_tl aw_tb (fun i => gSF t0 t1 adK adV (2 + i)) (fun i => gSF t0 t1 adK adV (7 + i)) A s s.heap := by
  refine ⟨fun i hi => ?_, fun i j hi hj e => ?_⟩
  · obtain ⟨h1, h2, h3, h4⟩ := h.1 i hi
    refine ⟨?_, ?_, ?_, ?_⟩
    · dsimp only; rw [gSF_k hi]; exact h1
    · dsimp only; rw [gSF_k hi]; exact h2
    · dsimp only; rw [gSF_k hi, gSF_v]; exact h3
    · dsimp only; rw [gSF_v]; exact h4
  · dsimp only at e
    rw [gSF_k hi, gSF_k hj] at e
    exact h.2 i j hi hj e
/-- what stands around the law's walk -/
theorem sg_g {s : State} {b L : Nat} {xs : Nat → Int32} (l : Launch) (hG : gvc.before #[Value.ref b] s = true) (hts : ∀ w ∈ lw_tbl, w.before #[Value.ref b] s = true) (hX : va_X b L xs s s.heap) (hb : b < s.heap.size) : ∃ g : GG, gL g = l ∧ gB g = s.heap.size ∧ gX g = (b, L, xs) ∧ va_K (gD g) aw_cl (aw_tys g) s ∧ aw_St g s s.heap ∧ aw_Sr g s := by
  have F := flat_of_before _ hG
  have hA : ∀ a : Nat, a < s.heap.size → ¬ (s.heap.size ≤ a) := fun a h => Nat.not_le.mpr h
  obtain ⟨D, hD⟩ := sg_D hts
  obtain ⟨C, hC⟩ := sg_C hts
  obtain ⟨t0, hz0, hT0⟩ := sg_T (A := fun q => s.heap.size ≤ q) hG hts hA sg_L sg_lay.1
  obtain ⟨t1, hz1, hT1⟩ := sg_T (A := fun q => s.heap.size ≤ q) hG hts hA sg_M sg_lay.2.1
  obtain ⟨adK, adV, hS, hev⟩ := sg_S (A := fun q => s.heap.size ≤ q) hG hA
  refine ⟨(l, s.heap.size, D, C, gSF t0 t1 adK adV, (b, L, xs)), rfl, rfl, rfl, ⟨hD, fun k q hk => hC q (List.mem_of_getElem? hk)⟩, ⟨⟨hz0, hT0⟩, ⟨hz1, hT1⟩, va_Zof (hts _ sg_lay.2.2.1) (hts _ sg_ini.2.1) (va_eqi (F _ sg_z.1)) hA, va_Zqof (hts _ sg_lay.2.2.2) (hts _ sg_ini.2.2) (F _ sg_z.2) hA, sg_S2 hS, hX, hb⟩, ?_⟩
  refine ⟨fun q hq => ?_, fun q hq => va_Nw.of rfl (hts _ (sg_nl q hq)), fun q hq => va_Nw.of rfl (hts _ (sg_cs q hq)), fun q hq => va_Nc.of (F _ (sg_nc q hq)), fun q hq => va_AO.of (hts _ (sg_ao q hq)), hts _ sg_a2⟩
  obtain ⟨h1, h2⟩ := sg_sl q hq
  refine vk_R.of (A := #[Value.ref b]) (hts _ (sg_sr q hq)) ?_
  show (Term.string q.1 q.2.1).eval #[Value.ref b] s none [] s = some (.ref (gSF t0 t1 adK adV (2 + q.2.2.2)))
  rw [gSF_k h1]
  rcases h2 with h2 | h2
  · rw [h2]; exact hev _ h1
  · exact va_eqR (F _ h2) (hev _ h1)
