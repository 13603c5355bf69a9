/-! what makes cells: constructors; a world is a list of cells at addresses that come as they are made -/
abbrev yMD : Type := zMD × Nat × Nat
def rk (kd : yMD) : Room := { frames := kd.1.2.2.2.2, cells := kd.2.1, slots := kd.2.2, locals := 40 * kd.1.2.2.2.2 }
def yNs (U : State) : Prop := zNs U ∧ va_Nw (.methodLinkNest RX6 63 yX4_init "CrownlessDays") U ∧ va_AO RX4 U
theorem yNs.warm {s U : State} (hW : s.WarmedH U.vm) (h : yNs s) : yNs U := ⟨zNs.warm hW h.1, va_Nw.warmM hW h.2.1, h.2.2.moved hW.alike⟩
def yH (en : zE) (ws : va_W) (sz : Nat) (U : State) : Prop := U.heap.size = sz ∧ va_P en.2.1 vwCl ws U.heap ∧ va_K en.2.1 vwCl (zty en) U ∧ va_D (fun _ => True) ws ∧ zSt en (va_A ws sz) U U.heap ∧ yNs U
def yQ (en : zE) (ws : va_W) (sz : Nat) (P : va_W → Prop) : Array Value → State → Outcome → State → Prop := va_Qv P (fun w1 t => va_P en.2.1 vwCl w1 t.heap ∧ va_D (va_A ws sz) w1) (va_A ws sz)
/-- a constructor's contract -/
def Kt (en : zE) (y : MethodName) (kd : yMD) (av : List Value) (ws : va_W) (P : va_W → Prop) : Prop := ∀ sz : Nat, Met en.1 y (.code y kd.1.2.1 kd.1.2.2.1 kd.1.2.2.2.1 :: lw_g) (rk kd) (va_Pc av (yH en ws sz)) (yQ en ws sz P) kd.2.1 kd.2.2 (va_A ws sz)
abbrev yX : Type := (Nat → Prop) × Program × Env × Room × State × MethodId × Array Value × List Frame × Method × Code × (State → Prop)
def yF (en : zE) (cx : yX) (kd : yMD) : Prop := match cx with
  | (A, p, _, R, s, m, args, _, _, c, _) => p.tables.exec = Jvm.exec ∧ c.code = kd.1.2.1 ∧ c.maxLocals = kd.1.2.2.1 ∧ s.vm.findClass kd.1.1 = some m.cls ∧ (∀ w ∈ lw_g, w.before args s = true) ∧ va_K en.2.1 vwCl (zty en) s ∧ (∀ q, s.heap.size ≤ q → A q) ∧ zSt en A s s.heap ∧ kd.1.2.2.2.2 ≤ R.frames ∧ 40 * kd.1.2.2.2.2 ≤ R.locals ∧ kd.2.1 ≤ R.cells ∧ kd.2.2 ≤ R.slots ∧ yNs s
/-- at pc, with the cells ws, nc cells of ns slots made, the method comes to its end -/
def Y (en : zE) (cx : yX) (kd : yMD) (nc ns : Nat) (ws : va_W) (pc : Nat) (lv : List (Nat × Value)) (st : List Value) : Prop := match cx with
  | (A, p, e, R, s, m, args, below, meth, c, Q) => yF en cx kd → ∀ (H : Heap) (locs : List Loc) (ls : Array Slot), va_P en.2.1 vwCl ws H → va_D A ws → va_S A s.heap H locs → lv_has ls kd.1.2.2.1 lv → W p en.1 e R s m args below meth c H locs nc ns Q (F0 m pc ls st)
def yC (en : zE) (cx : yX) (kd : yMD) (ws : va_W) (P : va_W → Prop) : Prop := match cx with
  | (A, _, _, _, s, _, args, below, meth, _, Q) => A = va_A ws s.heap.size ∧ meth.sig.returnType = none ∧ meth.locks = false ∧ meth.name = "<init>" ∧ Q = MQ below (yQ en ws s.heap.size P) args s kd.2.1 kd.2.2 (va_A ws s.heap.size)
theorem yH.blind {en : zE} {ws : va_W} {sz : Nat} {av : List Value} : FrameBlind (va_Pc av (yH en ws sz)) := fun a U g mk q => by
  obtain ⟨q0, qz, qP, qK, qD, qS, qN, qM, qO⟩ := q
  exact ⟨q0, qz, qP, va_K.moved (u := U) (U := U.calling g mk a) (Vm.Alike.refl U.vm) qK, qD, zSt.moved (u := U) (U := U.calling g mk a) (Vm.Alike.refl U.vm) qS, fun w h => va_Nw.same rfl rfl (qN w h), va_Nw.same rfl rfl qM, va_AO.moved (u := U) (U := U.calling g mk a) (Vm.Alike.refl U.vm) qO⟩
theorem Kt.of {en : zE} {y : MethodName} {kd : yMD} {av : List Value} {ws : va_W} {P : va_W → Prop} (hy : plainName y.cls = true) (hc : y.cls = kd.1.1) (hi : y.name = "<init>") (hr : kd.1.2.2.2.1 = none) (lv : List (Nat × Value)) (hl : lv_args 0 av = lv) (hn : (lg_sl av).length ≤ kd.1.2.2.1)
    (w : ∀ cx : yX, yC en cx kd ws P → Y en cx kd 0 0 ws 0 lv []) : Kt en y kd av ws P := by
  intro sz
  refine Met.ofW (cc := kd.1.2.1) (maxL := kd.1.2.2.1) (ret := kd.1.2.2.2.1) hy rfl ?_
  intro p e s m args below meth c s₁ B hml hv
  obtain ⟨rfl, rfl, hP, hK, hD, hSt, hNs⟩ := hv
  have hts := atoms_spec (ws := .code y kd.1.2.1 kd.1.2.2.1 kd.1.2.2.2.1 :: lw_g) B.pre
  have hown : s.vm.findClass y.cls = some m.cls := findClass_of_methodNamed B.named
  have hin : meth.name = "<init>" := ((name_of_methodNamed B.named B.method).1).trans hi
  have hl1 := lv_entry av (n := kd.1.2.2.1) hn
  rw [hl] at hl1
  rw [lg_entry_eq]
  exact w (va_A ws s.heap.size, p, e, rk kd, s, m, av.toArray, below, meth, c, MQ below (yQ en ws s.heap.size P) av.toArray s kd.2.1 kd.2.2 (va_A ws s.heap.size)) ⟨rfl, B.returns.trans hr, B.notSynchronized, hin, rfl⟩
    ⟨B.exec, B.bytes, hml, hc ▸ hown, fun w h => hts w (List.mem_cons_of_mem _ h), hK, fun q h => Or.inr h, hSt, Nat.le_refl _, Nat.le_refl _, Nat.le_refl _, Nat.le_refl _, hNs⟩ s.heap [] _ hP hD.self va_S.rf hl1
/-- new: a class of the world, its fields' first values -/
def CLk (own : String) (idx ci N : Nat) (fs : List Value) : Prop := ∃ (C : String) (T : u_T) (ty0 : Nat → FieldType), vwCl[ci]? = some (C, T, N) ∧ (∀ w ∈ u_ws C T N, w ∈ lw_g) ∧ (∀ k, k < N → parseFieldDescriptor (T k).2.2.1 = some (ty0 k)) ∧ Cond.classLink own idx C ∈ lw_g ∧ Cond.instantiable C N ∈ lw_g ∧ Cond.initialized C ∈ lw_g ∧ ∀ j, j < N → defaultValue (ty0 j) = vp_V fs j
/-- a final field, set in its class's constructor -/
def FFk (own : String) (idx ci k : Nat) (ty : FieldType) : Prop := ∃ (C : String) (T : u_T) (N : Nat) (ty0 : Nat → FieldType), vwCl[ci]? = some (C, T, N) ∧ k < N ∧ (∀ w ∈ u_ws C T N, w ∈ lw_g) ∧ Cond.fieldLink own idx (T k).1 (T k).2.1 (T k).2.2.1 ∈ lw_g ∧ (∀ k, k < N → parseFieldDescriptor (T k).2.2.1 = some (ty0 k)) ∧ (∀ a, a < N → ∀ b, b < N → a ≠ b → (T a).2.1 ≠ (T b).2.1) ∧ (T k).2.2.2 = true ∧ (T k).1 = own ∧ ty0 k = ty
def ILk (own : String) (idx : Nat) (y : MethodName) (md : zMD) (n : Nat) : Prop := Cond.methodLink own idx y ∈ lw_g ∧ Cond.instanceMethod y ∈ lw_g ∧ Cond.initialized y.cls ∈ lw_g ∧ Cond.code y md.2.1 md.2.2.1 md.2.2.2.1 ∈ lw_g ∧ y.name = "<init>" ∧ md.2.2.2.1 = none ∧ yOk y n
section YR
variable {en : zE} {cx : yX} {kd : yMD} {nc ns : Nat} {ws : va_W} {pc pc' tgt : Nat} {lv : List (Nat × Value)} {st : List Value}
theorem tcl57 : Cond.classLink RX6 57 RX4 ∈ lw_g := tin 213 (by decide +kernel) rfl
theorem y_iconst {n : Int} (hd : Dc kd.1 pc (.iconst n) 1 pc') (k : Y en cx kd nc ns ws pc' lv (vi n :: st)) : Y en cx kd nc ns ws pc lv (st) := by
  obtain ⟨A, p, e, R, s, m, args, below, meth, c, Q⟩ := cx
  intro F H locs ls hP hD hS hl
  obtain ⟨hd, rfl⟩ := hd
  exact lv_iconst F.1 F.2.1 hd rfl (k F H locs ls hP hD hS hl)
theorem y_bipush {n : Int} (hd : Dc kd.1 pc (.bipush n) 2 pc') (hn : (Int8.ofInt n).toInt32 = Int32.ofInt n) (k : Y en cx kd nc ns ws pc' lv (vi n :: st)) : Y en cx kd nc ns ws pc lv (st) := by
  obtain ⟨A, p, e, R, s, m, args, below, meth, c, Q⟩ := cx
  intro F H locs ls hP hD hS hl
  obtain ⟨hd, rfl⟩ := hd
  exact lv_bipush F.1 F.2.1 hd hn (k F H locs ls hP hD hS hl)
theorem y_sipush {n : Int} (hd : Dc kd.1 pc (.sipush n) 3 pc') (hn : (Int16.ofInt n).toInt32 = Int32.ofInt n) (k : Y en cx kd nc ns ws pc' lv (vi n :: st)) : Y en cx kd nc ns ws pc lv (st) := by
  obtain ⟨A, p, e, R, s, m, args, below, meth, c, Q⟩ := cx
  intro F H locs ls hP hD hS hl
  obtain ⟨hd, rfl⟩ := hd
  exact lv_sipush F.1 F.2.1 hd hn (k F H locs ls hP hD hS hl)
theorem y_aload_n {q : Fin 4} {x : Nat} (j : Nat) (hd : Dc kd.1 pc (.aload_n q) 1 pc') (hv : lv[j]? = some (q.val, .ref x)) (k : Y en cx kd nc ns ws pc' lv (.ref x :: st)) : Y en cx kd nc ns ws pc lv (st) := by
  obtain ⟨A, p, e, R, s, m, args, below, meth, c, Q⟩ := cx
  intro F H locs ls hP hD hS hl
  obtain ⟨hd, rfl⟩ := hd
  exact lv_aload_n F.1 F.2.1 hd rfl (lv_at hl j hv) (k F H locs ls hP hD hS hl)
theorem y_iload_n {q : Fin 4} {x : Int} (j : Nat) (hd : Dc kd.1 pc (.iload_n q) 1 pc') (hv : lv[j]? = some (q.val, vi x)) (k : Y en cx kd nc ns ws pc' lv (vi x :: st)) : Y en cx kd nc ns ws pc lv (st) := by
  obtain ⟨A, p, e, R, s, m, args, below, meth, c, Q⟩ := cx
  intro F H locs ls hP hD hS hl
  obtain ⟨hd, rfl⟩ := hd
  exact lv_iload_n F.1 F.2.1 hd rfl (lv_at hl j hv) (k F H locs ls hP hD hS hl)
theorem y_dup {x : Nat} (hd : Dc kd.1 pc (.dup) 1 pc') (k : Y en cx kd nc ns ws pc' lv (.ref x :: .ref x :: st)) : Y en cx kd nc ns ws pc lv (.ref x :: st) := by
  obtain ⟨A, p, e, R, s, m, args, below, meth, c, Q⟩ := cx
  intro F H locs ls hP hD hS hl
  obtain ⟨hd, rfl⟩ := hd
  exact lv_dup F.1 F.2.1 hd rfl (k F H locs ls hP hD hS hl)
theorem y_goto {off : Int} (hd : Dc kd.1 pc (.goto off) 3 pc') (ht : (pc : Int) + off = (tgt : Int)) (k : Y en cx kd nc ns ws tgt lv st) : Y en cx kd nc ns ws pc lv st := by
  obtain ⟨A, p, e, R, s, m, args, below, meth, c, Q⟩ := cx
  intro F H locs ls hP hD hS hl
  obtain ⟨hd, rfl⟩ := hd
  exact lv_goto F.1 F.2.1 hd ht (k F H locs ls hP hD hS hl)
theorem y_icmp_ge {x y off : Int} (hd : Dc kd.1 pc (.if_icmp .ge off) 3 pc') (ht : (pc : Int) + off = (tgt : Int)) (h : -2147483648 ≤ x ∧ x < 2147483648 ∧ -2147483648 ≤ y ∧ y < 2147483648) (kt : y ≤ x → Y en cx kd nc ns ws tgt lv st) (kf : x < y → Y en cx kd nc ns ws pc' lv st) : Y en cx kd nc ns ws pc lv (vi y :: vi x :: st) := by
  obtain ⟨A, p, e, R, s, m, args, below, meth, c, Q⟩ := cx
  intro F H locs ls hP hD hS hl
  obtain ⟨hd, rfl⟩ := hd
  exact lv_icmp_ge F.1 F.2.1 hd ht (fun z => kt ((ole ⟨h.2.2.1, h.2.2.2, h.1, h.2.1⟩).mp z) F H locs ls hP hD hS hl) (fun z => kf (Int.not_le.mp (fun u => z ((ole ⟨h.2.2.1, h.2.2.2, h.1, h.2.1⟩).mpr u))) F H locs ls hP hD hS hl)
theorem y_istore_n {q : Fin 4} {x : Int} (lv2 : List (Nat × Value)) (ps : List Nat) (hd : Dc kd.1 pc (.istore_n q) 1 pc') (hn : q.val < kd.1.2.2.1) (hL : lv_pick ((q.val, vi x) :: lv.filter (fun z0 => !(z0.1 == q.val) && !(z0.1 + 1 == q.val && z0.2.category == 2))) ps = lv2) (k : Y en cx kd nc ns ws pc' lv2 st) : Y en cx kd nc ns ws pc lv (vi x :: st) := by
  obtain ⟨A, p, e, R, s, m, args, below, meth, c, Q⟩ := cx
  intro F H locs ls hP hD hS hl
  obtain ⟨hd, rfl⟩ := hd
  exact lv_istore_n F.1 F.2.1 hd rfl hl hn rfl (fun ls' hl' => k F H locs ls' hP hD hS (lv_sub hl' ps hL))
theorem y_astore_n {q : Fin 4} {x : Nat} (lv2 : List (Nat × Value)) (ps : List Nat) (hd : Dc kd.1 pc (.astore_n q) 1 pc') (hn : q.val < kd.1.2.2.1) (hL : lv_pick ((q.val, .ref x) :: lv.filter (fun z0 => !(z0.1 == q.val) && !(z0.1 + 1 == q.val && z0.2.category == 2))) ps = lv2) (k : Y en cx kd nc ns ws pc' lv2 st) : Y en cx kd nc ns ws pc lv (.ref x :: st) := by
  obtain ⟨A, p, e, R, s, m, args, below, meth, c, Q⟩ := cx
  intro F H locs ls hP hD hS hl
  obtain ⟨hd, rfl⟩ := hd
  exact lv_astore_n F.1 F.2.1 hd rfl hl hn rfl (fun ls' hl' => k F H locs ls' hP hD hS (lv_sub hl' ps hL))
theorem y_iinc {q : Nat} {n x y : Int} (lv2 : List (Nat × Value)) (ps : List Nat) (j : Nat) (hd : Dc kd.1 pc (.iinc q n) 3 pc') (hv : lv[j]? = some (q, vi x)) (hn : q < kd.1.2.2.1) (hy : x + n = y) (hL : lv_pick ((q, vi y) :: lv.filter (fun z0 => !(z0.1 == q) && !(z0.1 + 1 == q && z0.2.category == 2))) ps = lv2) (k : Y en cx kd nc ns ws pc' lv2 st) : Y en cx kd nc ns ws pc lv st := by
  subst hy
  obtain ⟨A, p, e, R, s, m, args, below, meth, c, Q⟩ := cx
  intro F H locs ls hP hD hS hl
  obtain ⟨hd, rfl⟩ := hd
  exact lv_iinc F.1 F.2.1 hd hl hv (Int32.ofInt_add x n).symm hn rfl (fun ls' hl' => k F H locs ls' hP hD hS (lv_sub hl' ps hL))
theorem toI : Cond.instanceMethod Lib.objectInit ∈ lw_g := tin 19 (by decide +kernel) rfl
theorem toC : Cond.code Lib.objectInit ⟨#[0xb1]⟩ 1 none ∈ lw_g := tin 20 (by decide +kernel) rfl
theorem y_obj {idx x : Nat} (hd : Dc kd.1 pc (.invokespecial idx) 3 pc') (hlk : Cond.methodLink kd.1.1 idx Lib.objectInit ∈ lw_g) (hh : 1 ≤ kd.1.2.2.2.2) (hW : (st.map fun v => v.category).sum ≤ 8) (k : Y en cx kd nc ns ws pc' lv st) : Y en cx kd nc ns ws pc lv (.ref x :: st) := by
  obtain ⟨A, p, e, R, s, m, args, below, meth, c, Q⟩ := cx
  intro F H locs ls hP hD hS hl
  obtain ⟨hd, rfl⟩ := hd
  refine W.objInit F.1 F.2.1 F.2.2.2.1 (F.2.2.2.2.1 _ hlk) (F.2.2.2.2.1 _ toI) (F.2.2.2.2.1 _ toC) rfl (by rw [F.2.2.1]; exact hl.1) rfl hd (Nat.le_trans hh F.2.2.2.2.2.2.2.2.1) (Nat.le_trans (by show 2 * 0 + (st.map fun v => v.category).sum + 12 ≤ 40 * kd.1.2.2.2.2; omega) F.2.2.2.2.2.2.2.2.2.1) ?_
  exact (k F H locs ls hP hD hS hl)
theorem tac_int : Cond.arrayClass .int ∈ lw_g := tin 96 (by decide +kernel) rfl
theorem tac_boolean : Cond.arrayClass .boolean ∈ lw_g := tin 184 (by decide +kernel) rfl
theorem tac_long : Cond.arrayClass .long ∈ lw_g := tin 212 (by decide +kernel) rfl
theorem y_newI {n : Nat} {x : Int} (hd : Dc kd.1 pc (.newarray .int) 2 pc') (hx : x = n) (hn : n ≤ 1000) (h1 : nc + 1 ≤ kd.2.1) (h2 : ns + n ≤ kd.2.2) (k : ∀ q : Nat, Y en cx kd (nc + 1) (ns + n) (ws ++ [(q, aI en n (fun _ => 0))]) pc' lv (.ref q :: st)) : Y en cx kd nc ns ws pc lv (vi x :: st) := by
  subst hx
  obtain ⟨A, p, e, R, s, m, args, below, meth, c, Q⟩ := cx
  intro F H locs ls hP hD hS hl
  obtain ⟨hd, rfl⟩ := hd
  refine va_newa (atype := .int) F.1 F.2.1 (F.2.2.2.2.1 _ tac_int) rfl F.2.2.2.2.2.1 hP hD hS F.2.2.2.2.2.2.1 (a0 := (n, .inl (rI (fun _ => 0)))) (fun _ => rfl) (fun z => by rw [oz, olt (by omega)] at z; omega) (ocl (by omega) (by omega)) (by show n * 4 ≤ 536870912; omega) (Nat.le_trans h1 F.2.2.2.2.2.2.2.2.2.2.1) (Nat.le_trans h2 F.2.2.2.2.2.2.2.2.2.2.2.1) hd (fun q cA H1 hK1 hP1 hD1 hS1 => ?_)
  have e1 : s.vm.findClass ("[" ++ (FieldType.int).toString) = some cA := (hK1.2 4 _ rfl).2
  have e2 : s.vm.findClass ("[" ++ (FieldType.int).toString) = some _ := (F.2.2.2.2.2.1.2 0 _ rfl).2
  cases e1.symm.trans e2
  exact k q F H1 locs ls hP1 hD1 hS1 hl
theorem y_newJ {n : Nat} {x : Int} (hd : Dc kd.1 pc (.newarray .long) 2 pc') (hx : x = n) (hn : n ≤ 1000) (h1 : nc + 1 ≤ kd.2.1) (h2 : ns + n ≤ kd.2.2) (k : ∀ q : Nat, Y en cx kd (nc + 1) (ns + n) (ws ++ [(q, aJ en n (fun _ => 0))]) pc' lv (.ref q :: st)) : Y en cx kd nc ns ws pc lv (vi x :: st) := by
  subst hx
  obtain ⟨A, p, e, R, s, m, args, below, meth, c, Q⟩ := cx
  intro F H locs ls hP hD hS hl
  obtain ⟨hd, rfl⟩ := hd
  refine va_newa (atype := .long) F.1 F.2.1 (F.2.2.2.2.1 _ tac_long) rfl F.2.2.2.2.2.1 hP hD hS F.2.2.2.2.2.2.1 (a0 := (n, .inr (.inl (rJ (fun _ => 0))))) (fun _ => rfl) (fun z => by rw [oz, olt (by omega)] at z; omega) (ocl (by omega) (by omega)) (by show n * 8 ≤ 536870912; omega) (Nat.le_trans h1 F.2.2.2.2.2.2.2.2.2.2.1) (Nat.le_trans h2 F.2.2.2.2.2.2.2.2.2.2.2.1) hd (fun q cA H1 hK1 hP1 hD1 hS1 => ?_)
  have e1 : s.vm.findClass ("[" ++ (FieldType.long).toString) = some cA := (hK1.2 4 _ rfl).2
  have e2 : s.vm.findClass ("[" ++ (FieldType.long).toString) = some _ := (F.2.2.2.2.2.1.2 1 _ rfl).2
  cases e1.symm.trans e2
  exact k q F H1 locs ls hP1 hD1 hS1 hl
theorem y_newZ {n : Nat} {x : Int} (hd : Dc kd.1 pc (.newarray .boolean) 2 pc') (hx : x = n) (hn : n ≤ 1000) (h1 : nc + 1 ≤ kd.2.1) (h2 : ns + n ≤ kd.2.2) (k : ∀ q : Nat, Y en cx kd (nc + 1) (ns + n) (ws ++ [(q, aZ en n (fun _ => 0))]) pc' lv (.ref q :: st)) : Y en cx kd nc ns ws pc lv (vi x :: st) := by
  subst hx
  obtain ⟨A, p, e, R, s, m, args, below, meth, c, Q⟩ := cx
  intro F H locs ls hP hD hS hl
  obtain ⟨hd, rfl⟩ := hd
  refine va_newa (atype := .boolean) F.1 F.2.1 (F.2.2.2.2.1 _ tac_boolean) rfl F.2.2.2.2.2.1 hP hD hS F.2.2.2.2.2.2.1 (a0 := (n, .inl (rI (fun _ => 0)))) (fun _ => rfl) (fun z => by rw [oz, olt (by omega)] at z; omega) (ocl (by omega) (by omega)) (by show n * 1 ≤ 536870912; omega) (Nat.le_trans h1 F.2.2.2.2.2.2.2.2.2.2.1) (Nat.le_trans h2 F.2.2.2.2.2.2.2.2.2.2.2.1) hd (fun q cA H1 hK1 hP1 hD1 hS1 => ?_)
  have e1 : s.vm.findClass ("[" ++ (FieldType.boolean).toString) = some cA := (hK1.2 4 _ rfl).2
  have e2 : s.vm.findClass ("[" ++ (FieldType.boolean).toString) = some _ := (F.2.2.2.2.2.1.2 2 _ rfl).2
  cases e1.symm.trans e2
  exact k q F H1 locs ls hP1 hD1 hS1 hl
theorem y_new {idx ci n : Nat} {fs : List Value} (hd : Dc kd.1 pc (.new idx) 3 pc') (hl9 : CLk kd.1.1 idx ci n fs) (h1 : nc + 1 ≤ kd.2.1) (h2 : ns + n ≤ kd.2.2) (k : ∀ q : Nat, Y en cx kd (nc + 1) (ns + n) (ws ++ [(q, .inr (ci, fs))]) pc' lv (.ref q :: st)) : Y en cx kd nc ns ws pc lv st := by
  obtain ⟨A, p, e, R, s, m, args, below, meth, c, Q⟩ := cx
  intro F H locs ls hP hD hS hl
  obtain ⟨hd, rfl⟩ := hd
  obtain ⟨C, T, ty0, l1, l2, l3, l4, l5, l6, l7⟩ := hl9
  exact va_new F.1 F.2.1 F.2.2.2.2.1 l2 ty0 l3 F.2.2.2.1 (F.2.2.2.2.1 _ l4) (F.2.2.2.2.1 _ l5) (F.2.2.2.2.1 _ l6) F.2.2.2.2.2.1 hP hD hS F.2.2.2.2.2.2.1 l1 l7 (Nat.le_trans h1 F.2.2.2.2.2.2.2.2.2.2.1) (Nat.le_trans h2 F.2.2.2.2.2.2.2.2.2.2.2.1) hd (fun q H1 hP1 hD1 hS1 => k q F H1 locs ls hP1 hD1 hS1 hl)
theorem y_get {idx ci j a : Nat} {fs : List Value} {v : Value} (q0 : Nat) (hd : Dc kd.1 pc (.getfield idx) 3 pc') (hl9 : FLk kd.1.1 idx ci j) (he : ws[q0]? = some (a, .inr (ci, fs))) (hv : fs[j]? = some v) (k : Y en cx kd nc ns ws pc' lv (v :: st)) : Y en cx kd nc ns ws pc lv (.ref a :: st) := by
  obtain ⟨A, p, e, R, s, m, args, below, meth, c, Q⟩ := cx
  intro F H locs ls hP hD hS hl
  obtain ⟨hd, rfl⟩ := hd
  obtain ⟨C, T, n, ref, l1, l2, l3, l4, l5⟩ := hl9
  refine va_get (D := en.2.1) F.1 F.2.1 F.2.2.2.2.1 l3 F.2.2.2.1 F.2.2.2.2.2.1 hP q0 he l1 j l2 (F.2.2.2.2.1 _ l4) (fun x hx => ?_) hv hd (k F H locs ls hP hD hS hl)
  rcases l5 with h | h
  · rw [h]; exact hx
  · exact u_same (F.2.2.2.2.1 _ h) x hx
theorem y_putF {idx ci j a : Nat} {fs : List Value} {v : Value} {ty : FieldType} {P : va_W → Prop} {w0 ws2 : va_W} (q0 : Nat) (C : yC en cx kd w0 P) (hd : Dc kd.1 pc (.putfield idx) 3 pc') (hl9 : FFk kd.1.1 idx ci j ty) (he : ws[q0]? = some (a, .inr (ci, fs))) (hn : narrow ty v = v) (hf : fits ty v = true) (hj : j < fs.length) (hw : ws.set q0 (a, .inr (ci, fs.set j v)) = ws2) (k : Y en cx kd nc ns ws2 pc' lv st) : Y en cx kd nc ns ws pc lv (v :: .ref a :: st) := by
  subst hw
  obtain ⟨A, p, e, R, s, m, args, below, meth, c, Q⟩ := cx
  intro F H locs ls hP hD hS hl
  obtain ⟨hd, rfl⟩ := hd
  obtain ⟨D, T, n, ty0, l1, l2, l3, l4, l5, l6, l7, l8, rfl⟩ := hl9
  exact va_putF (D := en.2.1) F.1 F.2.1 F.2.2.2.2.1 l3 ty0 l5 l6 F.2.2.2.1 F.2.2.2.2.2.1 hP hD hS q0 he l1 j l2 (F.2.2.2.2.1 _ l4) (fun _ h => h) l7 C.2.2.2.1 l8 (l5 j l2) hn hf hj hd (fun H1 locs1 hP1 hD1 hS1 => k F H1 locs1 ls hP1 hD1 hS1 hl)
theorem y_put {idx ci j a : Nat} {fs : List Value} {v : Value} {ty : FieldType} {ws2 : va_W} (q0 : Nat) (hd : Dc kd.1 pc (.putfield idx) 3 pc') (hl9 : FPk kd.1.1 idx ci j ty) (he : ws[q0]? = some (a, .inr (ci, fs))) (hn : narrow ty v = v) (hf : fits ty v = true) (hj : j < fs.length) (hw : ws.set q0 (a, .inr (ci, fs.set j v)) = ws2) (k : Y en cx kd nc ns ws2 pc' lv st) : Y en cx kd nc ns ws pc lv (v :: .ref a :: st) := by
  subst hw
  obtain ⟨A, p, e, R, s, m, args, below, meth, c, Q⟩ := cx
  intro F H locs ls hP hD hS hl
  obtain ⟨hd, rfl⟩ := hd
  obtain ⟨D, T, n, ref, ty0, l1, l2, l3, l4, l9, l5, l6, l7, rfl⟩ := hl9
  refine va_put (D := en.2.1) F.1 F.2.1 F.2.2.2.2.1 l3 ty0 l5 l6 F.2.2.2.1 F.2.2.2.2.2.1 hP hD hS q0 he l1 j l2 (F.2.2.2.2.1 _ l4) (fun x hx => ?_) l7 (l5 j l2) hn hf hj hd (fun H1 locs1 hP1 hD1 hS1 => k F H1 locs1 ls hP1 hD1 hS1 hl)
  rcases l9 with h | h
  · rw [h]; exact hx
  · exact u_same (F.2.2.2.2.1 _ h) x hx
theorem y_iast {a n : Nat} {i x : Int} {r : Int → Int} {ws2 : va_W} (q0 : Nat) (hd : Dc kd.1 pc .iastore 1 pc') (he : ws[q0]? = some (a, aI en n r)) (hn : n < 2147483648) (hi : 0 ≤ i ∧ i < n) (hw : ws.set q0 (a, aI en n (up r i x)) = ws2) (k : Y en cx kd nc ns ws2 pc' lv st) : Y en cx kd nc ns ws pc lv (vi x :: vi i :: .ref a :: st) := by
  subst hw
  obtain ⟨A, p, e, R, s, m, args, below, meth, c, Q⟩ := cx
  intro F H locs ls hP hD hS hl
  obtain ⟨hd, rfl⟩ := hd
  refine va_iast F.1 F.2.1 F.2.2.2.2.2.1 hP hD hS q0 0 he rfl (oin hi.1 hi.2 hn) hd (fun H1 locs1 hP1 hD1 hS1 => ?_)
  rw [ocl hi.1 (by omega), ← rI_up hi.1] at hP1 hD1
  exact k F H1 locs1 ls hP1 hD1 hS1 hl
theorem y_tab {P : va_W → Prop} (hd : Dc kd.1 pc (.getstatic 23) 3 pc') (ho : kd.1.1 = RX6) (k : Y en cx kd nc ns ws pc' lv (rTA en :: st)) : Y en cx kd nc ns ws pc lv st := by
  obtain ⟨A, p, e, R, s, m, args, below, meth, c, Q⟩ := cx
  intro F H locs ls hP hD hS hl
  obtain ⟨hd, rfl⟩ := hd
  exact va_gets F.1 F.2.1 F.2.2.2.2.2.2.2.1.1 hS F.2.2.2.1 (by rw [ho]; exact F.2.2.2.2.1 _ tfA) (fun _ h => h) hd (k F H locs ls hP hD hS hl)
theorem y_tabLen (hd : Dc kd.1 pc .arraylength 1 pc') (k : Y en cx kd nc ns ws pc' lv (vi 6 :: st)) : Y en cx kd nc ns ws pc lv (rTA en :: st) := by
  obtain ⟨A, p, e, R, s, m, args, below, meth, c, Q⟩ := cx
  intro F H locs ls hP hD hS hl
  obtain ⟨hd, rfl⟩ := hd
  exact va_tlen F.1 F.2.1 F.2.2.2.2.2.2.2.1.2.1 hS rfl hd (k F H locs ls hP hD hS hl)
theorem y_anew {n : Nat} {x : Int} (hd : Dc kd.1 pc (.anewarray 57) 3 pc') (ho : kd.1.1 = RX6) (hx : x = n) (hn : n ≤ 1000) (h1 : nc + 1 ≤ kd.2.1) (h2 : ns + n ≤ kd.2.2) (k : ∀ q : Nat, Y en cx kd (nc + 1) (ns + n) (ws ++ [(q, .inl (en.2.2.1.2.2.2, n, .inr (.inr (.inr (.inr (fun _ => none))))))]) pc' lv (.ref q :: st)) : Y en cx kd nc ns ws pc lv (vi x :: st) := by
  subst hx
  obtain ⟨A, p, e, R, s, m, args, below, meth, c, Q⟩ := cx
  intro F H locs ls hP hD hS hl
  obtain ⟨hd, rfl⟩ := hd
  refine va_newq F.1 F.2.1 F.2.2.2.1 (by rw [ho]; exact F.2.2.2.2.1 _ tcl57) F.2.2.2.2.2.2.2.2.2.2.2.2.2.2 F.2.2.2.2.2.1 hP hD hS F.2.2.2.2.2.2.1 (fun z => by rw [oz, olt (by omega)] at z; omega) (ocl (by omega) (by omega)) (by omega) (Nat.le_trans h1 F.2.2.2.2.2.2.2.2.2.2.1) (Nat.le_trans h2 F.2.2.2.2.2.2.2.2.2.2.2.1) hd (fun q cA H1 hK1 hP1 hD1 hS1 => ?_)
  obtain ⟨-, -, -, -, -, e1⟩ := (hK1.2 4 _ rfl).2
  obtain ⟨-, -, -, -, -, e2⟩ := (F.2.2.2.2.2.1.2 3 _ rfl).2
  cases e1.symm.trans e2
  exact k q F H1 locs ls hP1 hD1 hS1 hl
theorem y_aast {a b n : Nat} {i : Int} {f : Nat → Option Nat} {vs : List Value} {ws2 : va_W} (q0 qk : Nat) (hd : Dc kd.1 pc .aastore 1 pc') (he : ws[q0]? = some (a, .inl (en.2.2.1.2.2.2, n, .inr (.inr (.inr (.inr f)))))) (hv : ws[qk]? = some (b, .inr (4, vs))) (hn : n < 2147483648) (hi : 0 ≤ i ∧ i < n) (hw : ws.set q0 (a, .inl (en.2.2.1.2.2.2, n, .inr (.inr (.inr (.inr (va_up f i.toNat (some b))))))) = ws2) (k : Y en cx kd nc ns ws2 pc' lv st) : Y en cx kd nc ns ws pc lv (.ref b :: vi i :: .ref a :: st) := by
  subst hw
  obtain ⟨A, p, e, R, s, m, args, below, meth, c, Q⟩ := cx
  intro F H locs ls hP hD hS hl
  obtain ⟨hd, rfl⟩ := hd
  refine va_astq (r := (RX4, TX4, 3)) F.1 F.2.1 F.2.2.2.2.2.1 hP hD hS q0 3 qk 4 he rfl hv rfl (oin hi.1 hi.2 hn) hd (fun H1 locs1 hP1 hD1 hS1 => ?_)
  rw [ocl hi.1 (by omega)] at hP1 hD1
  exact k F H1 locs1 ls hP1 hD1 hS1 hl
theorem y_vret {P : va_W → Prop} {w0 : va_W} (C : yC en cx kd w0 P) (hd : Dc kd.1 pc .return_ 1 pc') (h1 : nc ≤ kd.2.1) (h2 : ns ≤ kd.2.2) (h : P ws) : Y en cx kd nc ns ws pc lv [] := by
  obtain ⟨A, p, e, R, s, m, args, below, meth, c, Q⟩ := cx
  intro F H locs ls hP hD hS hl
  obtain ⟨hd, rfl⟩ := hd
  obtain ⟨rfl, c2, c3, c4, rfl⟩ := C
  refine W.widen (k := kd.2.1) (n := kd.2.2) h1 h2 ?_
  exact W.vret F.1 F.2.1 c2 (fun t ht hW => ⟨⟨ws, rfl, h, by rw [ht]; exact hP, hD⟩, hS.F ht⟩) hS.2.2 hd c3
theorem map_fil {ws : va_W} : ∀ {is : List Nat} {wc : va_W}, is.map (fun i => ws[i]?) = wc.map some → is.filterMap (fun i => ws[i]?) = wc
  | [], [], _ => rfl
  | [], _ :: _, h => by cases h
  | _ :: _, [], h => by cases h
  | i :: is, q :: wc, h => by
    simp only [List.map_cons, List.cons.injEq] at h
    rw [List.filterMap_cons, h.1, map_fil h.2]
theorem y_pre {A : Nat → Prop} {p : Program} {e : Env} {R : Room} {s : State} {m : MethodId} {args : Array Value} {below : List Frame} {meth : Method} {c : Code} {Q : State → Prop} {H : Heap} {locs : List Loc} {wc : va_W} (F : yF en (A, p, e, R, s, m, args, below, meth, c, Q) kd) (hP : va_P en.2.1 vwCl wc H) (hD : va_D A wc) (hS : va_S A s.heap H locs) (hF : ∀ q, va_A wc H.size q → A q) {U : State} (hU : U.heap = H) (hW : s.WarmedH U.vm) : yH en wc H.size U :=
  ⟨by rw [hU], by rw [hU]; exact hP, va_K.moved hW.alike F.2.2.2.2.2.1, hD.weaken (fun _ _ _ _ => trivial), by rw [hU]; exact ((zSt.kept F.2.2.2.2.2.2.2.1 hS.2.1).moved hW.alike).narrow hF, yNs.warm hW F.2.2.2.2.2.2.2.2.2.2.2.2⟩
theorem hOk.rk {kd' : yMD} (h : hOk kd.1 kd'.1) {R : Room} (h1 : kd.1.2.2.2.2 ≤ R.frames) (h2 : 40 * kd.1.2.2.2.2 ≤ R.locals) : (rk kd').frames + 1 ≤ R.frames ∧ 8 + (kd'.1.2.2.1 + 11) + (rk kd').locals ≤ R.locals := by
  obtain ⟨a, b⟩ := h
  refine ⟨Nat.le_trans a h1, ?_⟩
  show 8 + (kd'.1.2.2.1 + 11) + 40 * kd'.1.2.2.2.2 ≤ R.locals
  omega
theorem y_call {idx n b : Nat} {y : MethodName} {kd' : yMD} {As st0 : List Value} {P : va_W → Prop} {wc wr : va_W} (isC isR : List Nat) (hd : Dc kd.1 pc (.invokespecial idx) 3 pc') (hl9 : ILk kd.1.1 idx y kd'.1 n) (ho : hOk kd.1 kd'.1) (hC : isC.map (fun i => ws[i]?) = wc.map some) (hR : isR.map (fun i => ws[i]?) = wr.map some) (hcn : va_nd isC = true) (hnd : va_nd isR = true) (hdis : ∀ i ∈ isR, i ∉ isC) (ct : Kt en y kd' (.ref b :: As) wc P) (hst : st0 = As.reverse ++ .ref b :: st) (hn : As.length = n) (hW : (st.map fun v => v.category).sum ≤ 8) (h1 : nc + kd'.2.1 ≤ kd.2.1) (h2 : ns + kd'.2.2 ≤ kd.2.2) (k : ∀ w1, P w1 → Y en cx kd (nc + kd'.2.1) (ns + kd'.2.2) (wr ++ w1) pc' lv st) : Y en cx kd nc ns ws pc lv st0 := by
  obtain ⟨A, p, e, R, s, m, args, below, meth, c, Q⟩ := cx
  intro F H locs ls hP hD hS hl
  obtain ⟨hd, rfl⟩ := hd
  obtain ⟨l1, l2, l3, l4, l6, l7, l5⟩ := hl9
  obtain ⟨f1, f2, f3, f4, f5, f6, f7, f8, f9, f10, f11, f12, f13⟩ := id F
  have hPc : va_P en.2.1 vwCl wc H := hP.sub isC (map_fil hC)
  have hDc := hD.sub isC hcn hC
  have hFc := va_free hD hS f7 isC hC
  refine va_callv (va_runI (As := As) (rest := st) ⟨f1, f2, f3, f4, f5⟩ (ct H.size) (cwI n f5 (good_code l4) (by rw [l7]) rfl rfl (f5 _ l3) (f5 _ l1) (f5 _ l2) l6 l5 (ho.rk f9 f10)) ⟨yH.blind, fun U hU hW => ⟨rfl, y_pre F hPc hDc hS hFc hU hW⟩⟩ rfl hn hl.1 hst (lv_room hW) hd ⟨Nat.le_trans h1 f11, Nat.le_trans h2 f12⟩) hS (fun q _ h => hFc q h) hFc (fun u t H1 locs1 ht hvm hw hB hz1 hk1 hS1 => ?_)
  obtain ⟨hP1, hD1⟩ := hB
  rw [ht] at hP1
  obtain ⟨hP2, hD2⟩ := va_join hP hD isC isR hC hR hnd hdis hk1 hFc hP1 hD1
  exact k u hw F H1 locs1 ls hP2 hD2 hS1 hl
theorem y_callN {idx n b : Nat} {y : MethodName} {kd' : yMD} {host : String} {As st0 : List Value} {P : va_W → Prop} {wc wr : va_W} (isC isR : List Nat) (hd : Dc kd.1 pc (.invokespecial idx) 3 pc') (hN : ∀ U : State, yNs U → va_Nw (.methodLinkNest kd.1.1 idx y host) U) (hl9 : Cond.instanceMethod y ∈ lw_g ∧ Cond.initialized y.cls ∈ lw_g ∧ Cond.code y kd'.1.2.1 kd'.1.2.2.1 kd'.1.2.2.2.1 ∈ lw_g ∧ y.name = "<init>" ∧ kd'.1.2.2.2.1 = none ∧ yOk y n) (ho : hOk kd.1 kd'.1) (hC : isC.map (fun i => ws[i]?) = wc.map some) (hR : isR.map (fun i => ws[i]?) = wr.map some) (hcn : va_nd isC = true) (hnd : va_nd isR = true) (hdis : ∀ i ∈ isR, i ∉ isC) (ct : Kt en y kd' (.ref b :: As) wc P) (hst : st0 = As.reverse ++ .ref b :: st) (hn : As.length = n) (hW : (st.map fun v => v.category).sum ≤ 8) (h1 : nc + kd'.2.1 ≤ kd.2.1) (h2 : ns + kd'.2.2 ≤ kd.2.2) (k : ∀ w1, P w1 → Y en cx kd (nc + kd'.2.1) (ns + kd'.2.2) (wr ++ w1) pc' lv st) : Y en cx kd nc ns ws pc lv st0 := by
  obtain ⟨A, p, e, R, s, m, args, below, meth, c, Q⟩ := cx
  intro F H locs ls hP hD hS hl
  obtain ⟨hd, rfl⟩ := hd
  obtain ⟨l2, l3, l4, l6, l7, l5⟩ := hl9
  obtain ⟨f1, f2, f3, f4, f5, f6, f7, f8, f9, f10, f11, f12, f13⟩ := id F
  have hPc : va_P en.2.1 vwCl wc H := hP.sub isC (map_fil hC)
  have hDc := hD.sub isC hcn hC
  have hFc := va_free hD hS f7 isC hC
  refine va_callv (va_runIN (As := As) (rest := st) ⟨f1, f2, f3, f4, f5⟩ (ct H.size) ⟨va_cnB n f5 (good_code l4) (by rw [l7]) rfl rfl (hN _ f13) (f5 _ l3) l5 (ho.rk f9 f10), l6, f5 _ l2⟩ ⟨yH.blind, fun U hU hW => ⟨rfl, y_pre F hPc hDc hS hFc hU hW⟩⟩ rfl hn hl.1 hst (lv_room hW) hd ⟨Nat.le_trans h1 f11, Nat.le_trans h2 f12⟩) hS (fun q _ h => hFc q h) hFc (fun u t H1 locs1 ht hvm hw hB hz1 hk1 hS1 => ?_)
  obtain ⟨hP1, hD1⟩ := hB
  rw [ht] at hP1
  obtain ⟨hP2, hD2⟩ := va_join hP hD isC isR hC hR hnd hdis hk1 hFc hP1 hD1
  exact k u hw F H1 locs1 ls hP2 hD2 hS1 hl
/-- the same machine, with other addresses -/
def enA (en : zE) (f : Nat → Nat) : zE := (en.1, en.2.1, en.2.2.1, f, en.2.2.2.2)
theorem zws_in {en : zE} {ks : List Nat} {M : zW} {A : Nat → Prop} (hk : ks.Nodup) (hD : va_D A (zws en ks M)) : zIn en ks ∧ ∀ q, zA en ks q → A q := by
  refine ⟨⟨hk, fun i hi j hj h => ?_⟩, fun q hq => ?_⟩
  · obtain ⟨a, a1, a2⟩ := zws_at (en := en) (M := M) hi
    obtain ⟨b, b1, b2⟩ := zws_at (en := en) (M := M) hj
    have := hD.1 a b _ _ a2 b2 h
    subst this
    exact Option.some.inj (a1.symm.trans b1)
  · obtain ⟨i, hi, rfl⟩ := hq
    obtain ⟨a, a1, a2⟩ := zws_at (en := en) (M := M) hi
    exact hD.2 a _ a2
/-- a method of the class, over just its cells -/
theorem y_meth {idx n a ci : Nat} {C : String} {y : MethodName} {md' : zMD} {As st0 : List Value} {M M' : zW} {ks : List Nat} (f : Nat → Nat) (hk : ks.Nodup) (hd : Dc kd.1 pc (.invokevirtual idx) 3 pc') (hl9 : VLk kd.1.1 idx C y md' n) (ho : hOk kd.1 md') (hw : zws (enA en f) ks M = ws) (hka : a ∈ ks) (ha : IsO a ci) (hci : (vwCl[ci]?).map (fun q => q.1) = some C) (ct : Ct (enA en f) ks y md' (rf (enA en f) a :: As) M (pV M')) (hst : st0 = As.reverse ++ rf (enA en f) a :: st) (hn : As.length = n) (hW : (st.map fun v => v.category).sum ≤ 8) (h1 : nc ≤ kd.2.1) (h2 : ns ≤ kd.2.2) (k : Y en cx kd nc ns (zws (enA en f) ks M') pc' lv st) : Y en cx kd nc ns ws pc lv st0 := by
  subst hw
  obtain ⟨A, p, e, R, s, m, args, below, meth, c, Q⟩ := cx
  intro F H locs ls hP hD hS hl
  obtain ⟨hd, rfl⟩ := hd
  obtain ⟨l1, l2, l3, l6, l4, l5⟩ := hl9
  obtain ⟨f1, f2, f3, f4, f5, f6, f7, f8, f9, f10, f11, f12, f13⟩ := id F
  obtain ⟨hI, hA⟩ := zws_in hk hD
  have hG : GoodIn lw_g (wsV kd.1.1 idx C y (Cond.code y md'.2.1 md'.2.2.1 md'.2.2.2.1 :: lw_g)) := good_app (fun w hw => by
    simp only [List.mem_cons, List.not_mem_nil, or_false] at hw
    rcases hw with rfl | rfl | rfl | rfl
    · exact l1
    · exact l2
    · exact l3
    · exact l6) (good_code l4)
  obtain ⟨fs, h9⟩ := ha (enA en f) (M a)
  obtain ⟨q, -, hq⟩ := zws_at (en := enA en f) (M := M) hka
  rw [h9] at hq
  obtain ⟨vc, hvc, hvc2⟩ := Option.map_eq_some_iff.mp hci
  subst hvc2
  exact z_end (en := enA en f) (va_runV (As := As) (rest := st) (b := ad (enA en f) a) ⟨f1, f2, f3, f4, f5⟩ ct (cwV n f5 hG rfl rfl rfl l5 (ho.room f9 f10)) ⟨zH.blind, va_recv f6 hP hvc hq, fun U hU hW => ⟨rfl, by rw [hU]; exact hP, va_K.moved hW.alike f6, hI, by rw [hU]; exact ((zSt.kept f8 hS.2.1).moved hW.alike).narrow hA, (yNs.warm hW f13).1⟩⟩ rfl hn hl.1 hst (lv_room hW) hd ⟨Nat.le_trans h1 f11, Nat.le_trans h2 f12⟩) hS hA (fun r M2 H1 locs1 hp hP1 hS1 => by
    obtain ⟨rfl, rfl⟩ := hp
    exact k F H1 locs1 ls hP1 (zws_D hI hA) hS1 hl)
theorem Y.eqw {ws2 : va_W} (h : ws = ws2) (k : Y en cx kd nc ns ws2 pc lv st) : Y en cx kd nc ns ws pc lv st := h ▸ k
theorem Y.eqc {a b : Nat} (h1 : nc = a) (h2 : ns = b) (k : Y en cx kd a b ws pc lv st) : Y en cx kd nc ns ws pc lv st := by subst h1; subst h2; exact k
end YR
