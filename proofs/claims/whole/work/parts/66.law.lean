/-! THE CLAIM OUT OF ONE WALK OF THE LAW'S BODY. Your part is whole_start (and what it stands on); all else here is the same for every law, but numbers. -/
def R_law : String := "CrownlessDaysLaw"
def lw_P (b : Addr) (xs : List Int32) (args : Array Value) (s : State) : Prop := args = #[.ref b] ∧ s.IntsAt b xs ∧ xs.length ≤ 384 ∧ (Jvm.Cond.and given_1 narrow_1).before args s = true
def lw_Q (_ : Array Value) (s : State) (o : Outcome) (t : State) : Prop := o = .returned (some (.int 1)) ∧ Framed s o t [] 600000 7302250
def lw_Z (below : List Frame) (a : Array Value) (s : State) : State → Prop := fun t => ∃ o, t.status = .running ∧ Ended t below o ∧ lw_Q a s o t
/-- the law's own end, with 1 on the stack, nothing written that was there before, its room as the claim has it -/
theorem lw_ret {p : Program} {l : Launch} {e : Env} {s : State} {m : MethodId} {below : List Frame} {meth : Method} {c : Code} {b : Nat} (hx : p.tables.exec = Jvm.exec) (hb : c.code = code) (hr : meth.sig.returnType = ret) (hlocks : meth.locks = false) {pc : Nat} {H : Heap} {ls : Array Slot} (hdg : decode code pc = .ok (.ireturn, 1)) : W p l e room_1 s m #[Value.ref b] below meth c H [] 600000 7302250 (lw_Z below #[Value.ref b] s) (F0 m pc ls [.int 1]) := by
  intro T hT X
  obtain ⟨fs, hret, hrun, hended, hW, hframe⟩ := X.leave (v := some (.int 1)) (hlocks := hlocks) (fun h => by rw [hr] at h; cases h)
  have hmeth' : T.vm.method? m = some meth := X.method'
  refine ⟨T.setFrames fs, ?_, .returned (some (.int 1)), hrun, hended, rfl, ⟨_, rfl⟩, hW, hframe⟩
  jvm_step X.here [X.here.top, hx, hb, hdg, hmeth', hr, ret, narrow_b1]
  (try refine ⟨rfl, ?_⟩); (try refine ⟨rfl, ?_⟩)
  first | (intro acts; rw [hret _ acts rfl rfl rfl]) | rw [hret _ _ rfl rfl rfl]
  exact Steps.refl _
/-- what holds at the law's entry: the machine, the code, the tables' words (any of lw_tbl by 'hts w (by decide +kernel)'), the script of L ints xs at the cell b, what the Statement gives of the start (any of its parts by flat_of_before) -/
def lw_At (p : Program) (s : State) (m : MethodId) (meth : Method) (c : Code) (b L : Nat) (xs : Nat → Int32) : Prop :=
  p.tables.exec = Jvm.exec ∧ c.code = code ∧ meth.sig.returnType = ret ∧ c.maxLocals = 4 ∧ s.vm.findClass R_law = some m.cls ∧ (∀ w ∈ lw_tbl, w.before #[Value.ref b] s = true) ∧ va_X b L xs s s.heap ∧ b < s.heap.size ∧ meth.locks = false ∧ (Jvm.Cond.and given_1 narrow_1).before #[Value.ref b] s = true
/-! the law: its start -/
theorem tll {w : Cond} (i : Nat) (h : tables_1[i]? = some w) : w ∈ lw_tbl := List.mem_append_right _ (List.mem_of_getElem? h)
theorem ak_int {args : Array Value} {s : State} {ty : FieldType} (hty : ty = .int ∨ ty = .long ∨ ty = .boolean) (h : (Cond.arrayClass ty).before args s = true) : ∃ cA, ArrOfT s cA ty ∧ va_RA s cA ty := by
  obtain ⟨cA, kA, comp, h1, h2, h3⟩ := Cond.arrayClass_spec h
  refine ⟨cA, fun n z => ⟨fun k h => (by cases h), kA, h2, comp, h3⟩, ?_⟩
  rcases hty with rfl | rfl | rfl <;> exact h1
theorem ak_obj {args : Array Value} {s : State} {C : String} (h : (Cond.arrayOver (.object C)).before args s = true) : ∃ cA, ArrOfT s cA (.object C) ∧ va_RA s cA (.object C) := by
  obtain ⟨comp, c, k, h1, h2, h3, h4, h5⟩ := Cond.arrayOver_spec h
  exact ⟨c, fun n z => ⟨fun k h => (by cases h), k, h3, comp, h4⟩, k, comp, h3, h4, h1, h5⟩
theorem lk_eq : (Int64.ofInt 6148914691236517205 = 6148914691236517205 ∧ Int64.ofInt 3689348814741910323 = 3689348814741910323 ∧ Int64.ofInt 1085102592571150095 = 1085102592571150095) ∧ (Int64.ofInt 71777214294589695 = 71777214294589695 ∧ Int64.ofInt 281470681808895 = 281470681808895 ∧ Int64.ofInt 4294967295 = 4294967295) := by decide +kernel
theorem mk_eq : Int32.ofInt 7 = 7 ∧ Int32.ofInt 9 = 9 ∧ Int32.ofInt 255 = 255 := by decide +kernel
/-- the machine as the law finds it -/
theorem law_env {s : State} {b : Nat} (l : Launch) (hts : ∀ w ∈ lw_tbl, w.before #[Value.ref b] s = true) (hgv : (Jvm.Cond.and given_1 narrow_1).before #[Value.ref b] s = true) : ∃ en : zE, en.1 = l ∧ va_K en.2.1 vwCl (zty en) s ∧ zSt en (fun q => s.heap.size ≤ q) s s.heap ∧ yNs s := by
  have hg : ∀ w ∈ lw_g, w.before #[Value.ref b] s = true := fun w h => hts w (lw_g_in w h)
  have hs := flat_of_before _ hgv
  have hA : ∀ a : Nat, a < s.heap.size → ¬ (fun q => s.heap.size ≤ q) a := fun a h => Nat.not_le.mpr h
  obtain ⟨c0, i0, h0⟩ := u_known (C := RX0) (T := TX0) (N := 6) (n := 6) hg uw_0 (hg (.instantiable RX0 6) (tin 186 (by decide +kernel) rfl))
  obtain ⟨c1, i1, h1⟩ := u_known (C := RX1) (T := TX1) (N := 11) (n := 11) hg uw_1 (hg (.instantiable RX1 11) (tin 137 (by decide +kernel) rfl))
  obtain ⟨c2, i2, h2⟩ := u_known (C := RX2) (T := TX2) (N := 10) (n := 10) hg uw_2 (hg (.instantiable RX2 10) (tin 98 (by decide +kernel) rfl))
  obtain ⟨c3, i3, h3⟩ := u_known (C := RX3) (T := TX3) (N := 9) (n := 9) hg uw_3 (hg (.instantiable RX3 9) (tin 22 (by decide +kernel) rfl))
  obtain ⟨c4, i4, h4⟩ := u_known (C := RX4) (T := TX4) (N := 3) (n := 3) hg uw_4 (hg (.instantiable RX4 3) (tin 215 (by decide +kernel) rfl))
  obtain ⟨c5, i5, h5⟩ := u_known (C := RX6) (T := TX6) (N := 11) (n := 11) hg uw_6 (hg (.instantiable RX6 11) (tin 14 (by decide +kernel) rfl))
  obtain ⟨c6, i6, h6⟩ := u_known (C := RX7) (T := TX7) (N := 20) (n := 20) hg uw_7 (hg (.instantiable RX7 20) (tin 633 (by decide +kernel) rfl))
  obtain ⟨dC, dI, hKc⟩ : ∃ (dC : Nat → ClassId) (dI : Nat → Nat → Nat), ∀ (k : Nat) (q : vw_C), vwCl[k]? = some q → u_Kn s q.1 q.2.1 q.2.2 (dC k) (dI k) := by
    refine ⟨fun k => if k = 0 then c0 else if k = 1 then c1 else if k = 2 then c2 else if k = 3 then c3 else if k = 4 then c4 else if k = 5 then c5 else c6, fun k => if k = 0 then i0 else if k = 1 then i1 else if k = 2 then i2 else if k = 3 then i3 else if k = 4 then i4 else if k = 5 then i5 else i6, ?_⟩
    intro k q hq
    match k, hq with
    | 0, hq => cases hq; exact h0
    | 1, hq => cases hq; exact h1
    | 2, hq => cases hq; exact h2
    | 3, hq => cases hq; exact h3
    | 4, hq => cases hq; exact h4
    | 5, hq => cases hq; exact h5
    | 6, hq => cases hq; exact h6
    | k + 7, hq => simp at hq
  obtain ⟨cI, a1, a2⟩ := ak_int (Or.inl rfl) (hg _ tac_int)
  obtain ⟨cJ, b1, b2⟩ := ak_int (Or.inr (Or.inl rfl)) (hg _ tac_long)
  obtain ⟨cZ, d1, d2⟩ := ak_int (Or.inr (Or.inr rfl)) (hg _ tac_boolean)
  have hov : (Cond.arrayOver (.object RX4)).before #[Value.ref b] s = true := hts _ (tll 214 (by decide +kernel))
  obtain ⟨cS, e1, e2⟩ := ak_obj hov
  obtain ⟨tA, u1, u2⟩ := va_Tof (s := s) (args := #[Value.ref b]) (tm := .static RX6 "TOLD_MOST" "[I") (ty := .int) (N := 6) (f := fun j => vi (tMost j)) (A := fun q => s.heap.size ≤ q) (by decide) (hs (.arrayOf (.static "CrownlessDays" "TOLD_MOST" "[I") .int) (by decide +kernel)) (va_eqt (hs (.eq (.length (.static "CrownlessDays" "TOLD_MOST" "[I")) (.int 6)) (by decide +kernel))) (fun j hj => by
    match j, hj with
    | 0, _ => exact (va_eqt (hs (.eq (.elem (.static "CrownlessDays" "TOLD_MOST" "[I") (.int 0)) (.int 7)) (by decide +kernel))).trans (congrArg (fun z => some (Value.int z)) mk_eq.1.symm)
    | 1, _ => exact (va_eqt (hs (.eq (.elem (.static "CrownlessDays" "TOLD_MOST" "[I") (.int 1)) (.int 9)) (by decide +kernel))).trans (congrArg (fun z => some (Value.int z)) mk_eq.2.1.symm)
    | 2, _ => exact (va_eqt (hs (.eq (.elem (.static "CrownlessDays" "TOLD_MOST" "[I") (.int 2)) (.int 9)) (by decide +kernel))).trans (congrArg (fun z => some (Value.int z)) mk_eq.2.1.symm)
    | 3, _ => exact (va_eqt (hs (.eq (.elem (.static "CrownlessDays" "TOLD_MOST" "[I") (.int 3)) (.int 7)) (by decide +kernel))).trans (congrArg (fun z => some (Value.int z)) mk_eq.1.symm)
    | 4, _ => exact (va_eqt (hs (.eq (.elem (.static "CrownlessDays" "TOLD_MOST" "[I") (.int 4)) (.int 7)) (by decide +kernel))).trans (congrArg (fun z => some (Value.int z)) mk_eq.1.symm)
    | 5, _ => exact (va_eqt (hs (.eq (.elem (.static "CrownlessDays" "TOLD_MOST" "[I") (.int 5)) (.int 255)) (by decide +kernel))).trans (congrArg (fun z => some (Value.int z)) mk_eq.2.2.symm)
    | j + 6, hj => exact absurd hj (by omega)) hA
  obtain ⟨tB, v1, v2⟩ := va_Tof (s := s) (args := #[Value.ref b]) (tm := .static RX0 "LACKING" "[J") (ty := .long) (N := 6) (f := fun j => vl (tLack j)) (A := fun q => s.heap.size ≤ q) (by decide) (hs (.arrayOf (.static "CrownlessDays$Chance" "LACKING" "[J") .long) (by decide +kernel)) (va_eqt (hs (.eq (.length (.static "CrownlessDays$Chance" "LACKING" "[J")) (.int 6)) (by decide +kernel))) (fun j hj => by
    match j, hj with
    | 0, _ => exact (va_eqtl (hs (.eq (.elem (.static "CrownlessDays$Chance" "LACKING" "[J") (.int 0)) (.long 6148914691236517205)) (by decide +kernel))).trans (congrArg (fun z => some (Value.long z)) lk_eq.1.1.symm)
    | 1, _ => exact (va_eqtl (hs (.eq (.elem (.static "CrownlessDays$Chance" "LACKING" "[J") (.int 1)) (.long 3689348814741910323)) (by decide +kernel))).trans (congrArg (fun z => some (Value.long z)) lk_eq.1.2.1.symm)
    | 2, _ => exact (va_eqtl (hs (.eq (.elem (.static "CrownlessDays$Chance" "LACKING" "[J") (.int 2)) (.long 1085102592571150095)) (by decide +kernel))).trans (congrArg (fun z => some (Value.long z)) lk_eq.1.2.2.symm)
    | 3, _ => exact (va_eqtl (hs (.eq (.elem (.static "CrownlessDays$Chance" "LACKING" "[J") (.int 3)) (.long 71777214294589695)) (by decide +kernel))).trans (congrArg (fun z => some (Value.long z)) lk_eq.2.1.symm)
    | 4, _ => exact (va_eqtl (hs (.eq (.elem (.static "CrownlessDays$Chance" "LACKING" "[J") (.int 4)) (.long 281470681808895)) (by decide +kernel))).trans (congrArg (fun z => some (Value.long z)) lk_eq.2.2.1.symm)
    | 5, _ => exact (va_eqtl (hs (.eq (.elem (.static "CrownlessDays$Chance" "LACKING" "[J") (.int 5)) (.long 4294967295)) (by decide +kernel))).trans (congrArg (fun z => some (Value.long z)) lk_eq.2.2.2.symm)
    | j + 6, hj => exact absurd hj (by omega)) hA
  refine ⟨(l, (dC, dI), (cI, cJ, cZ, cS), fun _ => 0, tA, tB), rfl, ⟨hKc, fun k q hq => ?_⟩, ⟨?_, u2, ?_, v2, ?_⟩, fun q hq => ?_, ?_, va_AO.of hov⟩
  · match k, hq with
    | 0, hq => cases hq; exact ⟨a1, a2⟩
    | 1, hq => cases hq; exact ⟨b1, b2⟩
    | 2, hq => cases hq; exact ⟨d1, d2⟩
    | 3, hq => cases hq; exact ⟨e1, e2⟩
    | k + 4, hq => simp [zty] at hq
  · exact va_Zref (hts _ (tll 135 (by decide +kernel))) (hg _ t_1) u1 hA
  · exact va_Zref (hts _ (tll 514 (by decide +kernel))) (hg _ t_8) v1 hA
  · exact va_Nw.of rfl (hts _ (tll 294 (by decide +kernel)))
  · have hq2 : q ∈ nestL := hq
    simp only [nestL, List.mem_cons, List.not_mem_nil, or_false] at hq2
    rcases hq2 with rfl | rfl | rfl | rfl | rfl | rfl | rfl | rfl
    · exact va_Nw.of rfl (hts _ (tll 508 (by decide +kernel)))
    · exact va_Nw.of rfl (hts _ (tll 364 (by decide +kernel)))
    · exact va_Nw.of rfl (hts _ (tll 375 (by decide +kernel)))
    · exact va_Nw.of rfl (hts _ (tll 378 (by decide +kernel)))
    · exact va_Nw.of rfl (hts _ (tll 299 (by decide +kernel)))
    · exact va_Nw.of rfl (hts _ (tll 300 (by decide +kernel)))
    · exact va_Nw.of rfl (hts _ (tll 306 (by decide +kernel)))
    · exact va_Nw.of rfl (hts _ (tll 307 (by decide +kernel)))
  · exact va_Nw.of rfl (hts _ (tll 216 (by decide +kernel)))
/-! rules of the law's own -/
def sc (xs : Nat → Int32) (i : Int) : Int := (xs i.toNat).toInt
theorem sc_rg (xs : Nat → Int32) (i : Int) : -2147483648 ≤ sc xs i ∧ sc xs i < 2147483648 := by
  unfold sc
  have h1 := Int32.le_toInt (xs i.toNat)
  have h2 := Int32.toInt_lt (xs i.toNat)
  omega
def lwX (cx : zX) (b L : Nat) (xs : Nat → Int32) : Prop := match cx with
  | (A, _, _, _, s, _, _, _, _, _, _, _, _) => va_X b L xs s s.heap ∧ b < s.heap.size ∧ ¬ A b
def lwC (cx : zX) (b : Nat) : Prop := match cx with
  | (A, _, _, R, s, _, args, below, meth, _, cells, slots, Q) => A = (fun q => s.heap.size ≤ q) ∧ R = room_1 ∧ args = #[Value.ref b] ∧ meth.sig.returnType = ret ∧ meth.locks = false ∧ cells ≤ 600000 ∧ slots ≤ 7302250 ∧ Q = lw_Z below #[Value.ref b] s
section ZL
variable {en : zE} {ks : List Nat} {cx : zX} {md : zMD} {M : zW} {pc pc' tgt : Nat} {lv : List (Nat × Value)} {st : List Value}
theorem z_aload_b {q : Fin 4} {x : Nat} (j : Nat) (hd : Dc md pc (.aload_n q) 1 pc') (hv : lv[j]? = some (q.val, .ref x)) (k : Z en ks cx md M pc' lv (.ref x :: st)) : Z en ks cx md M pc lv st := by
  obtain ⟨A, p, e, R, s, m, args, below, meth, c, cells, slots, Q⟩ := cx
  intro F H locs ls hP hS hl
  obtain ⟨hd, rfl⟩ := hd
  exact lv_aload_n F.1 F.2.1 hd rfl (lv_at hl j hv) (k F H locs ls hP hS hl)
theorem z_sld {b L : Nat} {xs : Nat → Int32} {i : Int} (hd : Dc md pc .iaload 1 pc') (hX : lwX cx b L xs) (hi : 0 ≤ i ∧ i < L) (hL : L < 2147483648) (k : Z en ks cx md M pc' lv (vi (sc xs i) :: st)) : Z en ks cx md M pc lv (vi i :: .ref b :: st) := by
  obtain ⟨A, p, e, R, s, m, args, below, meth, c, cells, slots, Q⟩ := cx
  intro F H locs ls hP hS hl
  obtain ⟨hd, rfl⟩ := hd
  obtain ⟨h1, h2, h3⟩ := hX
  refine va_sld F.1 F.2.1 h1 h2 h3 hS (oin hi.1 hi.2 hL) hd ?_
  rw [ocl hi.1 (by omega)]
  have h := k F H locs ls hP hS hl
  unfold vi sc at h
  rw [Int32.ofInt_toInt] at h
  exact h
theorem z_slen {b L : Nat} {xs : Nat → Int32} (hd : Dc md pc .arraylength 1 pc') (hX : lwX cx b L xs) (k : Z en ks cx md M pc' lv (vi (L : Int) :: st)) : Z en ks cx md M pc lv (.ref b :: st) := by
  obtain ⟨A, p, e, R, s, m, args, below, meth, c, cells, slots, Q⟩ := cx
  intro F H locs ls hP hS hl
  obtain ⟨hd, rfl⟩ := hd
  obtain ⟨h1, h2, h3⟩ := hX
  refine va_slen F.1 F.2.1 h1 h2 h3 hS hd ?_
  have h := k F H locs ls hP hS hl
  unfold vi at h
  rw [Int32.ofInt_eq_ofNat] at h
  exact h
theorem z_cmpE {x off : Int} (hd : Dc md pc (.if_icmp .eq off) 3 pc') (ht : (pc : Int) + off = (tgt : Int)) (k : Z en ks cx md M tgt lv st) : Z en ks cx md M pc lv (vi x :: vi x :: st) := by
  obtain ⟨A, p, e, R, s, m, args, below, meth, c, cells, slots, Q⟩ := cx
  intro F H locs ls hP hS hl
  obtain ⟨hd, rfl⟩ := hd
  exact lv_icmp_eq F.1 F.2.1 hd ht (fun _ => k F H locs ls hP hS hl) (fun z => absurd rfl z)
theorem z_lcmpE {x : Int} (hd : Dc md pc .lcmp 1 pc') (k : Z en ks cx md M pc' lv (vi 0 :: st)) : Z en ks cx md M pc lv (vl x :: vl x :: st) := by
  obtain ⟨A, p, e, R, s, m, args, below, meth, c, cells, slots, Q⟩ := cx
  intro F H locs ls hP hS hl
  obtain ⟨hd, rfl⟩ := hd
  refine W.lcmp F.1 F.2.1 hd ?_
  have h : lg_cmp (Int64.ofInt x) (Int64.ofInt x) = Int32.ofInt 0 := by
    unfold lg_cmp
    rw [if_neg (fun z => by have := Int64.lt_iff_toInt_lt.mp z; omega), if_pos rfl]
    rfl
  rw [h]
  exact k F H locs ls hP hS hl
theorem law_ret {b : Nat} (C : lwC cx b) : Z en ks cx mL_law M 1104 lv [vi 1] := by
  obtain ⟨A, p, e, R, s, m, args, below, meth, c, cells, slots, Q⟩ := cx
  intro F H locs ls hP hS hl
  obtain ⟨rfl, rfl, rfl, c4, c5, c6, c7, rfl⟩ := C
  refine va_forget (fun q hq => hS.2.2 q hq) ?_
  refine W.widen (k := 600000) (n := 7302250) c6 c7 ?_
  exact lw_ret F.1 F.2.1 c4 c5 dL_law_1104.1
end ZL
/-! what a call of the class leaves of the reference's cells -/
def lo (M N : zW) : Prop := ∀ k, 37 ≤ k → N k = M k
theorem lo_r (M : zW) : lo M M := fun _ _ => rfl
theorem lo_u {M N : zW} {k : Nat} {r : Int → Int} (hk : k < 37) (h : lo M N) : lo M (upR N k r) := fun q hq => by rw [upR_ne (by omega)]; exact h q hq
theorem lo_kc {M N L : zW} (h : lo M N) (k : kc N L) : lo M L := fun q hq => (k q (by
  intro z
  simp only [scC, List.mem_cons, List.not_mem_nil, or_false] at z
  omega)).trans (h q hq)
theorem lo_rd {M M2 N : zW} {O B W : Int → Int} (h : lo M M2) (k : rdN M2 O B W N) : lo M N := by
  obtain ⟨r19, r20, r21, v, -, -, rfl⟩ := k
  exact lo_u (by decide) (lo_u (by decide) (lo_u (by decide) (lo_u (by decide) (lo_u (by decide) h))))
theorem lo_pd {M M2 N : zW} {O B : Int → Int} (h : lo M M2) (k : pdN M2 O B N) : lo M N := by
  obtain ⟨r24, r25, r26, r27, r28, v, -, -, rfl⟩ := k
  exact lo_u (by decide) (lo_u (by decide) (lo_u (by decide) (lo_u (by decide) (lo_u (by decide) (lo_u (by decide) h)))))
