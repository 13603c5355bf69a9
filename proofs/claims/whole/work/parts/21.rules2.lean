/-! rules for the class: tables, longs, copies, inherited and overriding methods; part written by program -/
theorem n_land {x y : Int} (h : 0 ≤ x ∧ x < 18446744073709551616 ∧ 0 ≤ y ∧ y < 18446744073709551616) : Int64.ofInt x &&& Int64.ofInt y = Int64.ofInt ((x.toNat &&& y.toNat : Nat) : Int) := by
  rw [n_lN h.1, n_lN h.2.2.1, Int64.ofInt_eq_ofNat]
  apply Int64.toBitVec_inj.mp
  simp [lN]
theorem n_lor {x y : Int} (h : 0 ≤ x ∧ x < 18446744073709551616 ∧ 0 ≤ y ∧ y < 18446744073709551616) : Int64.ofInt x ||| Int64.ofInt y = Int64.ofInt ((x.toNat ||| y.toNat : Nat) : Int) := by
  rw [n_lN h.1, n_lN h.2.2.1, Int64.ofInt_eq_ofNat]
  apply Int64.toBitVec_inj.mp
  simp [lN]
theorem n_lsc : ∀ n : Nat, n < 64 → ((((Int32.ofInt (n : Int)).toInt64 &&& 63).toBitVec.smod 64)).toNat = n := by decide +kernel
theorem n_lshl {x y : Int} (h : 0 ≤ y ∧ y < 64) : Int64.ofInt x <<< ((Int32.ofInt y).toInt64 &&& 63) = Int64.ofInt (x * 2 ^ y.toNat) := by
  obtain ⟨b, rfl⟩ : ∃ b : Nat, y = b := ⟨y.toNat, by omega⟩
  have hb := n_lsc b (by omega)
  have h1 : (Int64.ofInt x <<< ((Int32.ofInt (b : Int)).toInt64 &&& 63)).toBitVec.toNat = (Int64.ofInt x).toBitVec.toNat * 2 ^ b % 2 ^ 64 := by
    show ((Int64.ofInt x).toBitVec <<< (((Int32.ofInt (b : Int)).toInt64 &&& 63).toBitVec.smod 64).toNat).toNat = _
    rw [hb, BitVec.toNat_shiftLeft, Nat.shiftLeft_eq]
  apply Int64.toBitVec_inj.mp
  apply BitVec.eq_of_toNat_eq
  rw [h1, Int64.ofInt_mul, Int64.toBitVec_mul, BitVec.toNat_mul]
  have h2 : (Int64.ofInt ((2 : Int) ^ b)).toBitVec.toNat = 2 ^ b % 2 ^ 64 := by
    have : ((2 : Int) ^ b) = ((2 ^ b : Nat) : Int) := by simp
    rw [this, Int64.ofInt_eq_ofNat]
    simp
  rw [Int.toNat_natCast, h2, Nat.mul_mod_mod]
theorem n_lshr {x y : Int} (hx : -9223372036854775808 ≤ x ∧ x < 9223372036854775808) (h : 0 ≤ y ∧ y < 64) : Int64.ofInt x >>> ((Int32.ofInt y).toInt64 &&& 63) = Int64.ofInt (x / 2 ^ y.toNat) := by
  obtain ⟨b, rfl⟩ : ∃ b : Nat, y = b := ⟨y.toNat, by omega⟩
  have hb := n_lsc b (by omega)
  have h1 : (Int64.ofInt x >>> ((Int32.ofInt (b : Int)).toInt64 &&& 63)).toInt = (Int64.ofInt x).toInt >>> b := by
    show ((Int64.ofInt x).toBitVec.sshiftRight (((Int32.ofInt (b : Int)).toInt64 &&& 63).toBitVec.smod 64).toNat).toInt = _
    rw [hb, BitVec.toInt_sshiftRight]
    rfl
  apply Int64.toInt_inj.mp
  rw [h1, o64 hx.1 hx.2, Int.shiftRight_eq_div_pow, Int.toNat_natCast]
  have hp : (0 : Int) < 2 ^ b := Int.pow_pos (by decide)
  have e : ((2 ^ b : Nat) : Int) = (2 : Int) ^ b := by simp
  rw [e, o64]
  · rcases Int.lt_or_le x 0 with q | q
    · have h3 : x ≤ x / 2 ^ b := by
        apply Int.le_ediv_of_mul_le hp
        have : x * 2 ^ b ≤ x * 1 := Int.mul_le_mul_of_nonpos_left (by omega) (by omega)
        omega
      omega
    · have := Int.ediv_nonneg q (Int.le_of_lt hp)
      omega
  · rcases Int.lt_or_le x 0 with q | q
    · have : x / 2 ^ b < 0 := Int.ediv_neg_of_neg_of_pos q hp
      omega
    · have := Int.ediv_le_self (2 ^ b) q
      omega
/-- a word of 64 bits as a long: the same number below 2^63 -/
def sgn (x : Int) : Int := if x < 9223372036854775808 then x else x - 18446744073709551616
theorem n_sgn (x : Int) : Int64.ofInt (sgn x) = Int64.ofInt x := by
  unfold sgn
  split
  · rfl
  · apply Int64.toInt_inj.mp
    rw [Int64.toInt_ofInt, Int64.toInt_ofInt, show Int64.size = 18446744073709551616 from rfl]
    simp only [Int.bmod_def]
    omega
theorem n_land1 (x : Int) : Int64.ofInt x &&& Int64.ofInt 1 = Int64.ofInt (x % 2) := by
  have e : Int64.ofInt x = Int64.ofInt (x % 18446744073709551616) := by
    apply Int64.toInt_inj.mp
    rw [Int64.toInt_ofInt, Int64.toInt_ofInt, show Int64.size = 18446744073709551616 from rfl]
    simp only [Int.bmod_def]
    omega
  rw [e, n_land (by omega)]
  congr 1
  have : ((x % 18446744073709551616).toNat &&& 1) = (x % 18446744073709551616).toNat % 2 := Nat.and_one_is_mod _
  show ((((x % 18446744073709551616).toNat &&& 1 : Nat)) : Int) = _
  rw [this]
  omega
section ZR2
variable {en : zE} {ks : List Nat} {cx : zX} {md : zMD} {M : zW} {pc pc' tgt : Nat} {lv : List (Nat × Value)} {st : List Value}
theorem z_land {x y : Int} (hd : Dc md pc .land 1 pc') (hx : 0 ≤ x ∧ x < 18446744073709551616 ∧ 0 ≤ y ∧ y < 18446744073709551616) (k : Z en ks cx md M pc' lv (vl ((x.toNat &&& y.toNat : Nat) : Int) :: st)) : Z en ks cx md M pc lv (vl y :: vl x :: st) := by
  obtain ⟨A, p, e, R, s, m, args, below, meth, c, cells, slots, Q⟩ := cx
  intro F H locs ls hP hS hl
  obtain ⟨hd, rfl⟩ := hd
  refine lv_land F.1 F.2.1 hd ?_
  have h := (k F H locs ls hP hS hl)
  rw [vl, ← n_land hx] at h
  exact h
theorem z_lor {x y : Int} (hd : Dc md pc .lor 1 pc') (hx : 0 ≤ x ∧ x < 18446744073709551616 ∧ 0 ≤ y ∧ y < 18446744073709551616) (k : Z en ks cx md M pc' lv (vl ((x.toNat ||| y.toNat : Nat) : Int) :: st)) : Z en ks cx md M pc lv (vl y :: vl x :: st) := by
  obtain ⟨A, p, e, R, s, m, args, below, meth, c, cells, slots, Q⟩ := cx
  intro F H locs ls hP hS hl
  obtain ⟨hd, rfl⟩ := hd
  refine lv_lor F.1 F.2.1 hd ?_
  have h := (k F H locs ls hP hS hl)
  rw [vl, ← n_lor hx] at h
  exact h
theorem z_land1 {x : Int} (hd : Dc md pc .land 1 pc') (k : Z en ks cx md M pc' lv (vl (x % 2) :: st)) : Z en ks cx md M pc lv (vl 1 :: vl x :: st) := by
  obtain ⟨A, p, e, R, s, m, args, below, meth, c, cells, slots, Q⟩ := cx
  intro F H locs ls hP hS hl
  obtain ⟨hd, rfl⟩ := hd
  refine lv_land F.1 F.2.1 hd ?_
  have h := (k F H locs ls hP hS hl)
  rw [vl, ← n_land1 x] at h
  exact h
theorem z_lshl {x y : Int} (hd : Dc md pc .lshl 1 pc') (hy : 0 ≤ y ∧ y < 64) (k : Z en ks cx md M pc' lv (vl (x * 2 ^ y.toNat) :: st)) : Z en ks cx md M pc lv (vi y :: vl x :: st) := by
  obtain ⟨A, p, e, R, s, m, args, below, meth, c, cells, slots, Q⟩ := cx
  intro F H locs ls hP hS hl
  obtain ⟨hd, rfl⟩ := hd
  exact lv_lshl F.1 F.2.1 hd (n_lshl hy) (k F H locs ls hP hS hl)
theorem z_lshr {x y : Int} (hd : Dc md pc .lshr 1 pc') (hx : -9223372036854775808 ≤ x ∧ x < 9223372036854775808) (hy : 0 ≤ y ∧ y < 64) (k : Z en ks cx md M pc' lv (vl (x / 2 ^ y.toNat) :: st)) : Z en ks cx md M pc lv (vi y :: vl x :: st) := by
  obtain ⟨A, p, e, R, s, m, args, below, meth, c, cells, slots, Q⟩ := cx
  intro F H locs ls hP hS hl
  obtain ⟨hd, rfl⟩ := hd
  exact lv_lshr F.1 F.2.1 hd (n_lshr hx hy) (k F H locs ls hP hS hl)
theorem z_lshrW {x y : Int} (hd : Dc md pc .lshr 1 pc') (hx : 0 ≤ x ∧ x < 18446744073709551616) (hy : 0 ≤ y ∧ y < 64) (k : Z en ks cx md M pc' lv (vl (sgn x / 2 ^ y.toNat) :: st)) : Z en ks cx md M pc lv (vi y :: vl x :: st) := by
  obtain ⟨A, p, e, R, s, m, args, below, meth, c, cells, slots, Q⟩ := cx
  intro F H locs ls hP hS hl
  obtain ⟨hd, rfl⟩ := hd
  exact lv_lshr F.1 F.2.1 hd (by rw [← n_sgn x]; exact n_lshr (by unfold sgn; split <;> omega) hy) (k F H locs ls hP hS hl)
theorem z_dup2_j {x : Int} (hd : Dc md pc .dup2 1 pc') (k : Z en ks cx md M pc' lv (vl x :: vl x :: st)) : Z en ks cx md M pc lv (vl x :: st) := by
  obtain ⟨A, p, e, R, s, m, args, below, meth, c, cells, slots, Q⟩ := cx
  intro F H locs ls hP hS hl
  obtain ⟨hd, rfl⟩ := hd
  exact lv_dup2_2 F.1 F.2.1 hd rfl (k F H locs ls hP hS hl)
def rTA (en : zE) : Value := .ref en.2.2.2.2.1
def rTB (en : zE) : Value := .ref en.2.2.2.2.2
theorem tfA : Cond.fieldLink RX6 23 RX6 "TOLD_MOST" "[I" ∈ lw_g := tin 134 (by decide +kernel) rfl
theorem tfB : Cond.fieldLink RX0 68 RX0 "LACKING" "[J" ∈ lw_g := tin 513 (by decide +kernel) rfl
theorem z_tabA (hd : Dc md pc (.getstatic 23) 3 pc') (ho : md.1 = RX6) (k : Z en ks cx md M pc' lv (rTA en :: st)) : Z en ks cx md M pc lv st := by
  obtain ⟨A, p, e, R, s, m, args, below, meth, c, cells, slots, Q⟩ := cx
  intro F H locs ls hP hS hl
  obtain ⟨hd, rfl⟩ := hd
  exact va_gets F.1 F.2.1 F.2.2.2.2.2.2.2.2.1.1 hS F.2.2.2.1 (by rw [ho]; exact F.2.2.2.2.1 _ tfA) (fun _ h => h) hd (k F H locs ls hP hS hl)
theorem z_tabB (hd : Dc md pc (.getstatic 68) 3 pc') (ho : md.1 = RX0) (k : Z en ks cx md M pc' lv (rTB en :: st)) : Z en ks cx md M pc lv st := by
  obtain ⟨A, p, e, R, s, m, args, below, meth, c, cells, slots, Q⟩ := cx
  intro F H locs ls hP hS hl
  obtain ⟨hd, rfl⟩ := hd
  exact va_gets F.1 F.2.1 F.2.2.2.2.2.2.2.2.1.2.2.1 hS F.2.2.2.1 (by rw [ho]; exact F.2.2.2.2.1 _ tfB) (fun _ h => h) hd (k F H locs ls hP hS hl)
theorem z_tabI {i : Int} (hd : Dc md pc .iaload 1 pc') (hi : 0 ≤ i ∧ i < 6) (k : Z en ks cx md M pc' lv (vi (tMost i) :: st)) : Z en ks cx md M pc lv (vi i :: rTA en :: st) := by
  obtain ⟨A, p, e, R, s, m, args, below, meth, c, cells, slots, Q⟩ := cx
  intro F H locs ls hP hS hl
  obtain ⟨hd, rfl⟩ := hd
  refine va_ti F.1 F.2.1 F.2.2.2.2.2.2.2.2.1.2.1 hS (oin hi.1 hi.2 (by decide)) rfl hd ?_
  rw [ocl hi.1 (by omega)]
  have h := (k F H locs ls hP hS hl)
  show W p en.1 e R s m args below meth c H locs cells slots Q (F0 m (pc + 1) ls (vi (tMost ((i.toNat : Nat) : Int)) :: st))
  rw [Int.toNat_of_nonneg hi.1]
  exact h
theorem z_tabL {i : Int} (hd : Dc md pc .laload 1 pc') (hi : 0 ≤ i ∧ i < 6) (k : Z en ks cx md M pc' lv (vl (tLack i) :: st)) : Z en ks cx md M pc lv (vi i :: rTB en :: st) := by
  obtain ⟨A, p, e, R, s, m, args, below, meth, c, cells, slots, Q⟩ := cx
  intro F H locs ls hP hS hl
  obtain ⟨hd, rfl⟩ := hd
  refine va_tl F.1 F.2.1 F.2.2.2.2.2.2.2.2.1.2.2.2.1 hS (oin hi.1 hi.2 (by decide)) rfl hd ?_
  rw [ocl hi.1 (by omega)]
  have h := (k F H locs ls hP hS hl)
  show W p en.1 e R s m args below meth c H locs cells slots Q (F0 m (pc + 1) ls (vl (tLack ((i.toNat : Nat) : Int)) :: st))
  rw [Int.toNat_of_nonneg hi.1]
  exact h
theorem z_tabLen (hd : Dc md pc .arraylength 1 pc') (k : Z en ks cx md M pc' lv (vi 6 :: st)) : Z en ks cx md M pc lv (rTA en :: st) := by
  obtain ⟨A, p, e, R, s, m, args, below, meth, c, cells, slots, Q⟩ := cx
  intro F H locs ls hP hS hl
  obtain ⟨hd, rfl⟩ := hd
  exact va_tlen F.1 F.2.1 F.2.2.2.2.2.2.2.2.1.2.1 hS rfl hd (k F H locs ls hP hS hl)
theorem z_aret {v : Value} {P : Option Value → zW → Prop} {rt : FieldType} (C : zC en ks cx md P) (hd : Dc md pc .areturn 1 pc') (hr : md.2.2.2.1 = some rt) (hrt : (∃ n, rt = .object n) ∨ ∃ t, rt = .array t) (hv : v = .null ∨ ∃ a, v = .ref a) (h : P (some v) M) : Z en ks cx md M pc lv [v] := by
  obtain ⟨A, p, e, R, s, m, args, below, meth, c, cells, slots, Q⟩ := cx
  intro F H locs ls hP hS hl
  obtain ⟨hd, rfl⟩ := hd
  obtain ⟨rfl, c2, c3, rfl, rfl, rfl⟩ := C
  rw [hr] at c2
  exact W.aret F.1 F.2.1 c2 hrt hv (fun t ht hW => ⟨⟨some v, M, rfl, h, by rw [ht]; exact hP, va_K.moved hW.alike F.2.2.2.2.2.1, F.2.2.2.2.2.2.1, by rw [ht]; exact (zSt.kept F.2.2.2.2.2.2.2.2.1 hS.2.1).moved hW.alike, zNs.warm hW F.2.2.2.2.2.2.2.2.2.2.2.2.2⟩, hS.F ht⟩) hS.2.2 hd c3
theorem tacL : Cond.methodLink RX6 215 arraycopyName ∈ lw_g := tin 419 (by decide +kernel) rfl
theorem tacS : Cond.static arraycopyName ∈ lw_g := tin 420 (by decide +kernel) rfl
theorem tacN : Cond.native arraycopyName ∈ lw_g := tin 421 (by decide +kernel) rfl
theorem tacI : Cond.initialized "java/lang/System" ∈ lw_g := tin 11 (by decide +kernel) rfl
def cpy (f g : Int → Int) (sp dp n : Int) : Int → Int := fun j => if dp ≤ j ∧ j < dp + n then f (sp + (j - dp)) else g j
theorem rI_cpy {f g : Int → Int} {sp dp n : Int} (h : 0 ≤ sp ∧ 0 ≤ dp ∧ 0 ≤ n) : rI (cpy f g sp dp n) = va_cpy (rI f) (rI g) sp.toNat dp.toNat n.toNat := by
  funext q
  simp only [rI, cpy, va_cpy]
  by_cases c : dp ≤ (q : Int) ∧ (q : Int) < dp + n
  · rw [if_pos c, if_pos (by omega)]
    congr 2
    omega
  · rw [if_neg c, if_neg (by omega)]
theorem z_copy {a b n0 n1 : Nat} {sp dp n : Int} {f g : Int → Int} (ho : md.1 = RX6) (hd : Dc md pc (.invokestatic 215) 3 pc') (ha : IsI a n0) (hb : IsI b n1) (hka : a ∈ ks) (hkb : b ∈ ks) (hra : M a = f) (hrb : M b = g) (h : 0 ≤ sp ∧ 0 ≤ dp ∧ 0 ≤ n ∧ sp + n ≤ n0 ∧ dp + n ≤ n1) (hh : 1 ≤ md.2.2.2.2) (hW : (st.map fun v => v.category).sum ≤ 8) (k : ∀ r', r' = cpy f g sp dp n → Z en ks cx md (upR M b r') pc' lv st) : Z en ks cx md M pc lv (vi n :: vi dp :: rf en b :: vi sp :: rf en a :: st) := by
  obtain ⟨A, p, e, R, s, m, args, below, meth, c, cells, slots, Q⟩ := cx
  intro F H locs ls hP hS hl
  obtain ⟨hd, rfl⟩ := hd
  obtain ⟨i, hi0, hi⟩ := zws_at (en := en) (M := M) hka
  obtain ⟨j, hj0, hj⟩ := zws_at (en := en) (M := M) hkb
  rw [ha.2, hra] at hi
  rw [hb.2, hrb] at hj
  have b0 := ha.1
  have b1 := hb.1
  have nn : ∀ x : Int, 0 ≤ x → x < 2147483648 → ¬ Int32.ofInt x < 0 := fun x q1 q2 z => by
    rw [oz, olt (by omega)] at z
    omega
  refine va_copyi F.1 F.2.1 (by rw [F.2.2.1]; exact hl.1.symm) F.2.2.2.1 (ho ▸ F.2.2.2.2.1 _ tacL) (F.2.2.2.2.1 _ tacN) (F.2.2.2.2.1 _ tacS) (F.2.2.2.2.1 _ tacI) F.2.2.2.2.2.1 hP (zws_D F.2.2.2.2.2.2.1 F.2.2.2.2.2.2.2.1) hS i j 0 0 hi hj rfl rfl rfl (nn sp (by omega) (by omega)) (nn dp (by omega) (by omega)) (nn n (by omega) (by omega)) (by rw [ocl (by omega) (by omega), ocl (by omega) (by omega)]; omega) (by rw [ocl (by omega) (by omega), ocl (by omega) (by omega)]; omega) (fun _ _ => rfl) (Nat.le_trans hh F.2.2.2.2.2.2.2.2.2.1) (Nat.le_trans (Nat.le_trans (Nat.add_le_add hW (Nat.le_of_ble_eq_true rfl : nativeFrameWords "java/lang/System" "arraycopy" 5 + 11 ≤ 32)) (by omega : 8 + 32 ≤ 40 * md.2.2.2.2)) F.2.2.2.2.2.2.2.2.2.2.1) hd (fun H1 locs1 hP1 hD1 hS1 => ?_)
  rw [ocl (by omega) (by omega), ocl (by omega) (by omega), ocl (by omega) (by omega), ← rI_cpy (by omega)] at hP1
  have e1 : ((zws en ks M).set j (ad en b, aI en n1 (cpy f g sp dp n))) = zws en ks (upR M b (cpy f g sp dp n)) := by rw [← hb.2]; exact zws_set F.2.2.2.2.2.2.1.1 hj0
  exact k _ rfl F H1 locs1 ls (by rw [← e1]; exact hP1) hS1 hl
theorem z_copy' {a b n0 n1 : Nat} {sp dp n : Int} {f g : Int → Int} (M2 : (Int → Int) → zW) (ho : md.1 = RX6) (hd : Dc md pc (.invokestatic 215) 3 pc') (ha : IsI a n0) (hb : IsI b n1) (hka : a ∈ ks) (hkb : b ∈ ks) (hra : M a = f) (hrb : M b = g) (h : 0 ≤ sp ∧ 0 ≤ dp ∧ 0 ≤ n ∧ sp + n ≤ n0 ∧ dp + n ≤ n1) (hh : 1 ≤ md.2.2.2.2) (hW : (st.map fun v => v.category).sum ≤ 8) (hM : ∀ r', upR M b r' = M2 r') (k : ∀ r', r' = cpy f g sp dp n → Z en ks cx md (M2 r') pc' lv st) : Z en ks cx md M pc lv (vi n :: vi dp :: rf en b :: vi sp :: rf en a :: st) := z_copy ho hd ha hb hka hkb hra hrb h hh hW (fun r' h => hM r' ▸ k r' h)
/-- inherited or overriding: x is what the pool names, y what is run for an object of class C -/
def ULk (own : String) (idx : Nat) (C : String) (x y : MethodName) (md : zMD) (n : Nat) : Prop := Cond.methodLink own idx x ∈ lw_g ∧ Cond.sameMethod x.cls RX5 x.name x.desc ∈ lw_g ∧ Cond.selects C x y ∈ lw_g ∧ Cond.instanceMethod y ∈ lw_g ∧ Cond.initialized y.cls ∈ lw_g ∧ Cond.code y md.2.1 md.2.2.1 md.2.2.2.1 ∈ lw_g ∧ (y = ⟨RX5, x.name, x.desc⟩ ∨ (∃ b m r, Cond.code ⟨RX5, x.name, x.desc⟩ b m r ∈ lw_g ∧ Cond.instanceMethod ⟨RX5, x.name, x.desc⟩ ∈ lw_g) ∨ (⟨RX5, x.name, x.desc⟩ : MethodName) = ⟨RX5, "takes", "(III)Z"⟩) ∧ (RX5 ≠ "java/lang/invoke/MethodHandle" ∧ RX5 ≠ "java/lang/invoke/VarHandle" ∧ (parseMethodDescriptor x.desc).map (fun d => d.parameters.length) = some n)
theorem z_callU {idx n a ci : Nat} {C : String} {x y : MethodName} {md' : zMD} {As st0 : List Value} {P : Option Value → zW → Prop} (hd : Dc md pc (.invokevirtual idx) 3 pc') (hl9 : ULk md.1 idx C x y md' n) (ho : hOk md md') (hk : a ∈ ks) (ha : IsO a ci) (hci : (vwCl[ci]?).map (fun q => q.1) = some C) (ct : Ct en ks y md' (rf en a :: As) M P) (hst : st0 = As.reverse ++ rf en a :: st) (hn : As.length = n) (hW : (st.map fun v => v.category).sum ≤ 8) (k : ∀ r M', P r M' → Z en ks cx md M' pc' lv (r.toList ++ st)) : Z en ks cx md M pc lv st0 := by
  obtain ⟨A, p, e, R, s, m, args, below, meth, c, cells, slots, Q⟩ := cx
  intro F H locs ls hP hS hl
  obtain ⟨hd, rfl⟩ := hd
  obtain ⟨l1, l2, l3, l6, l7, l4, l8, l5⟩ := hl9
  obtain ⟨f1, f2, f3, f4, f5, f6, f7, f8, f9, f10, f11, f12, f13, f14⟩ := id F
  have hG : GoodIn lw_g (va_wsU md.1 idx C RX5 x y (Cond.code y md'.2.1 md'.2.2.1 md'.2.2.2.1 :: lw_g)) := good_app (fun w hw => by
    simp only [List.mem_cons, List.not_mem_nil, or_false] at hw
    rcases hw with rfl | rfl | rfl | rfl | rfl
    · exact l1
    · exact l2
    · exact l3
    · exact l6
    · exact l7) (good_code l4)
  have cw : va_CU R s args md.1 C RX5 idx x y md'.2.1 md'.2.2.1 md'.2.2.2.1 (Cond.code y md'.2.1 md'.2.2.1 md'.2.2.2.1 :: lw_g) (rm md'.2.2.2.2) 0 0 n := by
    rcases l8 with h | ⟨b, m, r, h, h2⟩ | h
    · exact va_cwU n f5 hG rfl rfl rfl h l5 (ho.room f10 f11)
    · refine va_cwO n f5 (fun w hw => ?_) rfl rfl rfl h l5 (ho.room f10 f11)
      unfold va_wsO at hw
      rcases List.mem_append.mp hw with q | q
      · simp only [List.mem_cons, List.not_mem_nil, or_false] at q
        rcases q with rfl | rfl | rfl | rfl | rfl | rfl
        · exact ⟨l1, tbl_good _ l1⟩
        · exact ⟨l2, tbl_good _ l2⟩
        · exact ⟨h2, tbl_good _ h2⟩
        · exact ⟨l3, tbl_good _ l3⟩
        · exact ⟨l6, tbl_good _ l6⟩
        · exact ⟨l7, tbl_good _ l7⟩
      · exact good_code l4 w q
    · exact va_cwA n f5 hG rfl rfl rfl (by rw [h]; exact f9.2.2.2.2) l5 (ho.room f10 f11)
  obtain ⟨fs, h1⟩ := ha en (M a)
  obtain ⟨q, -, hq⟩ := zws_at (en := en) (M := M) hk
  rw [h1] at hq
  obtain ⟨vc, hvc, hvc2⟩ := Option.map_eq_some_iff.mp hci
  subst hvc2
  exact z_end (va_runU (As := As) (rest := st) (b := ad en a) ⟨f1, f2, f3, f4, f5⟩ ct cw ⟨zH.blind, va_recv f6 hP hvc hq, fun U hU hW => ⟨rfl, z_pre F hP hS hU hW⟩⟩ rfl hn hl.1 hst (lv_room hW) hd ⟨f12, f13⟩) hS f8 (fun r M' H1 locs1 hp hP1 hS1 => k r M' hp F H1 locs1 ls hP1 hS1 hl)
def PLk (own : String) (idx : Nat) (y : MethodName) (md : zMD) (n : Nat) : Prop := Cond.methodLink own idx y ∈ lw_g ∧ Cond.sameMethod y.cls y.cls y.name y.desc ∈ lw_g ∧ Cond.superclass own y.cls ∈ lw_g ∧ Cond.instanceMethod y ∈ lw_g ∧ Cond.initialized y.cls ∈ lw_g ∧ Cond.code y md.2.1 md.2.2.1 md.2.2.2.1 ∈ lw_g ∧ (y.name ≠ "<init>" ∧ (parseMethodDescriptor y.desc).map (fun d => d.parameters.length) = some n)
theorem z_callP {idx n a ci : Nat} {C : String} {y : MethodName} {md' : zMD} {As st0 : List Value} {P : Option Value → zW → Prop} (hd : Dc md pc (.invokespecial idx) 3 pc') (hl9 : PLk md.1 idx y md' n) (ho : hOk md md') (hk : a ∈ ks) (ha : IsO a ci) (hci : (vwCl[ci]?).map (fun q => q.1) = some C) (ct : Ct en ks y md' (rf en a :: As) M P) (hst : st0 = As.reverse ++ rf en a :: st) (hn : As.length = n) (hW : (st.map fun v => v.category).sum ≤ 8) (k : ∀ r M', P r M' → Z en ks cx md M' pc' lv (r.toList ++ st)) : Z en ks cx md M pc lv st0 := by
  obtain ⟨A, p, e, R, s, m, args, below, meth, c, cells, slots, Q⟩ := cx
  intro F H locs ls hP hS hl
  obtain ⟨hd, rfl⟩ := hd
  obtain ⟨l1, l2, l3, l6, l7, l4, l5⟩ := hl9
  obtain ⟨f1, f2, f3, f4, f5, f6, f7, f8, f9, f10, f11, f12, f13, f14⟩ := id F
  have hG : GoodIn lw_g (va_wsSU md.1 idx y (Cond.code y md'.2.1 md'.2.2.1 md'.2.2.2.1 :: lw_g)) := good_app (fun w hw => by
    simp only [List.mem_cons, List.not_mem_nil, or_false] at hw
    rcases hw with rfl | rfl | rfl | rfl | rfl
    · exact l1
    · exact l2
    · exact l3
    · exact l6
    · exact l7) (good_code l4)
  obtain ⟨fs, h1⟩ := ha en (M a)
  obtain ⟨q, -, hq⟩ := zws_at (en := en) (M := M) hk
  rw [h1] at hq
  obtain ⟨vc, hvc, hvc2⟩ := Option.map_eq_some_iff.mp hci
  subst hvc2
  exact z_end (va_runSU (As := As) (rest := st) (b := ad en a) (f6.1 ci vc hvc).2 ⟨f1, f2, f3, f4, f5⟩ ct (va_cwSU n f5 hG rfl rfl rfl l5 (ho.room f10 f11)) ⟨zH.blind, va_recv f6 hP hvc hq, fun U hU hW => ⟨rfl, z_pre F hP hS hU hW⟩⟩ rfl hn hl.1 hst (lv_room hW) hd ⟨f12, f13⟩) hS f8 (fun r M' H1 locs1 hp hP1 hS1 => k r M' hp F H1 locs1 ls hP1 hS1 hl)
theorem z_uI {idx n a ci : Nat} {C : String} {x : MethodName} {y : MethodName} {md' : zMD} {As st0 : List Value} {v : Int} {M' : zW} (hd : Dc md pc (.invokevirtual idx) 3 pc') (hl9 : ULk md.1 idx C x y md' n) (ho : hOk md md') (hk : a ∈ ks) (ha : IsO a ci) (hci : (vwCl[ci]?).map (fun q => q.1) = some C) (ct : Ct en ks y md' (rf en a :: As) M (pI v M')) (hst : st0 = As.reverse ++ rf en a :: st) (hn : As.length = n) (hW : (st.map fun v => v.category).sum ≤ 8) (k : Z en ks cx md M' pc' lv (vi v :: st)) : Z en ks cx md M pc lv st0 :=
  z_callU hd hl9 ho hk ha hci ct hst hn hW (fun r N h => by obtain ⟨rfl, rfl⟩ := h; exact k)
theorem z_uJ {idx n a ci : Nat} {C : String} {x : MethodName} {y : MethodName} {md' : zMD} {As st0 : List Value} {v : Int} {M' : zW} (hd : Dc md pc (.invokevirtual idx) 3 pc') (hl9 : ULk md.1 idx C x y md' n) (ho : hOk md md') (hk : a ∈ ks) (ha : IsO a ci) (hci : (vwCl[ci]?).map (fun q => q.1) = some C) (ct : Ct en ks y md' (rf en a :: As) M (pJ v M')) (hst : st0 = As.reverse ++ rf en a :: st) (hn : As.length = n) (hW : (st.map fun v => v.category).sum ≤ 8) (k : Z en ks cx md M' pc' lv (vl v :: st)) : Z en ks cx md M pc lv st0 :=
  z_callU hd hl9 ho hk ha hci ct hst hn hW (fun r N h => by obtain ⟨rfl, rfl⟩ := h; exact k)
theorem z_uV {idx n a ci : Nat} {C : String} {x : MethodName} {y : MethodName} {md' : zMD} {As st0 : List Value} {M' : zW} (hd : Dc md pc (.invokevirtual idx) 3 pc') (hl9 : ULk md.1 idx C x y md' n) (ho : hOk md md') (hk : a ∈ ks) (ha : IsO a ci) (hci : (vwCl[ci]?).map (fun q => q.1) = some C) (ct : Ct en ks y md' (rf en a :: As) M (pV M')) (hst : st0 = As.reverse ++ rf en a :: st) (hn : As.length = n) (hW : (st.map fun v => v.category).sum ≤ 8) (k : Z en ks cx md M' pc' lv (st)) : Z en ks cx md M pc lv st0 :=
  z_callU hd hl9 ho hk ha hci ct hst hn hW (fun r N h => by obtain ⟨rfl, rfl⟩ := h; exact k)
theorem z_pI {idx n a ci : Nat} {C : String} {y : MethodName} {md' : zMD} {As st0 : List Value} {v : Int} {M' : zW} (hd : Dc md pc (.invokespecial idx) 3 pc') (hl9 : PLk md.1 idx y md' n) (ho : hOk md md') (hk : a ∈ ks) (ha : IsO a ci) (hci : (vwCl[ci]?).map (fun q => q.1) = some C) (ct : Ct en ks y md' (rf en a :: As) M (pI v M')) (hst : st0 = As.reverse ++ rf en a :: st) (hn : As.length = n) (hW : (st.map fun v => v.category).sum ≤ 8) (k : Z en ks cx md M' pc' lv (vi v :: st)) : Z en ks cx md M pc lv st0 :=
  z_callP hd hl9 ho hk ha hci ct hst hn hW (fun r N h => by obtain ⟨rfl, rfl⟩ := h; exact k)
theorem z_pJ {idx n a ci : Nat} {C : String} {y : MethodName} {md' : zMD} {As st0 : List Value} {v : Int} {M' : zW} (hd : Dc md pc (.invokespecial idx) 3 pc') (hl9 : PLk md.1 idx y md' n) (ho : hOk md md') (hk : a ∈ ks) (ha : IsO a ci) (hci : (vwCl[ci]?).map (fun q => q.1) = some C) (ct : Ct en ks y md' (rf en a :: As) M (pJ v M')) (hst : st0 = As.reverse ++ rf en a :: st) (hn : As.length = n) (hW : (st.map fun v => v.category).sum ≤ 8) (k : Z en ks cx md M' pc' lv (vl v :: st)) : Z en ks cx md M pc lv st0 :=
  z_callP hd hl9 ho hk ha hci ct hst hn hW (fun r N h => by obtain ⟨rfl, rfl⟩ := h; exact k)
theorem z_pV {idx n a ci : Nat} {C : String} {y : MethodName} {md' : zMD} {As st0 : List Value} {M' : zW} (hd : Dc md pc (.invokespecial idx) 3 pc') (hl9 : PLk md.1 idx y md' n) (ho : hOk md md') (hk : a ∈ ks) (ha : IsO a ci) (hci : (vwCl[ci]?).map (fun q => q.1) = some C) (ct : Ct en ks y md' (rf en a :: As) M (pV M')) (hst : st0 = As.reverse ++ rf en a :: st) (hn : As.length = n) (hW : (st.map fun v => v.category).sum ≤ 8) (k : Z en ks cx md M' pc' lv (st)) : Z en ks cx md M pc lv st0 :=
  z_callP hd hl9 ho hk ha hci ct hst hn hW (fun r N h => by obtain ⟨rfl, rfl⟩ := h; exact k)
theorem z_uX {idx n a ci : Nat} {C : String} {x : MethodName} {y : MethodName} {md' : zMD} {As st0 : List Value} {P : Int → zW → Prop} (hd : Dc md pc (.invokevirtual idx) 3 pc') (hl9 : ULk md.1 idx C x y md' n) (ho : hOk md md') (hk : a ∈ ks) (ha : IsO a ci) (hci : (vwCl[ci]?).map (fun q => q.1) = some C) (ct : Ct en ks y md' (rf en a :: As) M (pX P)) (hst : st0 = As.reverse ++ rf en a :: st) (hn : As.length = n) (hW : (st.map fun v => v.category).sum ≤ 8) (k : ∀ x M', P x M' → Z en ks cx md M' pc' lv (vi x :: st)) : Z en ks cx md M pc lv st0 :=
  z_callU hd hl9 ho hk ha hci ct hst hn hW (fun r N h => by obtain ⟨x, rfl, h⟩ := h; exact k x N h)
theorem z_uN {idx n a ci : Nat} {C : String} {x : MethodName} {y : MethodName} {md' : zMD} {As st0 : List Value} {P : zW → Prop} (hd : Dc md pc (.invokevirtual idx) 3 pc') (hl9 : ULk md.1 idx C x y md' n) (ho : hOk md md') (hk : a ∈ ks) (ha : IsO a ci) (hci : (vwCl[ci]?).map (fun q => q.1) = some C) (ct : Ct en ks y md' (rf en a :: As) M (pN P)) (hst : st0 = As.reverse ++ rf en a :: st) (hn : As.length = n) (hW : (st.map fun v => v.category).sum ≤ 8) (k : ∀ M', P M' → Z en ks cx md M' pc' lv st) : Z en ks cx md M pc lv st0 :=
  z_callU hd hl9 ho hk ha hci ct hst hn hW (fun r N h => by obtain ⟨rfl, h⟩ := h; exact k N h)
theorem z_pX {idx n a ci : Nat} {C : String} {y : MethodName} {md' : zMD} {As st0 : List Value} {P : Int → zW → Prop} (hd : Dc md pc (.invokespecial idx) 3 pc') (hl9 : PLk md.1 idx y md' n) (ho : hOk md md') (hk : a ∈ ks) (ha : IsO a ci) (hci : (vwCl[ci]?).map (fun q => q.1) = some C) (ct : Ct en ks y md' (rf en a :: As) M (pX P)) (hst : st0 = As.reverse ++ rf en a :: st) (hn : As.length = n) (hW : (st.map fun v => v.category).sum ≤ 8) (k : ∀ x M', P x M' → Z en ks cx md M' pc' lv (vi x :: st)) : Z en ks cx md M pc lv st0 :=
  z_callP hd hl9 ho hk ha hci ct hst hn hW (fun r N h => by obtain ⟨x, rfl, h⟩ := h; exact k x N h)
theorem z_pN {idx n a ci : Nat} {C : String} {y : MethodName} {md' : zMD} {As st0 : List Value} {P : zW → Prop} (hd : Dc md pc (.invokespecial idx) 3 pc') (hl9 : PLk md.1 idx y md' n) (ho : hOk md md') (hk : a ∈ ks) (ha : IsO a ci) (hci : (vwCl[ci]?).map (fun q => q.1) = some C) (ct : Ct en ks y md' (rf en a :: As) M (pN P)) (hst : st0 = As.reverse ++ rf en a :: st) (hn : As.length = n) (hW : (st.map fun v => v.category).sum ≤ 8) (k : ∀ M', P M' → Z en ks cx md M' pc' lv st) : Z en ks cx md M pc lv st0 :=
  z_callP hd hl9 ho hk ha hci ct hst hn hW (fun r N h => by obtain ⟨rfl, h⟩ := h; exact k N h)
theorem z_nX {idx n : Nat} {y : MethodName} {md' : zMD} {host : String} {av st0 : List Value} {P : Int → zW → Prop} (hd : Dc md pc (.invokestatic idx) 3 pc') (hl9 : NLk md.1 idx y md' host n) (ho : hOk md md') (ct : Ct en ks y md' av M (pX P)) (hst : st0 = av.reverse ++ st) (hn : av.length = n) (hW : (st.map fun v => v.category).sum ≤ 8) (k : ∀ x M', P x M' → Z en ks cx md M' pc' lv (vi x :: st)) : Z en ks cx md M pc lv st0 :=
  z_callN hd hl9 ho ct hst hn hW (fun r N h => by obtain ⟨x, rfl, h⟩ := h; exact k x N h)
theorem z_nN {idx n : Nat} {y : MethodName} {md' : zMD} {host : String} {av st0 : List Value} {P : zW → Prop} (hd : Dc md pc (.invokestatic idx) 3 pc') (hl9 : NLk md.1 idx y md' host n) (ho : hOk md md') (ct : Ct en ks y md' av M (pN P)) (hst : st0 = av.reverse ++ st) (hn : av.length = n) (hW : (st.map fun v => v.category).sum ≤ 8) (k : ∀ M', P M' → Z en ks cx md M' pc' lv st) : Z en ks cx md M pc lv st0 :=
  z_callN hd hl9 ho ct hst hn hW (fun r N h => by obtain ⟨rfl, h⟩ := h; exact k N h)
end ZR2
theorem lX6_78_1 : ULk RX6 78 RX3 yX5_append yX5_append mX5_append 1 := ⟨(tin 278 (by decide +kernel : tables_1[278]? = some (Cond.methodLink RX6 78 yX5_append)) rfl), (tin 280 (by decide +kernel : tables_1[280]? = some (Cond.sameMethod RX5 RX5 "append" "(I)V")) rfl), (tin 282 (by decide +kernel : tables_1[282]? = some (Cond.selects RX3 yX5_append yX5_append)) rfl), (tin 279 (by decide +kernel : tables_1[279]? = some (Cond.instanceMethod yX5_append)) rfl), (tin 2 (by decide +kernel : tables_1[2]? = some (Cond.initialized RX5)) rfl), (tin 283 (by decide +kernel : tables_1[283]? = some (Cond.code yX5_append mX5_append.2.1 mX5_append.2.2.1 mX5_append.2.2.2.1)) rfl), .inl rfl, by decide +kernel, by decide +kernel, by decide +kernel⟩
theorem lX6_78_2 : ULk RX6 78 RX2 yX5_append yX5_append mX5_append 1 := ⟨(tin 278 (by decide +kernel : tables_1[278]? = some (Cond.methodLink RX6 78 yX5_append)) rfl), (tin 280 (by decide +kernel : tables_1[280]? = some (Cond.sameMethod RX5 RX5 "append" "(I)V")) rfl), (tin 281 (by decide +kernel : tables_1[281]? = some (Cond.selects RX2 yX5_append yX5_append)) rfl), (tin 279 (by decide +kernel : tables_1[279]? = some (Cond.instanceMethod yX5_append)) rfl), (tin 2 (by decide +kernel : tables_1[2]? = some (Cond.initialized RX5)) rfl), (tin 283 (by decide +kernel : tables_1[283]? = some (Cond.code yX5_append mX5_append.2.1 mX5_append.2.2.1 mX5_append.2.2.2.1)) rfl), .inl rfl, by decide +kernel, by decide +kernel, by decide +kernel⟩
theorem lX6_82_1 : ULk RX6 82 RX3 yX5_cutTo yX5_cutTo mX5_cutTo 1 := ⟨(tin 312 (by decide +kernel : tables_1[312]? = some (Cond.methodLink RX6 82 yX5_cutTo)) rfl), (tin 314 (by decide +kernel : tables_1[314]? = some (Cond.sameMethod RX5 RX5 "cutTo" "(I)V")) rfl), (tin 316 (by decide +kernel : tables_1[316]? = some (Cond.selects RX3 yX5_cutTo yX5_cutTo)) rfl), (tin 313 (by decide +kernel : tables_1[313]? = some (Cond.instanceMethod yX5_cutTo)) rfl), (tin 2 (by decide +kernel : tables_1[2]? = some (Cond.initialized RX5)) rfl), (tin 317 (by decide +kernel : tables_1[317]? = some (Cond.code yX5_cutTo mX5_cutTo.2.1 mX5_cutTo.2.2.1 mX5_cutTo.2.2.2.1)) rfl), .inl rfl, by decide +kernel, by decide +kernel, by decide +kernel⟩
theorem lX6_82_2 : ULk RX6 82 RX2 yX5_cutTo yX5_cutTo mX5_cutTo 1 := ⟨(tin 312 (by decide +kernel : tables_1[312]? = some (Cond.methodLink RX6 82 yX5_cutTo)) rfl), (tin 314 (by decide +kernel : tables_1[314]? = some (Cond.sameMethod RX5 RX5 "cutTo" "(I)V")) rfl), (tin 315 (by decide +kernel : tables_1[315]? = some (Cond.selects RX2 yX5_cutTo yX5_cutTo)) rfl), (tin 313 (by decide +kernel : tables_1[313]? = some (Cond.instanceMethod yX5_cutTo)) rfl), (tin 2 (by decide +kernel : tables_1[2]? = some (Cond.initialized RX5)) rfl), (tin 317 (by decide +kernel : tables_1[317]? = some (Cond.code yX5_cutTo mX5_cutTo.2.1 mX5_cutTo.2.2.1 mX5_cutTo.2.2.2.1)) rfl), .inl rfl, by decide +kernel, by decide +kernel, by decide +kernel⟩
theorem lX5_25_1 : ULk RX5 25 RX3 yX5_readAnew yX3_readAnew mX3_readAnew 0 := ⟨(tin 284 (by decide +kernel : tables_1[284]? = some (Cond.methodLink RX5 25 yX5_readAnew)) rfl), (tin 286 (by decide +kernel : tables_1[286]? = some (Cond.sameMethod RX5 RX5 "readAnew" "()V")) rfl), (tin 288 (by decide +kernel : tables_1[288]? = some (Cond.selects RX3 yX5_readAnew yX3_readAnew)) rfl), (tin 289 (by decide +kernel : tables_1[289]? = some (Cond.instanceMethod yX3_readAnew)) rfl), (tin 3 (by decide +kernel : tables_1[3]? = some (Cond.initialized RX3)) rfl), (tin 290 (by decide +kernel : tables_1[290]? = some (Cond.code yX3_readAnew mX3_readAnew.2.1 mX3_readAnew.2.2.1 mX3_readAnew.2.2.2.1)) rfl), .inr (.inl ⟨_, _, _, (tin 292 (by decide +kernel : tables_1[292]? = some (Cond.code yX5_readAnew mX5_readAnew.2.1 mX5_readAnew.2.2.1 mX5_readAnew.2.2.2.1)) rfl), (tin 285 (by decide +kernel : tables_1[285]? = some (Cond.instanceMethod yX5_readAnew)) rfl)⟩), by decide +kernel, by decide +kernel, by decide +kernel⟩
theorem lX5_25_2 : ULk RX5 25 RX2 yX5_readAnew yX5_readAnew mX5_readAnew 0 := ⟨(tin 284 (by decide +kernel : tables_1[284]? = some (Cond.methodLink RX5 25 yX5_readAnew)) rfl), (tin 286 (by decide +kernel : tables_1[286]? = some (Cond.sameMethod RX5 RX5 "readAnew" "()V")) rfl), (tin 287 (by decide +kernel : tables_1[287]? = some (Cond.selects RX2 yX5_readAnew yX5_readAnew)) rfl), (tin 285 (by decide +kernel : tables_1[285]? = some (Cond.instanceMethod yX5_readAnew)) rfl), (tin 2 (by decide +kernel : tables_1[2]? = some (Cond.initialized RX5)) rfl), (tin 292 (by decide +kernel : tables_1[292]? = some (Cond.code yX5_readAnew mX5_readAnew.2.1 mX5_readAnew.2.2.1 mX5_readAnew.2.2.2.1)) rfl), .inl rfl, by decide +kernel, by decide +kernel, by decide +kernel⟩
theorem lX5_37_1 : ULk RX5 37 RX3 ⟨RX5, "takes", "(III)Z"⟩ yX3_takes mX3_takes 3 := ⟨(tin 293 (by decide +kernel : tables_1[293]? = some (Cond.methodLink RX5 37 ⟨RX5, "takes", "(III)Z"⟩)) rfl), (tin 295 (by decide +kernel : tables_1[295]? = some (Cond.sameMethod RX5 RX5 "takes" "(III)Z")) rfl), (tin 303 (by decide +kernel : tables_1[303]? = some (Cond.selects RX3 ⟨RX5, "takes", "(III)Z"⟩ yX3_takes)) rfl), (tin 304 (by decide +kernel : tables_1[304]? = some (Cond.instanceMethod yX3_takes)) rfl), (tin 3 (by decide +kernel : tables_1[3]? = some (Cond.initialized RX3)) rfl), (tin 305 (by decide +kernel : tables_1[305]? = some (Cond.code yX3_takes mX3_takes.2.1 mX3_takes.2.2.1 mX3_takes.2.2.2.1)) rfl), .inr (.inr rfl), by decide +kernel, by decide +kernel, by decide +kernel⟩
theorem lX5_37_2 : ULk RX5 37 RX2 ⟨RX5, "takes", "(III)Z"⟩ yX2_takes mX2_takes 3 := ⟨(tin 293 (by decide +kernel : tables_1[293]? = some (Cond.methodLink RX5 37 ⟨RX5, "takes", "(III)Z"⟩)) rfl), (tin 295 (by decide +kernel : tables_1[295]? = some (Cond.sameMethod RX5 RX5 "takes" "(III)Z")) rfl), (tin 296 (by decide +kernel : tables_1[296]? = some (Cond.selects RX2 ⟨RX5, "takes", "(III)Z"⟩ yX2_takes)) rfl), (tin 297 (by decide +kernel : tables_1[297]? = some (Cond.instanceMethod yX2_takes)) rfl), (tin 6 (by decide +kernel : tables_1[6]? = some (Cond.initialized RX2)) rfl), (tin 298 (by decide +kernel : tables_1[298]? = some (Cond.code yX2_takes mX2_takes.2.1 mX2_takes.2.2.1 mX2_takes.2.2.2.1)) rfl), .inr (.inr rfl), by decide +kernel, by decide +kernel, by decide +kernel⟩
theorem lX3_36 : PLk RX3 36 yX5_readAnew mX5_readAnew 0 := ⟨(tin 291 (by decide +kernel : tables_1[291]? = some (Cond.methodLink RX3 36 yX5_readAnew)) rfl), (tin 286 (by decide +kernel : tables_1[286]? = some (Cond.sameMethod RX5 RX5 "readAnew" "()V")) rfl), (tin 95 (by decide +kernel : tables_1[95]? = some (Cond.superclass RX3 RX5)) rfl), (tin 285 (by decide +kernel : tables_1[285]? = some (Cond.instanceMethod yX5_readAnew)) rfl), (tin 2 (by decide +kernel : tables_1[2]? = some (Cond.initialized RX5)) rfl), (tin 292 (by decide +kernel : tables_1[292]? = some (Cond.code yX5_readAnew mX5_readAnew.2.1 mX5_readAnew.2.2.1 mX5_readAnew.2.2.2.1)) rfl), by decide +kernel, by decide +kernel⟩
