/-! leaves of the class -/
def lat (d e : Int) : Int := if d = -1 ∨ e = -1 then -1 else d + e
theorem bi_z {c : Prop} [Decidable c] : bi c = 0 ↔ ¬ c := by unfold bi; split <;> simp_all
theorem bi_nz {c : Prop} [Decidable c] : bi c ≠ 0 ↔ c := by unfold bi; split <;> simp_all
theorem bi_cong {c d : Prop} [Decidable c] [Decidable d] (h : c ↔ d) : bi c = bi d := by
  by_cases q : c
  · simp [bi, q, h.mp q]
  · have q2 : ¬ d := fun z => q (h.mpr z)
    simp [bi, q, q2]
def pcw (n : Nat) : Nat := pcn (n % 256) + pcn (n / 256)
def bcI (x : Int32) : Int32 :=
  let a := x - ((x.toUInt32 >>> ((Int32.ofInt 1).toUInt32 &&& Int32.toUInt32 31)).toInt32 &&& 1431655765)
  let b := (a &&& 858993459) + ((a.toUInt32 >>> ((Int32.ofInt 2).toUInt32 &&& Int32.toUInt32 31)).toInt32 &&& 858993459)
  let c := (b + (b.toUInt32 >>> ((Int32.ofInt 4).toUInt32 &&& Int32.toUInt32 31)).toInt32) &&& 252645135
  let d := c + (c.toUInt32 >>> ((Int32.ofInt 8).toUInt32 &&& Int32.toUInt32 31)).toInt32
  let e := d + (d.toUInt32 >>> ((Int32.ofInt 16).toUInt32 &&& Int32.toUInt32 31)).toInt32
  e &&& 63
theorem bcI_ok2 : ∀ a : Nat, a < 64 → ∀ b : Nat, b < 64 → bcI (Int32.ofInt ((64 * a + b : Nat) : Int)) = Int32.ofInt ((pcw (64 * a + b) : Nat) : Int) := by decide +kernel
theorem bcI_ok (n : Nat) (h : n < 4096) : bcI (Int32.ofInt (n : Int)) = Int32.ofInt ((pcw n : Nat) : Int) := by
  have := bcI_ok2 (n / 64) (by omega) (n % 64) (by omega)
  rw [show 64 * (n / 64) + n % 64 = n by omega] at this
  exact this
theorem ldI {x : Int} {y : Int32} (h : y = Int32.ofInt x) : Value.int y = vi x := by rw [h]; rfl
set_option maxRecDepth 100000 in
theorem ct_X6_within (en : zE) (M : zW) (v : Int) (m : Int) (ha : -2147483648 ≤ v ∧ v < 2147483648 ∧ -2147483648 ≤ m ∧ m < 2147483648) : Ct en kA yX6_within mX6_within [vi v, vi m] M (pI (bi (0 ≤ v ∧ v ≤ m)) M) := by
  refine Ct.of (by decide +kernel) rfl [(0, vi v), (1, vi m)] rfl (Nat.le_of_ble_eq_true rfl) (fun cx C => ?_)
  refine z_iload_n 0 dX6_within_0 rfl ?_
  refine z_if_lt (tgt := 13) dX6_within_1 rfl (by omega) (fun uc1 => ?_) (fun uc1 => ?_)
  ·
    refine z_iconst dX6_within_13 ?_
    exact z_zret C dX6_within_14 rfl (by decide) ⟨congrArg (fun z => some (vi z)) (bi0 (by omega)), rfl⟩
  ·
    refine z_iload_n 0 dX6_within_4 rfl ?_
    refine z_iload_n 1 dX6_within_5 rfl ?_
    refine z_icmp_gt (tgt := 13) dX6_within_6 rfl (by omega) (fun uc6 => ?_) (fun uc6 => ?_)
    ·
      refine z_iconst dX6_within_13 ?_
      exact z_zret C dX6_within_14 rfl (by decide) ⟨congrArg (fun z => some (vi z)) (bi0 (by omega)), rfl⟩
    ·
      refine z_iconst dX6_within_9 ?_
      refine z_goto (tgt := 14) dX6_within_10 rfl ?_
      exact z_zret C dX6_within_14 rfl (by decide) ⟨congrArg (fun z => some (vi z)) (bi1 (by omega)), rfl⟩
set_option maxRecDepth 100000 in
theorem ct_X6_isTown (en : zE) (M : zW) (v : Int) (ha : -2147483648 ≤ v ∧ v < 2147483648) : Ct en kA yX6_isTown mX6_isTown [vi v] M (pI (bi (0 ≤ v ∧ v ≤ 7)) M) := by
  refine Ct.of (by decide +kernel) rfl [(0, vi v)] rfl (Nat.le_of_ble_eq_true rfl) (fun cx C => ?_)
  refine z_iload_n 0 dX6_isTown_0 rfl ?_
  refine z_bipush dX6_isTown_1 rfl ?_
  refine z_sI dX6_isTown_3 lX6_68 (by decide) (ct_X6_within en M _ (7) (by omega)) rfl rfl (by exact Nat.le_of_ble_eq_true rfl) ?_
  exact z_zret C dX6_isTown_6 rfl (bi_01) ⟨congrArg (fun z => some (vi z)) (rfl), rfl⟩
set_option maxRecDepth 100000 in
theorem ct_X6_isSheet (en : zE) (M : zW) (v : Int) (ha : -2147483648 ≤ v ∧ v < 2147483648) : Ct en kA yX6_isSheet mX6_isSheet [vi v] M (pI (bi (0 ≤ v ∧ v ≤ 3)) M) := by
  refine Ct.of (by decide +kernel) rfl [(0, vi v)] rfl (Nat.le_of_ble_eq_true rfl) (fun cx C => ?_)
  refine z_iload_n 0 dX6_isSheet_0 rfl ?_
  refine z_iconst dX6_isSheet_1 ?_
  refine z_sI dX6_isSheet_2 lX6_68 (by decide) (ct_X6_within en M _ (3) (by omega)) rfl rfl (by exact Nat.le_of_ble_eq_true rfl) ?_
  exact z_zret C dX6_isSheet_5 rfl (bi_01) ⟨congrArg (fun z => some (vi z)) (rfl), rfl⟩
set_option maxRecDepth 100000 in
theorem ct_X6_isForm (en : zE) (M : zW) (v : Int) (ha : -2147483648 ≤ v ∧ v < 2147483648) : Ct en kA yX6_isForm mX6_isForm [vi v] M (pI (bi (0 ≤ v ∧ v ≤ 2)) M) := by
  refine Ct.of (by decide +kernel) rfl [(0, vi v)] rfl (Nat.le_of_ble_eq_true rfl) (fun cx C => ?_)
  refine z_iload_n 0 dX6_isForm_0 rfl ?_
  refine z_iconst dX6_isForm_1 ?_
  refine z_sI dX6_isForm_2 lX6_68 (by decide) (ct_X6_within en M _ (2) (by omega)) rfl rfl (by exact Nat.le_of_ble_eq_true rfl) ?_
  exact z_zret C dX6_isForm_5 rfl (bi_01) ⟨congrArg (fun z => some (vi z)) (rfl), rfl⟩
set_option maxRecDepth 100000 in
theorem ct_X6_hasBit (en : zE) (M : zW) (b : Int) (k : Int) (ha : -2147483648 ≤ b ∧ b < 2147483648) (hk : 0 ≤ k ∧ k < 32) : Ct en kA yX6_hasBit mX6_hasBit [vi b, vi k] M (pI (bi (bitq b k)) M) := by
  refine Ct.of (by decide +kernel) rfl [(0, vi b), (1, vi k)] rfl (Nat.le_of_ble_eq_true rfl) (fun cx C => ?_)
  refine z_iload_n 0 dX6_hasBit_0 rfl ?_
  refine z_iload_n 1 dX6_hasBit_1 rfl ?_
  refine z_ishr dX6_hasBit_2 (by omega) (by omega) ?_
  refine z_iconst dX6_hasBit_3 ?_
  refine z_iand1 dX6_hasBit_4 ?_
  refine z_iconst dX6_hasBit_5 ?_
  refine z_icmp_ne (tgt := 13) dX6_hasBit_6 rfl (by omega) (fun uc6 => ?_) (fun uc6 => ?_)
  ·
    refine z_iconst dX6_hasBit_13 ?_
    exact z_zret C dX6_hasBit_14 rfl (by decide) ⟨congrArg (fun z => some (vi z)) (bi0 (by omega)), rfl⟩
  ·
    refine z_iconst dX6_hasBit_9 ?_
    refine z_goto (tgt := 14) dX6_hasBit_10 rfl ?_
    exact z_zret C dX6_hasBit_14 rfl (by decide) ⟨congrArg (fun z => some (vi z)) (bi1 (by omega)), rfl⟩
set_option maxRecDepth 100000 in
theorem ct_X6_isBy (en : zE) (M : zW) (w : Int) (d : Int) (ha : -2147483648 ≤ w ∧ w < 2147483648 ∧ -2147483648 ≤ d ∧ d < 2147483648) : Ct en kA yX6_isBy mX6_isBy [vi w, vi d] M (pI (bi (w ≠ -1 ∧ w ≤ d)) M) := by
  refine Ct.of (by decide +kernel) rfl [(0, vi w), (1, vi d)] rfl (Nat.le_of_ble_eq_true rfl) (fun cx C => ?_)
  refine z_iload_n 0 dX6_isBy_0 rfl ?_
  refine z_iconst dX6_isBy_1 ?_
  refine z_icmp_eq (tgt := 14) dX6_isBy_2 rfl (by omega) (fun uc2 => ?_) (fun uc2 => ?_)
  ·
    refine z_iconst dX6_isBy_14 ?_
    exact z_zret C dX6_isBy_15 rfl (by decide) ⟨congrArg (fun z => some (vi z)) (bi0 (by omega)), rfl⟩
  ·
    refine z_iload_n 0 dX6_isBy_5 rfl ?_
    refine z_iload_n 1 dX6_isBy_6 rfl ?_
    refine z_icmp_gt (tgt := 14) dX6_isBy_7 rfl (by omega) (fun uc7 => ?_) (fun uc7 => ?_)
    ·
      refine z_iconst dX6_isBy_14 ?_
      exact z_zret C dX6_isBy_15 rfl (by decide) ⟨congrArg (fun z => some (vi z)) (bi0 (by omega)), rfl⟩
    ·
      refine z_iconst dX6_isBy_10 ?_
      refine z_goto (tgt := 15) dX6_isBy_11 rfl ?_
      exact z_zret C dX6_isBy_15 rfl (by decide) ⟨congrArg (fun z => some (vi z)) (bi1 (by omega)), rfl⟩
set_option maxRecDepth 100000 in
theorem ct_X6_later (en : zE) (M : zW) (d : Int) (e : Int) (ha : -2147483648 ≤ d ∧ d < 2147483648 ∧ -2147483648 ≤ e ∧ e < 2147483648) : Ct en kA yX6_later mX6_later [vi d, vi e] M (pI (lat d e) M) := by
  refine Ct.of (by decide +kernel) rfl [(0, vi d), (1, vi e)] rfl (Nat.le_of_ble_eq_true rfl) (fun cx C => ?_)
  refine z_iload_n 0 dX6_later_0 rfl ?_
  refine z_iconst dX6_later_1 ?_
  refine z_icmp_eq (tgt := 10) dX6_later_2 rfl (by omega) (fun uc2 => ?_) (fun uc2 => ?_)
  ·
    refine z_iconst dX6_later_10 ?_
    refine z_goto (tgt := 17) dX6_later_11 rfl ?_
    exact z_iret C dX6_later_17 rfl ⟨congrArg (fun z => some (vi z)) (by unfold lat; split <;> omega), rfl⟩
  ·
    refine z_iload_n 1 dX6_later_5 rfl ?_
    refine z_iconst dX6_later_6 ?_
    refine z_icmp_ne (tgt := 14) dX6_later_7 rfl (by omega) (fun uc7 => ?_) (fun uc7 => ?_)
    ·
      refine z_iload_n 0 dX6_later_14 rfl ?_
      refine z_iload_n 1 dX6_later_15 rfl ?_
      refine z_iadd dX6_later_16 ?_
      exact z_iret C dX6_later_17 rfl ⟨congrArg (fun z => some (vi z)) (by unfold lat; split <;> omega), rfl⟩
    ·
      refine z_iconst dX6_later_10 ?_
      refine z_goto (tgt := 17) dX6_later_11 rfl ?_
      exact z_iret C dX6_later_17 rfl ⟨congrArg (fun z => some (vi z)) (by unfold lat; split <;> omega), rfl⟩
set_option maxRecDepth 100000 in
theorem ct_X6_nextSeed (en : zE) (M : zW) (s : Int) : Ct en kA yX6_nextSeed mX6_nextSeed [vi s] M (pI (lotS s) M) := by
  refine Ct.of (by decide +kernel) rfl [(0, vi s)] rfl (Nat.le_of_ble_eq_true rfl) (fun cx C => ?_)
  refine z_ldcw (n := 1103515245) dX6_nextSeed_0 kX6_339 rfl ?_
  refine z_iload_n 0 dX6_nextSeed_3 rfl ?_
  refine z_imul dX6_nextSeed_4 ?_
  refine z_sipush dX6_nextSeed_5 rfl ?_
  refine z_iadd dX6_nextSeed_8 ?_
  exact z_iret C dX6_nextSeed_9 rfl ⟨congrArg (fun z => some (vi z)) (rfl), rfl⟩
set_option maxRecDepth 100000 in
theorem ct_X6_lot (en : zE) (M : zW) (s : Int) (m : Int) (hm : 1 ≤ m ∧ m < 32768) : Ct en kA yX6_lot mX6_lot [vi s, vi m] M (pI (s % 4294967296 / 65536 % m) M) := by
  refine Ct.of (by decide +kernel) rfl [(0, vi s), (1, vi m)] rfl (Nat.le_of_ble_eq_true rfl) (fun cx C => ?_)
  refine z_iload_n 0 dX6_lot_0 rfl ?_
  refine z_bipush dX6_lot_1 rfl ?_
  refine z_iushr16 dX6_lot_3 ?_
  refine z_iconst dX6_lot_4 ?_
  refine z_iload_n 1 dX6_lot_5 rfl ?_
  refine z_mmax dX6_lot_6 lX6_227 (by omega) (by decide) (Nat.le_of_ble_eq_true rfl) ?_
  refine z_irem dX6_lot_9 (by omega) ?_
  exact z_iret C dX6_lot_10 rfl ⟨congrArg (fun z => some (vi z)) (by rw [show max 1 m = m by omega]), rfl⟩
set_option maxRecDepth 100000 in
theorem ct_X6_maySee (en : zE) (M : zW) (p : Int) (w : Int) (ha : -2147483648 ≤ p ∧ p < 2147483648 ∧ -2147483648 ≤ w ∧ w < 2147483648) : Ct en kA yX6_maySee mX6_maySee [vi p, vi w] M (pI (bi (okS p w)) M) := by
  refine Ct.of (by decide +kernel) rfl [(0, vi p), (1, vi w)] rfl (Nat.le_of_ble_eq_true rfl) (fun cx C => ?_)
  refine z_iload_n 0 dX6_maySee_0 rfl ?_
  refine z_bipush dX6_maySee_1 rfl ?_
  refine z_sI dX6_maySee_3 lX6_68 (by decide) (ct_X6_within en M _ (7) (by omega)) rfl rfl (by exact Nat.le_of_ble_eq_true rfl) ?_
  refine z_ifeq_b (tgt := 21) dX6_maySee_6 rfl (fun uc6 => ?_) (fun uc6 => ?_)
  ·
    refine z_iconst dX6_maySee_21 ?_
    exact z_zret C dX6_maySee_22 rfl (by decide) ⟨congrArg (fun z => some (vi z)) (bi0 (by omega)), rfl⟩
  ·
    refine z_iload_n 1 dX6_maySee_9 rfl ?_
    refine z_iconst dX6_maySee_10 ?_
    refine z_sI dX6_maySee_11 lX6_68 (by decide) (ct_X6_within en M _ (1) (by omega)) rfl rfl (by exact Nat.le_of_ble_eq_true rfl) ?_
    refine z_ifeq_b (tgt := 21) dX6_maySee_14 rfl (fun uc14 => ?_) (fun uc14 => ?_)
    ·
      refine z_iconst dX6_maySee_21 ?_
      exact z_zret C dX6_maySee_22 rfl (by decide) ⟨congrArg (fun z => some (vi z)) (bi0 (by omega)), rfl⟩
    ·
      refine z_iconst dX6_maySee_17 ?_
      refine z_goto (tgt := 22) dX6_maySee_18 rfl ?_
      exact z_zret C dX6_maySee_22 rfl (by decide) ⟨congrArg (fun z => some (vi z)) (bi1 (by omega)), rfl⟩
set_option maxRecDepth 100000 in
theorem ct_X6_found (en : zE) (M : zW) (O0 : Int → Int) (wO0 : M 0 = O0) (f : Int) : Ct en kA yX6_found mX6_found [rf en 0, vi f] M (pI (-10 - f) (upR M 0 (up O0 10 f))) := by
  refine Ct.of (by decide +kernel) rfl [(0, rf en 0), (1, vi f)] rfl (Nat.le_of_ble_eq_true rfl) (fun cx C => ?_)
  refine z_aload_n 0 dX6_found_0 rfl ?_
  refine z_iload_n 1 dX6_found_1 rfl ?_
  refine z_putI (r := O0) 10 rfl dX6_found_2 pfX6_264_5 i0_10 ka0 (wO0) (fun r0_2 f0_2 => ?_)
  refine z_bipush dX6_found_5 rfl ?_
  refine z_iload_n 1 dX6_found_7 rfl ?_
  refine z_isub dX6_found_8 ?_
  exact z_iret C dX6_found_9 rfl ⟨congrArg (fun z => some (vi z)) (rfl), by subst f0_2; rfl⟩
set_option maxRecDepth 100000 in
theorem ct_X6_seeMore (en : zE) (M : zW) (O0 : Int → Int) (Q7 : Int → Int) (Q8 : Int → Int) (wO0 : M 0 = O0) (wQ7 : M 7 = Q7) (wQ8 : M 8 = Q8) (p : Int) (v : Int) (h0 : 0 ≤ O0 8 ∧ O0 8 < 8) : Ct en kA yX6_seeMore mX6_seeMore [rf en 0, vi p, vi v] M (pV (upR (upR (upR M 7 (up Q7 (O0 8) p)) 8 (up Q8 (O0 8) v)) 0 (up O0 8 (O0 8 + 1)))) := by
  refine Ct.of (by decide +kernel) rfl [(0, rf en 0), (1, vi p), (2, vi v)] rfl (Nat.le_of_ble_eq_true rfl) (fun cx C => ?_)
  refine z_aload_n 0 dX6_seeMore_0 rfl ?_
  refine z_getR dX6_seeMore_1 fX6_51_5 i0_6 ka0 ?_
  refine z_aload_n 0 dX6_seeMore_4 rfl ?_
  refine z_getI (r := O0) 8 rfl dX6_seeMore_5 fX6_177_5 i0_8 ka0 (wO0) ?_
  refine z_iload_n 1 dX6_seeMore_8 rfl ?_
  refine z_iast (r := Q7) dX6_seeMore_9 is7 ka7 (wQ7) (by omega) (fun r7_9 f7_9 => ?_)
  refine z_aload_n 0 dX6_seeMore_10 rfl ?_
  refine z_getR dX6_seeMore_11 fX6_54_5 i0_7 ka0 ?_
  refine z_aload_n 0 dX6_seeMore_14 rfl ?_
  refine z_getI (r := O0) 8 rfl dX6_seeMore_15 fX6_177_5 i0_8 ka0 (wO0) ?_
  refine z_iload_n 2 dX6_seeMore_18 rfl ?_
  refine z_iast (r := Q8) dX6_seeMore_19 is8 ka8 (wQ8) (by omega) (fun r8_19 f8_19 => ?_)
  refine z_aload_n 0 dX6_seeMore_20 rfl ?_
  refine z_dup_a dX6_seeMore_21 ?_
  refine z_getI (r := O0) 8 rfl dX6_seeMore_22 fX6_177_5 i0_8 ka0 (wO0) ?_
  refine z_iconst dX6_seeMore_25 ?_
  refine z_iadd dX6_seeMore_26 ?_
  refine z_putI (r := O0) 8 rfl dX6_seeMore_27 pfX6_177_5 i0_8 ka0 (wO0) (fun r0_27 f0_27 => ?_)
  exact z_vret C dX6_seeMore_30 rfl ⟨rfl, by rw [f0_27, f7_9, f8_19]⟩
set_option maxRecDepth 100000 in
theorem ct_J7_fill_53178_14 (en : zE) (M : zW) (A : Int → Int) (wA : M 14 = A) (v : Int) : Ct en kA yJ7_fill_53178 mJ7_fill_53178 [rf en 14, vi v] M (pV (upR M 14 (fil (fun _ => v) A 0 60))) := by
  refine Ct.of (by decide +kernel) rfl [(0, rf en 14), (1, vi v)] rfl (Nat.le_of_ble_eq_true rfl) (fun cx C => ?_)
  refine z_iconst dJ7_fill_53178_0 ?_
  refine z_istore_n (fun y => [(0, rf en 14), (1, vi v), (2, vi y)]) [1, 2, 0] dJ7_fill_53178_1 (by decide) (fun _ => rfl) (fun x2_1 e2_1 => ?_)
  refine z_aload_n 0 dJ7_fill_53178_2 rfl ?_
  refine z_alenI dJ7_fill_53178_3 is14 ka14 ?_
  refine z_istore_n (fun y => [(0, rf en 14), (1, vi v), (2, vi x2_1), (3, vi y)]) [1, 2, 3, 0] dJ7_fill_53178_4 (by decide) (fun _ => rfl) (fun x3_4 e3_4 => ?_)
  have uL5 : ∀ (fu : Nat) (x2 : Int) (rA : Int → Int), (60 - x2).toNat < fu → (0 ≤ x2 ∧ x2 ≤ 60 ∧ rA = fil (fun _ => v) A 0 x2) → Z en kA cx mJ7_fill_53178 (upR M 14 rA) 5 [(0, rf en 14), (1, vi v), (2, vi x2), (3, vi x3_4)] [] := by
    intro fu
    induction fu with
    | zero => intro x2 rA uhf; exact absurd uhf (Nat.not_lt_zero _)
    | succ fu uih5 =>
      intro x2 rA uf5 uI5
      obtain ⟨uq1, uq2, uq3⟩ := uI5
      refine z_iload_n 2 dJ7_fill_53178_5 rfl ?_
      refine z_iload_n 3 dJ7_fill_53178_6 rfl ?_
      refine z_icmp_ge (tgt := 20) dJ7_fill_53178_7 rfl (by omega) (fun uc7 => ?_) (fun uc7 => ?_)
      ·
        exact z_vret C dJ7_fill_53178_20 rfl ⟨rfl, by rw [uq3, show x2 = 60 by omega]⟩
      ·
        refine z_aload_n 0 dJ7_fill_53178_10 rfl ?_
        refine z_iload_n 2 dJ7_fill_53178_11 rfl ?_
        refine z_iload_n 1 dJ7_fill_53178_12 rfl ?_
        refine z_iast' (r := rA) (fun r => (upR M 14 r)) dJ7_fill_53178_13 is14 ka14 (rfl) (by omega) (fun _ => uu1) (fun r14_13 f14_13 => ?_)
        refine z_iinc (fun y => [(0, rf en 14), (1, vi v), (2, vi y), (3, vi x3_4)]) [1, 2, 0, 3] 2 dJ7_fill_53178_14 rfl (by decide) (fun _ => rfl) (fun x2_14 e2_14 => ?_)
        refine z_goto (tgt := 5) dJ7_fill_53178_17 rfl ?_
        have uq4 := fil_s (fun _ => v) A 0 x2 uq1 rfl
        rw [Int.zero_add] at uq4
        exact uih5 x2_14 r14_13 (by omega) (⟨by omega, by omega, by rw [f14_13, uq3, e2_14, ← uq4]⟩)
  refine Z.eqM (upR_id (k := 14) wA) ?_
  exact uL5 _ x2_1 A (Nat.lt_succ_self _) (⟨by omega, by omega, by rw [e2_1, fil_0]⟩)
set_option maxRecDepth 100000 in
theorem ct_J7_fill_53178_15 (en : zE) (M : zW) (A : Int → Int) (wA : M 15 = A) (v : Int) : Ct en kA yJ7_fill_53178 mJ7_fill_53178 [rf en 15, vi v] M (pV (upR M 15 (fil (fun _ => v) A 0 60))) := by
  refine Ct.of (by decide +kernel) rfl [(0, rf en 15), (1, vi v)] rfl (Nat.le_of_ble_eq_true rfl) (fun cx C => ?_)
  refine z_iconst dJ7_fill_53178_0 ?_
  refine z_istore_n (fun y => [(0, rf en 15), (1, vi v), (2, vi y)]) [1, 2, 0] dJ7_fill_53178_1 (by decide) (fun _ => rfl) (fun x2_1 e2_1 => ?_)
  refine z_aload_n 0 dJ7_fill_53178_2 rfl ?_
  refine z_alenI dJ7_fill_53178_3 is15 ka15 ?_
  refine z_istore_n (fun y => [(0, rf en 15), (1, vi v), (2, vi x2_1), (3, vi y)]) [1, 2, 3, 0] dJ7_fill_53178_4 (by decide) (fun _ => rfl) (fun x3_4 e3_4 => ?_)
  have uL5 : ∀ (fu : Nat) (x2 : Int) (rA : Int → Int), (60 - x2).toNat < fu → (0 ≤ x2 ∧ x2 ≤ 60 ∧ rA = fil (fun _ => v) A 0 x2) → Z en kA cx mJ7_fill_53178 (upR M 15 rA) 5 [(0, rf en 15), (1, vi v), (2, vi x2), (3, vi x3_4)] [] := by
    intro fu
    induction fu with
    | zero => intro x2 rA uhf; exact absurd uhf (Nat.not_lt_zero _)
    | succ fu uih5 =>
      intro x2 rA uf5 uI5
      obtain ⟨uq1, uq2, uq3⟩ := uI5
      refine z_iload_n 2 dJ7_fill_53178_5 rfl ?_
      refine z_iload_n 3 dJ7_fill_53178_6 rfl ?_
      refine z_icmp_ge (tgt := 20) dJ7_fill_53178_7 rfl (by omega) (fun uc7 => ?_) (fun uc7 => ?_)
      ·
        exact z_vret C dJ7_fill_53178_20 rfl ⟨rfl, by rw [uq3, show x2 = 60 by omega]⟩
      ·
        refine z_aload_n 0 dJ7_fill_53178_10 rfl ?_
        refine z_iload_n 2 dJ7_fill_53178_11 rfl ?_
        refine z_iload_n 1 dJ7_fill_53178_12 rfl ?_
        refine z_iast' (r := rA) (fun r => (upR M 15 r)) dJ7_fill_53178_13 is15 ka15 (rfl) (by omega) (fun _ => uu1) (fun r15_13 f15_13 => ?_)
        refine z_iinc (fun y => [(0, rf en 15), (1, vi v), (2, vi y), (3, vi x3_4)]) [1, 2, 0, 3] 2 dJ7_fill_53178_14 rfl (by decide) (fun _ => rfl) (fun x2_14 e2_14 => ?_)
        refine z_goto (tgt := 5) dJ7_fill_53178_17 rfl ?_
        have uq4 := fil_s (fun _ => v) A 0 x2 uq1 rfl
        rw [Int.zero_add] at uq4
        exact uih5 x2_14 r15_13 (by omega) (⟨by omega, by omega, by rw [f15_13, uq3, e2_14, ← uq4]⟩)
  refine Z.eqM (upR_id (k := 15) wA) ?_
  exact uL5 _ x2_1 A (Nat.lt_succ_self _) (⟨by omega, by omega, by rw [e2_1, fil_0]⟩)
set_option maxRecDepth 100000 in
theorem ct_J7_fill_53178_16 (en : zE) (M : zW) (A : Int → Int) (wA : M 16 = A) (v : Int) : Ct en kA yJ7_fill_53178 mJ7_fill_53178 [rf en 16, vi v] M (pV (upR M 16 (fil (fun _ => v) A 0 60))) := by
  refine Ct.of (by decide +kernel) rfl [(0, rf en 16), (1, vi v)] rfl (Nat.le_of_ble_eq_true rfl) (fun cx C => ?_)
  refine z_iconst dJ7_fill_53178_0 ?_
  refine z_istore_n (fun y => [(0, rf en 16), (1, vi v), (2, vi y)]) [1, 2, 0] dJ7_fill_53178_1 (by decide) (fun _ => rfl) (fun x2_1 e2_1 => ?_)
  refine z_aload_n 0 dJ7_fill_53178_2 rfl ?_
  refine z_alenI dJ7_fill_53178_3 is16 ka16 ?_
  refine z_istore_n (fun y => [(0, rf en 16), (1, vi v), (2, vi x2_1), (3, vi y)]) [1, 2, 3, 0] dJ7_fill_53178_4 (by decide) (fun _ => rfl) (fun x3_4 e3_4 => ?_)
  have uL5 : ∀ (fu : Nat) (x2 : Int) (rA : Int → Int), (60 - x2).toNat < fu → (0 ≤ x2 ∧ x2 ≤ 60 ∧ rA = fil (fun _ => v) A 0 x2) → Z en kA cx mJ7_fill_53178 (upR M 16 rA) 5 [(0, rf en 16), (1, vi v), (2, vi x2), (3, vi x3_4)] [] := by
    intro fu
    induction fu with
    | zero => intro x2 rA uhf; exact absurd uhf (Nat.not_lt_zero _)
    | succ fu uih5 =>
      intro x2 rA uf5 uI5
      obtain ⟨uq1, uq2, uq3⟩ := uI5
      refine z_iload_n 2 dJ7_fill_53178_5 rfl ?_
      refine z_iload_n 3 dJ7_fill_53178_6 rfl ?_
      refine z_icmp_ge (tgt := 20) dJ7_fill_53178_7 rfl (by omega) (fun uc7 => ?_) (fun uc7 => ?_)
      ·
        exact z_vret C dJ7_fill_53178_20 rfl ⟨rfl, by rw [uq3, show x2 = 60 by omega]⟩
      ·
        refine z_aload_n 0 dJ7_fill_53178_10 rfl ?_
        refine z_iload_n 2 dJ7_fill_53178_11 rfl ?_
        refine z_iload_n 1 dJ7_fill_53178_12 rfl ?_
        refine z_iast' (r := rA) (fun r => (upR M 16 r)) dJ7_fill_53178_13 is16 ka16 (rfl) (by omega) (fun _ => uu1) (fun r16_13 f16_13 => ?_)
        refine z_iinc (fun y => [(0, rf en 16), (1, vi v), (2, vi y), (3, vi x3_4)]) [1, 2, 0, 3] 2 dJ7_fill_53178_14 rfl (by decide) (fun _ => rfl) (fun x2_14 e2_14 => ?_)
        refine z_goto (tgt := 5) dJ7_fill_53178_17 rfl ?_
        have uq4 := fil_s (fun _ => v) A 0 x2 uq1 rfl
        rw [Int.zero_add] at uq4
        exact uih5 x2_14 r16_13 (by omega) (⟨by omega, by omega, by rw [f16_13, uq3, e2_14, ← uq4]⟩)
  refine Z.eqM (upR_id (k := 16) wA) ?_
  exact uL5 _ x2_1 A (Nat.lt_succ_self _) (⟨by omega, by omega, by rw [e2_1, fil_0]⟩)
set_option maxRecDepth 100000 in
theorem ct_J7_fill_53178_17 (en : zE) (M : zW) (A : Int → Int) (wA : M 17 = A) (v : Int) : Ct en kA yJ7_fill_53178 mJ7_fill_53178 [rf en 17, vi v] M (pV (upR M 17 (fil (fun _ => v) A 0 60))) := by
  refine Ct.of (by decide +kernel) rfl [(0, rf en 17), (1, vi v)] rfl (Nat.le_of_ble_eq_true rfl) (fun cx C => ?_)
  refine z_iconst dJ7_fill_53178_0 ?_
  refine z_istore_n (fun y => [(0, rf en 17), (1, vi v), (2, vi y)]) [1, 2, 0] dJ7_fill_53178_1 (by decide) (fun _ => rfl) (fun x2_1 e2_1 => ?_)
  refine z_aload_n 0 dJ7_fill_53178_2 rfl ?_
  refine z_alenI dJ7_fill_53178_3 is17 ka17 ?_
  refine z_istore_n (fun y => [(0, rf en 17), (1, vi v), (2, vi x2_1), (3, vi y)]) [1, 2, 3, 0] dJ7_fill_53178_4 (by decide) (fun _ => rfl) (fun x3_4 e3_4 => ?_)
  have uL5 : ∀ (fu : Nat) (x2 : Int) (rA : Int → Int), (60 - x2).toNat < fu → (0 ≤ x2 ∧ x2 ≤ 60 ∧ rA = fil (fun _ => v) A 0 x2) → Z en kA cx mJ7_fill_53178 (upR M 17 rA) 5 [(0, rf en 17), (1, vi v), (2, vi x2), (3, vi x3_4)] [] := by
    intro fu
    induction fu with
    | zero => intro x2 rA uhf; exact absurd uhf (Nat.not_lt_zero _)
    | succ fu uih5 =>
      intro x2 rA uf5 uI5
      obtain ⟨uq1, uq2, uq3⟩ := uI5
      refine z_iload_n 2 dJ7_fill_53178_5 rfl ?_
      refine z_iload_n 3 dJ7_fill_53178_6 rfl ?_
      refine z_icmp_ge (tgt := 20) dJ7_fill_53178_7 rfl (by omega) (fun uc7 => ?_) (fun uc7 => ?_)
      ·
        exact z_vret C dJ7_fill_53178_20 rfl ⟨rfl, by rw [uq3, show x2 = 60 by omega]⟩
      ·
        refine z_aload_n 0 dJ7_fill_53178_10 rfl ?_
        refine z_iload_n 2 dJ7_fill_53178_11 rfl ?_
        refine z_iload_n 1 dJ7_fill_53178_12 rfl ?_
        refine z_iast' (r := rA) (fun r => (upR M 17 r)) dJ7_fill_53178_13 is17 ka17 (rfl) (by omega) (fun _ => uu1) (fun r17_13 f17_13 => ?_)
        refine z_iinc (fun y => [(0, rf en 17), (1, vi v), (2, vi y), (3, vi x3_4)]) [1, 2, 0, 3] 2 dJ7_fill_53178_14 rfl (by decide) (fun _ => rfl) (fun x2_14 e2_14 => ?_)
        refine z_goto (tgt := 5) dJ7_fill_53178_17 rfl ?_
        have uq4 := fil_s (fun _ => v) A 0 x2 uq1 rfl
        rw [Int.zero_add] at uq4
        exact uih5 x2_14 r17_13 (by omega) (⟨by omega, by omega, by rw [f17_13, uq3, e2_14, ← uq4]⟩)
  refine Z.eqM (upR_id (k := 17) wA) ?_
  exact uL5 _ x2_1 A (Nat.lt_succ_self _) (⟨by omega, by omega, by rw [e2_1, fil_0]⟩)
set_option maxRecDepth 100000 in
theorem ct_J7_fill_53178_22 (en : zE) (M : zW) (ks : List Nat) (k22 : 22 ∈ ks) (A : Int → Int) (wA : M 22 = A) (v : Int) : Ct en ks yJ7_fill_53178 mJ7_fill_53178 [rf en 22, vi v] M (pV (upR M 22 (fil (fun _ => v) A 0 64))) := by
  refine Ct.of (by decide +kernel) rfl [(0, rf en 22), (1, vi v)] rfl (Nat.le_of_ble_eq_true rfl) (fun cx C => ?_)
  refine z_iconst dJ7_fill_53178_0 ?_
  refine z_istore_n (fun y => [(0, rf en 22), (1, vi v), (2, vi y)]) [1, 2, 0] dJ7_fill_53178_1 (by decide) (fun _ => rfl) (fun x2_1 e2_1 => ?_)
  refine z_aload_n 0 dJ7_fill_53178_2 rfl ?_
  refine z_alenI dJ7_fill_53178_3 is22 k22 ?_
  refine z_istore_n (fun y => [(0, rf en 22), (1, vi v), (2, vi x2_1), (3, vi y)]) [1, 2, 3, 0] dJ7_fill_53178_4 (by decide) (fun _ => rfl) (fun x3_4 e3_4 => ?_)
  have uL5 : ∀ (fu : Nat) (x2 : Int) (rA : Int → Int), (64 - x2).toNat < fu → (0 ≤ x2 ∧ x2 ≤ 64 ∧ rA = fil (fun _ => v) A 0 x2) → Z en ks cx mJ7_fill_53178 (upR M 22 rA) 5 [(0, rf en 22), (1, vi v), (2, vi x2), (3, vi x3_4)] [] := by
    intro fu
    induction fu with
    | zero => intro x2 rA uhf; exact absurd uhf (Nat.not_lt_zero _)
    | succ fu uih5 =>
      intro x2 rA uf5 uI5
      obtain ⟨uq1, uq2, uq3⟩ := uI5
      refine z_iload_n 2 dJ7_fill_53178_5 rfl ?_
      refine z_iload_n 3 dJ7_fill_53178_6 rfl ?_
      refine z_icmp_ge (tgt := 20) dJ7_fill_53178_7 rfl (by omega) (fun uc7 => ?_) (fun uc7 => ?_)
      ·
        exact z_vret C dJ7_fill_53178_20 rfl ⟨rfl, by rw [uq3, show x2 = 64 by omega]⟩
      ·
        refine z_aload_n 0 dJ7_fill_53178_10 rfl ?_
        refine z_iload_n 2 dJ7_fill_53178_11 rfl ?_
        refine z_iload_n 1 dJ7_fill_53178_12 rfl ?_
        refine z_iast' (r := rA) (fun r => (upR M 22 r)) dJ7_fill_53178_13 is22 k22 (rfl) (by omega) (fun _ => uu1) (fun r22_13 f22_13 => ?_)
        refine z_iinc (fun y => [(0, rf en 22), (1, vi v), (2, vi y), (3, vi x3_4)]) [1, 2, 0, 3] 2 dJ7_fill_53178_14 rfl (by decide) (fun _ => rfl) (fun x2_14 e2_14 => ?_)
        refine z_goto (tgt := 5) dJ7_fill_53178_17 rfl ?_
        have uq4 := fil_s (fun _ => v) A 0 x2 uq1 rfl
        rw [Int.zero_add] at uq4
        exact uih5 x2_14 r22_13 (by omega) (⟨by omega, by omega, by rw [f22_13, uq3, e2_14, ← uq4]⟩)
  refine Z.eqM (upR_id (k := 22) wA) ?_
  exact uL5 _ x2_1 A (Nat.lt_succ_self _) (⟨by omega, by omega, by rw [e2_1, fil_0]⟩)
set_option maxRecDepth 100000 in
theorem ct_J7_fill_d0a16_35 (en : zE) (M : zW) (A : Int → Int) (wA : M 35 = A) (v : Int) : Ct en kA yJ7_fill_d0a16 mJ7_fill_d0a16 [rf en 35, vl v] M (pV (upR M 35 (fil (fun _ => v) A 0 64))) := by
  refine Ct.of (by decide +kernel) rfl [(0, rf en 35), (1, vl v)] rfl (Nat.le_of_ble_eq_true rfl) (fun cx C => ?_)
  refine z_iconst dJ7_fill_d0a16_0 ?_
  refine z_istore_n (fun y => [(0, rf en 35), (1, vl v), (3, vi y)]) [1, 2, 0] dJ7_fill_d0a16_1 (by decide) (fun _ => rfl) (fun x3_1 e3_1 => ?_)
  refine z_aload_n 0 dJ7_fill_d0a16_2 rfl ?_
  refine z_alenJ dJ7_fill_d0a16_3 is35 ka35 ?_
  refine z_istore (fun y => [(0, rf en 35), (1, vl v), (3, vi x3_1), (4, vi y)]) [1, 2, 3, 0] dJ7_fill_d0a16_4 (by decide) (fun _ => rfl) (fun x4_4 e4_4 => ?_)
  have uL6 : ∀ (fu : Nat) (x3 : Int) (rA : Int → Int), (64 - x3).toNat < fu → (0 ≤ x3 ∧ x3 ≤ 64 ∧ rA = fil (fun _ => v) A 0 x3) → Z en kA cx mJ7_fill_d0a16 (upR M 35 rA) 6 [(0, rf en 35), (1, vl v), (3, vi x3), (4, vi x4_4)] [] := by
    intro fu
    induction fu with
    | zero => intro x3 rA uhf; exact absurd uhf (Nat.not_lt_zero _)
    | succ fu uih6 =>
      intro x3 rA uf6 uI6
      obtain ⟨uq1, uq2, uq3⟩ := uI6
      refine z_iload_n 2 dJ7_fill_d0a16_6 rfl ?_
      refine z_iload 3 dJ7_fill_d0a16_7 rfl ?_
      refine z_icmp_ge (tgt := 22) dJ7_fill_d0a16_9 rfl (by omega) (fun uc9 => ?_) (fun uc9 => ?_)
      ·
        exact z_vret C dJ7_fill_d0a16_22 rfl ⟨rfl, by rw [uq3, show x3 = 64 by omega]⟩
      ·
        refine z_aload_n 0 dJ7_fill_d0a16_12 rfl ?_
        refine z_iload_n 2 dJ7_fill_d0a16_13 rfl ?_
        refine z_lload_n 1 dJ7_fill_d0a16_14 rfl ?_
        refine z_last' (r := rA) (fun r => (upR M 35 r)) dJ7_fill_d0a16_15 is35 ka35 (rfl) (by omega) (fun _ => uu1) (fun r35_15 f35_15 => ?_)
        refine z_iinc (fun y => [(0, rf en 35), (1, vl v), (3, vi y), (4, vi x4_4)]) [1, 2, 0, 3] 2 dJ7_fill_d0a16_16 rfl (by decide) (fun _ => rfl) (fun x3_16 e3_16 => ?_)
        refine z_goto (tgt := 6) dJ7_fill_d0a16_19 rfl ?_
        have uq4 := fil_s (fun _ => v) A 0 x3 uq1 rfl
        rw [Int.zero_add] at uq4
        exact uih6 x3_16 r35_15 (by omega) (⟨by omega, by omega, by rw [f35_15, uq3, e3_16, ← uq4]⟩)
  refine Z.eqM (upR_id (k := 35) wA) ?_
  exact uL6 _ x3_1 A (Nat.lt_succ_self _) (⟨by omega, by omega, by rw [e3_1, fil_0]⟩)
set_option maxRecDepth 100000 in
theorem ct_X4_isLost_10 (en : zE) (M : zW) (S : Int → Int) (wS : M 10 = S) (hS : -1 ≤ S 0 ∧ S 0 ≤ 2) : Ct en kA yX4_isLost mX4_isLost [rf en 10] M (pI (bi (S 0 = -1)) M) := by
  refine Ct.of (by decide +kernel) rfl [(0, rf en 10)] rfl (Nat.le_of_ble_eq_true rfl) (fun cx C => ?_)
  refine z_aload_n 0 dX4_isLost_0 rfl ?_
  refine z_getI (r := S) 0 rfl dX4_isLost_1 fX4_9_4 i10_0 ka10 (wS) ?_
  refine z_iconst dX4_isLost_4 ?_
  refine z_icmp_ne (tgt := 12) dX4_isLost_5 rfl (by omega) (fun uc5 => ?_) (fun uc5 => ?_)
  ·
    refine z_iconst dX4_isLost_12 ?_
    exact z_zret C dX4_isLost_13 rfl (by decide) ⟨congrArg (fun z => some (vi z)) (bi0 (by omega)), rfl⟩
  ·
    refine z_iconst dX4_isLost_8 ?_
    refine z_goto (tgt := 13) dX4_isLost_9 rfl ?_
    exact z_zret C dX4_isLost_13 rfl (by decide) ⟨congrArg (fun z => some (vi z)) (bi1 (by omega)), rfl⟩
set_option maxRecDepth 100000 in
theorem ct_X4_holds_10 (en : zE) (M : zW) (S : Int → Int) (wS : M 10 = S) (f : Int) (n : Int) (h0 : -2147483648 ≤ f ∧ f < 2147483648 ∧ -2147483648 ≤ n ∧ n < 2147483648) (hS : 0 ≤ S 1 ∧ S 1 ≤ 60) : Ct en kA yX4_holds mX4_holds [rf en 10, vi f, vi n] M (pI (bi (0 ≤ f ∧ 0 ≤ n ∧ f + n ≤ S 1)) M) := by
  refine Ct.of (by decide +kernel) rfl [(0, rf en 10), (1, vi f), (2, vi n)] rfl (Nat.le_of_ble_eq_true rfl) (fun cx C => ?_)
  refine z_iload_n 1 dX4_holds_0 rfl ?_
  refine z_if_lt (tgt := 22) dX4_holds_1 rfl (by omega) (fun uc1 => ?_) (fun uc1 => ?_)
  ·
    refine z_iconst dX4_holds_22 ?_
    exact z_zret C dX4_holds_23 rfl (by decide) ⟨congrArg (fun z => some (vi z)) (bi0 (by omega)), rfl⟩
  ·
    refine z_iload_n 2 dX4_holds_4 rfl ?_
    refine z_if_lt (tgt := 22) dX4_holds_5 rfl (by omega) (fun uc5 => ?_) (fun uc5 => ?_)
    ·
      refine z_iconst dX4_holds_22 ?_
      exact z_zret C dX4_holds_23 rfl (by decide) ⟨congrArg (fun z => some (vi z)) (bi0 (by omega)), rfl⟩
    ·
      refine z_iload_n 1 dX4_holds_8 rfl ?_
      refine z_aload_n 0 dX4_holds_9 rfl ?_
      refine z_getI (r := S) 1 rfl dX4_holds_10 fX4_19_4 i10_1 ka10 (wS) ?_
      refine z_iload_n 2 dX4_holds_13 rfl ?_
      refine z_isub dX4_holds_14 ?_
      refine z_icmp_gt (tgt := 22) dX4_holds_15 rfl (by omega) (fun uc15 => ?_) (fun uc15 => ?_)
      ·
        refine z_iconst dX4_holds_22 ?_
        exact z_zret C dX4_holds_23 rfl (by decide) ⟨congrArg (fun z => some (vi z)) (bi0 (by omega)), rfl⟩
      ·
        refine z_iconst dX4_holds_18 ?_
        refine z_goto (tgt := 23) dX4_holds_19 rfl ?_
        exact z_zret C dX4_holds_23 rfl (by decide) ⟨congrArg (fun z => some (vi z)) (bi1 (by omega)), rfl⟩
set_option maxRecDepth 100000 in
theorem ct_X4_put_10 (en : zE) (M : zW) (S : Int → Int) (I : Int → Int) (wS : M 10 = S) (wI : M 14 = I) (i : Int) (v : Int) (h0 : 0 ≤ i ∧ i < 60) (hS : -1 ≤ S 0 ∧ S 0 ≤ 2) : Ct en kA yX4_put mX4_put [rf en 10, vi i, vi v] M (pV (upR M 14 (up I i (cutv (S 0) v)))) := by
  refine Ct.of (by decide +kernel) rfl [(0, rf en 10), (1, vi i), (2, vi v)] rfl (Nat.le_of_ble_eq_true rfl) (fun cx C => ?_)
  refine z_aload_n 0 dX4_put_0 rfl ?_
  refine z_getR dX4_put_1 fX4_15_4 i10_2 ka10 ?_
  refine z_iload_n 1 dX4_put_4 rfl ?_
  refine z_aload_n 0 dX4_put_5 rfl ?_
  refine z_getI (r := S) 0 rfl dX4_put_6 fX4_9_4 i10_0 ka10 (wS) ?_
  refine z_if_ne (tgt := 17) dX4_put_9 rfl (by omega) (fun uc9 => ?_) (fun uc9 => ?_)
  ·
    refine z_aload_n 0 dX4_put_17 rfl ?_
    refine z_getI (r := S) 0 rfl dX4_put_18 fX4_9_4 i10_0 ka10 (wS) ?_
    refine z_iconst dX4_put_21 ?_
    refine z_icmp_ne (tgt := 30) dX4_put_22 rfl (by omega) (fun uc22 => ?_) (fun uc22 => ?_)
    ·
      refine z_iload_n 2 dX4_put_30 rfl ?_
      refine z_iast (r := I) dX4_put_31 is14 ka14 (wI) (by omega) (fun r14_31 f14_31 => ?_)
      exact z_vret C dX4_put_32 rfl ⟨rfl, by rw [f14_31]; congr 2; unfold cutv; simp only [*]; simp⟩
    ·
      refine z_iload_n 2 dX4_put_25 rfl ?_
      refine z_i2s dX4_put_26 ?_
      refine z_goto (tgt := 31) dX4_put_27 rfl ?_
      refine z_iast (r := I) dX4_put_31 is14 ka14 (wI) (by omega) (fun r14_31 f14_31 => ?_)
      exact z_vret C dX4_put_32 rfl ⟨rfl, by rw [f14_31]; congr 2; unfold cutv; simp only [*]; simp⟩
  ·
    refine z_iload_n 2 dX4_put_12 rfl ?_
    refine z_i2b dX4_put_13 ?_
    refine z_goto (tgt := 31) dX4_put_14 rfl ?_
    refine z_iast (r := I) dX4_put_31 is14 ka14 (wI) (by omega) (fun r14_31 f14_31 => ?_)
    exact z_vret C dX4_put_32 rfl ⟨rfl, by rw [f14_31]; congr 2; unfold cutv; simp only [*]; simp⟩
set_option maxRecDepth 100000 in
theorem ct_X4_renew_10 (en : zE) (M : zW) (S : Int → Int) (I : Int → Int) (wS : M 10 = S) (wI : M 14 = I) (f : Int) (n : Int) : Ct en kA yX4_renew mX4_renew [rf en 10, vi f, vi n] M (pV (upR (upR M 10 (up (up S 0 f) 1 n)) 14 (fil (fun _ => 0) I 0 60))) := by
  refine Ct.of (by decide +kernel) rfl [(0, rf en 10), (1, vi f), (2, vi n)] rfl (Nat.le_of_ble_eq_true rfl) (fun cx C => ?_)
  refine z_aload_n 0 dX4_renew_0 rfl ?_
  refine z_iload_n 1 dX4_renew_1 rfl ?_
  refine z_putI (r := S) 0 rfl dX4_renew_2 pfX4_9_4 i10_0 ka10 (wS) (fun r10_2 f10_2 => ?_)
  refine z_aload_n 0 dX4_renew_5 rfl ?_
  refine z_iload_n 2 dX4_renew_6 rfl ?_
  refine z_putI' (r := r10_2) 1 rfl (fun r => (upR M 10 r)) dX4_renew_7 pfX4_19_4 i10_1 ka10 (rfl) (fun _ => uu1) (fun r10_7 f10_7 => ?_)
  refine z_aload_n 0 dX4_renew_10 rfl ?_
  refine z_getR dX4_renew_11 fX4_15_4 i10_2 ka10 ?_
  refine z_iconst dX4_renew_14 ?_
  refine z_sV dX4_renew_15 lX4_22 (by decide) (ct_J7_fill_53178_14 en (upR M 10 r10_7) I wI (0)) rfl rfl (by exact Nat.le_of_ble_eq_true rfl) ?_
  exact z_vret C dX4_renew_18 rfl ⟨rfl, by rw [f10_7, f10_2]⟩
set_option maxRecDepth 100000 in
theorem ct_X4_isLost_11 (en : zE) (M : zW) (S : Int → Int) (wS : M 11 = S) (hS : -1 ≤ S 0 ∧ S 0 ≤ 2) : Ct en kA yX4_isLost mX4_isLost [rf en 11] M (pI (bi (S 0 = -1)) M) := by
  refine Ct.of (by decide +kernel) rfl [(0, rf en 11)] rfl (Nat.le_of_ble_eq_true rfl) (fun cx C => ?_)
  refine z_aload_n 0 dX4_isLost_0 rfl ?_
  refine z_getI (r := S) 0 rfl dX4_isLost_1 fX4_9_4 i11_0 ka11 (wS) ?_
  refine z_iconst dX4_isLost_4 ?_
  refine z_icmp_ne (tgt := 12) dX4_isLost_5 rfl (by omega) (fun uc5 => ?_) (fun uc5 => ?_)
  ·
    refine z_iconst dX4_isLost_12 ?_
    exact z_zret C dX4_isLost_13 rfl (by decide) ⟨congrArg (fun z => some (vi z)) (bi0 (by omega)), rfl⟩
  ·
    refine z_iconst dX4_isLost_8 ?_
    refine z_goto (tgt := 13) dX4_isLost_9 rfl ?_
    exact z_zret C dX4_isLost_13 rfl (by decide) ⟨congrArg (fun z => some (vi z)) (bi1 (by omega)), rfl⟩
set_option maxRecDepth 100000 in
theorem ct_X4_holds_11 (en : zE) (M : zW) (S : Int → Int) (wS : M 11 = S) (f : Int) (n : Int) (h0 : -2147483648 ≤ f ∧ f < 2147483648 ∧ -2147483648 ≤ n ∧ n < 2147483648) (hS : 0 ≤ S 1 ∧ S 1 ≤ 60) : Ct en kA yX4_holds mX4_holds [rf en 11, vi f, vi n] M (pI (bi (0 ≤ f ∧ 0 ≤ n ∧ f + n ≤ S 1)) M) := by
  refine Ct.of (by decide +kernel) rfl [(0, rf en 11), (1, vi f), (2, vi n)] rfl (Nat.le_of_ble_eq_true rfl) (fun cx C => ?_)
  refine z_iload_n 1 dX4_holds_0 rfl ?_
  refine z_if_lt (tgt := 22) dX4_holds_1 rfl (by omega) (fun uc1 => ?_) (fun uc1 => ?_)
  ·
    refine z_iconst dX4_holds_22 ?_
    exact z_zret C dX4_holds_23 rfl (by decide) ⟨congrArg (fun z => some (vi z)) (bi0 (by omega)), rfl⟩
  ·
    refine z_iload_n 2 dX4_holds_4 rfl ?_
    refine z_if_lt (tgt := 22) dX4_holds_5 rfl (by omega) (fun uc5 => ?_) (fun uc5 => ?_)
    ·
      refine z_iconst dX4_holds_22 ?_
      exact z_zret C dX4_holds_23 rfl (by decide) ⟨congrArg (fun z => some (vi z)) (bi0 (by omega)), rfl⟩
    ·
      refine z_iload_n 1 dX4_holds_8 rfl ?_
      refine z_aload_n 0 dX4_holds_9 rfl ?_
      refine z_getI (r := S) 1 rfl dX4_holds_10 fX4_19_4 i11_1 ka11 (wS) ?_
      refine z_iload_n 2 dX4_holds_13 rfl ?_
      refine z_isub dX4_holds_14 ?_
      refine z_icmp_gt (tgt := 22) dX4_holds_15 rfl (by omega) (fun uc15 => ?_) (fun uc15 => ?_)
      ·
        refine z_iconst dX4_holds_22 ?_
        exact z_zret C dX4_holds_23 rfl (by decide) ⟨congrArg (fun z => some (vi z)) (bi0 (by omega)), rfl⟩
      ·
        refine z_iconst dX4_holds_18 ?_
        refine z_goto (tgt := 23) dX4_holds_19 rfl ?_
        exact z_zret C dX4_holds_23 rfl (by decide) ⟨congrArg (fun z => some (vi z)) (bi1 (by omega)), rfl⟩
set_option maxRecDepth 100000 in
theorem ct_X4_put_11 (en : zE) (M : zW) (S : Int → Int) (I : Int → Int) (wS : M 11 = S) (wI : M 15 = I) (i : Int) (v : Int) (h0 : 0 ≤ i ∧ i < 60) (hS : -1 ≤ S 0 ∧ S 0 ≤ 2) : Ct en kA yX4_put mX4_put [rf en 11, vi i, vi v] M (pV (upR M 15 (up I i (cutv (S 0) v)))) := by
  refine Ct.of (by decide +kernel) rfl [(0, rf en 11), (1, vi i), (2, vi v)] rfl (Nat.le_of_ble_eq_true rfl) (fun cx C => ?_)
  refine z_aload_n 0 dX4_put_0 rfl ?_
  refine z_getR dX4_put_1 fX4_15_4 i11_2 ka11 ?_
  refine z_iload_n 1 dX4_put_4 rfl ?_
  refine z_aload_n 0 dX4_put_5 rfl ?_
  refine z_getI (r := S) 0 rfl dX4_put_6 fX4_9_4 i11_0 ka11 (wS) ?_
  refine z_if_ne (tgt := 17) dX4_put_9 rfl (by omega) (fun uc9 => ?_) (fun uc9 => ?_)
  ·
    refine z_aload_n 0 dX4_put_17 rfl ?_
    refine z_getI (r := S) 0 rfl dX4_put_18 fX4_9_4 i11_0 ka11 (wS) ?_
    refine z_iconst dX4_put_21 ?_
    refine z_icmp_ne (tgt := 30) dX4_put_22 rfl (by omega) (fun uc22 => ?_) (fun uc22 => ?_)
    ·
      refine z_iload_n 2 dX4_put_30 rfl ?_
      refine z_iast (r := I) dX4_put_31 is15 ka15 (wI) (by omega) (fun r15_31 f15_31 => ?_)
      exact z_vret C dX4_put_32 rfl ⟨rfl, by rw [f15_31]; congr 2; unfold cutv; simp only [*]; simp⟩
    ·
      refine z_iload_n 2 dX4_put_25 rfl ?_
      refine z_i2s dX4_put_26 ?_
      refine z_goto (tgt := 31) dX4_put_27 rfl ?_
      refine z_iast (r := I) dX4_put_31 is15 ka15 (wI) (by omega) (fun r15_31 f15_31 => ?_)
      exact z_vret C dX4_put_32 rfl ⟨rfl, by rw [f15_31]; congr 2; unfold cutv; simp only [*]; simp⟩
  ·
    refine z_iload_n 2 dX4_put_12 rfl ?_
    refine z_i2b dX4_put_13 ?_
    refine z_goto (tgt := 31) dX4_put_14 rfl ?_
    refine z_iast (r := I) dX4_put_31 is15 ka15 (wI) (by omega) (fun r15_31 f15_31 => ?_)
    exact z_vret C dX4_put_32 rfl ⟨rfl, by rw [f15_31]; congr 2; unfold cutv; simp only [*]; simp⟩
set_option maxRecDepth 100000 in
theorem ct_X4_renew_11 (en : zE) (M : zW) (S : Int → Int) (I : Int → Int) (wS : M 11 = S) (wI : M 15 = I) (f : Int) (n : Int) : Ct en kA yX4_renew mX4_renew [rf en 11, vi f, vi n] M (pV (upR (upR M 11 (up (up S 0 f) 1 n)) 15 (fil (fun _ => 0) I 0 60))) := by
  refine Ct.of (by decide +kernel) rfl [(0, rf en 11), (1, vi f), (2, vi n)] rfl (Nat.le_of_ble_eq_true rfl) (fun cx C => ?_)
  refine z_aload_n 0 dX4_renew_0 rfl ?_
  refine z_iload_n 1 dX4_renew_1 rfl ?_
  refine z_putI (r := S) 0 rfl dX4_renew_2 pfX4_9_4 i11_0 ka11 (wS) (fun r11_2 f11_2 => ?_)
  refine z_aload_n 0 dX4_renew_5 rfl ?_
  refine z_iload_n 2 dX4_renew_6 rfl ?_
  refine z_putI' (r := r11_2) 1 rfl (fun r => (upR M 11 r)) dX4_renew_7 pfX4_19_4 i11_1 ka11 (rfl) (fun _ => uu1) (fun r11_7 f11_7 => ?_)
  refine z_aload_n 0 dX4_renew_10 rfl ?_
  refine z_getR dX4_renew_11 fX4_15_4 i11_2 ka11 ?_
  refine z_iconst dX4_renew_14 ?_
  refine z_sV dX4_renew_15 lX4_22 (by decide) (ct_J7_fill_53178_15 en (upR M 11 r11_7) I wI (0)) rfl rfl (by exact Nat.le_of_ble_eq_true rfl) ?_
  exact z_vret C dX4_renew_18 rfl ⟨rfl, by rw [f11_7, f11_2]⟩
set_option maxRecDepth 100000 in
theorem ct_X4_isLost_12 (en : zE) (M : zW) (S : Int → Int) (wS : M 12 = S) (hS : -1 ≤ S 0 ∧ S 0 ≤ 2) : Ct en kA yX4_isLost mX4_isLost [rf en 12] M (pI (bi (S 0 = -1)) M) := by
  refine Ct.of (by decide +kernel) rfl [(0, rf en 12)] rfl (Nat.le_of_ble_eq_true rfl) (fun cx C => ?_)
  refine z_aload_n 0 dX4_isLost_0 rfl ?_
  refine z_getI (r := S) 0 rfl dX4_isLost_1 fX4_9_4 i12_0 ka12 (wS) ?_
  refine z_iconst dX4_isLost_4 ?_
  refine z_icmp_ne (tgt := 12) dX4_isLost_5 rfl (by omega) (fun uc5 => ?_) (fun uc5 => ?_)
  ·
    refine z_iconst dX4_isLost_12 ?_
    exact z_zret C dX4_isLost_13 rfl (by decide) ⟨congrArg (fun z => some (vi z)) (bi0 (by omega)), rfl⟩
  ·
    refine z_iconst dX4_isLost_8 ?_
    refine z_goto (tgt := 13) dX4_isLost_9 rfl ?_
    exact z_zret C dX4_isLost_13 rfl (by decide) ⟨congrArg (fun z => some (vi z)) (bi1 (by omega)), rfl⟩
set_option maxRecDepth 100000 in
theorem ct_X4_holds_12 (en : zE) (M : zW) (S : Int → Int) (wS : M 12 = S) (f : Int) (n : Int) (h0 : -2147483648 ≤ f ∧ f < 2147483648 ∧ -2147483648 ≤ n ∧ n < 2147483648) (hS : 0 ≤ S 1 ∧ S 1 ≤ 60) : Ct en kA yX4_holds mX4_holds [rf en 12, vi f, vi n] M (pI (bi (0 ≤ f ∧ 0 ≤ n ∧ f + n ≤ S 1)) M) := by
  refine Ct.of (by decide +kernel) rfl [(0, rf en 12), (1, vi f), (2, vi n)] rfl (Nat.le_of_ble_eq_true rfl) (fun cx C => ?_)
  refine z_iload_n 1 dX4_holds_0 rfl ?_
  refine z_if_lt (tgt := 22) dX4_holds_1 rfl (by omega) (fun uc1 => ?_) (fun uc1 => ?_)
  ·
    refine z_iconst dX4_holds_22 ?_
    exact z_zret C dX4_holds_23 rfl (by decide) ⟨congrArg (fun z => some (vi z)) (bi0 (by omega)), rfl⟩
  ·
    refine z_iload_n 2 dX4_holds_4 rfl ?_
    refine z_if_lt (tgt := 22) dX4_holds_5 rfl (by omega) (fun uc5 => ?_) (fun uc5 => ?_)
    ·
      refine z_iconst dX4_holds_22 ?_
      exact z_zret C dX4_holds_23 rfl (by decide) ⟨congrArg (fun z => some (vi z)) (bi0 (by omega)), rfl⟩
    ·
      refine z_iload_n 1 dX4_holds_8 rfl ?_
      refine z_aload_n 0 dX4_holds_9 rfl ?_
      refine z_getI (r := S) 1 rfl dX4_holds_10 fX4_19_4 i12_1 ka12 (wS) ?_
      refine z_iload_n 2 dX4_holds_13 rfl ?_
      refine z_isub dX4_holds_14 ?_
      refine z_icmp_gt (tgt := 22) dX4_holds_15 rfl (by omega) (fun uc15 => ?_) (fun uc15 => ?_)
      ·
        refine z_iconst dX4_holds_22 ?_
        exact z_zret C dX4_holds_23 rfl (by decide) ⟨congrArg (fun z => some (vi z)) (bi0 (by omega)), rfl⟩
      ·
        refine z_iconst dX4_holds_18 ?_
        refine z_goto (tgt := 23) dX4_holds_19 rfl ?_
        exact z_zret C dX4_holds_23 rfl (by decide) ⟨congrArg (fun z => some (vi z)) (bi1 (by omega)), rfl⟩
set_option maxRecDepth 100000 in
theorem ct_X4_put_12 (en : zE) (M : zW) (S : Int → Int) (I : Int → Int) (wS : M 12 = S) (wI : M 16 = I) (i : Int) (v : Int) (h0 : 0 ≤ i ∧ i < 60) (hS : -1 ≤ S 0 ∧ S 0 ≤ 2) : Ct en kA yX4_put mX4_put [rf en 12, vi i, vi v] M (pV (upR M 16 (up I i (cutv (S 0) v)))) := by
  refine Ct.of (by decide +kernel) rfl [(0, rf en 12), (1, vi i), (2, vi v)] rfl (Nat.le_of_ble_eq_true rfl) (fun cx C => ?_)
  refine z_aload_n 0 dX4_put_0 rfl ?_
  refine z_getR dX4_put_1 fX4_15_4 i12_2 ka12 ?_
  refine z_iload_n 1 dX4_put_4 rfl ?_
  refine z_aload_n 0 dX4_put_5 rfl ?_
  refine z_getI (r := S) 0 rfl dX4_put_6 fX4_9_4 i12_0 ka12 (wS) ?_
  refine z_if_ne (tgt := 17) dX4_put_9 rfl (by omega) (fun uc9 => ?_) (fun uc9 => ?_)
  ·
    refine z_aload_n 0 dX4_put_17 rfl ?_
    refine z_getI (r := S) 0 rfl dX4_put_18 fX4_9_4 i12_0 ka12 (wS) ?_
    refine z_iconst dX4_put_21 ?_
    refine z_icmp_ne (tgt := 30) dX4_put_22 rfl (by omega) (fun uc22 => ?_) (fun uc22 => ?_)
    ·
      refine z_iload_n 2 dX4_put_30 rfl ?_
      refine z_iast (r := I) dX4_put_31 is16 ka16 (wI) (by omega) (fun r16_31 f16_31 => ?_)
      exact z_vret C dX4_put_32 rfl ⟨rfl, by rw [f16_31]; congr 2; unfold cutv; simp only [*]; simp⟩
    ·
      refine z_iload_n 2 dX4_put_25 rfl ?_
      refine z_i2s dX4_put_26 ?_
      refine z_goto (tgt := 31) dX4_put_27 rfl ?_
      refine z_iast (r := I) dX4_put_31 is16 ka16 (wI) (by omega) (fun r16_31 f16_31 => ?_)
      exact z_vret C dX4_put_32 rfl ⟨rfl, by rw [f16_31]; congr 2; unfold cutv; simp only [*]; simp⟩
  ·
    refine z_iload_n 2 dX4_put_12 rfl ?_
    refine z_i2b dX4_put_13 ?_
    refine z_goto (tgt := 31) dX4_put_14 rfl ?_
    refine z_iast (r := I) dX4_put_31 is16 ka16 (wI) (by omega) (fun r16_31 f16_31 => ?_)
    exact z_vret C dX4_put_32 rfl ⟨rfl, by rw [f16_31]; congr 2; unfold cutv; simp only [*]; simp⟩
set_option maxRecDepth 100000 in
theorem ct_X4_renew_12 (en : zE) (M : zW) (S : Int → Int) (I : Int → Int) (wS : M 12 = S) (wI : M 16 = I) (f : Int) (n : Int) : Ct en kA yX4_renew mX4_renew [rf en 12, vi f, vi n] M (pV (upR (upR M 12 (up (up S 0 f) 1 n)) 16 (fil (fun _ => 0) I 0 60))) := by
  refine Ct.of (by decide +kernel) rfl [(0, rf en 12), (1, vi f), (2, vi n)] rfl (Nat.le_of_ble_eq_true rfl) (fun cx C => ?_)
  refine z_aload_n 0 dX4_renew_0 rfl ?_
  refine z_iload_n 1 dX4_renew_1 rfl ?_
  refine z_putI (r := S) 0 rfl dX4_renew_2 pfX4_9_4 i12_0 ka12 (wS) (fun r12_2 f12_2 => ?_)
  refine z_aload_n 0 dX4_renew_5 rfl ?_
  refine z_iload_n 2 dX4_renew_6 rfl ?_
  refine z_putI' (r := r12_2) 1 rfl (fun r => (upR M 12 r)) dX4_renew_7 pfX4_19_4 i12_1 ka12 (rfl) (fun _ => uu1) (fun r12_7 f12_7 => ?_)
  refine z_aload_n 0 dX4_renew_10 rfl ?_
  refine z_getR dX4_renew_11 fX4_15_4 i12_2 ka12 ?_
  refine z_iconst dX4_renew_14 ?_
  refine z_sV dX4_renew_15 lX4_22 (by decide) (ct_J7_fill_53178_16 en (upR M 12 r12_7) I wI (0)) rfl rfl (by exact Nat.le_of_ble_eq_true rfl) ?_
  exact z_vret C dX4_renew_18 rfl ⟨rfl, by rw [f12_7, f12_2]⟩
set_option maxRecDepth 100000 in
theorem ct_X4_isLost_13 (en : zE) (M : zW) (S : Int → Int) (wS : M 13 = S) (hS : -1 ≤ S 0 ∧ S 0 ≤ 2) : Ct en kA yX4_isLost mX4_isLost [rf en 13] M (pI (bi (S 0 = -1)) M) := by
  refine Ct.of (by decide +kernel) rfl [(0, rf en 13)] rfl (Nat.le_of_ble_eq_true rfl) (fun cx C => ?_)
  refine z_aload_n 0 dX4_isLost_0 rfl ?_
  refine z_getI (r := S) 0 rfl dX4_isLost_1 fX4_9_4 i13_0 ka13 (wS) ?_
  refine z_iconst dX4_isLost_4 ?_
  refine z_icmp_ne (tgt := 12) dX4_isLost_5 rfl (by omega) (fun uc5 => ?_) (fun uc5 => ?_)
  ·
    refine z_iconst dX4_isLost_12 ?_
    exact z_zret C dX4_isLost_13 rfl (by decide) ⟨congrArg (fun z => some (vi z)) (bi0 (by omega)), rfl⟩
  ·
    refine z_iconst dX4_isLost_8 ?_
    refine z_goto (tgt := 13) dX4_isLost_9 rfl ?_
    exact z_zret C dX4_isLost_13 rfl (by decide) ⟨congrArg (fun z => some (vi z)) (bi1 (by omega)), rfl⟩
set_option maxRecDepth 100000 in
theorem ct_X4_holds_13 (en : zE) (M : zW) (S : Int → Int) (wS : M 13 = S) (f : Int) (n : Int) (h0 : -2147483648 ≤ f ∧ f < 2147483648 ∧ -2147483648 ≤ n ∧ n < 2147483648) (hS : 0 ≤ S 1 ∧ S 1 ≤ 60) : Ct en kA yX4_holds mX4_holds [rf en 13, vi f, vi n] M (pI (bi (0 ≤ f ∧ 0 ≤ n ∧ f + n ≤ S 1)) M) := by
  refine Ct.of (by decide +kernel) rfl [(0, rf en 13), (1, vi f), (2, vi n)] rfl (Nat.le_of_ble_eq_true rfl) (fun cx C => ?_)
  refine z_iload_n 1 dX4_holds_0 rfl ?_
  refine z_if_lt (tgt := 22) dX4_holds_1 rfl (by omega) (fun uc1 => ?_) (fun uc1 => ?_)
  ·
    refine z_iconst dX4_holds_22 ?_
    exact z_zret C dX4_holds_23 rfl (by decide) ⟨congrArg (fun z => some (vi z)) (bi0 (by omega)), rfl⟩
  ·
    refine z_iload_n 2 dX4_holds_4 rfl ?_
    refine z_if_lt (tgt := 22) dX4_holds_5 rfl (by omega) (fun uc5 => ?_) (fun uc5 => ?_)
    ·
      refine z_iconst dX4_holds_22 ?_
      exact z_zret C dX4_holds_23 rfl (by decide) ⟨congrArg (fun z => some (vi z)) (bi0 (by omega)), rfl⟩
    ·
      refine z_iload_n 1 dX4_holds_8 rfl ?_
      refine z_aload_n 0 dX4_holds_9 rfl ?_
      refine z_getI (r := S) 1 rfl dX4_holds_10 fX4_19_4 i13_1 ka13 (wS) ?_
      refine z_iload_n 2 dX4_holds_13 rfl ?_
      refine z_isub dX4_holds_14 ?_
      refine z_icmp_gt (tgt := 22) dX4_holds_15 rfl (by omega) (fun uc15 => ?_) (fun uc15 => ?_)
      ·
        refine z_iconst dX4_holds_22 ?_
        exact z_zret C dX4_holds_23 rfl (by decide) ⟨congrArg (fun z => some (vi z)) (bi0 (by omega)), rfl⟩
      ·
        refine z_iconst dX4_holds_18 ?_
        refine z_goto (tgt := 23) dX4_holds_19 rfl ?_
        exact z_zret C dX4_holds_23 rfl (by decide) ⟨congrArg (fun z => some (vi z)) (bi1 (by omega)), rfl⟩
set_option maxRecDepth 100000 in
theorem ct_X4_put_13 (en : zE) (M : zW) (S : Int → Int) (I : Int → Int) (wS : M 13 = S) (wI : M 17 = I) (i : Int) (v : Int) (h0 : 0 ≤ i ∧ i < 60) (hS : -1 ≤ S 0 ∧ S 0 ≤ 2) : Ct en kA yX4_put mX4_put [rf en 13, vi i, vi v] M (pV (upR M 17 (up I i (cutv (S 0) v)))) := by
  refine Ct.of (by decide +kernel) rfl [(0, rf en 13), (1, vi i), (2, vi v)] rfl (Nat.le_of_ble_eq_true rfl) (fun cx C => ?_)
  refine z_aload_n 0 dX4_put_0 rfl ?_
  refine z_getR dX4_put_1 fX4_15_4 i13_2 ka13 ?_
  refine z_iload_n 1 dX4_put_4 rfl ?_
  refine z_aload_n 0 dX4_put_5 rfl ?_
  refine z_getI (r := S) 0 rfl dX4_put_6 fX4_9_4 i13_0 ka13 (wS) ?_
  refine z_if_ne (tgt := 17) dX4_put_9 rfl (by omega) (fun uc9 => ?_) (fun uc9 => ?_)
  ·
    refine z_aload_n 0 dX4_put_17 rfl ?_
    refine z_getI (r := S) 0 rfl dX4_put_18 fX4_9_4 i13_0 ka13 (wS) ?_
    refine z_iconst dX4_put_21 ?_
    refine z_icmp_ne (tgt := 30) dX4_put_22 rfl (by omega) (fun uc22 => ?_) (fun uc22 => ?_)
    ·
      refine z_iload_n 2 dX4_put_30 rfl ?_
      refine z_iast (r := I) dX4_put_31 is17 ka17 (wI) (by omega) (fun r17_31 f17_31 => ?_)
      exact z_vret C dX4_put_32 rfl ⟨rfl, by rw [f17_31]; congr 2; unfold cutv; simp only [*]; simp⟩
    ·
      refine z_iload_n 2 dX4_put_25 rfl ?_
      refine z_i2s dX4_put_26 ?_
      refine z_goto (tgt := 31) dX4_put_27 rfl ?_
      refine z_iast (r := I) dX4_put_31 is17 ka17 (wI) (by omega) (fun r17_31 f17_31 => ?_)
      exact z_vret C dX4_put_32 rfl ⟨rfl, by rw [f17_31]; congr 2; unfold cutv; simp only [*]; simp⟩
  ·
    refine z_iload_n 2 dX4_put_12 rfl ?_
    refine z_i2b dX4_put_13 ?_
    refine z_goto (tgt := 31) dX4_put_14 rfl ?_
    refine z_iast (r := I) dX4_put_31 is17 ka17 (wI) (by omega) (fun r17_31 f17_31 => ?_)
    exact z_vret C dX4_put_32 rfl ⟨rfl, by rw [f17_31]; congr 2; unfold cutv; simp only [*]; simp⟩
set_option maxRecDepth 100000 in
theorem ct_X4_renew_13 (en : zE) (M : zW) (S : Int → Int) (I : Int → Int) (wS : M 13 = S) (wI : M 17 = I) (f : Int) (n : Int) : Ct en kA yX4_renew mX4_renew [rf en 13, vi f, vi n] M (pV (upR (upR M 13 (up (up S 0 f) 1 n)) 17 (fil (fun _ => 0) I 0 60))) := by
  refine Ct.of (by decide +kernel) rfl [(0, rf en 13), (1, vi f), (2, vi n)] rfl (Nat.le_of_ble_eq_true rfl) (fun cx C => ?_)
  refine z_aload_n 0 dX4_renew_0 rfl ?_
  refine z_iload_n 1 dX4_renew_1 rfl ?_
  refine z_putI (r := S) 0 rfl dX4_renew_2 pfX4_9_4 i13_0 ka13 (wS) (fun r13_2 f13_2 => ?_)
  refine z_aload_n 0 dX4_renew_5 rfl ?_
  refine z_iload_n 2 dX4_renew_6 rfl ?_
  refine z_putI' (r := r13_2) 1 rfl (fun r => (upR M 13 r)) dX4_renew_7 pfX4_19_4 i13_1 ka13 (rfl) (fun _ => uu1) (fun r13_7 f13_7 => ?_)
  refine z_aload_n 0 dX4_renew_10 rfl ?_
  refine z_getR dX4_renew_11 fX4_15_4 i13_2 ka13 ?_
  refine z_iconst dX4_renew_14 ?_
  refine z_sV dX4_renew_15 lX4_22 (by decide) (ct_J7_fill_53178_17 en (upR M 13 r13_7) I wI (0)) rfl rfl (by exact Nat.le_of_ble_eq_true rfl) ?_
  exact z_vret C dX4_renew_18 rfl ⟨rfl, by rw [f13_7, f13_2]⟩
section BC
variable {en : zE} {ks : List Nat} {cx : zX} {md : zMD} {M : zW} {pc pc' tgt : Nat} {lv : List (Nat × Value)} {st : List Value}
theorem q_isub {x y : Int32} (hd : Dc md pc .isub 1 pc') (k : Z en ks cx md M pc' lv (.int (x - y) :: st)) : Z en ks cx md M pc lv (.int y :: .int x :: st) := by
  obtain ⟨A, p, e, R, s, m, args, below, meth, c, cells, slots, Q⟩ := cx
  intro F H locs ls hP hS hl
  obtain ⟨hd, rfl⟩ := hd
  exact lv_isub F.1 F.2.1 hd (k F H locs ls hP hS hl)
theorem q_iadd {x y : Int32} (hd : Dc md pc .iadd 1 pc') (k : Z en ks cx md M pc' lv (.int (x + y) :: st)) : Z en ks cx md M pc lv (.int y :: .int x :: st) := by
  obtain ⟨A, p, e, R, s, m, args, below, meth, c, cells, slots, Q⟩ := cx
  intro F H locs ls hP hS hl
  obtain ⟨hd, rfl⟩ := hd
  exact lv_iadd F.1 F.2.1 hd (k F H locs ls hP hS hl)
theorem q_iand {x y : Int32} (hd : Dc md pc .iand 1 pc') (k : Z en ks cx md M pc' lv (.int (x &&& y) :: st)) : Z en ks cx md M pc lv (.int y :: .int x :: st) := by
  obtain ⟨A, p, e, R, s, m, args, below, meth, c, cells, slots, Q⟩ := cx
  intro F H locs ls hP hS hl
  obtain ⟨hd, rfl⟩ := hd
  exact lv_iand F.1 F.2.1 hd (k F H locs ls hP hS hl)
theorem q_iushr {x y : Int32} (hd : Dc md pc .iushr 1 pc') (k : Z en ks cx md M pc' lv (.int ((x.toUInt32 >>> (y.toUInt32 &&& Int32.toUInt32 31)).toInt32) :: st)) : Z en ks cx md M pc lv (.int y :: .int x :: st) := by
  obtain ⟨A, p, e, R, s, m, args, below, meth, c, cells, slots, Q⟩ := cx
  intro F H locs ls hP hS hl
  obtain ⟨hd, rfl⟩ := hd
  exact lv_iushr F.1 F.2.1 hd rfl (k F H locs ls hP hS hl)
theorem q_load {x : Int32} (hd : Dc md pc (.iload_n 0) 1 pc') (k : Z en ks cx md M pc' [(0, .int x)] (.int x :: st)) : Z en ks cx md M pc [(0, .int x)] st := by
  obtain ⟨A, p, e, R, s, m, args, below, meth, c, cells, slots, Q⟩ := cx
  intro F H locs ls hP hS hl
  obtain ⟨hd, rfl⟩ := hd
  exact lv_iload_n F.1 F.2.1 hd rfl (lv_at hl 0 rfl) (k F H locs ls hP hS hl)
theorem q_store {x y : Int32} (hd : Dc md pc (.istore_n 0) 1 pc') (hn : 0 < md.2.2.1) (k : Z en ks cx md M pc' [(0, .int x)] st) : Z en ks cx md M pc [(0, .int y)] (.int x :: st) := by
  obtain ⟨A, p, e, R, s, m, args, below, meth, c, cells, slots, Q⟩ := cx
  intro F H locs ls hP hS hl
  obtain ⟨hd, rfl⟩ := hd
  exact lv_istore_n F.1 F.2.1 hd rfl hl hn rfl (fun ls' hl' => k F H locs ls' hP hS hl')
end BC
set_option maxRecDepth 100000 in
theorem ct_J6_bitCount_0f7a4 (en : zE) (M : zW) (b : Int) (hb : 0 ≤ b ∧ b < 4096) : Ct en kA yJ6_bitCount_0f7a4 mJ6_bitCount_0f7a4 [vi b] M (pI (pcw b.toNat) M) := by
  refine Ct.of (by decide +kernel) rfl [(0, vi b)] rfl (Nat.le_of_ble_eq_true rfl) (fun cx C => ?_)
  refine q_load dJ6_bitCount_0f7a4_0 ?_
  refine q_load dJ6_bitCount_0f7a4_1 ?_
  refine z_iconst dJ6_bitCount_0f7a4_2 ?_
  refine q_iushr dJ6_bitCount_0f7a4_3 ?_
  refine z_ldcw (n := 1431655765) dJ6_bitCount_0f7a4_4 kJ6_265 rfl ?_
  refine q_iand dJ6_bitCount_0f7a4_7 ?_
  refine q_isub dJ6_bitCount_0f7a4_8 ?_
  refine q_store dJ6_bitCount_0f7a4_9 (by decide) ?_
  refine q_load dJ6_bitCount_0f7a4_10 ?_
  refine z_ldcw (n := 858993459) dJ6_bitCount_0f7a4_11 kJ6_266 rfl ?_
  refine q_iand dJ6_bitCount_0f7a4_14 ?_
  refine q_load dJ6_bitCount_0f7a4_15 ?_
  refine z_iconst dJ6_bitCount_0f7a4_16 ?_
  refine q_iushr dJ6_bitCount_0f7a4_17 ?_
  refine z_ldcw (n := 858993459) dJ6_bitCount_0f7a4_18 kJ6_266 rfl ?_
  refine q_iand dJ6_bitCount_0f7a4_21 ?_
  refine q_iadd dJ6_bitCount_0f7a4_22 ?_
  refine q_store dJ6_bitCount_0f7a4_23 (by decide) ?_
  refine q_load dJ6_bitCount_0f7a4_24 ?_
  refine q_load dJ6_bitCount_0f7a4_25 ?_
  refine z_iconst dJ6_bitCount_0f7a4_26 ?_
  refine q_iushr dJ6_bitCount_0f7a4_27 ?_
  refine q_iadd dJ6_bitCount_0f7a4_28 ?_
  refine z_ldcw (n := 252645135) dJ6_bitCount_0f7a4_29 kJ6_267 rfl ?_
  refine q_iand dJ6_bitCount_0f7a4_32 ?_
  refine q_store dJ6_bitCount_0f7a4_33 (by decide) ?_
  refine q_load dJ6_bitCount_0f7a4_34 ?_
  refine q_load dJ6_bitCount_0f7a4_35 ?_
  refine z_bipush dJ6_bitCount_0f7a4_36 rfl ?_
  refine q_iushr dJ6_bitCount_0f7a4_38 ?_
  refine q_iadd dJ6_bitCount_0f7a4_39 ?_
  refine q_store dJ6_bitCount_0f7a4_40 (by decide) ?_
  refine q_load dJ6_bitCount_0f7a4_41 ?_
  refine q_load dJ6_bitCount_0f7a4_42 ?_
  refine z_bipush dJ6_bitCount_0f7a4_43 rfl ?_
  refine q_iushr dJ6_bitCount_0f7a4_45 ?_
  refine q_iadd dJ6_bitCount_0f7a4_46 ?_
  refine q_store dJ6_bitCount_0f7a4_47 (by decide) ?_
  refine q_load dJ6_bitCount_0f7a4_48 ?_
  refine z_bipush dJ6_bitCount_0f7a4_49 rfl ?_
  refine q_iand dJ6_bitCount_0f7a4_51 ?_
  have ub : bcI (Int32.ofInt b) = Int32.ofInt ((pcw b.toNat : Nat) : Int) := by have uz := bcI_ok b.toNat (by omega); rw [Int.toNat_of_nonneg hb.1] at uz; exact uz
  refine Z.eqs (st' := [vi ((pcw b.toNat : Nat) : Int)]) (congrArg (fun z => [Value.int z]) ub.symm) ?_
  exact z_iret C dJ6_bitCount_0f7a4_52 rfl ⟨rfl, rfl⟩
