/-! leaves of the reference, and of the library -/
abbrev bitq (b k : Int) : Prop := b / 2 ^ k.toNat % 2 = 1
def orN (v : Int) : Int := if 9999 ≤ v then -1 else v
def cutv (f v : Int) : Int := if f = 0 then (v + 128) % 256 - 128 else if f = 1 then (v + 32768) % 65536 - 32768 else v
def wthn (b f l : Int) : Int := if f ≤ b ∧ b ≤ l then b - f else -9
def pcn (n : Nat) : Nat := n % 2 + n / 2 % 2 + n / 4 % 2 + n / 8 % 2 + n / 16 % 2 + n / 32 % 2 + n / 64 % 2 + n / 128 % 2
theorem gcd_em {a b : Int} (ha : 0 ≤ a) (uhb : 0 ≤ b) : Int.gcd (a % b) b = Int.gcd b a := by
  obtain ⟨n, rfl⟩ := Int.eq_ofNat_of_zero_le ha
  obtain ⟨m, rfl⟩ := Int.eq_ofNat_of_zero_le uhb
  rw [← Int.natCast_emod, Int.gcd_natCast_natCast, Int.gcd_natCast_natCast]
  exact (Nat.gcd_rec m n).symm
theorem pcn_step : ∀ n : Nat, n < 256 → 0 < n → pcn (n &&& (n - 1)) + 1 = pcn n ∧ n &&& (n - 1) < n := by decide +kernel
theorem pcn_le : ∀ n : Nat, n < 256 → pcn n ≤ 8 := by decide +kernel
set_option maxRecDepth 100000 in
theorem ct_X7_in (en : zE) (M : zW) (v : Int) (lo : Int) (hi : Int) (ha : -9223372036854775808 ≤ v ∧ v < 9223372036854775808 ∧ -9223372036854775808 ≤ lo ∧ lo < 9223372036854775808 ∧ -9223372036854775808 ≤ hi ∧ hi < 9223372036854775808) : Ct en kA yX7_in mX7_in [vl v, vl lo, vl hi] M (pI (bi (lo ≤ v ∧ v ≤ hi)) M) := by
  refine Ct.of (by decide +kernel) rfl [(0, vl v), (2, vl lo), (4, vl hi)] rfl (Nat.le_of_ble_eq_true rfl) (fun cx C => ?_)
  refine z_lload_n 0 dX7_in_0 rfl ?_
  refine z_lload_n 1 dX7_in_1 rfl ?_
  refine z_lcmp dX7_in_2 (by omega) (fun uz2 uhz2 => ?_)
  refine z_if_lt (tgt := 17) dX7_in_3 rfl (by omega) (fun uc3 => ?_) (fun uc3 => ?_)
  ·
    refine z_iconst dX7_in_17 ?_
    exact z_zret C dX7_in_18 rfl (by decide) ⟨congrArg (fun z => some (vi z)) (bi0 (by omega)), rfl⟩
  ·
    refine z_lload_n 0 dX7_in_6 rfl ?_
    refine z_lload 2 dX7_in_7 rfl ?_
    refine z_lcmp dX7_in_9 (by omega) (fun uz9 uhz9 => ?_)
    refine z_if_gt (tgt := 17) dX7_in_10 rfl (by omega) (fun uc10 => ?_) (fun uc10 => ?_)
    ·
      refine z_iconst dX7_in_17 ?_
      exact z_zret C dX7_in_18 rfl (by decide) ⟨congrArg (fun z => some (vi z)) (bi0 (by omega)), rfl⟩
    ·
      refine z_iconst dX7_in_13 ?_
      refine z_goto (tgt := 18) dX7_in_14 rfl ?_
      exact z_zret C dX7_in_18 rfl (by decide) ⟨congrArg (fun z => some (vi z)) (bi1 (by omega)), rfl⟩
set_option maxRecDepth 100000 in
theorem ct_X7_no (en : zE) (M : zW) (f : Int) (ha : -2147483648 ≤ f ∧ f < 2147483648) : Ct en kA yX7_no mX7_no [vi f] M (pJ (-9223372036854775808 - f) M) := by
  refine Ct.of (by decide +kernel) rfl [(0, vi f)] rfl (Nat.le_of_ble_eq_true rfl) (fun cx C => ?_)
  refine z_ldc2 (n := -9223372036854775808) dX7_no_0 kX7_55 rfl ?_
  refine z_iload_n 0 dX7_no_3 rfl ?_
  refine z_i2l dX7_no_4 (by omega) ?_
  refine z_lsub dX7_no_5 ?_
  exact z_lret C dX7_no_6 rfl ⟨congrArg (fun z => some (vl z)) (by omega), rfl⟩
set_option maxRecDepth 100000 in
theorem ct_X7_isTwo (en : zE) (M : zW) (v : Int) (ha : -2147483648 ≤ v ∧ v < 2147483648) : Ct en kA yX7_isTwo mX7_isTwo [vi v] M (pI (bi (0 ≤ v ∧ v ≤ 1)) M) := by
  refine Ct.of (by decide +kernel) rfl [(0, vi v)] rfl (Nat.le_of_ble_eq_true rfl) (fun cx C => ?_)
  refine z_iload_n 0 dX7_isTwo_0 rfl ?_
  refine z_i2l dX7_isTwo_1 (by omega) ?_
  refine z_lconst (v := 0) dX7_isTwo_2 rfl ?_
  refine z_lconst (v := 1) dX7_isTwo_3 rfl ?_
  refine z_sI dX7_isTwo_4 lX7_57 (by decide) (ct_X7_in en M _ (0) (1) (by omega)) rfl rfl (by exact Nat.le_of_ble_eq_true rfl) ?_
  exact z_zret C dX7_isTwo_7 rfl (bi_01) ⟨congrArg (fun z => some (vi z)) (rfl), rfl⟩
set_option maxRecDepth 100000 in
theorem ct_X7_isSheet (en : zE) (M : zW) (v : Int) (ha : -2147483648 ≤ v ∧ v < 2147483648) : Ct en kA yX7_isSheet mX7_isSheet [vi v] M (pI (bi (0 ≤ v ∧ v ≤ 3)) M) := by
  refine Ct.of (by decide +kernel) rfl [(0, vi v)] rfl (Nat.le_of_ble_eq_true rfl) (fun cx C => ?_)
  refine z_iload_n 0 dX7_isSheet_0 rfl ?_
  refine z_i2l dX7_isSheet_1 (by omega) ?_
  refine z_lconst (v := 0) dX7_isSheet_2 rfl ?_
  refine z_ldc2 (n := 3) dX7_isSheet_3 kX7_65 rfl ?_
  refine z_sI dX7_isSheet_6 lX7_57 (by decide) (ct_X7_in en M _ (0) (3) (by omega)) rfl rfl (by exact Nat.le_of_ble_eq_true rfl) ?_
  exact z_zret C dX7_isSheet_9 rfl (bi_01) ⟨congrArg (fun z => some (vi z)) (rfl), rfl⟩
set_option maxRecDepth 100000 in
theorem ct_X7_isTown (en : zE) (M : zW) (v : Int) (ha : -2147483648 ≤ v ∧ v < 2147483648) : Ct en kA yX7_isTown mX7_isTown [vi v] M (pI (bi (0 ≤ v ∧ v ≤ 7)) M) := by
  refine Ct.of (by decide +kernel) rfl [(0, vi v)] rfl (Nat.le_of_ble_eq_true rfl) (fun cx C => ?_)
  refine z_iload_n 0 dX7_isTown_0 rfl ?_
  refine z_i2l dX7_isTown_1 (by omega) ?_
  refine z_lconst (v := 0) dX7_isTown_2 rfl ?_
  refine z_ldc2 (n := 7) dX7_isTown_3 kX7_110 rfl ?_
  refine z_sI dX7_isTown_6 lX7_57 (by decide) (ct_X7_in en M _ (0) (7) (by omega)) rfl rfl (by exact Nat.le_of_ble_eq_true rfl) ?_
  exact z_zret C dX7_isTown_9 rfl (bi_01) ⟨congrArg (fun z => some (vi z)) (rfl), rfl⟩
set_option maxRecDepth 100000 in
theorem ct_X7_isIn (en : zE) (M : zW) (b : Int) (k : Int) (ha : -2147483648 ≤ b ∧ b < 2147483648) (hk : 0 ≤ k ∧ k < 32) : Ct en kA yX7_isIn mX7_isIn [vi b, vi k] M (pI (bi (bitq b k)) M) := by
  refine Ct.of (by decide +kernel) rfl [(0, vi b), (1, vi k)] rfl (Nat.le_of_ble_eq_true rfl) (fun cx C => ?_)
  refine z_iload_n 0 dX7_isIn_0 rfl ?_
  refine z_iload_n 1 dX7_isIn_1 rfl ?_
  refine z_ishr dX7_isIn_2 (by omega) (by omega) ?_
  refine z_iconst dX7_isIn_3 ?_
  refine z_iand1 dX7_isIn_4 ?_
  refine z_iconst dX7_isIn_5 ?_
  refine z_icmp_ne (tgt := 13) dX7_isIn_6 rfl (by omega) (fun uc6 => ?_) (fun uc6 => ?_)
  ·
    refine z_iconst dX7_isIn_13 ?_
    exact z_zret C dX7_isIn_14 rfl (by decide) ⟨congrArg (fun z => some (vi z)) (bi0 (by omega)), rfl⟩
  ·
    refine z_iconst dX7_isIn_9 ?_
    refine z_goto (tgt := 14) dX7_isIn_10 rfl ?_
    exact z_zret C dX7_isIn_14 rfl (by decide) ⟨congrArg (fun z => some (vi z)) (bi1 (by omega)), rfl⟩
set_option maxRecDepth 100000 in
theorem ct_X7_lesser (en : zE) (M : zW) (a : Int) (b : Int) (ha : -2147483648 ≤ a ∧ a < 2147483648 ∧ -2147483648 ≤ b ∧ b < 2147483648) : Ct en kA yX7_lesser mX7_lesser [vi a, vi b] M (pI (min a b) M) := by
  refine Ct.of (by decide +kernel) rfl [(0, vi a), (1, vi b)] rfl (Nat.le_of_ble_eq_true rfl) (fun cx C => ?_)
  refine z_iload_n 0 dX7_lesser_0 rfl ?_
  refine z_iload_n 1 dX7_lesser_1 rfl ?_
  refine z_icmp_ge (tgt := 9) dX7_lesser_2 rfl (by omega) (fun uc2 => ?_) (fun uc2 => ?_)
  ·
    refine z_iload_n 1 dX7_lesser_9 rfl ?_
    exact z_iret C dX7_lesser_10 rfl ⟨congrArg (fun z => some (vi z)) (by omega), rfl⟩
  ·
    refine z_iload_n 0 dX7_lesser_5 rfl ?_
    refine z_goto (tgt := 10) dX7_lesser_6 rfl ?_
    exact z_iret C dX7_lesser_10 rfl ⟨congrArg (fun z => some (vi z)) (by omega), rfl⟩
set_option maxRecDepth 100000 in
theorem ct_X7_orNone (en : zE) (M : zW) (v : Int) (ha : -2147483648 ≤ v ∧ v < 2147483648) : Ct en kA yX7_orNone mX7_orNone [vi v] M (pI (orN v) M) := by
  refine Ct.of (by decide +kernel) rfl [(0, vi v)] rfl (Nat.le_of_ble_eq_true rfl) (fun cx C => ?_)
  refine z_iload_n 0 dX7_orNone_0 rfl ?_
  refine z_sipush dX7_orNone_1 rfl ?_
  refine z_icmp_lt (tgt := 11) dX7_orNone_4 rfl (by omega) (fun uc4 => ?_) (fun uc4 => ?_)
  ·
    refine z_iload_n 0 dX7_orNone_11 rfl ?_
    exact z_iret C dX7_orNone_12 rfl ⟨congrArg (fun z => some (vi z)) (by unfold orN; split <;> omega), rfl⟩
  ·
    refine z_iconst dX7_orNone_7 ?_
    refine z_goto (tgt := 12) dX7_orNone_8 rfl ?_
    exact z_iret C dX7_orNone_12 rfl ⟨congrArg (fun z => some (vi z)) (by unfold orN; split <;> omega), rfl⟩
set_option maxRecDepth 100000 in
theorem ct_X7_cut (en : zE) (M : zW) (f : Int) (v : Int) (ha : -2147483648 ≤ f ∧ f < 2147483648) : Ct en kA yX7_cut mX7_cut [vi f, vi v] M (pI (cutv f v) M) := by
  refine Ct.of (by decide +kernel) rfl [(0, vi f), (1, vi v)] rfl (Nat.le_of_ble_eq_true rfl) (fun cx C => ?_)
  refine z_iload_n 0 dX7_cut_0 rfl ?_
  refine z_if_ne (tgt := 9) dX7_cut_1 rfl (by omega) (fun uc1 => ?_) (fun uc1 => ?_)
  ·
    refine z_iload_n 0 dX7_cut_9 rfl ?_
    refine z_iconst dX7_cut_10 ?_
    refine z_icmp_ne (tgt := 19) dX7_cut_11 rfl (by omega) (fun uc11 => ?_) (fun uc11 => ?_)
    ·
      refine z_iload_n 1 dX7_cut_19 rfl ?_
      exact z_iret C dX7_cut_20 rfl ⟨congrArg (fun z => some (vi z)) (by unfold cutv; simp only [*]; simp), rfl⟩
    ·
      refine z_iload_n 1 dX7_cut_14 rfl ?_
      refine z_i2s dX7_cut_15 ?_
      refine z_goto (tgt := 20) dX7_cut_16 rfl ?_
      exact z_iret C dX7_cut_20 rfl ⟨congrArg (fun z => some (vi z)) (by unfold cutv; simp only [*]; simp), rfl⟩
  ·
    refine z_iload_n 1 dX7_cut_4 rfl ?_
    refine z_i2b dX7_cut_5 ?_
    refine z_goto (tgt := 20) dX7_cut_6 rfl ?_
    exact z_iret C dX7_cut_20 rfl ⟨congrArg (fun z => some (vi z)) (by unfold cutv; simp only [*]; simp), rfl⟩
set_option maxRecDepth 100000 in
theorem ct_X7_within (en : zE) (M : zW) (b : Int) (f : Int) (l : Int) (ha : -2147483648 ≤ b ∧ b < 2147483648 ∧ -2147483648 ≤ f ∧ f < 2147483648 ∧ -2147483648 ≤ l ∧ l < 2147483648) : Ct en kA yX7_within mX7_within [vi b, vi f, vi l] M (pI (wthn b f l) M) := by
  refine Ct.of (by decide +kernel) rfl [(0, vi b), (1, vi f), (2, vi l)] rfl (Nat.le_of_ble_eq_true rfl) (fun cx C => ?_)
  refine z_iload_n 0 dX7_within_0 rfl ?_
  refine z_i2l dX7_within_1 (by omega) ?_
  refine z_iload_n 1 dX7_within_2 rfl ?_
  refine z_i2l dX7_within_3 (by omega) ?_
  refine z_iload_n 2 dX7_within_4 rfl ?_
  refine z_i2l dX7_within_5 (by omega) ?_
  refine z_sI dX7_within_6 lX7_57 (by decide) (ct_X7_in en M _ _ _ (by omega)) rfl rfl (by exact Nat.le_of_ble_eq_true rfl) ?_
  refine z_ifeq_b (tgt := 18) dX7_within_9 rfl (fun uc9 => ?_) (fun uc9 => ?_)
  ·
    refine z_bipush dX7_within_18 rfl ?_
    exact z_iret C dX7_within_20 rfl ⟨congrArg (fun z => some (vi z)) (by unfold wthn; split <;> omega), rfl⟩
  ·
    refine z_iload_n 0 dX7_within_12 rfl ?_
    refine z_iload_n 1 dX7_within_13 rfl ?_
    refine z_isub dX7_within_14 ?_
    refine z_goto (tgt := 20) dX7_within_15 rfl ?_
    exact z_iret C dX7_within_20 rfl ⟨congrArg (fun z => some (vi z)) (by unfold wthn; split <;> omega), rfl⟩
set_option maxRecDepth 100000 in
theorem ct_X7_ones (en : zE) (M : zW) (b : Int) (uhb : 0 ≤ b ∧ b < 256) : Ct en kA yX7_ones mX7_ones [vi b] M (pI ((pcn b.toNat : Int)) M) := by
  refine Ct.of (by decide +kernel) rfl [(0, vi b)] rfl (Nat.le_of_ble_eq_true rfl) (fun cx C => ?_)
  refine z_iconst dX7_ones_0 ?_
  refine z_istore_n (fun y => [(0, vi b), (1, vi y)]) [1, 0] dX7_ones_1 (by decide) (fun _ => rfl) (fun x1_1 e1_1 => ?_)
  refine z_iload_n 0 dX7_ones_2 rfl ?_
  refine z_istore_n (fun y => [(0, vi b), (1, vi x1_1), (2, vi y)]) [1, 2, 0] dX7_ones_3 (by decide) (fun _ => rfl) (fun x2_3 e2_3 => ?_)
  have uL4 : ∀ (fu : Nat) (x1 : Int) (x2 : Int), x2.toNat < fu → (0 ≤ x2 ∧ x2 < 256 ∧ 0 ≤ x1 ∧ x1 + pcn x2.toNat = pcn b.toNat) → Z en kA cx mX7_ones M 4 [(0, vi b), (1, vi x1), (2, vi x2)] [] := by
    intro fu
    induction fu with
    | zero => intro x1 x2 uhf; exact absurd uhf (Nat.not_lt_zero _)
    | succ fu uih4 =>
      intro x1 x2 uf4 uI4
      obtain ⟨uq1, uq2, uq3, uq4⟩ := uI4
      have uq5 := pcn_le b.toNat (by omega)
      refine z_iload_n 2 dX7_ones_4 rfl ?_
      refine z_if_eq (tgt := 20) dX7_ones_5 rfl (by omega) (fun uc5 => ?_) (fun uc5 => ?_)
      ·
        refine z_iload_n 1 dX7_ones_20 rfl ?_
        exact z_iret C dX7_ones_21 rfl ⟨congrArg (fun z => some (vi z)) (by rw [uc5] at uq4; have : pcn (Int.toNat 0) = 0 := rfl; omega), rfl⟩
      ·
        refine z_iinc (fun y => [(0, vi b), (1, vi y), (2, vi x2)]) [1, 0, 2] 1 dX7_ones_8 rfl (by decide) (fun _ => rfl) (fun x1_8 e1_8 => ?_)
        refine z_iload_n 2 dX7_ones_11 rfl ?_
        refine z_iload_n 2 dX7_ones_12 rfl ?_
        refine z_iconst dX7_ones_13 ?_
        refine z_isub dX7_ones_14 ?_
        refine z_iand dX7_ones_15 (by omega) ?_
        refine z_istore_n (fun y => [(0, vi b), (1, vi x1_8), (2, vi y)]) [1, 2, 0] dX7_ones_16 (by decide) (fun _ => rfl) (fun x2_16 e2_16 => ?_)
        refine z_goto (tgt := 4) dX7_ones_17 rfl ?_
        have uq6 := pcn_step x2.toNat (by omega) (by omega)
        have uq7 : (x2 - 1).toNat = x2.toNat - 1 := by omega
        rw [uq7] at e2_16
        exact uih4 x1_8 x2_16 (by omega) (by subst e2_16; exact ⟨by omega, by omega, by omega, by rw [Int.toNat_natCast]; omega⟩)
  exact uL4 _ x1_1 x2_3 (Nat.lt_succ_self _) (by subst e1_1; subst e2_3; exact ⟨uhb.1, uhb.2, by omega, by omega⟩)
set_option maxRecDepth 100000 in
theorem ct_X7_part (en : zE) (M : zW) (a : Int) (b : Int) (wh : Int) (ha : 0 ≤ a ∧ a < 4611686018427387904 ∧ 0 < b ∧ b < 4611686018427387904) (hw : -2147483648 ≤ wh ∧ wh < 2147483648) : Ct en kA yX7_part mX7_part [vl a, vl b, vi wh] M (pJ ((if wh = 0 then a else b) / Int.gcd a b) M) := by
  refine Ct.of (by decide +kernel) rfl [(0, vl a), (2, vl b), (4, vi wh)] rfl (Nat.le_of_ble_eq_true rfl) (fun cx C => ?_)
  refine z_lload_n 0 dX7_part_0 rfl ?_
  refine z_lstore (fun y => [(0, vl a), (2, vl b), (4, vi wh), (5, vl y)]) [1, 2, 3, 0] dX7_part_1 (by decide) (fun _ => rfl) (fun x5_1 e5_1 => ?_)
  refine z_lload_n 1 dX7_part_3 rfl ?_
  refine z_lstore (fun y => [(0, vl a), (2, vl b), (4, vi wh), (5, vl x5_1), (7, vl y)]) [1, 2, 3, 4, 0] dX7_part_4 (by decide) (fun _ => rfl) (fun x7_4 e7_4 => ?_)
  have uL6 : ∀ (fu : Nat) (x5 : Int) (x7 : Int), x7.toNat < fu → (0 ≤ x5 ∧ x5 < 4611686018427387904 ∧ 0 ≤ x7 ∧ x7 < 4611686018427387904 ∧ (x7 = 0 → 0 < x5) ∧ Int.gcd x5 x7 = Int.gcd a b) → Z en kA cx mX7_part M 6 [(0, vl a), (2, vl b), (4, vi wh), (5, vl x5), (7, vl x7)] [] := by
    intro fu
    induction fu with
    | zero => intro x5 x7 uhf; exact absurd uhf (Nat.not_lt_zero _)
    | succ fu uih6 =>
      intro x5 x7 uf6 uI6
      obtain ⟨uq1, uq2, uq3, uq4, uq5, uq6⟩ := uI6
      refine z_lload 4 dX7_part_6 rfl ?_
      refine z_lconst (v := 0) dX7_part_8 rfl ?_
      refine z_lcmp dX7_part_9 (by omega) (fun uz9 uhz9 => ?_)
      refine z_if_eq (tgt := 31) dX7_part_10 rfl (by omega) (fun uc10 => ?_) (fun uc10 => ?_)
      ·
        have uq10 : x7 = 0 := by omega
        subst uq10
        have uq11 : (Int.gcd a b : Int) = x5 := by rw [← uq6, Int.gcd_zero_right]; omega
        refine z_iload 2 dX7_part_31 rfl ?_
        refine z_if_ne (tgt := 40) dX7_part_33 rfl (by omega) (fun uc33 => ?_) (fun uc33 => ?_)
        ·
          refine z_lload_n 1 dX7_part_40 rfl ?_
          refine z_lload 3 dX7_part_41 rfl ?_
          refine z_ldiv dX7_part_43 (by omega) ?_
          exact z_lret C dX7_part_44 rfl ⟨congrArg (fun z => some (vl z)) (by simp only [*]; simp), rfl⟩
        ·
          refine z_lload_n 0 dX7_part_36 rfl ?_
          refine z_goto (tgt := 41) dX7_part_37 rfl ?_
          refine z_lload 3 dX7_part_41 rfl ?_
          refine z_ldiv dX7_part_43 (by omega) ?_
          exact z_lret C dX7_part_44 rfl ⟨congrArg (fun z => some (vl z)) (by simp only [*]; simp), rfl⟩
      ·
        refine z_lload 3 dX7_part_13 rfl ?_
        refine z_lload 4 dX7_part_15 rfl ?_
        refine z_lrem dX7_part_17 (by omega) ?_
        refine z_lstore (fun y => [(0, vl a), (2, vl b), (4, vi wh), (5, vl x5), (7, vl x7), (9, vl y)]) [1, 2, 3, 4, 5, 0] dX7_part_18 (by decide) (fun _ => rfl) (fun x9_18 e9_18 => ?_)
        refine z_lload 4 dX7_part_20 rfl ?_
        refine z_lstore (fun y => [(0, vl a), (2, vl b), (4, vi wh), (5, vl y), (7, vl x7), (9, vl x9_18)]) [1, 2, 3, 0, 4, 5] dX7_part_22 (by decide) (fun _ => rfl) (fun x5_22 e5_22 => ?_)
        refine z_lload 5 dX7_part_24 rfl ?_
        refine z_lstore (fun y => [(0, vl a), (2, vl b), (4, vi wh), (5, vl x5_22), (7, vl y), (9, vl x9_18)]) [1, 2, 3, 4, 0, 5] dX7_part_26 (by decide) (fun _ => rfl) (fun x7_26 e7_26 => ?_)
        refine z_goto (tgt := 6) dX7_part_28 rfl ?_
        refine z_lv [0, 1, 2, 3, 4] [(0, vl a), (2, vl b), (4, vi wh), (5, vl x5_22), (7, vl x7_26)] rfl ?_
        have uq8 := Int.emod_lt_of_pos x5 (show 0 < x7 by omega)
        have uq9 := Int.emod_nonneg x5 (show x7 ≠ 0 by omega)
        exact uih6 x5_22 x7_26 (by rw [e7_26, e9_18]; omega) (by rw [e7_26, e9_18, e5_22]; exact ⟨by omega, by omega, by omega, by omega, by omega, by rw [← uq6, Int.gcd_comm x5 x7, Int.gcd_comm x7 (x5 % x7)]; exact gcd_em uq1 uq3⟩)
  exact uL6 _ x5_1 x7_4 (Nat.lt_succ_self _) (by subst e5_1; subst e7_4; exact ⟨ha.1, ha.2.1, by omega, by omega, by omega, rfl⟩)
set_option maxRecDepth 100000 in
theorem ct_X7_finds (en : zE) (M : zW) (O : Int → Int) (wO : M 37 = O) (f : Int) : Ct en kA yX7_finds mX7_finds [rf en 37, vi f] M (pI (-10 - f) (upR M 37 (up O 4 f))) := by
  refine Ct.of (by decide +kernel) rfl [(0, rf en 37), (1, vi f)] rfl (Nat.le_of_ble_eq_true rfl) (fun cx C => ?_)
  refine z_aload_n 0 dX7_finds_0 rfl ?_
  refine z_iload_n 1 dX7_finds_1 rfl ?_
  refine z_putI (r := O) 4 rfl dX7_finds_2 pfX7_61_6 i37_4 ka37 (wO) (fun r37_2 f37_2 => ?_)
  refine z_bipush dX7_finds_5 rfl ?_
  refine z_iload_n 1 dX7_finds_7 rfl ?_
  refine z_isub dX7_finds_8 ?_
  exact z_iret C dX7_finds_9 rfl ⟨congrArg (fun z => some (vi z)) (rfl), by subst f37_2; rfl⟩
