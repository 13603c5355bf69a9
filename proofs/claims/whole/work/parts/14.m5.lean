/-! the news, the crowning, the rides: as numbers -/
abbrev tOK (T : Int → Int) : Prop := (0 ≤ T 0 ∧ T 0 ≤ 7) ∧ (0 ≤ T 1 ∧ T 1 ≤ 9) ∧ (0 ≤ T 2 ∧ T 2 ≤ 9) ∧ (0 ≤ T 3 ∧ T 3 ≤ 7) ∧ (0 ≤ T 4 ∧ T 4 ≤ 7) ∧ (0 ≤ T 5 ∧ T 5 ≤ 255)
def hA (T W : Int → Int) (t : Int) : Int := min (T 1 + T 2 + W (8 * T 0 + t)) 9999
def crO (T W : Int → Int) : Int := min (hA T W (T 3) + W (8 * T 3 + T 4) + 1) 9999
def lwA (T W : Int → Int) (t : Int) : Int := min (crO T W + W (8 * T 4 + t)) 9999
def noA (T W : Int → Int) (t : Int) : Int := if hA T W t = 9999 then 0 else if lwA T W t = 9999 then -1 else if lwA T W t < hA T W t then 0 else lwA T W t - hA T W t
def hBy (T W : Int → Int) (t wh : Int) : Int := if wh = 0 then orN (hA T W t) else if wh = 1 then orN (lwA T W t) else noA T W t
theorem hA_rg {T W : Int → Int} (hT : tOK T) (hW : wOK W) {t : Int} (ht : 0 ≤ t ∧ t ≤ 7) : 0 ≤ hA T W t ∧ hA T W t ≤ 9999 := by
  have := hW (8 * T 0 + t) (by omega) (by omega)
  unfold hA; omega
theorem crO_rg {T W : Int → Int} (hT : tOK T) (hW : wOK W) : 0 ≤ crO T W ∧ crO T W ≤ 9999 := by
  have := hW (8 * T 3 + T 4) (by omega) (by omega)
  have := hA_rg hT hW (t := T 3) (by omega)
  unfold crO; omega
theorem lwA_rg {T W : Int → Int} (hT : tOK T) (hW : wOK W) {t : Int} (ht : 0 ≤ t ∧ t ≤ 7) : 0 ≤ lwA T W t ∧ lwA T W t ≤ 9999 := by
  have := hW (8 * T 4 + t) (by omega) (by omega)
  have := crO_rg hT hW
  unfold lwA; omega
theorem noA_rg {T W : Int → Int} (hT : tOK T) (hW : wOK W) {t : Int} (ht : 0 ≤ t ∧ t ≤ 7) : -1 ≤ noA T W t ∧ noA T W t ≤ 9999 := by
  have := hA_rg hT hW ht
  have := lwA_rg hT hW ht
  unfold noA; repeat' split
  all_goals omega
theorem orN_rg {v : Int} (h : 0 ≤ v ∧ v ≤ 9999) : -1 ≤ orN v ∧ orN v ≤ 9998 := by unfold orN; split <;> omega
theorem hBy_rg {T W : Int → Int} (hT : tOK T) (hW : wOK W) {t wh : Int} (ht : 0 ≤ t ∧ t ≤ 7) : -1 ≤ hBy T W t wh ∧ hBy T W t wh ≤ 9999 := by
  have h1 := orN_rg (hA_rg hT hW ht)
  have h2 := orN_rg (lwA_rg hT hW ht)
  have h3 := noA_rg hT hW ht
  unfold hBy; repeat' split
  all_goals omega
theorem p2_rg : ∀ n : Nat, n < 13 → 1 ≤ (2 : Int) ^ n ∧ (2 : Int) ^ n ≤ 4096 := by decide +kernel
theorem p2_nat (n : Nat) : ((2 : Int) ^ n).toNat = 2 ^ n := by
  have : (2 : Int) ^ n = ((2 ^ n : Nat) : Int) := by simp
  rw [this, Int.toNat_natCast]
def knB (T W : Int → Int) (day : Int) : Nat → Nat
  | 0 => 0
  | n + 1 => knB T W day n ||| (if hA T W n ≤ day then 2 ^ n else 0)
theorem or_lt {a b n : Nat} (ha : a < 2 ^ n) (hb : b < 2 ^ n) : a ||| b < 2 ^ n := Nat.or_lt_two_pow ha hb
theorem knB_lt (T W : Int → Int) (day : Int) : ∀ n : Nat, knB T W day n < 2 ^ n
  | 0 => by simp [knB]
  | n + 1 => by
    have ih := knB_lt T W day n
    have h2 : (2 : Nat) ^ n < 2 ^ (n + 1) := Nat.pow_lt_pow_right (by decide) (by omega)
    unfold knB
    refine or_lt (by omega) ?_
    split
    · exact h2
    · exact Nat.pow_pos (by decide)
theorem knB_256 (T W : Int → Int) (day : Int) {n : Nat} (h : n ≤ 8) : knB T W day n < 256 := Nat.lt_of_lt_of_le (knB_lt T W day n) (by have := Nat.pow_le_pow_right (n := 2) (by decide) h; omega)
def coO (T W P : Int → Int) (np p : Int) : Int := if ¬ (0 ≤ P (5 * p + 4) ∧ P (5 * p + 4) ≤ np - 1) ∨ P (5 * p + 4) = p then 9999 else min (hA T W (P (5 * p)) + W (8 * P (5 * p) + P (5 * P (5 * p + 4))) + (if P (5 * p + 2) = 2 then 1 else 0)) 9999
def enC (T W P : Int → Int) (c p : Int) : Int := if c = 9999 then 0 else if lwA T W (P (5 * P (5 * p + 4))) ≤ c ∨ bitq (T 5) (P (5 * P (5 * p + 4))) then 3 else if P (5 * P (5 * p + 4) + 1) + (if hA T W (P (5 * P (5 * p + 4))) ≤ c then 2 else 0) < P (5 * p + 1) + (if P (5 * p + 2) = 1 then 2 else 0) then 1 else 2
def enO (T W P : Int → Int) (np p : Int) : Int := enC T W P (coO T W P np p) p
theorem coO_rg {T W P : Int → Int} (hT : tOK T) (hW : wOK W) {np p : Int} (hP : pOK P np) (hp : 0 ≤ p ∧ p < np) : 0 ≤ coO T W P np p ∧ coO T W P np p ≤ 9999 ∧ (coO T W P np p ≠ 9999 → 0 ≤ P (5 * p + 4) ∧ P (5 * p + 4) ≤ np - 1 ∧ P (5 * p + 4) ≠ p) := by
  unfold coO
  split
  · omega
  · obtain ⟨b1, b2, b3, b4, b5⟩ := hP p hp.1 hp.2
    obtain ⟨a1, -⟩ := hP (P (5 * p + 4)) (by omega) (by omega)
    have h1 := hA_rg hT hW (t := P (5 * p)) b1
    have h2 := hW (8 * P (5 * p) + P (5 * P (5 * p + 4))) (by omega) (by omega)
    split <;> omega
theorem enC_rg (T W P : Int → Int) (c p : Int) : 0 ≤ enC T W P c p ∧ enC T W P c p ≤ 3 ∧ (enC T W P c p = 1 → c ≠ 9999) := by
  unfold enC; repeat' split
  all_goals omega
def tkR (P G : Int → Int) (p : Int) : Int → Int := up (up G (P (5 * p + 4)) 0) p (up G (P (5 * p + 4)) 0 p + G (P (5 * p + 4)))
set_option maxRecDepth 100000 in
theorem ct_X7_hearsAt (en : zE) (M : zW) (T : Int → Int) (W : Int → Int) (wT : M 46 = T) (wW : M 47 = W) (t : Int) (hT : tOK T) (hW : wOK W) (ht : 0 ≤ t ∧ t ≤ 7) : Ct en kA yX7_hearsAt mX7_hearsAt [rf en 37, vi t] M (pI (hA T W t) M) := by
  refine Ct.of (by decide +kernel) rfl [(0, rf en 37), (1, vi t)] rfl (Nat.le_of_ble_eq_true rfl) (fun cx C => ?_)
  refine z_aload_n 0 dX7_hearsAt_0 rfl ?_
  refine z_getR dX7_hearsAt_1 fX7_34_6 i37_11 ka37 ?_
  refine z_iconst dX7_hearsAt_4 ?_
  refine z_iald (r := T) dX7_hearsAt_5 is46 ka46 (wT) (by omega) ?_
  refine z_aload_n 0 dX7_hearsAt_6 rfl ?_
  refine z_getR dX7_hearsAt_7 fX7_34_6 i37_11 ka37 ?_
  refine z_iconst dX7_hearsAt_10 ?_
  refine z_iald (r := T) dX7_hearsAt_11 is46 ka46 (wT) (by omega) ?_
  refine z_iadd dX7_hearsAt_12 ?_
  have uw := hW (8 * T 0 + t) (by omega) (by omega)
  refine z_aload_n 0 dX7_hearsAt_13 rfl ?_
  refine z_getR dX7_hearsAt_14 fX7_37_6 i37_12 ka37 ?_
  refine z_bipush dX7_hearsAt_17 rfl ?_
  refine z_aload_n 0 dX7_hearsAt_19 rfl ?_
  refine z_getR dX7_hearsAt_20 fX7_34_6 i37_11 ka37 ?_
  refine z_iconst dX7_hearsAt_23 ?_
  refine z_iald (r := T) dX7_hearsAt_24 is46 ka46 (wT) (by omega) ?_
  refine z_imul dX7_hearsAt_25 ?_
  refine z_iload_n 1 dX7_hearsAt_26 rfl ?_
  refine z_iadd dX7_hearsAt_27 ?_
  refine z_iald (r := W) dX7_hearsAt_28 is47 ka47 (wW) (by omega) ?_
  refine z_iadd dX7_hearsAt_29 ?_
  refine z_sipush dX7_hearsAt_30 rfl ?_
  refine z_sI dX7_hearsAt_33 lX7_125 (by decide) (ct_X7_lesser en M _ (9999) (by omega)) rfl rfl (by exact Nat.le_of_ble_eq_true rfl) ?_
  exact z_iret C dX7_hearsAt_36 rfl ⟨congrArg (fun z => some (vi z)) (rfl), rfl⟩
set_option maxRecDepth 100000 in
theorem ct_X7_crownedOn (en : zE) (M : zW) (T : Int → Int) (W : Int → Int) (wT : M 46 = T) (wW : M 47 = W) (hT : tOK T) (hW : wOK W) : Ct en kA yX7_crownedOn mX7_crownedOn [rf en 37] M (pI (crO T W) M) := by
  refine Ct.of (by decide +kernel) rfl [(0, rf en 37)] rfl (Nat.le_of_ble_eq_true rfl) (fun cx C => ?_)
  refine z_aload_n 0 dX7_crownedOn_0 rfl ?_
  refine z_aload_n 0 dX7_crownedOn_1 rfl ?_
  refine z_getR dX7_crownedOn_2 fX7_34_6 i37_11 ka37 ?_
  refine z_iconst dX7_crownedOn_5 ?_
  refine z_iald (r := T) dX7_crownedOn_6 is46 ka46 (wT) (by omega) ?_
  refine z_vI dX7_crownedOn_7 lX7_141 (by decide) ka37 io37 rfl (ct_X7_hearsAt en M T W wT wW _ (by assumption) (by assumption) (by omega)) rfl rfl (by exact Nat.le_of_ble_eq_true rfl) ?_
  have uw := hW (8 * T 3 + T 4) (by omega) (by omega)
  have uw2 := hA_rg hT hW (t := T 3) (by omega)
  refine z_aload_n 0 dX7_crownedOn_10 rfl ?_
  refine z_getR dX7_crownedOn_11 fX7_37_6 i37_12 ka37 ?_
  refine z_bipush dX7_crownedOn_14 rfl ?_
  refine z_aload_n 0 dX7_crownedOn_16 rfl ?_
  refine z_getR dX7_crownedOn_17 fX7_34_6 i37_11 ka37 ?_
  refine z_iconst dX7_crownedOn_20 ?_
  refine z_iald (r := T) dX7_crownedOn_21 is46 ka46 (wT) (by omega) ?_
  refine z_imul dX7_crownedOn_22 ?_
  refine z_aload_n 0 dX7_crownedOn_23 rfl ?_
  refine z_getR dX7_crownedOn_24 fX7_34_6 i37_11 ka37 ?_
  refine z_iconst dX7_crownedOn_27 ?_
  refine z_iald (r := T) dX7_crownedOn_28 is46 ka46 (wT) (by omega) ?_
  refine z_iadd dX7_crownedOn_29 ?_
  refine z_iald (r := W) dX7_crownedOn_30 is47 ka47 (wW) (by omega) ?_
  refine z_iadd dX7_crownedOn_31 ?_
  refine z_iconst dX7_crownedOn_32 ?_
  refine z_iadd dX7_crownedOn_33 ?_
  refine z_sipush dX7_crownedOn_34 rfl ?_
  refine z_sI dX7_crownedOn_37 lX7_125 (by decide) (ct_X7_lesser en M _ (9999) (by omega)) rfl rfl (by exact Nat.le_of_ble_eq_true rfl) ?_
  exact z_iret C dX7_crownedOn_40 rfl ⟨congrArg (fun z => some (vi z)) (rfl), rfl⟩
set_option maxRecDepth 100000 in
theorem ct_X7_lawAt (en : zE) (M : zW) (T : Int → Int) (W : Int → Int) (wT : M 46 = T) (wW : M 47 = W) (t : Int) (hT : tOK T) (hW : wOK W) (ht : 0 ≤ t ∧ t ≤ 7) : Ct en kA yX7_lawAt mX7_lawAt [rf en 37, vi t] M (pI (lwA T W t) M) := by
  refine Ct.of (by decide +kernel) rfl [(0, rf en 37), (1, vi t)] rfl (Nat.le_of_ble_eq_true rfl) (fun cx C => ?_)
  refine z_aload_n 0 dX7_lawAt_0 rfl ?_
  refine z_vI dX7_lawAt_1 lX7_144 (by decide) ka37 io37 rfl (ct_X7_crownedOn en M T W wT wW (by assumption) (by assumption)) rfl rfl (by exact Nat.le_of_ble_eq_true rfl) ?_
  have uw := hW (8 * T 4 + t) (by omega) (by omega)
  have uw2 := crO_rg hT hW
  refine z_aload_n 0 dX7_lawAt_4 rfl ?_
  refine z_getR dX7_lawAt_5 fX7_37_6 i37_12 ka37 ?_
  refine z_bipush dX7_lawAt_8 rfl ?_
  refine z_aload_n 0 dX7_lawAt_10 rfl ?_
  refine z_getR dX7_lawAt_11 fX7_34_6 i37_11 ka37 ?_
  refine z_iconst dX7_lawAt_14 ?_
  refine z_iald (r := T) dX7_lawAt_15 is46 ka46 (wT) (by omega) ?_
  refine z_imul dX7_lawAt_16 ?_
  refine z_iload_n 1 dX7_lawAt_17 rfl ?_
  refine z_iadd dX7_lawAt_18 ?_
  refine z_iald (r := W) dX7_lawAt_19 is47 ka47 (wW) (by omega) ?_
  refine z_iadd dX7_lawAt_20 ?_
  refine z_sipush dX7_lawAt_21 rfl ?_
  refine z_sI dX7_lawAt_24 lX7_125 (by decide) (ct_X7_lesser en M _ (9999) (by omega)) rfl rfl (by exact Nat.le_of_ble_eq_true rfl) ?_
  exact z_iret C dX7_lawAt_27 rfl ⟨congrArg (fun z => some (vi z)) (rfl), rfl⟩
set_option maxRecDepth 100000 in
theorem ct_X7_noneAt (en : zE) (M : zW) (T : Int → Int) (W : Int → Int) (wT : M 46 = T) (wW : M 47 = W) (t : Int) (hT : tOK T) (hW : wOK W) (ht : 0 ≤ t ∧ t ≤ 7) : Ct en kA yX7_noneAt mX7_noneAt [rf en 37, vi t] M (pI (noA T W t) M) := by
  refine Ct.of (by decide +kernel) rfl [(0, rf en 37), (1, vi t)] rfl (Nat.le_of_ble_eq_true rfl) (fun cx C => ?_)
  have uw := hA_rg hT hW ht
  have uw2 := lwA_rg hT hW ht
  refine z_aload_n 0 dX7_noneAt_0 rfl ?_
  refine z_iload_n 1 dX7_noneAt_1 rfl ?_
  refine z_vI dX7_noneAt_2 lX7_141 (by decide) ka37 io37 rfl (ct_X7_hearsAt en M T W wT wW _ (by assumption) (by assumption) (by omega)) rfl rfl (by exact Nat.le_of_ble_eq_true rfl) ?_
  refine z_istore_n (fun y => [(0, rf en 37), (1, vi t), (2, vi y)]) [1, 2, 0] dX7_noneAt_5 (by decide) (fun _ => rfl) (fun x2_5 e2_5 => ?_)
  refine z_aload_n 0 dX7_noneAt_6 rfl ?_
  refine z_iload_n 1 dX7_noneAt_7 rfl ?_
  refine z_vI dX7_noneAt_8 lX7_147 (by decide) ka37 io37 rfl (ct_X7_lawAt en M T W wT wW _ (by assumption) (by assumption) (by omega)) rfl rfl (by exact Nat.le_of_ble_eq_true rfl) ?_
  refine z_istore_n (fun y => [(0, rf en 37), (1, vi t), (2, vi x2_5), (3, vi y)]) [1, 2, 3, 0] dX7_noneAt_11 (by decide) (fun _ => rfl) (fun x3_11 e3_11 => ?_)
  refine z_iload_n 2 dX7_noneAt_12 rfl ?_
  refine z_sipush dX7_noneAt_13 rfl ?_
  refine z_icmp_ne (tgt := 23) dX7_noneAt_16 rfl (by omega) (fun uc16 => ?_) (fun uc16 => ?_)
  ·
    refine z_iload_n 3 dX7_noneAt_23 rfl ?_
    refine z_sipush dX7_noneAt_24 rfl ?_
    refine z_icmp_ne (tgt := 34) dX7_noneAt_27 rfl (by omega) (fun uc27 => ?_) (fun uc27 => ?_)
    ·
      refine z_iload_n 3 dX7_noneAt_34 rfl ?_
      refine z_iload_n 2 dX7_noneAt_35 rfl ?_
      refine z_icmp_ge (tgt := 43) dX7_noneAt_36 rfl (by omega) (fun uc36 => ?_) (fun uc36 => ?_)
      ·
        refine z_iload_n 3 dX7_noneAt_43 rfl ?_
        refine z_iload_n 2 dX7_noneAt_44 rfl ?_
        refine z_isub dX7_noneAt_45 ?_
        exact z_iret C dX7_noneAt_46 rfl ⟨congrArg (fun z => some (vi z)) (by unfold noA; (repeat' split) <;> omega), rfl⟩
      ·
        refine z_iconst dX7_noneAt_39 ?_
        refine z_goto (tgt := 46) dX7_noneAt_40 rfl ?_
        exact z_iret C dX7_noneAt_46 rfl ⟨congrArg (fun z => some (vi z)) (by unfold noA; (repeat' split) <;> omega), rfl⟩
    ·
      refine z_iconst dX7_noneAt_30 ?_
      refine z_goto (tgt := 46) dX7_noneAt_31 rfl ?_
      exact z_iret C dX7_noneAt_46 rfl ⟨congrArg (fun z => some (vi z)) (by unfold noA; (repeat' split) <;> omega), rfl⟩
  ·
    refine z_iconst dX7_noneAt_19 ?_
    refine z_goto (tgt := 46) dX7_noneAt_20 rfl ?_
    exact z_iret C dX7_noneAt_46 rfl ⟨congrArg (fun z => some (vi z)) (by unfold noA; (repeat' split) <;> omega), rfl⟩
set_option maxRecDepth 100000 in
theorem ct_X7_hearsBy (en : zE) (M : zW) (T : Int → Int) (W : Int → Int) (wT : M 46 = T) (wW : M 47 = W) (t : Int) (wh : Int) (hT : tOK T) (hW : wOK W) (ht : 0 ≤ t ∧ t ≤ 7) (hw : -2147483648 ≤ wh ∧ wh < 2147483648) : Ct en kA yX7_hearsBy mX7_hearsBy [rf en 37, vi t, vi wh] M (pI (hBy T W t wh) M) := by
  refine Ct.of (by decide +kernel) rfl [(0, rf en 37), (1, vi t), (2, vi wh)] rfl (Nat.le_of_ble_eq_true rfl) (fun cx C => ?_)
  have uw := hA_rg hT hW ht
  have uw2 := lwA_rg hT hW ht
  refine z_iload_n 2 dX7_hearsBy_0 rfl ?_
  refine z_if_ne (tgt := 15) dX7_hearsBy_1 rfl (by omega) (fun uc1 => ?_) (fun uc1 => ?_)
  ·
    refine z_iload_n 2 dX7_hearsBy_15 rfl ?_
    refine z_iconst dX7_hearsBy_16 ?_
    refine z_icmp_ne (tgt := 31) dX7_hearsBy_17 rfl (by omega) (fun uc17 => ?_) (fun uc17 => ?_)
    ·
      refine z_aload_n 0 dX7_hearsBy_31 rfl ?_
      refine z_iload_n 1 dX7_hearsBy_32 rfl ?_
      refine z_vI dX7_hearsBy_33 lX7_150 (by decide) ka37 io37 rfl (ct_X7_noneAt en M T W wT wW _ (by assumption) (by assumption) (by omega)) rfl rfl (by exact Nat.le_of_ble_eq_true rfl) ?_
      exact z_iret C dX7_hearsBy_36 rfl ⟨congrArg (fun z => some (vi z)) (by unfold hBy; (repeat' split) <;> first | rfl | omega), rfl⟩
    ·
      refine z_aload_n 0 dX7_hearsBy_20 rfl ?_
      refine z_iload_n 1 dX7_hearsBy_21 rfl ?_
      refine z_vI dX7_hearsBy_22 lX7_147 (by decide) ka37 io37 rfl (ct_X7_lawAt en M T W wT wW _ (by assumption) (by assumption) (by omega)) rfl rfl (by exact Nat.le_of_ble_eq_true rfl) ?_
      refine z_sI dX7_hearsBy_25 lX7_138 (by decide) (ct_X7_orNone en M _ (by omega)) rfl rfl (by exact Nat.le_of_ble_eq_true rfl) ?_
      refine z_goto (tgt := 36) dX7_hearsBy_28 rfl ?_
      exact z_iret C dX7_hearsBy_36 rfl ⟨congrArg (fun z => some (vi z)) (by unfold hBy; (repeat' split) <;> first | rfl | omega), rfl⟩
  ·
    refine z_aload_n 0 dX7_hearsBy_4 rfl ?_
    refine z_iload_n 1 dX7_hearsBy_5 rfl ?_
    refine z_vI dX7_hearsBy_6 lX7_141 (by decide) ka37 io37 rfl (ct_X7_hearsAt en M T W wT wW _ (by assumption) (by assumption) (by omega)) rfl rfl (by exact Nat.le_of_ble_eq_true rfl) ?_
    refine z_sI dX7_hearsBy_9 lX7_138 (by decide) (ct_X7_orNone en M _ (by omega)) rfl rfl (by exact Nat.le_of_ble_eq_true rfl) ?_
    refine z_goto (tgt := 36) dX7_hearsBy_12 rfl ?_
    exact z_iret C dX7_hearsBy_36 rfl ⟨congrArg (fun z => some (vi z)) (by unfold hBy; (repeat' split) <;> first | rfl | omega), rfl⟩
set_option maxRecDepth 100000 in
theorem ct_X7_knewBy (en : zE) (M : zW) (T : Int → Int) (W : Int → Int) (wT : M 46 = T) (wW : M 47 = W) (d : Int) (hT : tOK T) (hW : wOK W) (hd0 : 0 ≤ d ∧ d ≤ 99) : Ct en kA yX7_knewBy mX7_knewBy [rf en 37, vi d] M (pI ((knB T W d 8 : Int)) M) := by
  refine Ct.of (by decide +kernel) rfl [(0, rf en 37), (1, vi d)] rfl (Nat.le_of_ble_eq_true rfl) (fun cx C => ?_)
  refine z_iconst dX7_knewBy_0 ?_
  refine z_istore_n (fun y => [(0, rf en 37), (1, vi d), (2, vi y)]) [1, 2, 0] dX7_knewBy_1 (by decide) (fun _ => rfl) (fun x2_1 e2_1 => ?_)
  refine z_iconst dX7_knewBy_2 ?_
  refine z_istore_n (fun y => [(0, rf en 37), (1, vi d), (2, vi x2_1), (3, vi y)]) [1, 2, 3, 0] dX7_knewBy_3 (by decide) (fun _ => rfl) (fun x3_3 e3_3 => ?_)
  have uL4 : ∀ (fu : Nat) (x2 : Int) (x3 : Int), (8 - x3).toNat < fu → (0 ≤ x3 ∧ x3 ≤ 8 ∧ x2 = knB T W d x3.toNat) → Z en kA cx mX7_knewBy M 4 [(0, rf en 37), (1, vi d), (2, vi x2), (3, vi x3)] [] := by
    intro fu
    induction fu with
    | zero => intro x2 x3 uhf; exact absurd uhf (Nat.not_lt_zero _)
    | succ fu uih4 =>
      intro x2 x3 uf4 uI4
      obtain ⟨uq1, uq2, uq3⟩ := uI4
      have uq4 := knB_256 T W d (n := x3.toNat) (by omega)
      have uq5 := p2_rg x3.toNat (by omega)
      refine z_iload_n 3 dX7_knewBy_4 rfl ?_
      refine z_bipush dX7_knewBy_5 rfl ?_
      refine z_icmp_ge (tgt := 35) dX7_knewBy_7 rfl (by omega) (fun uc7 => ?_) (fun uc7 => ?_)
      ·
        refine z_iload_n 2 dX7_knewBy_35 rfl ?_
        exact z_iret C dX7_knewBy_36 rfl ⟨congrArg (fun z => some (vi z)) (by rw [uq3, show x3 = 8 by omega]; rfl), rfl⟩
      ·
        refine z_iload_n 2 dX7_knewBy_10 rfl ?_
        refine z_aload_n 0 dX7_knewBy_11 rfl ?_
        refine z_iload_n 3 dX7_knewBy_12 rfl ?_
        refine z_vI dX7_knewBy_13 lX7_141 (by decide) ka37 io37 rfl (ct_X7_hearsAt en M T W wT wW _ (by assumption) (by assumption) (by omega)) rfl rfl (by exact Nat.le_of_ble_eq_true rfl) ?_
        have uw := hA_rg hT hW (t := x3) (by omega)
        refine z_iload_n 1 dX7_knewBy_16 rfl ?_
        refine z_icmp_gt (tgt := 26) dX7_knewBy_17 rfl (by omega) (fun uc17 => ?_) (fun uc17 => ?_)
        ·
          refine z_iconst dX7_knewBy_26 ?_
          refine z_ior dX7_knewBy_27 (by omega) ?_
          refine z_istore_n (fun y => [(0, rf en 37), (1, vi d), (2, vi y), (3, vi x3)]) [1, 2, 0, 3] dX7_knewBy_28 (by decide) (fun _ => rfl) (fun x2_28 e2_28 => ?_)
          refine z_iinc (fun y => [(0, rf en 37), (1, vi d), (2, vi x2_28), (3, vi y)]) [1, 2, 3, 0] 3 dX7_knewBy_29 rfl (by decide) (fun _ => rfl) (fun x3_29 e3_29 => ?_)
          refine z_goto (tgt := 4) dX7_knewBy_32 rfl ?_
          exact uih4 x2_28 x3_29 (by omega) (⟨by omega, by omega, by rw [e3_29, tnS uq1, knB, tnC uq1, e2_28, uq3, Int.toNat_natCast]; first | rw [if_pos uc17, Int.one_mul, p2_nat] | rw [if_neg (by omega)]; rfl⟩)
        ·
          refine z_iconst dX7_knewBy_20 ?_
          refine z_iload_n 3 dX7_knewBy_21 rfl ?_
          refine z_ishl dX7_knewBy_22 (by omega) ?_
          refine z_goto (tgt := 27) dX7_knewBy_23 rfl ?_
          refine z_ior dX7_knewBy_27 (by omega) ?_
          refine z_istore_n (fun y => [(0, rf en 37), (1, vi d), (2, vi y), (3, vi x3)]) [1, 2, 0, 3] dX7_knewBy_28 (by decide) (fun _ => rfl) (fun x2_28 e2_28 => ?_)
          refine z_iinc (fun y => [(0, rf en 37), (1, vi d), (2, vi x2_28), (3, vi y)]) [1, 2, 3, 0] 3 dX7_knewBy_29 rfl (by decide) (fun _ => rfl) (fun x3_29 e3_29 => ?_)
          refine z_goto (tgt := 4) dX7_knewBy_32 rfl ?_
          exact uih4 x2_28 x3_29 (by omega) (⟨by omega, by omega, by rw [e3_29, tnS uq1, knB, tnC uq1, e2_28, uq3, Int.toNat_natCast]; first | rw [if_pos uc17, Int.one_mul, p2_nat] | rw [if_neg (by omega)]; rfl⟩)
  exact uL4 _ x2_1 x3_3 (Nat.lt_succ_self _) (⟨by omega, by omega, by rw [e2_1, e3_3]; rfl⟩)
set_option maxRecDepth 100000 in
theorem ct_X7_comesOn (en : zE) (M : zW) (O : Int → Int) (P : Int → Int) (T : Int → Int) (W : Int → Int) (wO : M 37 = O) (wP : M 45 = P) (wT : M 46 = T) (wW : M 47 = W) (p : Int) (hT : tOK T) (hW : wOK W) (hP : pOK P (O 9)) (hn : 0 ≤ O 9 ∧ O 9 ≤ 8) (hp : 0 ≤ p ∧ p < O 9) : Ct en kA yX7_comesOn mX7_comesOn [rf en 37, vi p] M (pI (coO T W P (O 9) p) M) := by
  refine Ct.of (by decide +kernel) rfl [(0, rf en 37), (1, vi p)] rfl (Nat.le_of_ble_eq_true rfl) (fun cx C => ?_)
  have ub := hP p hp.1 hp.2
  refine z_aload_n 0 dX7_comesOn_0 rfl ?_
  refine z_getR dX7_comesOn_1 fX7_31_6 i37_10 ka37 ?_
  refine z_iconst dX7_comesOn_4 ?_
  refine z_iload_n 1 dX7_comesOn_5 rfl ?_
  refine z_imul dX7_comesOn_6 ?_
  refine z_iconst dX7_comesOn_7 ?_
  refine z_iadd dX7_comesOn_8 ?_
  refine z_iald (r := P) dX7_comesOn_9 is45 ka45 (wP) (by omega) ?_
  refine z_istore_n (fun y => [(0, rf en 37), (1, vi p), (2, vi y)]) [1, 2, 0] dX7_comesOn_10 (by decide) (fun _ => rfl) (fun x2_10 e2_10 => ?_)
  refine z_aload_n 0 dX7_comesOn_11 rfl ?_
  refine z_iload_n 2 dX7_comesOn_12 rfl ?_
  refine z_vI dX7_comesOn_13 lX7_112 (by decide) ka37 io37 rfl (ct_X7_isPerson en M O wO _ (by omega)) rfl rfl (by exact Nat.le_of_ble_eq_true rfl) ?_
  refine z_ifeq_b (tgt := 24) dX7_comesOn_16 rfl (fun uc16 => ?_) (fun uc16 => ?_)
  ·
    refine z_sipush dX7_comesOn_24 rfl ?_
    exact z_iret C dX7_comesOn_27 rfl ⟨congrArg (fun z => some (vi z)) (by unfold coO; rw [if_pos (by omega)]), rfl⟩
  ·
    refine z_iload_n 2 dX7_comesOn_19 rfl ?_
    refine z_iload_n 1 dX7_comesOn_20 rfl ?_
    refine z_icmp_ne (tgt := 28) dX7_comesOn_21 rfl (by omega) (fun uc21 => ?_) (fun uc21 => ?_)
    ·
      have ub2 := hP x2_10 (by omega) (by omega)
      have ub3 := hW (8 * P (5 * p) + P (5 * x2_10)) (by omega) (by omega)
      refine z_aload_n 0 dX7_comesOn_28 rfl ?_
      refine z_getR dX7_comesOn_29 fX7_37_6 i37_12 ka37 ?_
      refine z_bipush dX7_comesOn_32 rfl ?_
      refine z_aload_n 0 dX7_comesOn_34 rfl ?_
      refine z_getR dX7_comesOn_35 fX7_31_6 i37_10 ka37 ?_
      refine z_iconst dX7_comesOn_38 ?_
      refine z_iload_n 1 dX7_comesOn_39 rfl ?_
      refine z_imul dX7_comesOn_40 ?_
      refine z_iald (r := P) dX7_comesOn_41 is45 ka45 (wP) (by omega) ?_
      refine z_imul dX7_comesOn_42 ?_
      refine z_aload_n 0 dX7_comesOn_43 rfl ?_
      refine z_getR dX7_comesOn_44 fX7_31_6 i37_10 ka37 ?_
      refine z_iconst dX7_comesOn_47 ?_
      refine z_iload_n 2 dX7_comesOn_48 rfl ?_
      refine z_imul dX7_comesOn_49 ?_
      refine z_iald (r := P) dX7_comesOn_50 is45 ka45 (wP) (by omega) ?_
      refine z_iadd dX7_comesOn_51 ?_
      refine z_iald (r := W) dX7_comesOn_52 is47 ka47 (wW) (by omega) ?_
      refine z_istore_n (fun y => [(0, rf en 37), (1, vi p), (2, vi x2_10), (3, vi y)]) [1, 2, 3, 0] dX7_comesOn_53 (by decide) (fun _ => rfl) (fun x3_53 e3_53 => ?_)
      refine z_aload_n 0 dX7_comesOn_54 rfl ?_
      refine z_aload_n 0 dX7_comesOn_55 rfl ?_
      refine z_getR dX7_comesOn_56 fX7_31_6 i37_10 ka37 ?_
      refine z_iconst dX7_comesOn_59 ?_
      refine z_iload_n 1 dX7_comesOn_60 rfl ?_
      refine z_imul dX7_comesOn_61 ?_
      refine z_iald (r := P) dX7_comesOn_62 is45 ka45 (wP) (by omega) ?_
      refine z_vI dX7_comesOn_63 lX7_141 (by decide) ka37 io37 rfl (ct_X7_hearsAt en M T W wT wW _ (by assumption) (by assumption) (by omega)) rfl rfl (by exact Nat.le_of_ble_eq_true rfl) ?_
      have ub4 := hA_rg hT hW (t := P (5 * p)) (by omega)
      refine z_iload_n 3 dX7_comesOn_66 rfl ?_
      refine z_iadd dX7_comesOn_67 ?_
      refine z_aload_n 0 dX7_comesOn_68 rfl ?_
      refine z_getR dX7_comesOn_69 fX7_31_6 i37_10 ka37 ?_
      refine z_iconst dX7_comesOn_72 ?_
      refine z_iload_n 1 dX7_comesOn_73 rfl ?_
      refine z_imul dX7_comesOn_74 ?_
      refine z_iconst dX7_comesOn_75 ?_
      refine z_iadd dX7_comesOn_76 ?_
      refine z_iald (r := P) dX7_comesOn_77 is45 ka45 (wP) (by omega) ?_
      refine z_iconst dX7_comesOn_78 ?_
      refine z_icmp_ne (tgt := 86) dX7_comesOn_79 rfl (by omega) (fun uc79 => ?_) (fun uc79 => ?_)
      ·
        refine z_iconst dX7_comesOn_86 ?_
        refine z_iadd dX7_comesOn_87 ?_
        refine z_sipush dX7_comesOn_88 rfl ?_
        refine z_sI dX7_comesOn_91 lX7_125 (by decide) (ct_X7_lesser en M _ (9999) (by omega)) rfl rfl (by exact Nat.le_of_ble_eq_true rfl) ?_
        exact z_iret C dX7_comesOn_94 rfl ⟨congrArg (fun z => some (vi z)) (by unfold coO; rw [if_neg (by omega), e3_53, e2_10]; first | rw [if_pos uc79] | rw [if_neg uc79]), rfl⟩
      ·
        refine z_iconst dX7_comesOn_82 ?_
        refine z_goto (tgt := 87) dX7_comesOn_83 rfl ?_
        refine z_iadd dX7_comesOn_87 ?_
        refine z_sipush dX7_comesOn_88 rfl ?_
        refine z_sI dX7_comesOn_91 lX7_125 (by decide) (ct_X7_lesser en M _ (9999) (by omega)) rfl rfl (by exact Nat.le_of_ble_eq_true rfl) ?_
        exact z_iret C dX7_comesOn_94 rfl ⟨congrArg (fun z => some (vi z)) (by unfold coO; rw [if_neg (by omega), e3_53, e2_10]; first | rw [if_pos uc79] | rw [if_neg uc79]), rfl⟩
    ·
      refine z_sipush dX7_comesOn_24 rfl ?_
      exact z_iret C dX7_comesOn_27 rfl ⟨congrArg (fun z => some (vi z)) (by unfold coO; rw [if_pos (by omega)]), rfl⟩
set_option maxRecDepth 100000 in
theorem ct_X7_endOf (en : zE) (M : zW) (O : Int → Int) (P : Int → Int) (T : Int → Int) (W : Int → Int) (K : Int → Int) (wO : M 37 = O) (wP : M 45 = P) (wT : M 46 = T) (wW : M 47 = W) (wK : M 48 = K) (p : Int) (hT : tOK T) (hW : wOK W) (hP : pOK P (O 9)) (hn : 0 ≤ O 9 ∧ O 9 ≤ 8) (hp : 0 ≤ p ∧ p < O 9) (hk : 0 ≤ K p ∧ K p ≤ 9999 ∧ (K p ≠ 9999 → 0 ≤ P (5 * p + 4) ∧ P (5 * p + 4) ≤ O 9 - 1)) : Ct en kA yX7_endOf mX7_endOf [rf en 37, vi p] M (pI (enC T W P (K p) p) M) := by
  refine Ct.of (by decide +kernel) rfl [(0, rf en 37), (1, vi p)] rfl (Nat.le_of_ble_eq_true rfl) (fun cx C => ?_)
  have ub := hP p hp.1 hp.2
  refine z_aload_n 0 dX7_endOf_0 rfl ?_
  refine z_getR dX7_endOf_1 fX7_40_6 i37_13 ka37 ?_
  refine z_iload_n 1 dX7_endOf_4 rfl ?_
  refine z_iald (r := K) dX7_endOf_5 is48 ka48 (wK) (by omega) ?_
  refine z_sipush dX7_endOf_6 rfl ?_
  refine z_icmp_ne (tgt := 14) dX7_endOf_9 rfl (by omega) (fun uc9 => ?_) (fun uc9 => ?_)
  ·
    refine z_aload_n 0 dX7_endOf_14 rfl ?_
    refine z_getR dX7_endOf_15 fX7_31_6 i37_10 ka37 ?_
    refine z_iconst dX7_endOf_18 ?_
    refine z_iload_n 1 dX7_endOf_19 rfl ?_
    refine z_imul dX7_endOf_20 ?_
    refine z_iconst dX7_endOf_21 ?_
    refine z_iadd dX7_endOf_22 ?_
    refine z_iald (r := P) dX7_endOf_23 is45 ka45 (wP) (by omega) ?_
    refine z_istore_n (fun y => [(0, rf en 37), (1, vi p), (2, vi y)]) [1, 2, 0] dX7_endOf_24 (by decide) (fun _ => rfl) (fun x2_24 e2_24 => ?_)
    have ub2 := hP x2_24 (by omega) (by omega)
    refine z_aload_n 0 dX7_endOf_25 rfl ?_
    refine z_getR dX7_endOf_26 fX7_31_6 i37_10 ka37 ?_
    refine z_iconst dX7_endOf_29 ?_
    refine z_iload_n 2 dX7_endOf_30 rfl ?_
    refine z_imul dX7_endOf_31 ?_
    refine z_iald (r := P) dX7_endOf_32 is45 ka45 (wP) (by omega) ?_
    refine z_istore_n (fun y => [(0, rf en 37), (1, vi p), (2, vi x2_24), (3, vi y)]) [1, 2, 3, 0] dX7_endOf_33 (by decide) (fun _ => rfl) (fun x3_33 e3_33 => ?_)
    have ub3 := lwA_rg hT hW (t := x3_33) (by omega)
    have ub4 := hA_rg hT hW (t := x3_33) (by omega)
    refine z_aload_n 0 dX7_endOf_34 rfl ?_
    refine z_iload_n 3 dX7_endOf_35 rfl ?_
    refine z_vI dX7_endOf_36 lX7_147 (by decide) ka37 io37 rfl (ct_X7_lawAt en M T W wT wW _ (by assumption) (by assumption) (by omega)) rfl rfl (by exact Nat.le_of_ble_eq_true rfl) ?_
    refine z_aload_n 0 dX7_endOf_39 rfl ?_
    refine z_getR dX7_endOf_40 fX7_40_6 i37_13 ka37 ?_
    refine z_iload_n 1 dX7_endOf_43 rfl ?_
    refine z_iald (r := K) dX7_endOf_44 is48 ka48 (wK) (by omega) ?_
    refine z_icmp_le (tgt := 61) dX7_endOf_45 rfl (by omega) (fun uc45 => ?_) (fun uc45 => ?_)
    ·
      refine z_iconst dX7_endOf_61 ?_
      exact z_iret C dX7_endOf_62 rfl ⟨congrArg (fun z => some (vi z)) (by unfold enC; rw [if_neg (by omega), if_pos (by rw [← e2_24, ← e3_33]; first | exact Or.inl (by omega) | exact Or.inr uc58)]), rfl⟩
    ·
      refine z_aload_n 0 dX7_endOf_48 rfl ?_
      refine z_getR dX7_endOf_49 fX7_34_6 i37_11 ka37 ?_
      refine z_iconst dX7_endOf_52 ?_
      refine z_iald (r := T) dX7_endOf_53 is46 ka46 (wT) (by omega) ?_
      refine z_iload_n 3 dX7_endOf_54 rfl ?_
      refine z_sI dX7_endOf_55 lX7_121 (by decide) (ct_X7_isIn en M _ _ (by omega) (by omega)) rfl rfl (by exact Nat.le_of_ble_eq_true rfl) ?_
      refine z_ifeq_b (tgt := 63) dX7_endOf_58 rfl (fun uc58 => ?_) (fun uc58 => ?_)
      ·
        refine z_aload_n 0 dX7_endOf_63 rfl ?_
        refine z_getR dX7_endOf_64 fX7_31_6 i37_10 ka37 ?_
        refine z_iconst dX7_endOf_67 ?_
        refine z_iload_n 1 dX7_endOf_68 rfl ?_
        refine z_imul dX7_endOf_69 ?_
        refine z_iconst dX7_endOf_70 ?_
        refine z_iadd dX7_endOf_71 ?_
        refine z_iald (r := P) dX7_endOf_72 is45 ka45 (wP) (by omega) ?_
        refine z_aload_n 0 dX7_endOf_73 rfl ?_
        refine z_getR dX7_endOf_74 fX7_31_6 i37_10 ka37 ?_
        refine z_iconst dX7_endOf_77 ?_
        refine z_iload_n 1 dX7_endOf_78 rfl ?_
        refine z_imul dX7_endOf_79 ?_
        refine z_iconst dX7_endOf_80 ?_
        refine z_iadd dX7_endOf_81 ?_
        refine z_iald (r := P) dX7_endOf_82 is45 ka45 (wP) (by omega) ?_
        refine z_iconst dX7_endOf_83 ?_
        refine z_icmp_ne (tgt := 91) dX7_endOf_84 rfl (by omega) (fun uc84 => ?_) (fun uc84 => ?_)
        ·
          refine z_iconst dX7_endOf_91 ?_
          refine z_iadd dX7_endOf_92 ?_
          refine z_istore (fun y => [(0, rf en 37), (1, vi p), (2, vi x2_24), (3, vi x3_33), (4, vi y)]) [1, 2, 3, 4, 0] dX7_endOf_93 (by decide) (fun _ => rfl) (fun x4_93 e4_93 => ?_)
          refine z_aload_n 0 dX7_endOf_95 rfl ?_
          refine z_getR dX7_endOf_96 fX7_31_6 i37_10 ka37 ?_
          refine z_iconst dX7_endOf_99 ?_
          refine z_iload_n 2 dX7_endOf_100 rfl ?_
          refine z_imul dX7_endOf_101 ?_
          refine z_iconst dX7_endOf_102 ?_
          refine z_iadd dX7_endOf_103 ?_
          refine z_iald (r := P) dX7_endOf_104 is45 ka45 (wP) (by omega) ?_
          refine z_aload_n 0 dX7_endOf_105 rfl ?_
          refine z_iload_n 3 dX7_endOf_106 rfl ?_
          refine z_vI dX7_endOf_107 lX7_141 (by decide) ka37 io37 rfl (ct_X7_hearsAt en M T W wT wW _ (by assumption) (by assumption) (by omega)) rfl rfl (by exact Nat.le_of_ble_eq_true rfl) ?_
          refine z_aload_n 0 dX7_endOf_110 rfl ?_
          refine z_getR dX7_endOf_111 fX7_40_6 i37_13 ka37 ?_
          refine z_iload_n 1 dX7_endOf_114 rfl ?_
          refine z_iald (r := K) dX7_endOf_115 is48 ka48 (wK) (by omega) ?_
          refine z_icmp_gt (tgt := 123) dX7_endOf_116 rfl (by omega) (fun uc116 => ?_) (fun uc116 => ?_)
          ·
            refine z_iconst dX7_endOf_123 ?_
            refine z_iadd dX7_endOf_124 ?_
            refine z_istore (fun y => [(0, rf en 37), (1, vi p), (2, vi x2_24), (3, vi x3_33), (4, vi x4_93), (5, vi y)]) [1, 2, 3, 4, 5, 0] dX7_endOf_125 (by decide) (fun _ => rfl) (fun x5_125 e5_125 => ?_)
            refine z_iload 4 dX7_endOf_127 rfl ?_
            refine z_iload 5 dX7_endOf_129 rfl ?_
            refine z_icmp_le (tgt := 138) dX7_endOf_131 rfl (by omega) (fun uc131 => ?_) (fun uc131 => ?_)
            ·
              refine z_iconst dX7_endOf_138 ?_
              exact z_iret C dX7_endOf_139 rfl ⟨congrArg (fun z => some (vi z)) (by unfold enC; rw [if_neg (by omega), if_neg (by rw [← e2_24, ← e3_33]; exact fun uz => uz.elim (fun uz => by omega) (fun uz => uc58 uz)), ← e2_24, ← e3_33]; (repeat' split) <;> omega), rfl⟩
            ·
              refine z_iconst dX7_endOf_134 ?_
              refine z_goto (tgt := 139) dX7_endOf_135 rfl ?_
              exact z_iret C dX7_endOf_139 rfl ⟨congrArg (fun z => some (vi z)) (by unfold enC; rw [if_neg (by omega), if_neg (by rw [← e2_24, ← e3_33]; exact fun uz => uz.elim (fun uz => by omega) (fun uz => uc58 uz)), ← e2_24, ← e3_33]; (repeat' split) <;> omega), rfl⟩
          ·
            refine z_iconst dX7_endOf_119 ?_
            refine z_goto (tgt := 124) dX7_endOf_120 rfl ?_
            refine z_iadd dX7_endOf_124 ?_
            refine z_istore (fun y => [(0, rf en 37), (1, vi p), (2, vi x2_24), (3, vi x3_33), (4, vi x4_93), (5, vi y)]) [1, 2, 3, 4, 5, 0] dX7_endOf_125 (by decide) (fun _ => rfl) (fun x5_125 e5_125 => ?_)
            refine z_iload 4 dX7_endOf_127 rfl ?_
            refine z_iload 5 dX7_endOf_129 rfl ?_
            refine z_icmp_le (tgt := 138) dX7_endOf_131 rfl (by omega) (fun uc131 => ?_) (fun uc131 => ?_)
            ·
              refine z_iconst dX7_endOf_138 ?_
              exact z_iret C dX7_endOf_139 rfl ⟨congrArg (fun z => some (vi z)) (by unfold enC; rw [if_neg (by omega), if_neg (by rw [← e2_24, ← e3_33]; exact fun uz => uz.elim (fun uz => by omega) (fun uz => uc58 uz)), ← e2_24, ← e3_33]; (repeat' split) <;> omega), rfl⟩
            ·
              refine z_iconst dX7_endOf_134 ?_
              refine z_goto (tgt := 139) dX7_endOf_135 rfl ?_
              exact z_iret C dX7_endOf_139 rfl ⟨congrArg (fun z => some (vi z)) (by unfold enC; rw [if_neg (by omega), if_neg (by rw [← e2_24, ← e3_33]; exact fun uz => uz.elim (fun uz => by omega) (fun uz => uc58 uz)), ← e2_24, ← e3_33]; (repeat' split) <;> omega), rfl⟩
        ·
          refine z_iconst dX7_endOf_87 ?_
          refine z_goto (tgt := 92) dX7_endOf_88 rfl ?_
          refine z_iadd dX7_endOf_92 ?_
          refine z_istore (fun y => [(0, rf en 37), (1, vi p), (2, vi x2_24), (3, vi x3_33), (4, vi y)]) [1, 2, 3, 4, 0] dX7_endOf_93 (by decide) (fun _ => rfl) (fun x4_93 e4_93 => ?_)
          refine z_aload_n 0 dX7_endOf_95 rfl ?_
          refine z_getR dX7_endOf_96 fX7_31_6 i37_10 ka37 ?_
          refine z_iconst dX7_endOf_99 ?_
          refine z_iload_n 2 dX7_endOf_100 rfl ?_
          refine z_imul dX7_endOf_101 ?_
          refine z_iconst dX7_endOf_102 ?_
          refine z_iadd dX7_endOf_103 ?_
          refine z_iald (r := P) dX7_endOf_104 is45 ka45 (wP) (by omega) ?_
          refine z_aload_n 0 dX7_endOf_105 rfl ?_
          refine z_iload_n 3 dX7_endOf_106 rfl ?_
          refine z_vI dX7_endOf_107 lX7_141 (by decide) ka37 io37 rfl (ct_X7_hearsAt en M T W wT wW _ (by assumption) (by assumption) (by omega)) rfl rfl (by exact Nat.le_of_ble_eq_true rfl) ?_
          refine z_aload_n 0 dX7_endOf_110 rfl ?_
          refine z_getR dX7_endOf_111 fX7_40_6 i37_13 ka37 ?_
          refine z_iload_n 1 dX7_endOf_114 rfl ?_
          refine z_iald (r := K) dX7_endOf_115 is48 ka48 (wK) (by omega) ?_
          refine z_icmp_gt (tgt := 123) dX7_endOf_116 rfl (by omega) (fun uc116 => ?_) (fun uc116 => ?_)
          ·
            refine z_iconst dX7_endOf_123 ?_
            refine z_iadd dX7_endOf_124 ?_
            refine z_istore (fun y => [(0, rf en 37), (1, vi p), (2, vi x2_24), (3, vi x3_33), (4, vi x4_93), (5, vi y)]) [1, 2, 3, 4, 5, 0] dX7_endOf_125 (by decide) (fun _ => rfl) (fun x5_125 e5_125 => ?_)
            refine z_iload 4 dX7_endOf_127 rfl ?_
            refine z_iload 5 dX7_endOf_129 rfl ?_
            refine z_icmp_le (tgt := 138) dX7_endOf_131 rfl (by omega) (fun uc131 => ?_) (fun uc131 => ?_)
            ·
              refine z_iconst dX7_endOf_138 ?_
              exact z_iret C dX7_endOf_139 rfl ⟨congrArg (fun z => some (vi z)) (by unfold enC; rw [if_neg (by omega), if_neg (by rw [← e2_24, ← e3_33]; exact fun uz => uz.elim (fun uz => by omega) (fun uz => uc58 uz)), ← e2_24, ← e3_33]; (repeat' split) <;> omega), rfl⟩
            ·
              refine z_iconst dX7_endOf_134 ?_
              refine z_goto (tgt := 139) dX7_endOf_135 rfl ?_
              exact z_iret C dX7_endOf_139 rfl ⟨congrArg (fun z => some (vi z)) (by unfold enC; rw [if_neg (by omega), if_neg (by rw [← e2_24, ← e3_33]; exact fun uz => uz.elim (fun uz => by omega) (fun uz => uc58 uz)), ← e2_24, ← e3_33]; (repeat' split) <;> omega), rfl⟩
          ·
            refine z_iconst dX7_endOf_119 ?_
            refine z_goto (tgt := 124) dX7_endOf_120 rfl ?_
            refine z_iadd dX7_endOf_124 ?_
            refine z_istore (fun y => [(0, rf en 37), (1, vi p), (2, vi x2_24), (3, vi x3_33), (4, vi x4_93), (5, vi y)]) [1, 2, 3, 4, 5, 0] dX7_endOf_125 (by decide) (fun _ => rfl) (fun x5_125 e5_125 => ?_)
            refine z_iload 4 dX7_endOf_127 rfl ?_
            refine z_iload 5 dX7_endOf_129 rfl ?_
            refine z_icmp_le (tgt := 138) dX7_endOf_131 rfl (by omega) (fun uc131 => ?_) (fun uc131 => ?_)
            ·
              refine z_iconst dX7_endOf_138 ?_
              exact z_iret C dX7_endOf_139 rfl ⟨congrArg (fun z => some (vi z)) (by unfold enC; rw [if_neg (by omega), if_neg (by rw [← e2_24, ← e3_33]; exact fun uz => uz.elim (fun uz => by omega) (fun uz => uc58 uz)), ← e2_24, ← e3_33]; (repeat' split) <;> omega), rfl⟩
            ·
              refine z_iconst dX7_endOf_134 ?_
              refine z_goto (tgt := 139) dX7_endOf_135 rfl ?_
              exact z_iret C dX7_endOf_139 rfl ⟨congrArg (fun z => some (vi z)) (by unfold enC; rw [if_neg (by omega), if_neg (by rw [← e2_24, ← e3_33]; exact fun uz => uz.elim (fun uz => by omega) (fun uz => uc58 uz)), ← e2_24, ← e3_33]; (repeat' split) <;> omega), rfl⟩
      ·
        refine z_iconst dX7_endOf_61 ?_
        exact z_iret C dX7_endOf_62 rfl ⟨congrArg (fun z => some (vi z)) (by unfold enC; rw [if_neg (by omega), if_pos (by rw [← e2_24, ← e3_33]; first | exact Or.inl (by omega) | exact Or.inr uc58)]), rfl⟩
  ·
    refine z_iconst dX7_endOf_12 ?_
    exact z_iret C dX7_endOf_13 rfl ⟨congrArg (fun z => some (vi z)) (by unfold enC; rw [if_pos (by omega)]), rfl⟩
set_option maxRecDepth 100000 in
theorem ct_X7_takes (en : zE) (M : zW) (P : Int → Int) (G : Int → Int) (wP : M 45 = P) (wG : M 50 = G) (p : Int) (hp : 0 ≤ p ∧ p < 8) (hf : 0 ≤ P (5 * p + 4) ∧ P (5 * p + 4) < 8) : Ct en kA yX7_takes mX7_takes [rf en 37, vi p] M (pV (upR M 50 (tkR P G p))) := by
  refine Ct.of (by decide +kernel) rfl [(0, rf en 37), (1, vi p)] rfl (Nat.le_of_ble_eq_true rfl) (fun cx C => ?_)
  refine z_aload_n 0 dX7_takes_0 rfl ?_
  refine z_getR dX7_takes_1 fX7_31_6 i37_10 ka37 ?_
  refine z_iconst dX7_takes_4 ?_
  refine z_iload_n 1 dX7_takes_5 rfl ?_
  refine z_imul dX7_takes_6 ?_
  refine z_iconst dX7_takes_7 ?_
  refine z_iadd dX7_takes_8 ?_
  refine z_iald (r := P) dX7_takes_9 is45 ka45 (wP) (by omega) ?_
  refine z_istore_n (fun y => [(0, rf en 37), (1, vi p), (2, vi y)]) [1, 2, 0] dX7_takes_10 (by decide) (fun _ => rfl) (fun x2_10 e2_10 => ?_)
  refine z_aload_n 0 dX7_takes_11 rfl ?_
  refine z_getR dX7_takes_12 fX7_46_6 i37_15 ka37 ?_
  refine z_iload_n 2 dX7_takes_15 rfl ?_
  refine z_iald (r := G) dX7_takes_16 is50 ka50 (wG) (by omega) ?_
  refine z_istore_n (fun y => [(0, rf en 37), (1, vi p), (2, vi x2_10), (3, vi y)]) [1, 2, 3, 0] dX7_takes_17 (by decide) (fun _ => rfl) (fun x3_17 e3_17 => ?_)
  refine z_aload_n 0 dX7_takes_18 rfl ?_
  refine z_getR dX7_takes_19 fX7_46_6 i37_15 ka37 ?_
  refine z_iload_n 2 dX7_takes_22 rfl ?_
  refine z_iconst dX7_takes_23 ?_
  refine z_iast (r := G) dX7_takes_24 is50 ka50 (wG) (by omega) (fun r50_24 f50_24 => ?_)
  refine z_aload_n 0 dX7_takes_25 rfl ?_
  refine z_getR dX7_takes_26 fX7_46_6 i37_15 ka37 ?_
  refine z_iload_n 1 dX7_takes_29 rfl ?_
  refine z_dup2_ia dX7_takes_30 ?_
  refine z_iald (r := r50_24) dX7_takes_31 is50 ka50 (rfl) (by omega) ?_
  refine z_iload_n 3 dX7_takes_32 rfl ?_
  refine z_iadd dX7_takes_33 ?_
  refine z_iast' (r := r50_24) (fun r => (upR M 50 r)) dX7_takes_34 is50 ka50 (rfl) (by omega) (fun _ => uu1) (fun r50_34 f50_34 => ?_)
  exact z_vret C dX7_takes_35 rfl ⟨rfl, by rw [f50_34, f50_24, e3_17, e2_10]; rfl⟩
