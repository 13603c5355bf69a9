/-! Chance: reckon, out -/
theorem bq_z {g : Int → Int} {S : Int} (h : 0 ≤ S ∧ S < 4096) : ¬ bq (fil (fun _ => 0) g 0 64) S := by
  unfold bq
  rw [fil_in _ _ (by omega)]
  simp
theorem p2_8 : ∀ n : Nat, n < 8 → 1 ≤ (2 : Int) ^ n ∧ (2 : Int) ^ n < 256 := by decide +kernel
theorem gOK_z (g : Int → Int) : gOK (fil (fun _ => 0) g 0 64) := fun w a b => by rw [fil_in _ _ (by omega)]; decide
theorem ad_rg {gf wt : Int → Int} {nr : Nat} (hn : nr ≤ 12) {c : Int} (hc : 0 ≤ c ∧ c ≤ 16) (hwt : ∀ k, 0 ≤ k → k ≤ (nr : Int) → wt k = wtp (16 - c) c k nr) : ∀ n : Nat, n ≤ 2 ^ nr → 0 ≤ adS gf wt n ∧ adS gf wt n ≤ 281474976710656 * n
  | 0, _ => by simp [adS]
  | n + 1, h => by
    have h4 : n < 4096 := Nat.lt_of_lt_of_le (by omega : n < 2 ^ nr) (Nat.pow_le_pow_right (n := 2) (by decide) hn)
    have h5 : pcw n ≤ nr := by
      rw [cn_pc h4]
      have := cn_hi (s := n) (n := nr) (by omega) (12 - nr)
      rw [show nr + (12 - nr) = 12 by omega] at this
      rw [this]; exact cn_le n nr
    have h1 := ad_rg (gf := gf) hn hc hwt n (by omega)
    have h2 := wgt_rg hc n nr
    have h3 := p16_rg nr (by omega)
    rw [adS, hwt _ (by omega) (by omega), wt_eq hn (by omega)]
    split <;> omega
def rkP (F G D : Int → Int) (nr c a b dl x y : Int) : Prop := ∃ (g gf wt : Int → Int) (j m : Nat), (∀ S, 0 ≤ S → S < 4096 → (bq g S ↔ trS F G D nr b 8 a dl 0 (2 ^ a.toNat) S)) ∧ gOK gf ∧ (∀ S, 0 ≤ S → S < 4096 → (bq gf S ↔ WdR g nr S)) ∧ (∀ k, 0 ≤ k → k ≤ nr → wt k = wtp (16 - c) c k nr.toNat) ∧ x * 2 ^ j = adS gf wt (2 ^ nr.toNat) ∧ y = 2 ^ m ∧ m + j = (4 * nr).toNat ∧ (x % 2 = 1 ∨ m = 0 ∨ j = 48)
theorem rk_ot {F G D T : Int → Int} (hT : tOK T) {nr : Int} (hn : 0 ≤ nr ∧ nr ≤ 12) (hR : rdOK (tR F G D) nr) {c b day x y wh : Int} (hb : 0 ≤ b ∧ b ≤ 7) (hd : 0 ≤ day ∧ day ≤ 99) (h : rkP F G D nr c (T 0) b (day - T 1 - T 2) x y) : (if wh = 0 then x else y) = otV T (tR F G D) nr.toNat c b day wh := by
  obtain ⟨g, gf, wt, j, m, h1, h2, h3, h4, h5, h6, h7, h8⟩ := h
  obtain ⟨n, rfl⟩ : ∃ n : Nat, nr = n := ⟨nr.toNat, by omega⟩
  rw [Int.toNat_natCast] at h4 h5 ⊢
  exact ot_eq (by omega) (by rw [h5]; exact ad_eq hT (by omega) hR hb hd h1 h2 h3 (fun k _ hk => h4 (k : Int) (by omega) (by omega)) _ (Nat.le_refl _)) h6 (by omega) h8
set_option maxRecDepth 100000 in
theorem ct_X0_reckon (en : zE) (M : zW) (O1 : Int → Int) (O6 : Int → Int) (F : Int → Int) (G : Int → Int) (D : Int → Int) (g : Int → Int) (wt : Int → Int) (wO1 : M 1 = O1) (wO6 : M 6 = O6) (wF : M 19 = F) (wG : M 20 = G) (wD : M 21 = D) (wg : M 35 = g) (wwt : M 36 = wt) (c : Int) (a : Int) (b : Int) (dl : Int) (hO : 0 ≤ O1 4 ∧ O1 4 ≤ 12) (hR : rdOK (tR F G D) (O1 4)) (h0 : (0 ≤ c ∧ c ≤ 16) ∧ (0 ≤ a ∧ a ≤ 7) ∧ (0 ≤ b ∧ b ≤ 7) ∧ (-1000 ≤ dl ∧ dl ≤ 1000)) : Ct en kA yX0_reckon mX0_reckon [rf en 6, vi c, vi a, vi b, vi dl] M (pN (fun N => ∃ r35 r6 r36 : Int → Int, rkP F G D (O1 4) c a b dl (r6 4) (r6 5) ∧ upR (upR (upR M 35 r35) 6 r6) 36 r36 = N)) := by
  refine Ct.of (by decide +kernel) rfl [(0, rf en 6), (1, vi c), (2, vi a), (3, vi b), (4, vi dl)] rfl (Nat.le_of_ble_eq_true rfl) (fun cx C => ?_)
  refine z_aload_n 0 dX0_reckon_0 rfl ?_
  refine z_getR dX0_reckon_1 fX0_11_0 i6_1 ka6 ?_
  refine z_lconst (v := 0) dX0_reckon_4 rfl ?_
  refine z_sV dX0_reckon_5 lX0_22 (by decide) (ct_J7_fill_d0a16_35 en M g wg (0)) rfl rfl (by exact Nat.le_of_ble_eq_true rfl) ?_
  refine z_aload_n 0 dX0_reckon_8 rfl ?_
  refine z_iload_n 3 dX0_reckon_9 rfl ?_
  refine z_putI (r := O6) 3 rfl dX0_reckon_10 pfX0_28_0 i6_3 ka6 (wO6) (fun r6_10 f6_10 => ?_)
  have ue6 : r6_10 3 = b := by rw [f6_10, up_s]
  have upa := p2_8 a.toNat (by omega)
  refine z_aload_n 0 dX0_reckon_13 rfl ?_
  refine z_iload_n 2 dX0_reckon_14 rfl ?_
  refine z_iload 4 dX0_reckon_15 rfl ?_
  refine z_iconst dX0_reckon_17 ?_
  refine z_iconst dX0_reckon_18 ?_
  refine z_iload_n 2 dX0_reckon_19 rfl ?_
  refine z_ishl dX0_reckon_20 (by omega) ?_
  rw [Int.one_mul]
  refine z_iconst dX0_reckon_21 ?_
  refine z_vN dX0_reckon_22 lX0_32 (by decide) ka6 io6 rfl (ct_X0_trace en (upR (upR M 35 (fil (fun _ => 0) g 0 64)) 6 r6_10) O1 r6_10 F G D (fil (fun _ => 0) g 0 64) wO1 rfl wF wG wD rfl _ _ (0) _ (0) hO hR (gOK_z g) (by omega) (by omega) (by omega) (by omega) (by omega) (by omega)) rfl rfl (by exact Nat.le_of_ble_eq_true rfl) (fun uN22 uh22 => ?_)
  obtain ⟨ur22, ug22a, ug22b, rfl⟩ := uh22
  rw [uu2 (a := 35) (b0 := 6) (by decide)]
  have ug : ∀ S, 0 ≤ S → S < 4096 → (bq ur22 S ↔ trS F G D (O1 4) b 8 a dl 0 (2 ^ a.toNat) S) := fun uS ua ub => (ug22b uS ua ub).trans ⟨fun uz => uz.elim (fun uy => absurd uy (bq_z ⟨ua, ub⟩)) (fun uy => by rw [ue6] at uy; exact uy), fun uy => Or.inr (by rw [ue6]; exact uy)⟩
  refine z_iconst dX0_reckon_25 ?_
  refine z_istore (fun y => [(0, rf en 6), (1, vi c), (2, vi a), (3, vi b), (4, vi dl), (5, vi y)]) [1, 2, 3, 4, 5, 0] dX0_reckon_26 (by decide) (fun _ => rfl) (fun uy uhy => ?_)
  subst uhy
  have uL28 : ∀ (fu : Nat) (x5 : Int) (r35 : Int → Int), (12 - x5).toNat < fu → (0 ≤ x5 ∧ x5 ≤ O1 4 ∧ gOK r35 ∧ (∀ S, 0 ≤ S → S < 4096 → (bq r35 S ↔ WdR ur22 x5 S))) → Z en kA cx mX0_reckon (upR (upR M 35 r35) 6 r6_10) 28 [(0, rf en 6), (1, vi c), (2, vi a), (3, vi b), (4, vi dl), (5, vi x5)] [] := by
    intro fu
    induction fu with
    | zero => intro x5 r35 uhf; exact absurd uhf (Nat.not_lt_zero _)
    | succ fu uih28 =>
      intro x5 r35 uf28 uI28
      obtain ⟨uq1, uq2, uq3, uq4⟩ := uI28
      refine z_iload 5 dX0_reckon_28 rfl ?_
      refine z_aload_n 0 dX0_reckon_30 rfl ?_
      refine z_getR dX0_reckon_31 fX0_18_0 i6_0 ka6 ?_
      refine z_getI (r := O1) 4 rfl dX0_reckon_34 fX0_36_3 i1_4 ka1 (wO1) ?_
      refine z_icmp_ge (tgt := 52) dX0_reckon_37 rfl (by omega) (fun uc37 => ?_) (fun uc37 => ?_)
      ·
        refine z_aload_n 0 dX0_reckon_52 rfl ?_
        refine z_iload_n 1 dX0_reckon_53 rfl ?_
        refine z_vN dX0_reckon_54 lX0_45 (by decide) ka6 io6 rfl (ct_X0_weigh en (upR (upR M 35 r35) 6 r6_10) O1 wt wO1 wwt _ (by omega) (by omega)) rfl rfl (by exact Nat.le_of_ble_eq_true rfl) (fun uN54 uh54 => ?_)
        obtain ⟨ur54, ug54a, rfl⟩ := uh54
        refine z_aload_n 0 dX0_reckon_57 rfl ?_
        refine z_vN dX0_reckon_58 lX0_48 (by decide) ka6 io6 rfl (ct_X0_addUp en (upR (upR (upR M 35 r35) 6 r6_10) 36 ur54) O1 r6_10 r35 ur54 wO1 rfl rfl rfl (by omega) (by assumption)) rfl rfl (by exact Nat.le_of_ble_eq_true rfl) (fun uN58 uh58 => ?_)
        obtain ⟨ur58, ug58a, ug58b, ug58c, rfl⟩ := uh58
        rw [uu2 (a := 6) (b0 := 36) (by decide)]
        have uad := ad_rg (gf := r35) (nr := (O1 4).toNat) (by omega) h0.1 (fun uk ua ub => ug54a uk ua (by omega)) (2 ^ (O1 4).toNat) (Nat.le_refl _)
        have up2 := p2_rg (O1 4).toNat (by omega)
        rw [show ((2 ^ (O1 4).toNat : Nat) : Int) = 2 ^ (O1 4).toNat by simp] at uad
        refine z_aload_n 0 dX0_reckon_61 rfl ?_
        refine z_vN dX0_reckon_62 lX0_51 (by decide) ka6 io6 rfl (ct_X0_lower en (upR (upR (upR M 35 r35) 6 ur58) 36 ur54) (4 * O1 4).toNat ur58 rfl (by omega) ug58b (by rw [ug58a]; omega)) rfl rfl (by exact Nat.le_of_ble_eq_true rfl) (fun uN62 uh62 => ?_)
        obtain ⟨ur62, uj62, um62, ug62a, ug62b, ug62c, ug62d, ug62e, ug62f, rfl⟩ := uh62
        rw [uu2 (a := 6) (b0 := 36) (by decide)]
        exact z_vret C dX0_reckon_65 rfl ⟨rfl, ⟨r35, ur62, ur54, ⟨ur22, r35, ur54, uj62, um62, ug, uq3, fun uS ua ub => by rw [uq4 uS ua ub, show x5 = O1 4 by omega], ug54a, ug62a.trans ug58a, ug62b, ug62c, ug62d⟩, rfl⟩⟩
      ·
        refine z_aload_n 0 dX0_reckon_40 rfl ?_
        refine z_iload 5 dX0_reckon_41 rfl ?_
        refine z_vN dX0_reckon_43 lX0_41 (by decide) ka6 io6 rfl (ct_X0_widen en (upR (upR M 35 r35) 6 r6_10) r35 rfl _ (by omega) (by assumption)) rfl rfl (by exact Nat.le_of_ble_eq_true rfl) (fun uN43 uh43 => ?_)
        obtain ⟨ur43, ug43a, ug43b, rfl⟩ := uh43
        rw [uu2 (a := 35) (b0 := 6) (by decide)]
        refine z_iinc (fun y => [(0, rf en 6), (1, vi c), (2, vi a), (3, vi b), (4, vi dl), (5, vi y)]) [1, 2, 3, 4, 5, 0] 5 dX0_reckon_46 rfl (by decide) (fun _ => rfl) (fun x5_46 e5_46 => ?_)
        refine z_goto (tgt := 28) dX0_reckon_49 rfl ?_
        exact uih28 x5_46 ur43 (by omega) (⟨by omega, by omega, ug43a, fun uS ua ub => wd_s (by omega) e5_46 uq4 ug43b ua ub⟩)
  exact uL28 _ 0 ur22 (Nat.lt_succ_self _) (⟨by omega, by omega, ug22a, fun uS ua ub => wd_0 ⟨ua, ub⟩⟩)
set_option maxRecDepth 100000 in
theorem ct_X6_out (en : zE) (M : zW) (O1 : Int → Int) (T : Int → Int) (O6 : Int → Int) (F : Int → Int) (G : Int → Int) (D : Int → Int) (g : Int → Int) (wt : Int → Int) (wO1 : M 1 = O1) (wT : M 3 = T) (wO6 : M 6 = O6) (wF : M 19 = F) (wG : M 20 = G) (wD : M 21 = D) (wg : M 35 = g) (wwt : M 36 = wt) (c : Int) (tw : Int) (dy : Int) (wh : Int) (h0 : -2147483648 ≤ c ∧ c < 2147483648 ∧ -2147483648 ≤ tw ∧ tw < 2147483648 ∧ -2147483648 ≤ dy ∧ dy < 2147483648 ∧ -2147483648 ≤ wh ∧ wh < 2147483648) (hO : 0 ≤ O1 4 ∧ O1 4 ≤ 12) (hR : rdOK (tR F G D) (O1 4)) (hT : tOK T) : Ct en kA yX6_out mX6_out [rf en 0, vi c, vi tw, vi dy, vi wh] M (pY (fun x N => x = (if (0 ≤ c ∧ c ≤ 16) ∧ (0 ≤ tw ∧ tw ≤ 7) ∧ (0 ≤ dy ∧ dy ≤ 99) ∧ (0 ≤ wh ∧ wh ≤ 1) then otV T (tR F G D) (O1 4).toNat c tw dy wh else -9223372036854775806) ∧ kc M N)) := by
  refine Ct.of (by decide +kernel) rfl [(0, rf en 0), (1, vi c), (2, vi tw), (3, vi dy), (4, vi wh)] rfl (Nat.le_of_ble_eq_true rfl) (fun cx C => ?_)
  refine z_iload_n 1 dX6_out_0 rfl ?_
  refine z_bipush dX6_out_1 rfl ?_
  refine z_sI dX6_out_3 lX6_68 (by decide) (ct_X6_within en M _ (16) (by omega)) rfl rfl (by exact Nat.le_of_ble_eq_true rfl) ?_
  refine z_ifeq_b (tgt := 34) dX6_out_6 rfl (fun uc6 => ?_) (fun uc6 => ?_)
  ·
    refine z_ldc2 (n := -9223372036854775806) dX6_out_34 kX6_202 rfl ?_
    exact z_lret C dX6_out_37 rfl ⟨_, rfl, ⟨(if_neg (by omega)).symm, (kc_r M)⟩⟩
  ·
    refine z_iload_n 2 dX6_out_9 rfl ?_
    refine z_sI dX6_out_10 lX6_119 (by decide) (ct_X6_isTown en M _ (by omega)) rfl rfl (by exact Nat.le_of_ble_eq_true rfl) ?_
    refine z_ifeq_b (tgt := 34) dX6_out_13 rfl (fun uc13 => ?_) (fun uc13 => ?_)
    ·
      refine z_ldc2 (n := -9223372036854775806) dX6_out_34 kX6_202 rfl ?_
      exact z_lret C dX6_out_37 rfl ⟨_, rfl, ⟨(if_neg (by omega)).symm, (kc_r M)⟩⟩
    ·
      refine z_iload_n 3 dX6_out_16 rfl ?_
      refine z_bipush dX6_out_17 rfl ?_
      refine z_sI dX6_out_19 lX6_68 (by decide) (ct_X6_within en M _ (99) (by omega)) rfl rfl (by exact Nat.le_of_ble_eq_true rfl) ?_
      refine z_ifeq_b (tgt := 34) dX6_out_22 rfl (fun uc22 => ?_) (fun uc22 => ?_)
      ·
        refine z_ldc2 (n := -9223372036854775806) dX6_out_34 kX6_202 rfl ?_
        exact z_lret C dX6_out_37 rfl ⟨_, rfl, ⟨(if_neg (by omega)).symm, (kc_r M)⟩⟩
      ·
        refine z_iload 4 dX6_out_25 rfl ?_
        refine z_iconst dX6_out_27 ?_
        refine z_sI dX6_out_28 lX6_68 (by decide) (ct_X6_within en M _ (1) (by omega)) rfl rfl (by exact Nat.le_of_ble_eq_true rfl) ?_
        refine z_ifne_b (tgt := 38) dX6_out_31 rfl (fun uc31 => ?_) (fun uc31 => ?_)
        ·
          refine z_aload_n 0 dX6_out_38 rfl ?_
          refine z_getR dX6_out_39 fX6_47_5 i0_5 ka0 ?_
          refine z_iload_n 1 dX6_out_42 rfl ?_
          refine z_aload_n 0 dX6_out_43 rfl ?_
          refine z_getR dX6_out_44 fX6_27_5 i0_2 ka0 ?_
          refine z_iconst dX6_out_47 ?_
          refine z_iald (r := T) dX6_out_48 is3 ka3 (wT) (by omega) ?_
          refine z_iload_n 2 dX6_out_49 rfl ?_
          refine z_iload_n 3 dX6_out_50 rfl ?_
          refine z_aload_n 0 dX6_out_51 rfl ?_
          refine z_getR dX6_out_52 fX6_27_5 i0_2 ka0 ?_
          refine z_iconst dX6_out_55 ?_
          refine z_iald (r := T) dX6_out_56 is3 ka3 (wT) (by omega) ?_
          refine z_isub dX6_out_57 ?_
          refine z_aload_n 0 dX6_out_58 rfl ?_
          refine z_getR dX6_out_59 fX6_27_5 i0_2 ka0 ?_
          refine z_iconst dX6_out_62 ?_
          refine z_iald (r := T) dX6_out_63 is3 ka3 (wT) (by omega) ?_
          refine z_isub dX6_out_64 ?_
          refine z_vN dX6_out_65 lX6_204 (by decide) ka6 io6 rfl (ct_X0_reckon en M O1 O6 F G D g wt wO1 wO6 wF wG wD wg wwt _ _ _ _ (by assumption) (by assumption) (by omega)) rfl rfl (by exact Nat.le_of_ble_eq_true rfl) (fun uN65 uh65 => ?_)
          obtain ⟨r35_65, r6_65, r36_65, urk, rfl⟩ := uh65
          refine z_iload 4 dX6_out_68 rfl ?_
          refine z_if_ne (tgt := 83) dX6_out_70 rfl (by omega) (fun uc70 => ?_) (fun uc70 => ?_)
          ·
            refine z_aload_n 0 dX6_out_83 rfl ?_
            refine z_getR dX6_out_84 fX6_47_5 i0_5 ka0 ?_
            refine z_getJ (r := r6_65) 5 rfl dX6_out_87 fX6_212_0 i6_5 ka6 (rfl) ?_
            exact z_lret C dX6_out_90 rfl ⟨_, rfl, ⟨by refine Eq.trans ?_ (if_pos (show (0 ≤ c ∧ c ≤ 16) ∧ (0 ≤ tw ∧ tw ≤ 7) ∧ (0 ≤ dy ∧ dy ≤ 99) ∧ (0 ≤ wh ∧ wh ≤ 1) by omega)).symm; refine Eq.trans ?_ (rk_ot (wh := wh) hT hO hR (by omega) (by omega) urk); exact (if_neg uc70).symm, (kc_u (by decide) (kc_u (by decide) (kc_u (by decide) (kc_r M))))⟩⟩
          ·
            refine z_aload_n 0 dX6_out_73 rfl ?_
            refine z_getR dX6_out_74 fX6_47_5 i0_5 ka0 ?_
            refine z_getJ (r := r6_65) 4 rfl dX6_out_77 fX6_208_0 i6_4 ka6 (rfl) ?_
            refine z_goto (tgt := 90) dX6_out_80 rfl ?_
            exact z_lret C dX6_out_90 rfl ⟨_, rfl, ⟨by refine Eq.trans ?_ (if_pos (show (0 ≤ c ∧ c ≤ 16) ∧ (0 ≤ tw ∧ tw ≤ 7) ∧ (0 ≤ dy ∧ dy ≤ 99) ∧ (0 ≤ wh ∧ wh ≤ 1) by omega)).symm; refine Eq.trans ?_ (rk_ot (wh := wh) hT hO hR (by omega) (by omega) urk); exact (if_pos uc70).symm, (kc_u (by decide) (kc_u (by decide) (kc_u (by decide) (kc_r M))))⟩⟩
        ·
          refine z_ldc2 (n := -9223372036854775806) dX6_out_34 kX6_202 rfl ?_
          exact z_lret C dX6_out_37 rfl ⟨_, rfl, ⟨(if_neg (by omega)).symm, (kc_r M)⟩⟩
