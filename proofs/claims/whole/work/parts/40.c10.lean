/-! sheets -/
set_option maxRecDepth 100000 in
theorem ct_X6_refusalOfItem (en : zE) (M : zW) (O0 : Int → Int) (S0 : Int → Int) (S1 : Int → Int) (S2 : Int → Int) (S3 : Int → Int) (I0 : Int → Int) (I1 : Int → Int) (I2 : Int → Int) (I3 : Int → Int) (wO0 : M 0 = O0) (wS0 : M 10 = S0) (wS1 : M 11 = S1) (wS2 : M 12 = S2) (wS3 : M 13 = S3) (wI0 : M 14 = I0) (wI1 : M 15 = I1) (wI2 : M 16 = I2) (wI3 : M 17 = I3) (s : Int) (f : Int) (i : Int) (h0 : -2147483648 ≤ s ∧ s < 2147483648 ∧ -2147483648 ≤ f ∧ f < 2147483648 ∧ -2147483648 ≤ i ∧ i < 2147483648) (hS : ((-1 ≤ S0 0 ∧ S0 0 ≤ 2) ∧ (0 ≤ S0 1 ∧ S0 1 ≤ 60)) ∧ ((-1 ≤ S1 0 ∧ S1 0 ≤ 2) ∧ (0 ≤ S1 1 ∧ S1 1 ≤ 60)) ∧ ((-1 ≤ S2 0 ∧ S2 0 ≤ 2) ∧ (0 ≤ S2 1 ∧ S2 1 ≤ 60)) ∧ ((-1 ≤ S3 0 ∧ S3 0 ≤ 2) ∧ (0 ≤ S3 1 ∧ S3 1 ≤ 60))) : Ct en kA yX6_refusalOfItem mX6_refusalOfItem [rf en 0, vi s, vi f, vi i] M (pX (fun x N => (¬ ((0 ≤ s ∧ s ≤ 3) ∧ (0 ≤ f ∧ f ≤ 2)) ∧ x = -2 ∧ M = N) ∨ ((((0 ≤ s ∧ s ≤ 3) ∧ (0 ≤ f ∧ f ≤ 2)) ∧ M (10 + s.toNat) 0 = -1) ∧ x = -11 ∧ upR M 0 (up O0 10 1) = N) ∨ ((((0 ≤ s ∧ s ≤ 3) ∧ (0 ≤ f ∧ f ≤ 2)) ∧ M (10 + s.toNat) 0 ≠ -1 ∧ M (10 + s.toNat) 0 ≠ f) ∧ x = -13 ∧ upR M 0 (up O0 10 3) = N) ∨ ((((0 ≤ s ∧ s ≤ 3) ∧ (0 ≤ f ∧ f ≤ 2)) ∧ M (10 + s.toNat) 0 = f ∧ ¬ (0 ≤ i ∧ i + 1 ≤ M (10 + s.toNat) 1)) ∧ x = -12 ∧ upR M 0 (up O0 10 2) = N) ∨ ((((0 ≤ s ∧ s ≤ 3) ∧ (0 ≤ f ∧ f ≤ 2)) ∧ M (10 + s.toNat) 0 = f ∧ (0 ≤ i ∧ i + 1 ≤ M (10 + s.toNat) 1)) ∧ x = 0 ∧ M = N))) := by
  refine Ct.of (by decide +kernel) rfl [(0, rf en 0), (1, vi s), (2, vi f), (3, vi i)] rfl (Nat.le_of_ble_eq_true rfl) (fun cx C => ?_)
  refine z_iload_n 1 dX6_refusalOfItem_0 rfl ?_
  refine z_sI dX6_refusalOfItem_1 lX6_183 (by decide) (ct_X6_isSheet en M _ (by omega)) rfl rfl (by exact Nat.le_of_ble_eq_true rfl) ?_
  refine z_ifeq_b (tgt := 14) dX6_refusalOfItem_4 rfl (fun uc4 => ?_) (fun uc4 => ?_)
  ·
    refine z_bipush dX6_refusalOfItem_14 rfl ?_
    exact z_iret C dX6_refusalOfItem_16 rfl ⟨_, rfl, Or.inl ⟨by omega, rfl, rfl⟩⟩
  ·
    refine z_iload_n 2 dX6_refusalOfItem_7 rfl ?_
    refine z_sI dX6_refusalOfItem_8 lX6_232 (by decide) (ct_X6_isForm en M _ (by omega)) rfl rfl (by exact Nat.le_of_ble_eq_true rfl) ?_
    refine z_ifne_b (tgt := 17) dX6_refusalOfItem_11 rfl (fun uc11 => ?_) (fun uc11 => ?_)
    ·
      refine z_aload_n 0 dX6_refusalOfItem_17 rfl ?_
      refine z_getR dX6_refusalOfItem_18 fX6_59_5 i0_9 ka0 ?_
      refine z_iload_n 1 dX6_refusalOfItem_21 rfl ?_
      have ush_s : s = 0 ∨ s = 1 ∨ s = 2 ∨ s = 3 := by omega
      rcases ush_s with ush_s | ush_s | ush_s | ush_s
      ·
        have ux_s : M (10 + s.toNat) = S0 := by rw [show s.toNat = 0 by omega]; exact wS0
        have uy_s : M (14 + s.toNat) = I0 := by rw [show s.toNat = 0 by omega]; exact wI0
        have uz_s : s.toNat = 0 := by omega
        refine z_aald 0 dX6_refusalOfItem_22 ka9 (by omega) (by decide) ?_
        refine z_vI dX6_refusalOfItem_23 lX6_186 (by decide) ka10 io10 rfl (ct_X4_isLost_10 en M S0 wS0 (by omega)) rfl rfl (by exact Nat.le_of_ble_eq_true rfl) ?_
        refine z_ifeq_b (tgt := 35) dX6_refusalOfItem_26 rfl (fun uc26 => ?_) (fun uc26 => ?_)
        ·
          refine z_aload_n 0 dX6_refusalOfItem_35 rfl ?_
          refine z_getR dX6_refusalOfItem_36 fX6_59_5 i0_9 ka0 ?_
          refine z_iload_n 1 dX6_refusalOfItem_39 rfl ?_
          refine z_aald 0 dX6_refusalOfItem_40 ka9 (by omega) (by decide) ?_
          refine z_getI (r := S0) 0 rfl dX6_refusalOfItem_41 fX6_246_4 i10_0 ka10 (wS0) ?_
          refine z_iload_n 2 dX6_refusalOfItem_44 rfl ?_
          refine z_icmp_eq (tgt := 54) dX6_refusalOfItem_45 rfl (by omega) (fun uc45 => ?_) (fun uc45 => ?_)
          ·
            refine z_aload_n 0 dX6_refusalOfItem_54 rfl ?_
            refine z_getR dX6_refusalOfItem_55 fX6_59_5 i0_9 ka0 ?_
            refine z_iload_n 1 dX6_refusalOfItem_58 rfl ?_
            refine z_aald 0 dX6_refusalOfItem_59 ka9 (by omega) (by decide) ?_
            refine z_iload_n 3 dX6_refusalOfItem_60 rfl ?_
            refine z_iconst dX6_refusalOfItem_61 ?_
            refine z_vI dX6_refusalOfItem_62 lX6_249 (by decide) ka10 io10 rfl (ct_X4_holds_10 en M S0 wS0 _ (1) (by omega) (by omega)) rfl rfl (by exact Nat.le_of_ble_eq_true rfl) ?_
            refine z_ifeq_b (tgt := 72) dX6_refusalOfItem_65 rfl (fun uc65 => ?_) (fun uc65 => ?_)
            ·
              refine z_aload_n 0 dX6_refusalOfItem_72 rfl ?_
              refine z_iconst dX6_refusalOfItem_73 ?_
              refine z_vI dX6_refusalOfItem_74 lX6_190 (by decide) ka0 io0 rfl (ct_X6_found en M O0 wO0 (2)) rfl rfl (by exact Nat.le_of_ble_eq_true rfl) ?_
              exact z_iret C dX6_refusalOfItem_77 rfl ⟨_, rfl, Or.inr (Or.inr (Or.inr (Or.inl ⟨⟨by omega, by rw [ux_s]; exact uc45, by rw [ux_s]; omega⟩, rfl, rfl⟩)))⟩
            ·
              refine z_iconst dX6_refusalOfItem_68 ?_
              refine z_goto (tgt := 77) dX6_refusalOfItem_69 rfl ?_
              exact z_iret C dX6_refusalOfItem_77 rfl ⟨_, rfl, Or.inr (Or.inr (Or.inr (Or.inr (⟨⟨by omega, by rw [ux_s]; exact uc45, by rw [ux_s]; omega⟩, rfl, rfl⟩))))⟩
          ·
            refine z_aload_n 0 dX6_refusalOfItem_48 rfl ?_
            refine z_iconst dX6_refusalOfItem_49 ?_
            refine z_vI dX6_refusalOfItem_50 lX6_190 (by decide) ka0 io0 rfl (ct_X6_found en M O0 wO0 (3)) rfl rfl (by exact Nat.le_of_ble_eq_true rfl) ?_
            exact z_iret C dX6_refusalOfItem_53 rfl ⟨_, rfl, Or.inr (Or.inr (Or.inl ⟨⟨by omega, by rw [ux_s]; exact uc26, by rw [ux_s]; exact uc45⟩, rfl, rfl⟩))⟩
        ·
          refine z_aload_n 0 dX6_refusalOfItem_29 rfl ?_
          refine z_iconst dX6_refusalOfItem_30 ?_
          refine z_vI dX6_refusalOfItem_31 lX6_190 (by decide) ka0 io0 rfl (ct_X6_found en M O0 wO0 (1)) rfl rfl (by exact Nat.le_of_ble_eq_true rfl) ?_
          exact z_iret C dX6_refusalOfItem_34 rfl ⟨_, rfl, Or.inr (Or.inl ⟨⟨by omega, by rw [ux_s]; exact uc26⟩, rfl, rfl⟩)⟩
      ·
        have ux_s : M (10 + s.toNat) = S1 := by rw [show s.toNat = 1 by omega]; exact wS1
        have uy_s : M (14 + s.toNat) = I1 := by rw [show s.toNat = 1 by omega]; exact wI1
        have uz_s : s.toNat = 1 := by omega
        refine z_aald 1 dX6_refusalOfItem_22 ka9 (by omega) (by decide) ?_
        refine z_vI dX6_refusalOfItem_23 lX6_186 (by decide) ka11 io11 rfl (ct_X4_isLost_11 en M S1 wS1 (by omega)) rfl rfl (by exact Nat.le_of_ble_eq_true rfl) ?_
        refine z_ifeq_b (tgt := 35) dX6_refusalOfItem_26 rfl (fun uc26 => ?_) (fun uc26 => ?_)
        ·
          refine z_aload_n 0 dX6_refusalOfItem_35 rfl ?_
          refine z_getR dX6_refusalOfItem_36 fX6_59_5 i0_9 ka0 ?_
          refine z_iload_n 1 dX6_refusalOfItem_39 rfl ?_
          refine z_aald 1 dX6_refusalOfItem_40 ka9 (by omega) (by decide) ?_
          refine z_getI (r := S1) 0 rfl dX6_refusalOfItem_41 fX6_246_4 i11_0 ka11 (wS1) ?_
          refine z_iload_n 2 dX6_refusalOfItem_44 rfl ?_
          refine z_icmp_eq (tgt := 54) dX6_refusalOfItem_45 rfl (by omega) (fun uc45 => ?_) (fun uc45 => ?_)
          ·
            refine z_aload_n 0 dX6_refusalOfItem_54 rfl ?_
            refine z_getR dX6_refusalOfItem_55 fX6_59_5 i0_9 ka0 ?_
            refine z_iload_n 1 dX6_refusalOfItem_58 rfl ?_
            refine z_aald 1 dX6_refusalOfItem_59 ka9 (by omega) (by decide) ?_
            refine z_iload_n 3 dX6_refusalOfItem_60 rfl ?_
            refine z_iconst dX6_refusalOfItem_61 ?_
            refine z_vI dX6_refusalOfItem_62 lX6_249 (by decide) ka11 io11 rfl (ct_X4_holds_11 en M S1 wS1 _ (1) (by omega) (by omega)) rfl rfl (by exact Nat.le_of_ble_eq_true rfl) ?_
            refine z_ifeq_b (tgt := 72) dX6_refusalOfItem_65 rfl (fun uc65 => ?_) (fun uc65 => ?_)
            ·
              refine z_aload_n 0 dX6_refusalOfItem_72 rfl ?_
              refine z_iconst dX6_refusalOfItem_73 ?_
              refine z_vI dX6_refusalOfItem_74 lX6_190 (by decide) ka0 io0 rfl (ct_X6_found en M O0 wO0 (2)) rfl rfl (by exact Nat.le_of_ble_eq_true rfl) ?_
              exact z_iret C dX6_refusalOfItem_77 rfl ⟨_, rfl, Or.inr (Or.inr (Or.inr (Or.inl ⟨⟨by omega, by rw [ux_s]; exact uc45, by rw [ux_s]; omega⟩, rfl, rfl⟩)))⟩
            ·
              refine z_iconst dX6_refusalOfItem_68 ?_
              refine z_goto (tgt := 77) dX6_refusalOfItem_69 rfl ?_
              exact z_iret C dX6_refusalOfItem_77 rfl ⟨_, rfl, Or.inr (Or.inr (Or.inr (Or.inr (⟨⟨by omega, by rw [ux_s]; exact uc45, by rw [ux_s]; omega⟩, rfl, rfl⟩))))⟩
          ·
            refine z_aload_n 0 dX6_refusalOfItem_48 rfl ?_
            refine z_iconst dX6_refusalOfItem_49 ?_
            refine z_vI dX6_refusalOfItem_50 lX6_190 (by decide) ka0 io0 rfl (ct_X6_found en M O0 wO0 (3)) rfl rfl (by exact Nat.le_of_ble_eq_true rfl) ?_
            exact z_iret C dX6_refusalOfItem_53 rfl ⟨_, rfl, Or.inr (Or.inr (Or.inl ⟨⟨by omega, by rw [ux_s]; exact uc26, by rw [ux_s]; exact uc45⟩, rfl, rfl⟩))⟩
        ·
          refine z_aload_n 0 dX6_refusalOfItem_29 rfl ?_
          refine z_iconst dX6_refusalOfItem_30 ?_
          refine z_vI dX6_refusalOfItem_31 lX6_190 (by decide) ka0 io0 rfl (ct_X6_found en M O0 wO0 (1)) rfl rfl (by exact Nat.le_of_ble_eq_true rfl) ?_
          exact z_iret C dX6_refusalOfItem_34 rfl ⟨_, rfl, Or.inr (Or.inl ⟨⟨by omega, by rw [ux_s]; exact uc26⟩, rfl, rfl⟩)⟩
      ·
        have ux_s : M (10 + s.toNat) = S2 := by rw [show s.toNat = 2 by omega]; exact wS2
        have uy_s : M (14 + s.toNat) = I2 := by rw [show s.toNat = 2 by omega]; exact wI2
        have uz_s : s.toNat = 2 := by omega
        refine z_aald 2 dX6_refusalOfItem_22 ka9 (by omega) (by decide) ?_
        refine z_vI dX6_refusalOfItem_23 lX6_186 (by decide) ka12 io12 rfl (ct_X4_isLost_12 en M S2 wS2 (by omega)) rfl rfl (by exact Nat.le_of_ble_eq_true rfl) ?_
        refine z_ifeq_b (tgt := 35) dX6_refusalOfItem_26 rfl (fun uc26 => ?_) (fun uc26 => ?_)
        ·
          refine z_aload_n 0 dX6_refusalOfItem_35 rfl ?_
          refine z_getR dX6_refusalOfItem_36 fX6_59_5 i0_9 ka0 ?_
          refine z_iload_n 1 dX6_refusalOfItem_39 rfl ?_
          refine z_aald 2 dX6_refusalOfItem_40 ka9 (by omega) (by decide) ?_
          refine z_getI (r := S2) 0 rfl dX6_refusalOfItem_41 fX6_246_4 i12_0 ka12 (wS2) ?_
          refine z_iload_n 2 dX6_refusalOfItem_44 rfl ?_
          refine z_icmp_eq (tgt := 54) dX6_refusalOfItem_45 rfl (by omega) (fun uc45 => ?_) (fun uc45 => ?_)
          ·
            refine z_aload_n 0 dX6_refusalOfItem_54 rfl ?_
            refine z_getR dX6_refusalOfItem_55 fX6_59_5 i0_9 ka0 ?_
            refine z_iload_n 1 dX6_refusalOfItem_58 rfl ?_
            refine z_aald 2 dX6_refusalOfItem_59 ka9 (by omega) (by decide) ?_
            refine z_iload_n 3 dX6_refusalOfItem_60 rfl ?_
            refine z_iconst dX6_refusalOfItem_61 ?_
            refine z_vI dX6_refusalOfItem_62 lX6_249 (by decide) ka12 io12 rfl (ct_X4_holds_12 en M S2 wS2 _ (1) (by omega) (by omega)) rfl rfl (by exact Nat.le_of_ble_eq_true rfl) ?_
            refine z_ifeq_b (tgt := 72) dX6_refusalOfItem_65 rfl (fun uc65 => ?_) (fun uc65 => ?_)
            ·
              refine z_aload_n 0 dX6_refusalOfItem_72 rfl ?_
              refine z_iconst dX6_refusalOfItem_73 ?_
              refine z_vI dX6_refusalOfItem_74 lX6_190 (by decide) ka0 io0 rfl (ct_X6_found en M O0 wO0 (2)) rfl rfl (by exact Nat.le_of_ble_eq_true rfl) ?_
              exact z_iret C dX6_refusalOfItem_77 rfl ⟨_, rfl, Or.inr (Or.inr (Or.inr (Or.inl ⟨⟨by omega, by rw [ux_s]; exact uc45, by rw [ux_s]; omega⟩, rfl, rfl⟩)))⟩
            ·
              refine z_iconst dX6_refusalOfItem_68 ?_
              refine z_goto (tgt := 77) dX6_refusalOfItem_69 rfl ?_
              exact z_iret C dX6_refusalOfItem_77 rfl ⟨_, rfl, Or.inr (Or.inr (Or.inr (Or.inr (⟨⟨by omega, by rw [ux_s]; exact uc45, by rw [ux_s]; omega⟩, rfl, rfl⟩))))⟩
          ·
            refine z_aload_n 0 dX6_refusalOfItem_48 rfl ?_
            refine z_iconst dX6_refusalOfItem_49 ?_
            refine z_vI dX6_refusalOfItem_50 lX6_190 (by decide) ka0 io0 rfl (ct_X6_found en M O0 wO0 (3)) rfl rfl (by exact Nat.le_of_ble_eq_true rfl) ?_
            exact z_iret C dX6_refusalOfItem_53 rfl ⟨_, rfl, Or.inr (Or.inr (Or.inl ⟨⟨by omega, by rw [ux_s]; exact uc26, by rw [ux_s]; exact uc45⟩, rfl, rfl⟩))⟩
        ·
          refine z_aload_n 0 dX6_refusalOfItem_29 rfl ?_
          refine z_iconst dX6_refusalOfItem_30 ?_
          refine z_vI dX6_refusalOfItem_31 lX6_190 (by decide) ka0 io0 rfl (ct_X6_found en M O0 wO0 (1)) rfl rfl (by exact Nat.le_of_ble_eq_true rfl) ?_
          exact z_iret C dX6_refusalOfItem_34 rfl ⟨_, rfl, Or.inr (Or.inl ⟨⟨by omega, by rw [ux_s]; exact uc26⟩, rfl, rfl⟩)⟩
      ·
        have ux_s : M (10 + s.toNat) = S3 := by rw [show s.toNat = 3 by omega]; exact wS3
        have uy_s : M (14 + s.toNat) = I3 := by rw [show s.toNat = 3 by omega]; exact wI3
        have uz_s : s.toNat = 3 := by omega
        refine z_aald 3 dX6_refusalOfItem_22 ka9 (by omega) (by decide) ?_
        refine z_vI dX6_refusalOfItem_23 lX6_186 (by decide) ka13 io13 rfl (ct_X4_isLost_13 en M S3 wS3 (by omega)) rfl rfl (by exact Nat.le_of_ble_eq_true rfl) ?_
        refine z_ifeq_b (tgt := 35) dX6_refusalOfItem_26 rfl (fun uc26 => ?_) (fun uc26 => ?_)
        ·
          refine z_aload_n 0 dX6_refusalOfItem_35 rfl ?_
          refine z_getR dX6_refusalOfItem_36 fX6_59_5 i0_9 ka0 ?_
          refine z_iload_n 1 dX6_refusalOfItem_39 rfl ?_
          refine z_aald 3 dX6_refusalOfItem_40 ka9 (by omega) (by decide) ?_
          refine z_getI (r := S3) 0 rfl dX6_refusalOfItem_41 fX6_246_4 i13_0 ka13 (wS3) ?_
          refine z_iload_n 2 dX6_refusalOfItem_44 rfl ?_
          refine z_icmp_eq (tgt := 54) dX6_refusalOfItem_45 rfl (by omega) (fun uc45 => ?_) (fun uc45 => ?_)
          ·
            refine z_aload_n 0 dX6_refusalOfItem_54 rfl ?_
            refine z_getR dX6_refusalOfItem_55 fX6_59_5 i0_9 ka0 ?_
            refine z_iload_n 1 dX6_refusalOfItem_58 rfl ?_
            refine z_aald 3 dX6_refusalOfItem_59 ka9 (by omega) (by decide) ?_
            refine z_iload_n 3 dX6_refusalOfItem_60 rfl ?_
            refine z_iconst dX6_refusalOfItem_61 ?_
            refine z_vI dX6_refusalOfItem_62 lX6_249 (by decide) ka13 io13 rfl (ct_X4_holds_13 en M S3 wS3 _ (1) (by omega) (by omega)) rfl rfl (by exact Nat.le_of_ble_eq_true rfl) ?_
            refine z_ifeq_b (tgt := 72) dX6_refusalOfItem_65 rfl (fun uc65 => ?_) (fun uc65 => ?_)
            ·
              refine z_aload_n 0 dX6_refusalOfItem_72 rfl ?_
              refine z_iconst dX6_refusalOfItem_73 ?_
              refine z_vI dX6_refusalOfItem_74 lX6_190 (by decide) ka0 io0 rfl (ct_X6_found en M O0 wO0 (2)) rfl rfl (by exact Nat.le_of_ble_eq_true rfl) ?_
              exact z_iret C dX6_refusalOfItem_77 rfl ⟨_, rfl, Or.inr (Or.inr (Or.inr (Or.inl ⟨⟨by omega, by rw [ux_s]; exact uc45, by rw [ux_s]; omega⟩, rfl, rfl⟩)))⟩
            ·
              refine z_iconst dX6_refusalOfItem_68 ?_
              refine z_goto (tgt := 77) dX6_refusalOfItem_69 rfl ?_
              exact z_iret C dX6_refusalOfItem_77 rfl ⟨_, rfl, Or.inr (Or.inr (Or.inr (Or.inr (⟨⟨by omega, by rw [ux_s]; exact uc45, by rw [ux_s]; omega⟩, rfl, rfl⟩))))⟩
          ·
            refine z_aload_n 0 dX6_refusalOfItem_48 rfl ?_
            refine z_iconst dX6_refusalOfItem_49 ?_
            refine z_vI dX6_refusalOfItem_50 lX6_190 (by decide) ka0 io0 rfl (ct_X6_found en M O0 wO0 (3)) rfl rfl (by exact Nat.le_of_ble_eq_true rfl) ?_
            exact z_iret C dX6_refusalOfItem_53 rfl ⟨_, rfl, Or.inr (Or.inr (Or.inl ⟨⟨by omega, by rw [ux_s]; exact uc26, by rw [ux_s]; exact uc45⟩, rfl, rfl⟩))⟩
        ·
          refine z_aload_n 0 dX6_refusalOfItem_29 rfl ?_
          refine z_iconst dX6_refusalOfItem_30 ?_
          refine z_vI dX6_refusalOfItem_31 lX6_190 (by decide) ka0 io0 rfl (ct_X6_found en M O0 wO0 (1)) rfl rfl (by exact Nat.le_of_ble_eq_true rfl) ?_
          exact z_iret C dX6_refusalOfItem_34 rfl ⟨_, rfl, Or.inr (Or.inl ⟨⟨by omega, by rw [ux_s]; exact uc26⟩, rfl, rfl⟩)⟩
    ·
      refine z_bipush dX6_refusalOfItem_14 rfl ?_
      exact z_iret C dX6_refusalOfItem_16 rfl ⟨_, rfl, Or.inl ⟨by omega, rfl, rfl⟩⟩
set_option maxRecDepth 100000 in
theorem ct_X6_sheet (en : zE) (M : zW) (O0 : Int → Int) (S0 : Int → Int) (S1 : Int → Int) (S2 : Int → Int) (S3 : Int → Int) (I0 : Int → Int) (I1 : Int → Int) (I2 : Int → Int) (I3 : Int → Int) (wO0 : M 0 = O0) (wS0 : M 10 = S0) (wS1 : M 11 = S1) (wS2 : M 12 = S2) (wS3 : M 13 = S3) (wI0 : M 14 = I0) (wI1 : M 15 = I1) (wI2 : M 16 = I2) (wI3 : M 17 = I3) (s : Int) (f : Int) (n : Int) (h0 : -2147483648 ≤ s ∧ s < 2147483648 ∧ -2147483648 ≤ f ∧ f < 2147483648 ∧ -2147483648 ≤ n ∧ n < 2147483648) (hS : ((-1 ≤ S0 0 ∧ S0 0 ≤ 2) ∧ (0 ≤ S0 1 ∧ S0 1 ≤ 60)) ∧ ((-1 ≤ S1 0 ∧ S1 0 ≤ 2) ∧ (0 ≤ S1 1 ∧ S1 1 ≤ 60)) ∧ ((-1 ≤ S2 0 ∧ S2 0 ≤ 2) ∧ (0 ≤ S2 1 ∧ S2 1 ≤ 60)) ∧ ((-1 ≤ S3 0 ∧ S3 0 ≤ 2) ∧ (0 ≤ S3 1 ∧ S3 1 ≤ 60))) : Ct en kA yX6_sheet mX6_sheet [rf en 0, vi s, vi f, vi n] M (pX (fun x N => (¬ (((0 ≤ s ∧ s ≤ 3) ∧ (0 ≤ f ∧ f ≤ 2)) ∧ n ≤ 60) ∧ x = -2 ∧ M = N) ∨ ((((0 ≤ s ∧ s ≤ 3) ∧ (0 ≤ f ∧ f ≤ 2)) ∧ n < 0) ∧ x = -15 ∧ upR M 0 (up O0 10 5) = N) ∨ ((((0 ≤ s ∧ s ≤ 3) ∧ (0 ≤ f ∧ f ≤ 2)) ∧ 0 ≤ n ∧ n ≤ 60) ∧ x = n ∧ upR (upR M (10 + s.toNat) (up (up (M (10 + s.toNat)) 0 f) 1 n)) (14 + s.toNat) (fil (fun _ => 0) (M (14 + s.toNat)) 0 60) = N))) := by
  refine Ct.of (by decide +kernel) rfl [(0, rf en 0), (1, vi s), (2, vi f), (3, vi n)] rfl (Nat.le_of_ble_eq_true rfl) (fun cx C => ?_)
  refine z_iload_n 1 dX6_sheet_0 rfl ?_
  refine z_sI dX6_sheet_1 lX6_183 (by decide) (ct_X6_isSheet en M _ (by omega)) rfl rfl (by exact Nat.le_of_ble_eq_true rfl) ?_
  refine z_ifeq_b (tgt := 20) dX6_sheet_4 rfl (fun uc4 => ?_) (fun uc4 => ?_)
  ·
    refine z_bipush dX6_sheet_20 rfl ?_
    exact z_iret C dX6_sheet_22 rfl ⟨_, rfl, Or.inl ⟨by omega, rfl, rfl⟩⟩
  ·
    refine z_iload_n 2 dX6_sheet_7 rfl ?_
    refine z_sI dX6_sheet_8 lX6_232 (by decide) (ct_X6_isForm en M _ (by omega)) rfl rfl (by exact Nat.le_of_ble_eq_true rfl) ?_
    refine z_ifeq_b (tgt := 20) dX6_sheet_11 rfl (fun uc11 => ?_) (fun uc11 => ?_)
    ·
      refine z_bipush dX6_sheet_20 rfl ?_
      exact z_iret C dX6_sheet_22 rfl ⟨_, rfl, Or.inl ⟨by omega, rfl, rfl⟩⟩
    ·
      refine z_iload_n 3 dX6_sheet_14 rfl ?_
      refine z_bipush dX6_sheet_15 rfl ?_
      refine z_icmp_le (tgt := 23) dX6_sheet_17 rfl (by omega) (fun uc17 => ?_) (fun uc17 => ?_)
      ·
        refine z_iload_n 3 dX6_sheet_23 rfl ?_
        refine z_if_ge (tgt := 33) dX6_sheet_24 rfl (by omega) (fun uc24 => ?_) (fun uc24 => ?_)
        ·
          refine z_aload_n 0 dX6_sheet_33 rfl ?_
          refine z_getR dX6_sheet_34 fX6_59_5 i0_9 ka0 ?_
          refine z_iload_n 1 dX6_sheet_37 rfl ?_
          have ush_s : s = 0 ∨ s = 1 ∨ s = 2 ∨ s = 3 := by omega
          rcases ush_s with ush_s | ush_s | ush_s | ush_s
          ·
            have ux_s : M (10 + s.toNat) = S0 := by rw [show s.toNat = 0 by omega]; exact wS0
            have uy_s : M (14 + s.toNat) = I0 := by rw [show s.toNat = 0 by omega]; exact wI0
            have uz_s : s.toNat = 0 := by omega
            refine z_aald 0 dX6_sheet_38 ka9 (by omega) (by decide) ?_
            refine z_iload_n 2 dX6_sheet_39 rfl ?_
            refine z_iload_n 3 dX6_sheet_40 rfl ?_
            refine z_vV dX6_sheet_41 lX6_235 (by decide) ka10 io10 rfl (ct_X4_renew_10 en M S0 I0 wS0 wI0 _ _) rfl rfl (by exact Nat.le_of_ble_eq_true rfl) ?_
            refine z_iload_n 3 dX6_sheet_44 rfl ?_
            exact z_iret C dX6_sheet_45 rfl ⟨_, rfl, Or.inr (Or.inr ⟨by omega, rfl, by first | (rw [ux_s, uy_s, uz_s]; done) | (rw [ux_s, uy_s, uz_s]; rfl)⟩)⟩
          ·
            have ux_s : M (10 + s.toNat) = S1 := by rw [show s.toNat = 1 by omega]; exact wS1
            have uy_s : M (14 + s.toNat) = I1 := by rw [show s.toNat = 1 by omega]; exact wI1
            have uz_s : s.toNat = 1 := by omega
            refine z_aald 1 dX6_sheet_38 ka9 (by omega) (by decide) ?_
            refine z_iload_n 2 dX6_sheet_39 rfl ?_
            refine z_iload_n 3 dX6_sheet_40 rfl ?_
            refine z_vV dX6_sheet_41 lX6_235 (by decide) ka11 io11 rfl (ct_X4_renew_11 en M S1 I1 wS1 wI1 _ _) rfl rfl (by exact Nat.le_of_ble_eq_true rfl) ?_
            refine z_iload_n 3 dX6_sheet_44 rfl ?_
            exact z_iret C dX6_sheet_45 rfl ⟨_, rfl, Or.inr (Or.inr ⟨by omega, rfl, by first | (rw [ux_s, uy_s, uz_s]; done) | (rw [ux_s, uy_s, uz_s]; rfl)⟩)⟩
          ·
            have ux_s : M (10 + s.toNat) = S2 := by rw [show s.toNat = 2 by omega]; exact wS2
            have uy_s : M (14 + s.toNat) = I2 := by rw [show s.toNat = 2 by omega]; exact wI2
            have uz_s : s.toNat = 2 := by omega
            refine z_aald 2 dX6_sheet_38 ka9 (by omega) (by decide) ?_
            refine z_iload_n 2 dX6_sheet_39 rfl ?_
            refine z_iload_n 3 dX6_sheet_40 rfl ?_
            refine z_vV dX6_sheet_41 lX6_235 (by decide) ka12 io12 rfl (ct_X4_renew_12 en M S2 I2 wS2 wI2 _ _) rfl rfl (by exact Nat.le_of_ble_eq_true rfl) ?_
            refine z_iload_n 3 dX6_sheet_44 rfl ?_
            exact z_iret C dX6_sheet_45 rfl ⟨_, rfl, Or.inr (Or.inr ⟨by omega, rfl, by first | (rw [ux_s, uy_s, uz_s]; done) | (rw [ux_s, uy_s, uz_s]; rfl)⟩)⟩
          ·
            have ux_s : M (10 + s.toNat) = S3 := by rw [show s.toNat = 3 by omega]; exact wS3
            have uy_s : M (14 + s.toNat) = I3 := by rw [show s.toNat = 3 by omega]; exact wI3
            have uz_s : s.toNat = 3 := by omega
            refine z_aald 3 dX6_sheet_38 ka9 (by omega) (by decide) ?_
            refine z_iload_n 2 dX6_sheet_39 rfl ?_
            refine z_iload_n 3 dX6_sheet_40 rfl ?_
            refine z_vV dX6_sheet_41 lX6_235 (by decide) ka13 io13 rfl (ct_X4_renew_13 en M S3 I3 wS3 wI3 _ _) rfl rfl (by exact Nat.le_of_ble_eq_true rfl) ?_
            refine z_iload_n 3 dX6_sheet_44 rfl ?_
            exact z_iret C dX6_sheet_45 rfl ⟨_, rfl, Or.inr (Or.inr ⟨by omega, rfl, by first | (rw [ux_s, uy_s, uz_s]; done) | (rw [ux_s, uy_s, uz_s]; rfl)⟩)⟩
        ·
          refine z_aload_n 0 dX6_sheet_27 rfl ?_
          refine z_iconst dX6_sheet_28 ?_
          refine z_vI dX6_sheet_29 lX6_190 (by decide) ka0 io0 rfl (ct_X6_found en M O0 wO0 (5)) rfl rfl (by exact Nat.le_of_ble_eq_true rfl) ?_
          exact z_iret C dX6_sheet_32 rfl ⟨_, rfl, Or.inr (Or.inl ⟨by omega, rfl, rfl⟩)⟩
      ·
        refine z_bipush dX6_sheet_20 rfl ?_
        exact z_iret C dX6_sheet_22 rfl ⟨_, rfl, Or.inl ⟨by omega, rfl, rfl⟩⟩
set_option maxRecDepth 100000 in
theorem ct_X6_lose (en : zE) (M : zW) (O0 : Int → Int) (S0 : Int → Int) (S1 : Int → Int) (S2 : Int → Int) (S3 : Int → Int) (I0 : Int → Int) (I1 : Int → Int) (I2 : Int → Int) (I3 : Int → Int) (wO0 : M 0 = O0) (wS0 : M 10 = S0) (wS1 : M 11 = S1) (wS2 : M 12 = S2) (wS3 : M 13 = S3) (wI0 : M 14 = I0) (wI1 : M 15 = I1) (wI2 : M 16 = I2) (wI3 : M 17 = I3) (s : Int) (h0 : -2147483648 ≤ s ∧ s < 2147483648) (hS : ((-1 ≤ S0 0 ∧ S0 0 ≤ 2) ∧ (0 ≤ S0 1 ∧ S0 1 ≤ 60)) ∧ ((-1 ≤ S1 0 ∧ S1 0 ≤ 2) ∧ (0 ≤ S1 1 ∧ S1 1 ≤ 60)) ∧ ((-1 ≤ S2 0 ∧ S2 0 ≤ 2) ∧ (0 ≤ S2 1 ∧ S2 1 ≤ 60)) ∧ ((-1 ≤ S3 0 ∧ S3 0 ≤ 2) ∧ (0 ≤ S3 1 ∧ S3 1 ≤ 60))) : Ct en kA yX6_lose mX6_lose [rf en 0, vi s] M (pX (fun x N => (¬ (0 ≤ s ∧ s ≤ 3) ∧ x = -2 ∧ M = N) ∨ (((0 ≤ s ∧ s ≤ 3) ∧ M (10 + s.toNat) 0 = -1) ∧ x = -11 ∧ upR M 0 (up O0 10 1) = N) ∨ (((0 ≤ s ∧ s ≤ 3) ∧ M (10 + s.toNat) 0 ≠ -1) ∧ x = M (10 + s.toNat) 1 ∧ upR (upR M (10 + s.toNat) (up (up (M (10 + s.toNat)) 0 (-1)) 1 0)) (14 + s.toNat) (fil (fun _ => 0) (M (14 + s.toNat)) 0 60) = N))) := by
  refine Ct.of (by decide +kernel) rfl [(0, rf en 0), (1, vi s)] rfl (Nat.le_of_ble_eq_true rfl) (fun cx C => ?_)
  refine z_iload_n 1 dX6_lose_0 rfl ?_
  refine z_sI dX6_lose_1 lX6_183 (by decide) (ct_X6_isSheet en M _ (by omega)) rfl rfl (by exact Nat.le_of_ble_eq_true rfl) ?_
  refine z_ifne_b (tgt := 10) dX6_lose_4 rfl (fun uc4 => ?_) (fun uc4 => ?_)
  ·
    refine z_aload_n 0 dX6_lose_10 rfl ?_
    refine z_getR dX6_lose_11 fX6_59_5 i0_9 ka0 ?_
    refine z_iload_n 1 dX6_lose_14 rfl ?_
    have ush_s : s = 0 ∨ s = 1 ∨ s = 2 ∨ s = 3 := by omega
    rcases ush_s with ush_s | ush_s | ush_s | ush_s
    ·
      have ux_s : M (10 + s.toNat) = S0 := by rw [show s.toNat = 0 by omega]; exact wS0
      have uy_s : M (14 + s.toNat) = I0 := by rw [show s.toNat = 0 by omega]; exact wI0
      have uz_s : s.toNat = 0 := by omega
      refine z_aald 0 dX6_lose_15 ka9 (by omega) (by decide) ?_
      refine z_vI dX6_lose_16 lX6_186 (by decide) ka10 io10 rfl (ct_X4_isLost_10 en M S0 wS0 (by omega)) rfl rfl (by exact Nat.le_of_ble_eq_true rfl) ?_
      refine z_ifeq_b (tgt := 28) dX6_lose_19 rfl (fun uc19 => ?_) (fun uc19 => ?_)
      ·
        refine z_aload_n 0 dX6_lose_28 rfl ?_
        refine z_getR dX6_lose_29 fX6_59_5 i0_9 ka0 ?_
        refine z_iload_n 1 dX6_lose_32 rfl ?_
        refine z_aald 0 dX6_lose_33 ka9 (by omega) (by decide) ?_
        refine z_getI (r := S0) 1 rfl dX6_lose_34 fX6_193_4 i10_1 ka10 (wS0) ?_
        refine z_istore_n (fun y => [(0, rf en 0), (1, vi s), (2, vi y)]) [1, 2, 0] dX6_lose_37 (by decide) (fun _ => rfl) (fun x2_37 e2_37 => ?_)
        refine z_aload_n 0 dX6_lose_38 rfl ?_
        refine z_getR dX6_lose_39 fX6_59_5 i0_9 ka0 ?_
        refine z_iload_n 1 dX6_lose_42 rfl ?_
        refine z_aald 0 dX6_lose_43 ka9 (by omega) (by decide) ?_
        refine z_iconst dX6_lose_44 ?_
        refine z_iconst dX6_lose_45 ?_
        refine z_vV dX6_lose_46 lX6_235 (by decide) ka10 io10 rfl (ct_X4_renew_10 en M S0 I0 wS0 wI0 (-1) (0)) rfl rfl (by exact Nat.le_of_ble_eq_true rfl) ?_
        refine z_iload_n 2 dX6_lose_49 rfl ?_
        exact z_iret C dX6_lose_50 rfl ⟨_, rfl, Or.inr (Or.inr ⟨⟨by omega, by rw [ux_s]; exact uc19⟩, by rw [ux_s]; exact e2_37, by first | (rw [ux_s, uy_s, uz_s]; done) | (rw [ux_s, uy_s, uz_s]; rfl)⟩)⟩
      ·
        refine z_aload_n 0 dX6_lose_22 rfl ?_
        refine z_iconst dX6_lose_23 ?_
        refine z_vI dX6_lose_24 lX6_190 (by decide) ka0 io0 rfl (ct_X6_found en M O0 wO0 (1)) rfl rfl (by exact Nat.le_of_ble_eq_true rfl) ?_
        exact z_iret C dX6_lose_27 rfl ⟨_, rfl, Or.inr (Or.inl ⟨⟨by omega, by rw [ux_s]; exact uc19⟩, rfl, rfl⟩)⟩
    ·
      have ux_s : M (10 + s.toNat) = S1 := by rw [show s.toNat = 1 by omega]; exact wS1
      have uy_s : M (14 + s.toNat) = I1 := by rw [show s.toNat = 1 by omega]; exact wI1
      have uz_s : s.toNat = 1 := by omega
      refine z_aald 1 dX6_lose_15 ka9 (by omega) (by decide) ?_
      refine z_vI dX6_lose_16 lX6_186 (by decide) ka11 io11 rfl (ct_X4_isLost_11 en M S1 wS1 (by omega)) rfl rfl (by exact Nat.le_of_ble_eq_true rfl) ?_
      refine z_ifeq_b (tgt := 28) dX6_lose_19 rfl (fun uc19 => ?_) (fun uc19 => ?_)
      ·
        refine z_aload_n 0 dX6_lose_28 rfl ?_
        refine z_getR dX6_lose_29 fX6_59_5 i0_9 ka0 ?_
        refine z_iload_n 1 dX6_lose_32 rfl ?_
        refine z_aald 1 dX6_lose_33 ka9 (by omega) (by decide) ?_
        refine z_getI (r := S1) 1 rfl dX6_lose_34 fX6_193_4 i11_1 ka11 (wS1) ?_
        refine z_istore_n (fun y => [(0, rf en 0), (1, vi s), (2, vi y)]) [1, 2, 0] dX6_lose_37 (by decide) (fun _ => rfl) (fun x2_37 e2_37 => ?_)
        refine z_aload_n 0 dX6_lose_38 rfl ?_
        refine z_getR dX6_lose_39 fX6_59_5 i0_9 ka0 ?_
        refine z_iload_n 1 dX6_lose_42 rfl ?_
        refine z_aald 1 dX6_lose_43 ka9 (by omega) (by decide) ?_
        refine z_iconst dX6_lose_44 ?_
        refine z_iconst dX6_lose_45 ?_
        refine z_vV dX6_lose_46 lX6_235 (by decide) ka11 io11 rfl (ct_X4_renew_11 en M S1 I1 wS1 wI1 (-1) (0)) rfl rfl (by exact Nat.le_of_ble_eq_true rfl) ?_
        refine z_iload_n 2 dX6_lose_49 rfl ?_
        exact z_iret C dX6_lose_50 rfl ⟨_, rfl, Or.inr (Or.inr ⟨⟨by omega, by rw [ux_s]; exact uc19⟩, by rw [ux_s]; exact e2_37, by first | (rw [ux_s, uy_s, uz_s]; done) | (rw [ux_s, uy_s, uz_s]; rfl)⟩)⟩
      ·
        refine z_aload_n 0 dX6_lose_22 rfl ?_
        refine z_iconst dX6_lose_23 ?_
        refine z_vI dX6_lose_24 lX6_190 (by decide) ka0 io0 rfl (ct_X6_found en M O0 wO0 (1)) rfl rfl (by exact Nat.le_of_ble_eq_true rfl) ?_
        exact z_iret C dX6_lose_27 rfl ⟨_, rfl, Or.inr (Or.inl ⟨⟨by omega, by rw [ux_s]; exact uc19⟩, rfl, rfl⟩)⟩
    ·
      have ux_s : M (10 + s.toNat) = S2 := by rw [show s.toNat = 2 by omega]; exact wS2
      have uy_s : M (14 + s.toNat) = I2 := by rw [show s.toNat = 2 by omega]; exact wI2
      have uz_s : s.toNat = 2 := by omega
      refine z_aald 2 dX6_lose_15 ka9 (by omega) (by decide) ?_
      refine z_vI dX6_lose_16 lX6_186 (by decide) ka12 io12 rfl (ct_X4_isLost_12 en M S2 wS2 (by omega)) rfl rfl (by exact Nat.le_of_ble_eq_true rfl) ?_
      refine z_ifeq_b (tgt := 28) dX6_lose_19 rfl (fun uc19 => ?_) (fun uc19 => ?_)
      ·
        refine z_aload_n 0 dX6_lose_28 rfl ?_
        refine z_getR dX6_lose_29 fX6_59_5 i0_9 ka0 ?_
        refine z_iload_n 1 dX6_lose_32 rfl ?_
        refine z_aald 2 dX6_lose_33 ka9 (by omega) (by decide) ?_
        refine z_getI (r := S2) 1 rfl dX6_lose_34 fX6_193_4 i12_1 ka12 (wS2) ?_
        refine z_istore_n (fun y => [(0, rf en 0), (1, vi s), (2, vi y)]) [1, 2, 0] dX6_lose_37 (by decide) (fun _ => rfl) (fun x2_37 e2_37 => ?_)
        refine z_aload_n 0 dX6_lose_38 rfl ?_
        refine z_getR dX6_lose_39 fX6_59_5 i0_9 ka0 ?_
        refine z_iload_n 1 dX6_lose_42 rfl ?_
        refine z_aald 2 dX6_lose_43 ka9 (by omega) (by decide) ?_
        refine z_iconst dX6_lose_44 ?_
        refine z_iconst dX6_lose_45 ?_
        refine z_vV dX6_lose_46 lX6_235 (by decide) ka12 io12 rfl (ct_X4_renew_12 en M S2 I2 wS2 wI2 (-1) (0)) rfl rfl (by exact Nat.le_of_ble_eq_true rfl) ?_
        refine z_iload_n 2 dX6_lose_49 rfl ?_
        exact z_iret C dX6_lose_50 rfl ⟨_, rfl, Or.inr (Or.inr ⟨⟨by omega, by rw [ux_s]; exact uc19⟩, by rw [ux_s]; exact e2_37, by first | (rw [ux_s, uy_s, uz_s]; done) | (rw [ux_s, uy_s, uz_s]; rfl)⟩)⟩
      ·
        refine z_aload_n 0 dX6_lose_22 rfl ?_
        refine z_iconst dX6_lose_23 ?_
        refine z_vI dX6_lose_24 lX6_190 (by decide) ka0 io0 rfl (ct_X6_found en M O0 wO0 (1)) rfl rfl (by exact Nat.le_of_ble_eq_true rfl) ?_
        exact z_iret C dX6_lose_27 rfl ⟨_, rfl, Or.inr (Or.inl ⟨⟨by omega, by rw [ux_s]; exact uc19⟩, rfl, rfl⟩)⟩
    ·
      have ux_s : M (10 + s.toNat) = S3 := by rw [show s.toNat = 3 by omega]; exact wS3
      have uy_s : M (14 + s.toNat) = I3 := by rw [show s.toNat = 3 by omega]; exact wI3
      have uz_s : s.toNat = 3 := by omega
      refine z_aald 3 dX6_lose_15 ka9 (by omega) (by decide) ?_
      refine z_vI dX6_lose_16 lX6_186 (by decide) ka13 io13 rfl (ct_X4_isLost_13 en M S3 wS3 (by omega)) rfl rfl (by exact Nat.le_of_ble_eq_true rfl) ?_
      refine z_ifeq_b (tgt := 28) dX6_lose_19 rfl (fun uc19 => ?_) (fun uc19 => ?_)
      ·
        refine z_aload_n 0 dX6_lose_28 rfl ?_
        refine z_getR dX6_lose_29 fX6_59_5 i0_9 ka0 ?_
        refine z_iload_n 1 dX6_lose_32 rfl ?_
        refine z_aald 3 dX6_lose_33 ka9 (by omega) (by decide) ?_
        refine z_getI (r := S3) 1 rfl dX6_lose_34 fX6_193_4 i13_1 ka13 (wS3) ?_
        refine z_istore_n (fun y => [(0, rf en 0), (1, vi s), (2, vi y)]) [1, 2, 0] dX6_lose_37 (by decide) (fun _ => rfl) (fun x2_37 e2_37 => ?_)
        refine z_aload_n 0 dX6_lose_38 rfl ?_
        refine z_getR dX6_lose_39 fX6_59_5 i0_9 ka0 ?_
        refine z_iload_n 1 dX6_lose_42 rfl ?_
        refine z_aald 3 dX6_lose_43 ka9 (by omega) (by decide) ?_
        refine z_iconst dX6_lose_44 ?_
        refine z_iconst dX6_lose_45 ?_
        refine z_vV dX6_lose_46 lX6_235 (by decide) ka13 io13 rfl (ct_X4_renew_13 en M S3 I3 wS3 wI3 (-1) (0)) rfl rfl (by exact Nat.le_of_ble_eq_true rfl) ?_
        refine z_iload_n 2 dX6_lose_49 rfl ?_
        exact z_iret C dX6_lose_50 rfl ⟨_, rfl, Or.inr (Or.inr ⟨⟨by omega, by rw [ux_s]; exact uc19⟩, by rw [ux_s]; exact e2_37, by first | (rw [ux_s, uy_s, uz_s]; done) | (rw [ux_s, uy_s, uz_s]; rfl)⟩)⟩
      ·
        refine z_aload_n 0 dX6_lose_22 rfl ?_
        refine z_iconst dX6_lose_23 ?_
        refine z_vI dX6_lose_24 lX6_190 (by decide) ka0 io0 rfl (ct_X6_found en M O0 wO0 (1)) rfl rfl (by exact Nat.le_of_ble_eq_true rfl) ?_
        exact z_iret C dX6_lose_27 rfl ⟨_, rfl, Or.inr (Or.inl ⟨⟨by omega, by rw [ux_s]; exact uc19⟩, rfl, rfl⟩)⟩
  ·
    refine z_bipush dX6_lose_7 rfl ?_
    exact z_iret C dX6_lose_9 rfl ⟨_, rfl, Or.inl ⟨by omega, rfl, rfl⟩⟩
set_option maxRecDepth 100000 in
theorem ct_X6_lay (en : zE) (M : zW) (O0 : Int → Int) (S0 : Int → Int) (S1 : Int → Int) (S2 : Int → Int) (S3 : Int → Int) (I0 : Int → Int) (I1 : Int → Int) (I2 : Int → Int) (I3 : Int → Int) (wO0 : M 0 = O0) (wS0 : M 10 = S0) (wS1 : M 11 = S1) (wS2 : M 12 = S2) (wS3 : M 13 = S3) (wI0 : M 14 = I0) (wI1 : M 15 = I1) (wI2 : M 16 = I2) (wI3 : M 17 = I3) (s : Int) (f : Int) (i : Int) (v : Int) (h0 : -2147483648 ≤ s ∧ s < 2147483648 ∧ -2147483648 ≤ f ∧ f < 2147483648 ∧ -2147483648 ≤ i ∧ i < 2147483648) (hS : ((-1 ≤ S0 0 ∧ S0 0 ≤ 2) ∧ (0 ≤ S0 1 ∧ S0 1 ≤ 60)) ∧ ((-1 ≤ S1 0 ∧ S1 0 ≤ 2) ∧ (0 ≤ S1 1 ∧ S1 1 ≤ 60)) ∧ ((-1 ≤ S2 0 ∧ S2 0 ≤ 2) ∧ (0 ≤ S2 1 ∧ S2 1 ≤ 60)) ∧ ((-1 ≤ S3 0 ∧ S3 0 ≤ 2) ∧ (0 ≤ S3 1 ∧ S3 1 ≤ 60))) : Ct en kA yX6_lay mX6_lay [rf en 0, vi s, vi f, vi i, vi v] M (pX (fun x N => (¬ ((0 ≤ s ∧ s ≤ 3) ∧ (0 ≤ f ∧ f ≤ 2)) ∧ x = -2 ∧ M = N) ∨ ((((0 ≤ s ∧ s ≤ 3) ∧ (0 ≤ f ∧ f ≤ 2)) ∧ M (10 + s.toNat) 0 = -1) ∧ x = -11 ∧ upR M 0 (up O0 10 1) = N) ∨ ((((0 ≤ s ∧ s ≤ 3) ∧ (0 ≤ f ∧ f ≤ 2)) ∧ M (10 + s.toNat) 0 ≠ -1 ∧ M (10 + s.toNat) 0 ≠ f) ∧ x = -13 ∧ upR M 0 (up O0 10 3) = N) ∨ ((((0 ≤ s ∧ s ≤ 3) ∧ (0 ≤ f ∧ f ≤ 2)) ∧ M (10 + s.toNat) 0 = f ∧ ¬ (0 ≤ i ∧ i + 1 ≤ M (10 + s.toNat) 1)) ∧ x = -12 ∧ upR M 0 (up O0 10 2) = N) ∨ ((((0 ≤ s ∧ s ≤ 3) ∧ (0 ≤ f ∧ f ≤ 2)) ∧ M (10 + s.toNat) 0 = f ∧ (0 ≤ i ∧ i + 1 ≤ M (10 + s.toNat) 1)) ∧ x = 1 ∧ upR M (14 + s.toNat) (up (M (14 + s.toNat)) i (cutv (M (10 + s.toNat) 0) v)) = N))) := by
  refine Ct.of (by decide +kernel) rfl [(0, rf en 0), (1, vi s), (2, vi f), (3, vi i), (4, vi v)] rfl (Nat.le_of_ble_eq_true rfl) (fun cx C => ?_)
  refine z_aload_n 0 dX6_lay_0 rfl ?_
  refine z_iload_n 1 dX6_lay_1 rfl ?_
  refine z_iload_n 2 dX6_lay_2 rfl ?_
  refine z_iload_n 3 dX6_lay_3 rfl ?_
  refine z_vX dX6_lay_4 lX6_238 (by decide) ka0 io0 rfl (ct_X6_refusalOfItem en M O0 S0 S1 S2 S3 I0 I1 I2 I3 wO0 wS0 wS1 wS2 wS3 wI0 wI1 wI2 wI3 _ _ _ (by omega) (by assumption)) rfl rfl (by exact Nat.le_of_ble_eq_true rfl) (fun uv4 uN4 uh4 => ?_)
  rcases uh4 with ⟨uk4, rfl, rfl⟩ | ⟨uk4, rfl, rfl⟩ | ⟨uk4, rfl, rfl⟩ | ⟨uk4, rfl, rfl⟩ | ⟨uk4, rfl, rfl⟩
  ·
    refine z_istore (fun y => [(0, rf en 0), (1, vi s), (2, vi f), (3, vi i), (4, vi v), (5, vi y)]) [1, 2, 3, 4, 5, 0] dX6_lay_7 (by decide) (fun _ => rfl) (fun uy uhy => ?_)
    subst uhy
    refine z_iload 5 dX6_lay_9 rfl ?_
    refine z_if_eq (tgt := 17) dX6_lay_11 rfl (by omega) (fun z => absurd z (by decide)) (fun _ => ?_)
    refine z_iload 5 dX6_lay_14 rfl ?_
    exact z_iret C dX6_lay_16 rfl ⟨_, rfl, by first | exact Or.inl ⟨uk4, rfl, rfl⟩ | exact Or.inr (Or.inl ⟨uk4, rfl, rfl⟩) | exact Or.inr (Or.inr (Or.inl ⟨uk4, rfl, rfl⟩)) | exact Or.inr (Or.inr (Or.inr (Or.inl ⟨uk4, rfl, rfl⟩)))⟩
  ·
    refine z_istore (fun y => [(0, rf en 0), (1, vi s), (2, vi f), (3, vi i), (4, vi v), (5, vi y)]) [1, 2, 3, 4, 5, 0] dX6_lay_7 (by decide) (fun _ => rfl) (fun uy uhy => ?_)
    subst uhy
    refine z_iload 5 dX6_lay_9 rfl ?_
    refine z_if_eq (tgt := 17) dX6_lay_11 rfl (by omega) (fun z => absurd z (by decide)) (fun _ => ?_)
    refine z_iload 5 dX6_lay_14 rfl ?_
    exact z_iret C dX6_lay_16 rfl ⟨_, rfl, by first | exact Or.inl ⟨uk4, rfl, rfl⟩ | exact Or.inr (Or.inl ⟨uk4, rfl, rfl⟩) | exact Or.inr (Or.inr (Or.inl ⟨uk4, rfl, rfl⟩)) | exact Or.inr (Or.inr (Or.inr (Or.inl ⟨uk4, rfl, rfl⟩)))⟩
  ·
    refine z_istore (fun y => [(0, rf en 0), (1, vi s), (2, vi f), (3, vi i), (4, vi v), (5, vi y)]) [1, 2, 3, 4, 5, 0] dX6_lay_7 (by decide) (fun _ => rfl) (fun uy uhy => ?_)
    subst uhy
    refine z_iload 5 dX6_lay_9 rfl ?_
    refine z_if_eq (tgt := 17) dX6_lay_11 rfl (by omega) (fun z => absurd z (by decide)) (fun _ => ?_)
    refine z_iload 5 dX6_lay_14 rfl ?_
    exact z_iret C dX6_lay_16 rfl ⟨_, rfl, by first | exact Or.inl ⟨uk4, rfl, rfl⟩ | exact Or.inr (Or.inl ⟨uk4, rfl, rfl⟩) | exact Or.inr (Or.inr (Or.inl ⟨uk4, rfl, rfl⟩)) | exact Or.inr (Or.inr (Or.inr (Or.inl ⟨uk4, rfl, rfl⟩)))⟩
  ·
    refine z_istore (fun y => [(0, rf en 0), (1, vi s), (2, vi f), (3, vi i), (4, vi v), (5, vi y)]) [1, 2, 3, 4, 5, 0] dX6_lay_7 (by decide) (fun _ => rfl) (fun uy uhy => ?_)
    subst uhy
    refine z_iload 5 dX6_lay_9 rfl ?_
    refine z_if_eq (tgt := 17) dX6_lay_11 rfl (by omega) (fun z => absurd z (by decide)) (fun _ => ?_)
    refine z_iload 5 dX6_lay_14 rfl ?_
    exact z_iret C dX6_lay_16 rfl ⟨_, rfl, by first | exact Or.inl ⟨uk4, rfl, rfl⟩ | exact Or.inr (Or.inl ⟨uk4, rfl, rfl⟩) | exact Or.inr (Or.inr (Or.inl ⟨uk4, rfl, rfl⟩)) | exact Or.inr (Or.inr (Or.inr (Or.inl ⟨uk4, rfl, rfl⟩)))⟩
  ·
    refine z_istore (fun y => [(0, rf en 0), (1, vi s), (2, vi f), (3, vi i), (4, vi v), (5, vi y)]) [1, 2, 3, 4, 5, 0] dX6_lay_7 (by decide) (fun _ => rfl) (fun uy uhy => ?_)
    subst uhy
    refine z_iload 5 dX6_lay_9 rfl ?_
    refine z_if_eq (tgt := 17) dX6_lay_11 rfl (by omega) (fun _ => ?_) (fun z => absurd z (by decide))
    refine z_aload_n 0 dX6_lay_17 rfl ?_
    refine z_getR dX6_lay_18 fX6_59_5 i0_9 ka0 ?_
    refine z_iload_n 1 dX6_lay_21 rfl ?_
    have ush_s : s = 0 ∨ s = 1 ∨ s = 2 ∨ s = 3 := by omega
    rcases ush_s with ush_s | ush_s | ush_s | ush_s
    ·
      have ux_s : M (10 + s.toNat) = S0 := by rw [show s.toNat = 0 by omega]; exact wS0
      have uy_s : M (14 + s.toNat) = I0 := by rw [show s.toNat = 0 by omega]; exact wI0
      have uz_s : s.toNat = 0 := by omega
      refine z_aald 0 dX6_lay_22 ka9 (by omega) (by decide) ?_
      refine z_iload_n 3 dX6_lay_23 rfl ?_
      refine z_iload 4 dX6_lay_24 rfl ?_
      rw [ux_s] at uk4
      refine z_vV dX6_lay_26 lX6_242 (by decide) ka10 io10 rfl (ct_X4_put_10 en M S0 I0 wS0 wI0 _ _ (by omega) (by omega)) rfl rfl (by exact Nat.le_of_ble_eq_true rfl) ?_
      refine z_iconst dX6_lay_29 ?_
      exact z_iret C dX6_lay_30 rfl ⟨_, rfl, Or.inr (Or.inr (Or.inr (Or.inr (⟨by rw [ux_s]; exact uk4, rfl, by first | (rw [uy_s, ux_s, uz_s]; done) | (rw [uy_s, ux_s, uz_s]; rfl)⟩))))⟩
    ·
      have ux_s : M (10 + s.toNat) = S1 := by rw [show s.toNat = 1 by omega]; exact wS1
      have uy_s : M (14 + s.toNat) = I1 := by rw [show s.toNat = 1 by omega]; exact wI1
      have uz_s : s.toNat = 1 := by omega
      refine z_aald 1 dX6_lay_22 ka9 (by omega) (by decide) ?_
      refine z_iload_n 3 dX6_lay_23 rfl ?_
      refine z_iload 4 dX6_lay_24 rfl ?_
      rw [ux_s] at uk4
      refine z_vV dX6_lay_26 lX6_242 (by decide) ka11 io11 rfl (ct_X4_put_11 en M S1 I1 wS1 wI1 _ _ (by omega) (by omega)) rfl rfl (by exact Nat.le_of_ble_eq_true rfl) ?_
      refine z_iconst dX6_lay_29 ?_
      exact z_iret C dX6_lay_30 rfl ⟨_, rfl, Or.inr (Or.inr (Or.inr (Or.inr (⟨by rw [ux_s]; exact uk4, rfl, by first | (rw [uy_s, ux_s, uz_s]; done) | (rw [uy_s, ux_s, uz_s]; rfl)⟩))))⟩
    ·
      have ux_s : M (10 + s.toNat) = S2 := by rw [show s.toNat = 2 by omega]; exact wS2
      have uy_s : M (14 + s.toNat) = I2 := by rw [show s.toNat = 2 by omega]; exact wI2
      have uz_s : s.toNat = 2 := by omega
      refine z_aald 2 dX6_lay_22 ka9 (by omega) (by decide) ?_
      refine z_iload_n 3 dX6_lay_23 rfl ?_
      refine z_iload 4 dX6_lay_24 rfl ?_
      rw [ux_s] at uk4
      refine z_vV dX6_lay_26 lX6_242 (by decide) ka12 io12 rfl (ct_X4_put_12 en M S2 I2 wS2 wI2 _ _ (by omega) (by omega)) rfl rfl (by exact Nat.le_of_ble_eq_true rfl) ?_
      refine z_iconst dX6_lay_29 ?_
      exact z_iret C dX6_lay_30 rfl ⟨_, rfl, Or.inr (Or.inr (Or.inr (Or.inr (⟨by rw [ux_s]; exact uk4, rfl, by first | (rw [uy_s, ux_s, uz_s]; done) | (rw [uy_s, ux_s, uz_s]; rfl)⟩))))⟩
    ·
      have ux_s : M (10 + s.toNat) = S3 := by rw [show s.toNat = 3 by omega]; exact wS3
      have uy_s : M (14 + s.toNat) = I3 := by rw [show s.toNat = 3 by omega]; exact wI3
      have uz_s : s.toNat = 3 := by omega
      refine z_aald 3 dX6_lay_22 ka9 (by omega) (by decide) ?_
      refine z_iload_n 3 dX6_lay_23 rfl ?_
      refine z_iload 4 dX6_lay_24 rfl ?_
      rw [ux_s] at uk4
      refine z_vV dX6_lay_26 lX6_242 (by decide) ka13 io13 rfl (ct_X4_put_13 en M S3 I3 wS3 wI3 _ _ (by omega) (by omega)) rfl rfl (by exact Nat.le_of_ble_eq_true rfl) ?_
      refine z_iconst dX6_lay_29 ?_
      exact z_iret C dX6_lay_30 rfl ⟨_, rfl, Or.inr (Or.inr (Or.inr (Or.inr (⟨by rw [ux_s]; exact uk4, rfl, by first | (rw [uy_s, ux_s, uz_s]; done) | (rw [uy_s, ux_s, uz_s]; rfl)⟩))))⟩
set_option maxRecDepth 100000 in
theorem ct_X6_get (en : zE) (M : zW) (O0 : Int → Int) (S0 : Int → Int) (S1 : Int → Int) (S2 : Int → Int) (S3 : Int → Int) (I0 : Int → Int) (I1 : Int → Int) (I2 : Int → Int) (I3 : Int → Int) (wO0 : M 0 = O0) (wS0 : M 10 = S0) (wS1 : M 11 = S1) (wS2 : M 12 = S2) (wS3 : M 13 = S3) (wI0 : M 14 = I0) (wI1 : M 15 = I1) (wI2 : M 16 = I2) (wI3 : M 17 = I3) (s : Int) (f : Int) (i : Int) (h0 : -2147483648 ≤ s ∧ s < 2147483648 ∧ -2147483648 ≤ f ∧ f < 2147483648 ∧ -2147483648 ≤ i ∧ i < 2147483648) (hS : ((-1 ≤ S0 0 ∧ S0 0 ≤ 2) ∧ (0 ≤ S0 1 ∧ S0 1 ≤ 60)) ∧ ((-1 ≤ S1 0 ∧ S1 0 ≤ 2) ∧ (0 ≤ S1 1 ∧ S1 1 ≤ 60)) ∧ ((-1 ≤ S2 0 ∧ S2 0 ≤ 2) ∧ (0 ≤ S2 1 ∧ S2 1 ≤ 60)) ∧ ((-1 ≤ S3 0 ∧ S3 0 ≤ 2) ∧ (0 ≤ S3 1 ∧ S3 1 ≤ 60))) : Ct en kA yX6_get mX6_get [rf en 0, vi s, vi f, vi i] M (pX (fun x N => (¬ ((0 ≤ s ∧ s ≤ 3) ∧ (0 ≤ f ∧ f ≤ 2)) ∧ x = -2147483648 ∧ M = N) ∨ ((((0 ≤ s ∧ s ≤ 3) ∧ (0 ≤ f ∧ f ≤ 2)) ∧ M (10 + s.toNat) 0 = -1) ∧ x = -2147483648 ∧ upR M 0 (up O0 10 1) = N) ∨ ((((0 ≤ s ∧ s ≤ 3) ∧ (0 ≤ f ∧ f ≤ 2)) ∧ M (10 + s.toNat) 0 ≠ -1 ∧ M (10 + s.toNat) 0 ≠ f) ∧ x = -2147483648 ∧ upR M 0 (up O0 10 3) = N) ∨ ((((0 ≤ s ∧ s ≤ 3) ∧ (0 ≤ f ∧ f ≤ 2)) ∧ M (10 + s.toNat) 0 = f ∧ ¬ (0 ≤ i ∧ i + 1 ≤ M (10 + s.toNat) 1)) ∧ x = -2147483648 ∧ upR M 0 (up O0 10 2) = N) ∨ ((((0 ≤ s ∧ s ≤ 3) ∧ (0 ≤ f ∧ f ≤ 2)) ∧ M (10 + s.toNat) 0 = f ∧ (0 ≤ i ∧ i + 1 ≤ M (10 + s.toNat) 1)) ∧ x = M (14 + s.toNat) i ∧ M = N))) := by
  refine Ct.of (by decide +kernel) rfl [(0, rf en 0), (1, vi s), (2, vi f), (3, vi i)] rfl (Nat.le_of_ble_eq_true rfl) (fun cx C => ?_)
  refine z_aload_n 0 dX6_get_0 rfl ?_
  refine z_iload_n 1 dX6_get_1 rfl ?_
  refine z_iload_n 2 dX6_get_2 rfl ?_
  refine z_iload_n 3 dX6_get_3 rfl ?_
  refine z_vX dX6_get_4 lX6_238 (by decide) ka0 io0 rfl (ct_X6_refusalOfItem en M O0 S0 S1 S2 S3 I0 I1 I2 I3 wO0 wS0 wS1 wS2 wS3 wI0 wI1 wI2 wI3 _ _ _ (by omega) (by assumption)) rfl rfl (by exact Nat.le_of_ble_eq_true rfl) (fun uv4 uN4 uh4 => ?_)
  rcases uh4 with ⟨uk4, rfl, rfl⟩ | ⟨uk4, rfl, rfl⟩ | ⟨uk4, rfl, rfl⟩ | ⟨uk4, rfl, rfl⟩ | ⟨uk4, rfl, rfl⟩
  ·
    refine z_if_ne (tgt := 24) dX6_get_7 rfl (by omega) (fun _ => ?_) (fun z => absurd z (by decide))
    refine z_ldc (n := -2147483648) dX6_get_24 kX6_245 rfl ?_
    exact z_iret C dX6_get_26 rfl ⟨_, rfl, by first | exact Or.inl ⟨uk4, rfl, rfl⟩ | exact Or.inr (Or.inl ⟨uk4, rfl, rfl⟩) | exact Or.inr (Or.inr (Or.inl ⟨uk4, rfl, rfl⟩)) | exact Or.inr (Or.inr (Or.inr (Or.inl ⟨uk4, rfl, rfl⟩)))⟩
  ·
    refine z_if_ne (tgt := 24) dX6_get_7 rfl (by omega) (fun _ => ?_) (fun z => absurd z (by decide))
    refine z_ldc (n := -2147483648) dX6_get_24 kX6_245 rfl ?_
    exact z_iret C dX6_get_26 rfl ⟨_, rfl, by first | exact Or.inl ⟨uk4, rfl, rfl⟩ | exact Or.inr (Or.inl ⟨uk4, rfl, rfl⟩) | exact Or.inr (Or.inr (Or.inl ⟨uk4, rfl, rfl⟩)) | exact Or.inr (Or.inr (Or.inr (Or.inl ⟨uk4, rfl, rfl⟩)))⟩
  ·
    refine z_if_ne (tgt := 24) dX6_get_7 rfl (by omega) (fun _ => ?_) (fun z => absurd z (by decide))
    refine z_ldc (n := -2147483648) dX6_get_24 kX6_245 rfl ?_
    exact z_iret C dX6_get_26 rfl ⟨_, rfl, by first | exact Or.inl ⟨uk4, rfl, rfl⟩ | exact Or.inr (Or.inl ⟨uk4, rfl, rfl⟩) | exact Or.inr (Or.inr (Or.inl ⟨uk4, rfl, rfl⟩)) | exact Or.inr (Or.inr (Or.inr (Or.inl ⟨uk4, rfl, rfl⟩)))⟩
  ·
    refine z_if_ne (tgt := 24) dX6_get_7 rfl (by omega) (fun _ => ?_) (fun z => absurd z (by decide))
    refine z_ldc (n := -2147483648) dX6_get_24 kX6_245 rfl ?_
    exact z_iret C dX6_get_26 rfl ⟨_, rfl, by first | exact Or.inl ⟨uk4, rfl, rfl⟩ | exact Or.inr (Or.inl ⟨uk4, rfl, rfl⟩) | exact Or.inr (Or.inr (Or.inl ⟨uk4, rfl, rfl⟩)) | exact Or.inr (Or.inr (Or.inr (Or.inl ⟨uk4, rfl, rfl⟩)))⟩
  ·
    refine z_if_ne (tgt := 24) dX6_get_7 rfl (by omega) (fun z => absurd z (by decide)) (fun _ => ?_)
    refine z_aload_n 0 dX6_get_10 rfl ?_
    refine z_getR dX6_get_11 fX6_59_5 i0_9 ka0 ?_
    refine z_iload_n 1 dX6_get_14 rfl ?_
    have ush_s : s = 0 ∨ s = 1 ∨ s = 2 ∨ s = 3 := by omega
    rcases ush_s with ush_s | ush_s | ush_s | ush_s
    ·
      have ux_s : M (10 + s.toNat) = S0 := by rw [show s.toNat = 0 by omega]; exact wS0
      have uy_s : M (14 + s.toNat) = I0 := by rw [show s.toNat = 0 by omega]; exact wI0
      have uz_s : s.toNat = 0 := by omega
      refine z_aald 0 dX6_get_15 ka9 (by omega) (by decide) ?_
      refine z_getR dX6_get_16 fX6_194_4 i10_2 ka10 ?_
      refine z_iload_n 3 dX6_get_19 rfl ?_
      rw [ux_s] at uk4
      refine z_iald (r := I0) dX6_get_20 is14 ka14 (wI0) (by omega) ?_
      refine z_goto (tgt := 26) dX6_get_21 rfl ?_
      exact z_iret C dX6_get_26 rfl ⟨_, rfl, Or.inr (Or.inr (Or.inr (Or.inr (⟨by rw [ux_s]; exact uk4, by rw [uy_s], rfl⟩))))⟩
    ·
      have ux_s : M (10 + s.toNat) = S1 := by rw [show s.toNat = 1 by omega]; exact wS1
      have uy_s : M (14 + s.toNat) = I1 := by rw [show s.toNat = 1 by omega]; exact wI1
      have uz_s : s.toNat = 1 := by omega
      refine z_aald 1 dX6_get_15 ka9 (by omega) (by decide) ?_
      refine z_getR dX6_get_16 fX6_194_4 i11_2 ka11 ?_
      refine z_iload_n 3 dX6_get_19 rfl ?_
      rw [ux_s] at uk4
      refine z_iald (r := I1) dX6_get_20 is15 ka15 (wI1) (by omega) ?_
      refine z_goto (tgt := 26) dX6_get_21 rfl ?_
      exact z_iret C dX6_get_26 rfl ⟨_, rfl, Or.inr (Or.inr (Or.inr (Or.inr (⟨by rw [ux_s]; exact uk4, by rw [uy_s], rfl⟩))))⟩
    ·
      have ux_s : M (10 + s.toNat) = S2 := by rw [show s.toNat = 2 by omega]; exact wS2
      have uy_s : M (14 + s.toNat) = I2 := by rw [show s.toNat = 2 by omega]; exact wI2
      have uz_s : s.toNat = 2 := by omega
      refine z_aald 2 dX6_get_15 ka9 (by omega) (by decide) ?_
      refine z_getR dX6_get_16 fX6_194_4 i12_2 ka12 ?_
      refine z_iload_n 3 dX6_get_19 rfl ?_
      rw [ux_s] at uk4
      refine z_iald (r := I2) dX6_get_20 is16 ka16 (wI2) (by omega) ?_
      refine z_goto (tgt := 26) dX6_get_21 rfl ?_
      exact z_iret C dX6_get_26 rfl ⟨_, rfl, Or.inr (Or.inr (Or.inr (Or.inr (⟨by rw [ux_s]; exact uk4, by rw [uy_s], rfl⟩))))⟩
    ·
      have ux_s : M (10 + s.toNat) = S3 := by rw [show s.toNat = 3 by omega]; exact wS3
      have uy_s : M (14 + s.toNat) = I3 := by rw [show s.toNat = 3 by omega]; exact wI3
      have uz_s : s.toNat = 3 := by omega
      refine z_aald 3 dX6_get_15 ka9 (by omega) (by decide) ?_
      refine z_getR dX6_get_16 fX6_194_4 i13_2 ka13 ?_
      refine z_iload_n 3 dX6_get_19 rfl ?_
      rw [ux_s] at uk4
      refine z_iald (r := I3) dX6_get_20 is17 ka17 (wI3) (by omega) ?_
      refine z_goto (tgt := 26) dX6_get_21 rfl ?_
      exact z_iret C dX6_get_26 rfl ⟨_, rfl, Or.inr (Or.inr (Or.inr (Or.inr (⟨by rw [ux_s]; exact uk4, by rw [uy_s], rfl⟩))))⟩
set_option maxRecDepth 100000 in
theorem ct_X6_copy (en : zE) (M : zW) (O0 : Int → Int) (S0 : Int → Int) (S1 : Int → Int) (S2 : Int → Int) (S3 : Int → Int) (I0 : Int → Int) (I1 : Int → Int) (I2 : Int → Int) (I3 : Int → Int) (wO0 : M 0 = O0) (wS0 : M 10 = S0) (wS1 : M 11 = S1) (wS2 : M 12 = S2) (wS3 : M 13 = S3) (wI0 : M 14 = I0) (wI1 : M 15 = I1) (wI2 : M 16 = I2) (wI3 : M 17 = I3) (s : Int) (i : Int) (t : Int) (j : Int) (n : Int) (h0 : -2147483648 ≤ s ∧ s < 2147483648 ∧ -2147483648 ≤ i ∧ i < 2147483648 ∧ -2147483648 ≤ t ∧ t < 2147483648 ∧ -2147483648 ≤ j ∧ j < 2147483648 ∧ -2147483648 ≤ n ∧ n < 2147483648) (hS : ((-1 ≤ S0 0 ∧ S0 0 ≤ 2) ∧ (0 ≤ S0 1 ∧ S0 1 ≤ 60)) ∧ ((-1 ≤ S1 0 ∧ S1 0 ≤ 2) ∧ (0 ≤ S1 1 ∧ S1 1 ≤ 60)) ∧ ((-1 ≤ S2 0 ∧ S2 0 ≤ 2) ∧ (0 ≤ S2 1 ∧ S2 1 ≤ 60)) ∧ ((-1 ≤ S3 0 ∧ S3 0 ≤ 2) ∧ (0 ≤ S3 1 ∧ S3 1 ≤ 60))) : Ct en kA yX6_copy mX6_copy [rf en 0, vi s, vi i, vi t, vi j, vi n] M (pX (fun x N => (¬ ((0 ≤ s ∧ s ≤ 3) ∧ (0 ≤ t ∧ t ≤ 3)) ∧ x = -2 ∧ M = N) ∨ ((((0 ≤ s ∧ s ≤ 3) ∧ (0 ≤ t ∧ t ≤ 3)) ∧ (M (10 + s.toNat) 0 = -1 ∨ M (10 + t.toNat) 0 = -1)) ∧ x = -11 ∧ upR M 0 (up O0 10 1) = N) ∨ ((((0 ≤ s ∧ s ≤ 3) ∧ (0 ≤ t ∧ t ≤ 3)) ∧ ¬ (M (10 + s.toNat) 0 = -1 ∨ M (10 + t.toNat) 0 = -1) ∧ M (10 + s.toNat) 0 ≠ M (10 + t.toNat) 0) ∧ x = -14 ∧ upR M 0 (up O0 10 4) = N) ∨ ((((0 ≤ s ∧ s ≤ 3) ∧ (0 ≤ t ∧ t ≤ 3)) ∧ ¬ (M (10 + s.toNat) 0 = -1 ∨ M (10 + t.toNat) 0 = -1) ∧ M (10 + s.toNat) 0 = M (10 + t.toNat) 0 ∧ ¬ ((0 ≤ i ∧ 0 ≤ n ∧ i + n ≤ M (10 + s.toNat) 1) ∧ (0 ≤ j ∧ 0 ≤ n ∧ j + n ≤ M (10 + t.toNat) 1))) ∧ x = -12 ∧ upR M 0 (up O0 10 2) = N) ∨ ((((0 ≤ s ∧ s ≤ 3) ∧ (0 ≤ t ∧ t ≤ 3)) ∧ ¬ (M (10 + s.toNat) 0 = -1 ∨ M (10 + t.toNat) 0 = -1) ∧ M (10 + s.toNat) 0 = M (10 + t.toNat) 0 ∧ ((0 ≤ i ∧ 0 ≤ n ∧ i + n ≤ M (10 + s.toNat) 1) ∧ (0 ≤ j ∧ 0 ≤ n ∧ j + n ≤ M (10 + t.toNat) 1))) ∧ x = 1 ∧ upR M (14 + t.toNat) (cpy (M (14 + s.toNat)) (M (14 + t.toNat)) i j n) = N))) := by
  refine Ct.of (by decide +kernel) rfl [(0, rf en 0), (1, vi s), (2, vi i), (3, vi t), (4, vi j), (5, vi n)] rfl (Nat.le_of_ble_eq_true rfl) (fun cx C => ?_)
  refine z_iload_n 1 dX6_copy_0 rfl ?_
  refine z_sI dX6_copy_1 lX6_183 (by decide) (ct_X6_isSheet en M _ (by omega)) rfl rfl (by exact Nat.le_of_ble_eq_true rfl) ?_
  refine z_ifeq_b (tgt := 14) dX6_copy_4 rfl (fun uc4 => ?_) (fun uc4 => ?_)
  ·
    refine z_bipush dX6_copy_14 rfl ?_
    exact z_iret C dX6_copy_16 rfl ⟨_, rfl, Or.inl ⟨by omega, rfl, rfl⟩⟩
  ·
    refine z_iload_n 3 dX6_copy_7 rfl ?_
    refine z_sI dX6_copy_8 lX6_183 (by decide) (ct_X6_isSheet en M _ (by omega)) rfl rfl (by exact Nat.le_of_ble_eq_true rfl) ?_
    refine z_ifne_b (tgt := 17) dX6_copy_11 rfl (fun uc11 => ?_) (fun uc11 => ?_)
    ·
      refine z_aload_n 0 dX6_copy_17 rfl ?_
      refine z_getR dX6_copy_18 fX6_59_5 i0_9 ka0 ?_
      refine z_iload_n 1 dX6_copy_21 rfl ?_
      have ush_s : s = 0 ∨ s = 1 ∨ s = 2 ∨ s = 3 := by omega
      rcases ush_s with ush_s | ush_s | ush_s | ush_s
      ·
        have ux_s : M (10 + s.toNat) = S0 := by rw [show s.toNat = 0 by omega]; exact wS0
        have uy_s : M (14 + s.toNat) = I0 := by rw [show s.toNat = 0 by omega]; exact wI0
        have uz_s : s.toNat = 0 := by omega
        refine z_aald 0 dX6_copy_22 ka9 (by omega) (by decide) ?_
        refine z_astore [(0, rf en 0), (1, vi s), (2, vi i), (3, vi t), (4, vi j), (5, vi n), (6, rf en 10)] [1, 2, 3, 4, 5, 6, 0] dX6_copy_23 (by decide) rfl ?_
        refine z_aload_n 0 dX6_copy_25 rfl ?_
        refine z_getR dX6_copy_26 fX6_59_5 i0_9 ka0 ?_
        refine z_iload_n 3 dX6_copy_29 rfl ?_
        have ush_t : t = 0 ∨ t = 1 ∨ t = 2 ∨ t = 3 := by omega
        rcases ush_t with ush_t | ush_t | ush_t | ush_t
        ·
          have ux_t : M (10 + t.toNat) = S0 := by rw [show t.toNat = 0 by omega]; exact wS0
          have uy_t : M (14 + t.toNat) = I0 := by rw [show t.toNat = 0 by omega]; exact wI0
          have uz_t : t.toNat = 0 := by omega
          refine z_aald 0 dX6_copy_30 ka9 (by omega) (by decide) ?_
          refine z_astore [(0, rf en 0), (1, vi s), (2, vi i), (3, vi t), (4, vi j), (5, vi n), (6, rf en 10), (7, rf en 10)] [1, 2, 3, 4, 5, 6, 7, 0] dX6_copy_31 (by decide) rfl ?_
          refine z_aload 6 dX6_copy_33 rfl ?_
          refine z_vI dX6_copy_35 lX6_186 (by decide) ka10 io10 rfl (ct_X4_isLost_10 en M S0 wS0 (by omega)) rfl rfl (by exact Nat.le_of_ble_eq_true rfl) ?_
          refine z_ifne_b (tgt := 49) dX6_copy_38 rfl (fun uc38 => ?_) (fun uc38 => ?_)
          ·
            refine z_aload_n 0 dX6_copy_49 rfl ?_
            refine z_iconst dX6_copy_50 ?_
            refine z_vI dX6_copy_51 lX6_190 (by decide) ka0 io0 rfl (ct_X6_found en M O0 wO0 (1)) rfl rfl (by exact Nat.le_of_ble_eq_true rfl) ?_
            exact z_iret C dX6_copy_54 rfl ⟨_, rfl, Or.inr (Or.inl ⟨⟨by omega, by rw [ux_s, ux_t]; omega⟩, rfl, rfl⟩)⟩
          ·
            refine z_aload 7 dX6_copy_41 rfl ?_
            refine z_vI dX6_copy_43 lX6_186 (by decide) ka10 io10 rfl (ct_X4_isLost_10 en M S0 wS0 (by omega)) rfl rfl (by exact Nat.le_of_ble_eq_true rfl) ?_
            refine z_ifeq_b (tgt := 55) dX6_copy_46 rfl (fun uc46 => ?_) (fun uc46 => ?_)
            ·
              refine z_aload 6 dX6_copy_55 rfl ?_
              refine z_getI (r := S0) 0 rfl dX6_copy_57 fX6_246_4 i10_0 ka10 (wS0) ?_
              refine z_aload 7 dX6_copy_60 rfl ?_
              refine z_getI (r := S0) 0 rfl dX6_copy_62 fX6_246_4 i10_0 ka10 (wS0) ?_
              refine z_icmp_eq (tgt := 74) dX6_copy_65 rfl (by omega) (fun uc65 => ?_) (fun uc65 => ?_)
              ·
                refine z_aload 6 dX6_copy_74 rfl ?_
                refine z_iload_n 2 dX6_copy_76 rfl ?_
                refine z_iload 5 dX6_copy_77 rfl ?_
                refine z_vI dX6_copy_79 lX6_249 (by decide) ka10 io10 rfl (ct_X4_holds_10 en M S0 wS0 _ _ (by omega) (by omega)) rfl rfl (by exact Nat.le_of_ble_eq_true rfl) ?_
                refine z_ifeq_b (tgt := 97) dX6_copy_82 rfl (fun uc82 => ?_) (fun uc82 => ?_)
                ·
                  refine z_aload_n 0 dX6_copy_97 rfl ?_
                  refine z_iconst dX6_copy_98 ?_
                  refine z_vI dX6_copy_99 lX6_190 (by decide) ka0 io0 rfl (ct_X6_found en M O0 wO0 (2)) rfl rfl (by exact Nat.le_of_ble_eq_true rfl) ?_
                  exact z_iret C dX6_copy_102 rfl ⟨_, rfl, Or.inr (Or.inr (Or.inr (Or.inl ⟨⟨by omega, by rw [ux_s, ux_t]; omega, by first | (rw [ux_s, ux_t]; exact uc65) | (rw [ux_s, ux_t]), by rw [ux_s, ux_t]; omega⟩, rfl, rfl⟩)))⟩
                ·
                  refine z_aload 7 dX6_copy_85 rfl ?_
                  refine z_iload 4 dX6_copy_87 rfl ?_
                  refine z_iload 5 dX6_copy_89 rfl ?_
                  refine z_vI dX6_copy_91 lX6_249 (by decide) ka10 io10 rfl (ct_X4_holds_10 en M S0 wS0 _ _ (by omega) (by omega)) rfl rfl (by exact Nat.le_of_ble_eq_true rfl) ?_
                  refine z_ifne_b (tgt := 103) dX6_copy_94 rfl (fun uc94 => ?_) (fun uc94 => ?_)
                  ·
                    refine z_aload 6 dX6_copy_103 rfl ?_
                    refine z_getR dX6_copy_105 fX6_194_4 i10_2 ka10 ?_
                    refine z_iload_n 2 dX6_copy_108 rfl ?_
                    refine z_aload 7 dX6_copy_109 rfl ?_
                    refine z_getR dX6_copy_111 fX6_194_4 i10_2 ka10 ?_
                    refine z_iload 4 dX6_copy_114 rfl ?_
                    refine z_iload 5 dX6_copy_116 rfl ?_
                    refine z_copy (f := I0) (g := I0) rfl dX6_copy_118 is14 is14 ka14 ka14 (wI0) (wI0) (by omega) (Nat.le_of_ble_eq_true rfl) (Nat.le_of_ble_eq_true rfl) (fun r14_118 f14_118 => ?_)
                    refine z_iconst dX6_copy_121 ?_
                    exact z_iret C dX6_copy_122 rfl ⟨_, rfl, Or.inr (Or.inr (Or.inr (Or.inr ⟨⟨by omega, by rw [ux_s, ux_t]; omega, by first | (rw [ux_s, ux_t]; exact uc65) | (rw [ux_s, ux_t]), by rw [ux_s, ux_t]; omega⟩, rfl, by rw [uy_s, uy_t, uz_t, f14_118]⟩)))⟩
                  ·
                    refine z_aload_n 0 dX6_copy_97 rfl ?_
                    refine z_iconst dX6_copy_98 ?_
                    refine z_vI dX6_copy_99 lX6_190 (by decide) ka0 io0 rfl (ct_X6_found en M O0 wO0 (2)) rfl rfl (by exact Nat.le_of_ble_eq_true rfl) ?_
                    exact z_iret C dX6_copy_102 rfl ⟨_, rfl, Or.inr (Or.inr (Or.inr (Or.inl ⟨⟨by omega, by rw [ux_s, ux_t]; omega, by first | (rw [ux_s, ux_t]; exact uc65) | (rw [ux_s, ux_t]), by rw [ux_s, ux_t]; omega⟩, rfl, rfl⟩)))⟩
              ·
                refine z_aload_n 0 dX6_copy_68 rfl ?_
                refine z_iconst dX6_copy_69 ?_
                refine z_vI dX6_copy_70 lX6_190 (by decide) ka0 io0 rfl (ct_X6_found en M O0 wO0 (4)) rfl rfl (by exact Nat.le_of_ble_eq_true rfl) ?_
                exact z_iret C dX6_copy_73 rfl ⟨_, rfl, Or.inr (Or.inr (Or.inl ⟨⟨by omega, by rw [ux_s, ux_t]; omega, by first | (rw [ux_s, ux_t]; exact uc65) | (rw [ux_s, ux_t])⟩, rfl, rfl⟩))⟩
            ·
              refine z_aload_n 0 dX6_copy_49 rfl ?_
              refine z_iconst dX6_copy_50 ?_
              refine z_vI dX6_copy_51 lX6_190 (by decide) ka0 io0 rfl (ct_X6_found en M O0 wO0 (1)) rfl rfl (by exact Nat.le_of_ble_eq_true rfl) ?_
              exact z_iret C dX6_copy_54 rfl ⟨_, rfl, Or.inr (Or.inl ⟨⟨by omega, by rw [ux_s, ux_t]; omega⟩, rfl, rfl⟩)⟩
        ·
          have ux_t : M (10 + t.toNat) = S1 := by rw [show t.toNat = 1 by omega]; exact wS1
          have uy_t : M (14 + t.toNat) = I1 := by rw [show t.toNat = 1 by omega]; exact wI1
          have uz_t : t.toNat = 1 := by omega
          refine z_aald 1 dX6_copy_30 ka9 (by omega) (by decide) ?_
          refine z_astore [(0, rf en 0), (1, vi s), (2, vi i), (3, vi t), (4, vi j), (5, vi n), (6, rf en 10), (7, rf en 11)] [1, 2, 3, 4, 5, 6, 7, 0] dX6_copy_31 (by decide) rfl ?_
          refine z_aload 6 dX6_copy_33 rfl ?_
          refine z_vI dX6_copy_35 lX6_186 (by decide) ka10 io10 rfl (ct_X4_isLost_10 en M S0 wS0 (by omega)) rfl rfl (by exact Nat.le_of_ble_eq_true rfl) ?_
          refine z_ifne_b (tgt := 49) dX6_copy_38 rfl (fun uc38 => ?_) (fun uc38 => ?_)
          ·
            refine z_aload_n 0 dX6_copy_49 rfl ?_
            refine z_iconst dX6_copy_50 ?_
            refine z_vI dX6_copy_51 lX6_190 (by decide) ka0 io0 rfl (ct_X6_found en M O0 wO0 (1)) rfl rfl (by exact Nat.le_of_ble_eq_true rfl) ?_
            exact z_iret C dX6_copy_54 rfl ⟨_, rfl, Or.inr (Or.inl ⟨⟨by omega, by rw [ux_s, ux_t]; omega⟩, rfl, rfl⟩)⟩
          ·
            refine z_aload 7 dX6_copy_41 rfl ?_
            refine z_vI dX6_copy_43 lX6_186 (by decide) ka11 io11 rfl (ct_X4_isLost_11 en M S1 wS1 (by omega)) rfl rfl (by exact Nat.le_of_ble_eq_true rfl) ?_
            refine z_ifeq_b (tgt := 55) dX6_copy_46 rfl (fun uc46 => ?_) (fun uc46 => ?_)
            ·
              refine z_aload 6 dX6_copy_55 rfl ?_
              refine z_getI (r := S0) 0 rfl dX6_copy_57 fX6_246_4 i10_0 ka10 (wS0) ?_
              refine z_aload 7 dX6_copy_60 rfl ?_
              refine z_getI (r := S1) 0 rfl dX6_copy_62 fX6_246_4 i11_0 ka11 (wS1) ?_
              refine z_icmp_eq (tgt := 74) dX6_copy_65 rfl (by omega) (fun uc65 => ?_) (fun uc65 => ?_)
              ·
                refine z_aload 6 dX6_copy_74 rfl ?_
                refine z_iload_n 2 dX6_copy_76 rfl ?_
                refine z_iload 5 dX6_copy_77 rfl ?_
                refine z_vI dX6_copy_79 lX6_249 (by decide) ka10 io10 rfl (ct_X4_holds_10 en M S0 wS0 _ _ (by omega) (by omega)) rfl rfl (by exact Nat.le_of_ble_eq_true rfl) ?_
                refine z_ifeq_b (tgt := 97) dX6_copy_82 rfl (fun uc82 => ?_) (fun uc82 => ?_)
                ·
                  refine z_aload_n 0 dX6_copy_97 rfl ?_
                  refine z_iconst dX6_copy_98 ?_
                  refine z_vI dX6_copy_99 lX6_190 (by decide) ka0 io0 rfl (ct_X6_found en M O0 wO0 (2)) rfl rfl (by exact Nat.le_of_ble_eq_true rfl) ?_
                  exact z_iret C dX6_copy_102 rfl ⟨_, rfl, Or.inr (Or.inr (Or.inr (Or.inl ⟨⟨by omega, by rw [ux_s, ux_t]; omega, by first | (rw [ux_s, ux_t]; exact uc65) | (rw [ux_s, ux_t]), by rw [ux_s, ux_t]; omega⟩, rfl, rfl⟩)))⟩
                ·
                  refine z_aload 7 dX6_copy_85 rfl ?_
                  refine z_iload 4 dX6_copy_87 rfl ?_
                  refine z_iload 5 dX6_copy_89 rfl ?_
                  refine z_vI dX6_copy_91 lX6_249 (by decide) ka11 io11 rfl (ct_X4_holds_11 en M S1 wS1 _ _ (by omega) (by omega)) rfl rfl (by exact Nat.le_of_ble_eq_true rfl) ?_
                  refine z_ifne_b (tgt := 103) dX6_copy_94 rfl (fun uc94 => ?_) (fun uc94 => ?_)
                  ·
                    refine z_aload 6 dX6_copy_103 rfl ?_
                    refine z_getR dX6_copy_105 fX6_194_4 i10_2 ka10 ?_
                    refine z_iload_n 2 dX6_copy_108 rfl ?_
                    refine z_aload 7 dX6_copy_109 rfl ?_
                    refine z_getR dX6_copy_111 fX6_194_4 i11_2 ka11 ?_
                    refine z_iload 4 dX6_copy_114 rfl ?_
                    refine z_iload 5 dX6_copy_116 rfl ?_
                    refine z_copy (f := I0) (g := I1) rfl dX6_copy_118 is14 is15 ka14 ka15 (wI0) (wI1) (by omega) (Nat.le_of_ble_eq_true rfl) (Nat.le_of_ble_eq_true rfl) (fun r15_118 f15_118 => ?_)
                    refine z_iconst dX6_copy_121 ?_
                    exact z_iret C dX6_copy_122 rfl ⟨_, rfl, Or.inr (Or.inr (Or.inr (Or.inr ⟨⟨by omega, by rw [ux_s, ux_t]; omega, by first | (rw [ux_s, ux_t]; exact uc65) | (rw [ux_s, ux_t]), by rw [ux_s, ux_t]; omega⟩, rfl, by rw [uy_s, uy_t, uz_t, f15_118]⟩)))⟩
                  ·
                    refine z_aload_n 0 dX6_copy_97 rfl ?_
                    refine z_iconst dX6_copy_98 ?_
                    refine z_vI dX6_copy_99 lX6_190 (by decide) ka0 io0 rfl (ct_X6_found en M O0 wO0 (2)) rfl rfl (by exact Nat.le_of_ble_eq_true rfl) ?_
                    exact z_iret C dX6_copy_102 rfl ⟨_, rfl, Or.inr (Or.inr (Or.inr (Or.inl ⟨⟨by omega, by rw [ux_s, ux_t]; omega, by first | (rw [ux_s, ux_t]; exact uc65) | (rw [ux_s, ux_t]), by rw [ux_s, ux_t]; omega⟩, rfl, rfl⟩)))⟩
              ·
                refine z_aload_n 0 dX6_copy_68 rfl ?_
                refine z_iconst dX6_copy_69 ?_
                refine z_vI dX6_copy_70 lX6_190 (by decide) ka0 io0 rfl (ct_X6_found en M O0 wO0 (4)) rfl rfl (by exact Nat.le_of_ble_eq_true rfl) ?_
                exact z_iret C dX6_copy_73 rfl ⟨_, rfl, Or.inr (Or.inr (Or.inl ⟨⟨by omega, by rw [ux_s, ux_t]; omega, by first | (rw [ux_s, ux_t]; exact uc65) | (rw [ux_s, ux_t])⟩, rfl, rfl⟩))⟩
            ·
              refine z_aload_n 0 dX6_copy_49 rfl ?_
              refine z_iconst dX6_copy_50 ?_
              refine z_vI dX6_copy_51 lX6_190 (by decide) ka0 io0 rfl (ct_X6_found en M O0 wO0 (1)) rfl rfl (by exact Nat.le_of_ble_eq_true rfl) ?_
              exact z_iret C dX6_copy_54 rfl ⟨_, rfl, Or.inr (Or.inl ⟨⟨by omega, by rw [ux_s, ux_t]; omega⟩, rfl, rfl⟩)⟩
        ·
          have ux_t : M (10 + t.toNat) = S2 := by rw [show t.toNat = 2 by omega]; exact wS2
          have uy_t : M (14 + t.toNat) = I2 := by rw [show t.toNat = 2 by omega]; exact wI2
          have uz_t : t.toNat = 2 := by omega
          refine z_aald 2 dX6_copy_30 ka9 (by omega) (by decide) ?_
          refine z_astore [(0, rf en 0), (1, vi s), (2, vi i), (3, vi t), (4, vi j), (5, vi n), (6, rf en 10), (7, rf en 12)] [1, 2, 3, 4, 5, 6, 7, 0] dX6_copy_31 (by decide) rfl ?_
          refine z_aload 6 dX6_copy_33 rfl ?_
          refine z_vI dX6_copy_35 lX6_186 (by decide) ka10 io10 rfl (ct_X4_isLost_10 en M S0 wS0 (by omega)) rfl rfl (by exact Nat.le_of_ble_eq_true rfl) ?_
          refine z_ifne_b (tgt := 49) dX6_copy_38 rfl (fun uc38 => ?_) (fun uc38 => ?_)
          ·
            refine z_aload_n 0 dX6_copy_49 rfl ?_
            refine z_iconst dX6_copy_50 ?_
            refine z_vI dX6_copy_51 lX6_190 (by decide) ka0 io0 rfl (ct_X6_found en M O0 wO0 (1)) rfl rfl (by exact Nat.le_of_ble_eq_true rfl) ?_
            exact z_iret C dX6_copy_54 rfl ⟨_, rfl, Or.inr (Or.inl ⟨⟨by omega, by rw [ux_s, ux_t]; omega⟩, rfl, rfl⟩)⟩
          ·
            refine z_aload 7 dX6_copy_41 rfl ?_
            refine z_vI dX6_copy_43 lX6_186 (by decide) ka12 io12 rfl (ct_X4_isLost_12 en M S2 wS2 (by omega)) rfl rfl (by exact Nat.le_of_ble_eq_true rfl) ?_
            refine z_ifeq_b (tgt := 55) dX6_copy_46 rfl (fun uc46 => ?_) (fun uc46 => ?_)
            ·
              refine z_aload 6 dX6_copy_55 rfl ?_
              refine z_getI (r := S0) 0 rfl dX6_copy_57 fX6_246_4 i10_0 ka10 (wS0) ?_
              refine z_aload 7 dX6_copy_60 rfl ?_
              refine z_getI (r := S2) 0 rfl dX6_copy_62 fX6_246_4 i12_0 ka12 (wS2) ?_
              refine z_icmp_eq (tgt := 74) dX6_copy_65 rfl (by omega) (fun uc65 => ?_) (fun uc65 => ?_)
              ·
                refine z_aload 6 dX6_copy_74 rfl ?_
                refine z_iload_n 2 dX6_copy_76 rfl ?_
                refine z_iload 5 dX6_copy_77 rfl ?_
                refine z_vI dX6_copy_79 lX6_249 (by decide) ka10 io10 rfl (ct_X4_holds_10 en M S0 wS0 _ _ (by omega) (by omega)) rfl rfl (by exact Nat.le_of_ble_eq_true rfl) ?_
                refine z_ifeq_b (tgt := 97) dX6_copy_82 rfl (fun uc82 => ?_) (fun uc82 => ?_)
                ·
                  refine z_aload_n 0 dX6_copy_97 rfl ?_
                  refine z_iconst dX6_copy_98 ?_
                  refine z_vI dX6_copy_99 lX6_190 (by decide) ka0 io0 rfl (ct_X6_found en M O0 wO0 (2)) rfl rfl (by exact Nat.le_of_ble_eq_true rfl) ?_
                  exact z_iret C dX6_copy_102 rfl ⟨_, rfl, Or.inr (Or.inr (Or.inr (Or.inl ⟨⟨by omega, by rw [ux_s, ux_t]; omega, by first | (rw [ux_s, ux_t]; exact uc65) | (rw [ux_s, ux_t]), by rw [ux_s, ux_t]; omega⟩, rfl, rfl⟩)))⟩
                ·
                  refine z_aload 7 dX6_copy_85 rfl ?_
                  refine z_iload 4 dX6_copy_87 rfl ?_
                  refine z_iload 5 dX6_copy_89 rfl ?_
                  refine z_vI dX6_copy_91 lX6_249 (by decide) ka12 io12 rfl (ct_X4_holds_12 en M S2 wS2 _ _ (by omega) (by omega)) rfl rfl (by exact Nat.le_of_ble_eq_true rfl) ?_
                  refine z_ifne_b (tgt := 103) dX6_copy_94 rfl (fun uc94 => ?_) (fun uc94 => ?_)
                  ·
                    refine z_aload 6 dX6_copy_103 rfl ?_
                    refine z_getR dX6_copy_105 fX6_194_4 i10_2 ka10 ?_
                    refine z_iload_n 2 dX6_copy_108 rfl ?_
                    refine z_aload 7 dX6_copy_109 rfl ?_
                    refine z_getR dX6_copy_111 fX6_194_4 i12_2 ka12 ?_
                    refine z_iload 4 dX6_copy_114 rfl ?_
                    refine z_iload 5 dX6_copy_116 rfl ?_
                    refine z_copy (f := I0) (g := I2) rfl dX6_copy_118 is14 is16 ka14 ka16 (wI0) (wI2) (by omega) (Nat.le_of_ble_eq_true rfl) (Nat.le_of_ble_eq_true rfl) (fun r16_118 f16_118 => ?_)
                    refine z_iconst dX6_copy_121 ?_
                    exact z_iret C dX6_copy_122 rfl ⟨_, rfl, Or.inr (Or.inr (Or.inr (Or.inr ⟨⟨by omega, by rw [ux_s, ux_t]; omega, by first | (rw [ux_s, ux_t]; exact uc65) | (rw [ux_s, ux_t]), by rw [ux_s, ux_t]; omega⟩, rfl, by rw [uy_s, uy_t, uz_t, f16_118]⟩)))⟩
                  ·
                    refine z_aload_n 0 dX6_copy_97 rfl ?_
                    refine z_iconst dX6_copy_98 ?_
                    refine z_vI dX6_copy_99 lX6_190 (by decide) ka0 io0 rfl (ct_X6_found en M O0 wO0 (2)) rfl rfl (by exact Nat.le_of_ble_eq_true rfl) ?_
                    exact z_iret C dX6_copy_102 rfl ⟨_, rfl, Or.inr (Or.inr (Or.inr (Or.inl ⟨⟨by omega, by rw [ux_s, ux_t]; omega, by first | (rw [ux_s, ux_t]; exact uc65) | (rw [ux_s, ux_t]), by rw [ux_s, ux_t]; omega⟩, rfl, rfl⟩)))⟩
              ·
                refine z_aload_n 0 dX6_copy_68 rfl ?_
                refine z_iconst dX6_copy_69 ?_
                refine z_vI dX6_copy_70 lX6_190 (by decide) ka0 io0 rfl (ct_X6_found en M O0 wO0 (4)) rfl rfl (by exact Nat.le_of_ble_eq_true rfl) ?_
                exact z_iret C dX6_copy_73 rfl ⟨_, rfl, Or.inr (Or.inr (Or.inl ⟨⟨by omega, by rw [ux_s, ux_t]; omega, by first | (rw [ux_s, ux_t]; exact uc65) | (rw [ux_s, ux_t])⟩, rfl, rfl⟩))⟩
            ·
              refine z_aload_n 0 dX6_copy_49 rfl ?_
              refine z_iconst dX6_copy_50 ?_
              refine z_vI dX6_copy_51 lX6_190 (by decide) ka0 io0 rfl (ct_X6_found en M O0 wO0 (1)) rfl rfl (by exact Nat.le_of_ble_eq_true rfl) ?_
              exact z_iret C dX6_copy_54 rfl ⟨_, rfl, Or.inr (Or.inl ⟨⟨by omega, by rw [ux_s, ux_t]; omega⟩, rfl, rfl⟩)⟩
        ·
          have ux_t : M (10 + t.toNat) = S3 := by rw [show t.toNat = 3 by omega]; exact wS3
          have uy_t : M (14 + t.toNat) = I3 := by rw [show t.toNat = 3 by omega]; exact wI3
          have uz_t : t.toNat = 3 := by omega
          refine z_aald 3 dX6_copy_30 ka9 (by omega) (by decide) ?_
          refine z_astore [(0, rf en 0), (1, vi s), (2, vi i), (3, vi t), (4, vi j), (5, vi n), (6, rf en 10), (7, rf en 13)] [1, 2, 3, 4, 5, 6, 7, 0] dX6_copy_31 (by decide) rfl ?_
          refine z_aload 6 dX6_copy_33 rfl ?_
          refine z_vI dX6_copy_35 lX6_186 (by decide) ka10 io10 rfl (ct_X4_isLost_10 en M S0 wS0 (by omega)) rfl rfl (by exact Nat.le_of_ble_eq_true rfl) ?_
          refine z_ifne_b (tgt := 49) dX6_copy_38 rfl (fun uc38 => ?_) (fun uc38 => ?_)
          ·
            refine z_aload_n 0 dX6_copy_49 rfl ?_
            refine z_iconst dX6_copy_50 ?_
            refine z_vI dX6_copy_51 lX6_190 (by decide) ka0 io0 rfl (ct_X6_found en M O0 wO0 (1)) rfl rfl (by exact Nat.le_of_ble_eq_true rfl) ?_
            exact z_iret C dX6_copy_54 rfl ⟨_, rfl, Or.inr (Or.inl ⟨⟨by omega, by rw [ux_s, ux_t]; omega⟩, rfl, rfl⟩)⟩
          ·
            refine z_aload 7 dX6_copy_41 rfl ?_
            refine z_vI dX6_copy_43 lX6_186 (by decide) ka13 io13 rfl (ct_X4_isLost_13 en M S3 wS3 (by omega)) rfl rfl (by exact Nat.le_of_ble_eq_true rfl) ?_
            refine z_ifeq_b (tgt := 55) dX6_copy_46 rfl (fun uc46 => ?_) (fun uc46 => ?_)
            ·
              refine z_aload 6 dX6_copy_55 rfl ?_
              refine z_getI (r := S0) 0 rfl dX6_copy_57 fX6_246_4 i10_0 ka10 (wS0) ?_
              refine z_aload 7 dX6_copy_60 rfl ?_
              refine z_getI (r := S3) 0 rfl dX6_copy_62 fX6_246_4 i13_0 ka13 (wS3) ?_
              refine z_icmp_eq (tgt := 74) dX6_copy_65 rfl (by omega) (fun uc65 => ?_) (fun uc65 => ?_)
              ·
                refine z_aload 6 dX6_copy_74 rfl ?_
                refine z_iload_n 2 dX6_copy_76 rfl ?_
                refine z_iload 5 dX6_copy_77 rfl ?_
                refine z_vI dX6_copy_79 lX6_249 (by decide) ka10 io10 rfl (ct_X4_holds_10 en M S0 wS0 _ _ (by omega) (by omega)) rfl rfl (by exact Nat.le_of_ble_eq_true rfl) ?_
                refine z_ifeq_b (tgt := 97) dX6_copy_82 rfl (fun uc82 => ?_) (fun uc82 => ?_)
                ·
                  refine z_aload_n 0 dX6_copy_97 rfl ?_
                  refine z_iconst dX6_copy_98 ?_
                  refine z_vI dX6_copy_99 lX6_190 (by decide) ka0 io0 rfl (ct_X6_found en M O0 wO0 (2)) rfl rfl (by exact Nat.le_of_ble_eq_true rfl) ?_
                  exact z_iret C dX6_copy_102 rfl ⟨_, rfl, Or.inr (Or.inr (Or.inr (Or.inl ⟨⟨by omega, by rw [ux_s, ux_t]; omega, by first | (rw [ux_s, ux_t]; exact uc65) | (rw [ux_s, ux_t]), by rw [ux_s, ux_t]; omega⟩, rfl, rfl⟩)))⟩
                ·
                  refine z_aload 7 dX6_copy_85 rfl ?_
                  refine z_iload 4 dX6_copy_87 rfl ?_
                  refine z_iload 5 dX6_copy_89 rfl ?_
                  refine z_vI dX6_copy_91 lX6_249 (by decide) ka13 io13 rfl (ct_X4_holds_13 en M S3 wS3 _ _ (by omega) (by omega)) rfl rfl (by exact Nat.le_of_ble_eq_true rfl) ?_
                  refine z_ifne_b (tgt := 103) dX6_copy_94 rfl (fun uc94 => ?_) (fun uc94 => ?_)
                  ·
                    refine z_aload 6 dX6_copy_103 rfl ?_
                    refine z_getR dX6_copy_105 fX6_194_4 i10_2 ka10 ?_
                    refine z_iload_n 2 dX6_copy_108 rfl ?_
                    refine z_aload 7 dX6_copy_109 rfl ?_
                    refine z_getR dX6_copy_111 fX6_194_4 i13_2 ka13 ?_
                    refine z_iload 4 dX6_copy_114 rfl ?_
                    refine z_iload 5 dX6_copy_116 rfl ?_
                    refine z_copy (f := I0) (g := I3) rfl dX6_copy_118 is14 is17 ka14 ka17 (wI0) (wI3) (by omega) (Nat.le_of_ble_eq_true rfl) (Nat.le_of_ble_eq_true rfl) (fun r17_118 f17_118 => ?_)
                    refine z_iconst dX6_copy_121 ?_
                    exact z_iret C dX6_copy_122 rfl ⟨_, rfl, Or.inr (Or.inr (Or.inr (Or.inr ⟨⟨by omega, by rw [ux_s, ux_t]; omega, by first | (rw [ux_s, ux_t]; exact uc65) | (rw [ux_s, ux_t]), by rw [ux_s, ux_t]; omega⟩, rfl, by rw [uy_s, uy_t, uz_t, f17_118]⟩)))⟩
                  ·
                    refine z_aload_n 0 dX6_copy_97 rfl ?_
                    refine z_iconst dX6_copy_98 ?_
                    refine z_vI dX6_copy_99 lX6_190 (by decide) ka0 io0 rfl (ct_X6_found en M O0 wO0 (2)) rfl rfl (by exact Nat.le_of_ble_eq_true rfl) ?_
                    exact z_iret C dX6_copy_102 rfl ⟨_, rfl, Or.inr (Or.inr (Or.inr (Or.inl ⟨⟨by omega, by rw [ux_s, ux_t]; omega, by first | (rw [ux_s, ux_t]; exact uc65) | (rw [ux_s, ux_t]), by rw [ux_s, ux_t]; omega⟩, rfl, rfl⟩)))⟩
              ·
                refine z_aload_n 0 dX6_copy_68 rfl ?_
                refine z_iconst dX6_copy_69 ?_
                refine z_vI dX6_copy_70 lX6_190 (by decide) ka0 io0 rfl (ct_X6_found en M O0 wO0 (4)) rfl rfl (by exact Nat.le_of_ble_eq_true rfl) ?_
                exact z_iret C dX6_copy_73 rfl ⟨_, rfl, Or.inr (Or.inr (Or.inl ⟨⟨by omega, by rw [ux_s, ux_t]; omega, by first | (rw [ux_s, ux_t]; exact uc65) | (rw [ux_s, ux_t])⟩, rfl, rfl⟩))⟩
            ·
              refine z_aload_n 0 dX6_copy_49 rfl ?_
              refine z_iconst dX6_copy_50 ?_
              refine z_vI dX6_copy_51 lX6_190 (by decide) ka0 io0 rfl (ct_X6_found en M O0 wO0 (1)) rfl rfl (by exact Nat.le_of_ble_eq_true rfl) ?_
              exact z_iret C dX6_copy_54 rfl ⟨_, rfl, Or.inr (Or.inl ⟨⟨by omega, by rw [ux_s, ux_t]; omega⟩, rfl, rfl⟩)⟩
      ·
        have ux_s : M (10 + s.toNat) = S1 := by rw [show s.toNat = 1 by omega]; exact wS1
        have uy_s : M (14 + s.toNat) = I1 := by rw [show s.toNat = 1 by omega]; exact wI1
        have uz_s : s.toNat = 1 := by omega
        refine z_aald 1 dX6_copy_22 ka9 (by omega) (by decide) ?_
        refine z_astore [(0, rf en 0), (1, vi s), (2, vi i), (3, vi t), (4, vi j), (5, vi n), (6, rf en 11)] [1, 2, 3, 4, 5, 6, 0] dX6_copy_23 (by decide) rfl ?_
        refine z_aload_n 0 dX6_copy_25 rfl ?_
        refine z_getR dX6_copy_26 fX6_59_5 i0_9 ka0 ?_
        refine z_iload_n 3 dX6_copy_29 rfl ?_
        have ush_t : t = 0 ∨ t = 1 ∨ t = 2 ∨ t = 3 := by omega
        rcases ush_t with ush_t | ush_t | ush_t | ush_t
        ·
          have ux_t : M (10 + t.toNat) = S0 := by rw [show t.toNat = 0 by omega]; exact wS0
          have uy_t : M (14 + t.toNat) = I0 := by rw [show t.toNat = 0 by omega]; exact wI0
          have uz_t : t.toNat = 0 := by omega
          refine z_aald 0 dX6_copy_30 ka9 (by omega) (by decide) ?_
          refine z_astore [(0, rf en 0), (1, vi s), (2, vi i), (3, vi t), (4, vi j), (5, vi n), (6, rf en 11), (7, rf en 10)] [1, 2, 3, 4, 5, 6, 7, 0] dX6_copy_31 (by decide) rfl ?_
          refine z_aload 6 dX6_copy_33 rfl ?_
          refine z_vI dX6_copy_35 lX6_186 (by decide) ka11 io11 rfl (ct_X4_isLost_11 en M S1 wS1 (by omega)) rfl rfl (by exact Nat.le_of_ble_eq_true rfl) ?_
          refine z_ifne_b (tgt := 49) dX6_copy_38 rfl (fun uc38 => ?_) (fun uc38 => ?_)
          ·
            refine z_aload_n 0 dX6_copy_49 rfl ?_
            refine z_iconst dX6_copy_50 ?_
            refine z_vI dX6_copy_51 lX6_190 (by decide) ka0 io0 rfl (ct_X6_found en M O0 wO0 (1)) rfl rfl (by exact Nat.le_of_ble_eq_true rfl) ?_
            exact z_iret C dX6_copy_54 rfl ⟨_, rfl, Or.inr (Or.inl ⟨⟨by omega, by rw [ux_s, ux_t]; omega⟩, rfl, rfl⟩)⟩
          ·
            refine z_aload 7 dX6_copy_41 rfl ?_
            refine z_vI dX6_copy_43 lX6_186 (by decide) ka10 io10 rfl (ct_X4_isLost_10 en M S0 wS0 (by omega)) rfl rfl (by exact Nat.le_of_ble_eq_true rfl) ?_
            refine z_ifeq_b (tgt := 55) dX6_copy_46 rfl (fun uc46 => ?_) (fun uc46 => ?_)
            ·
              refine z_aload 6 dX6_copy_55 rfl ?_
              refine z_getI (r := S1) 0 rfl dX6_copy_57 fX6_246_4 i11_0 ka11 (wS1) ?_
              refine z_aload 7 dX6_copy_60 rfl ?_
              refine z_getI (r := S0) 0 rfl dX6_copy_62 fX6_246_4 i10_0 ka10 (wS0) ?_
              refine z_icmp_eq (tgt := 74) dX6_copy_65 rfl (by omega) (fun uc65 => ?_) (fun uc65 => ?_)
              ·
                refine z_aload 6 dX6_copy_74 rfl ?_
                refine z_iload_n 2 dX6_copy_76 rfl ?_
                refine z_iload 5 dX6_copy_77 rfl ?_
                refine z_vI dX6_copy_79 lX6_249 (by decide) ka11 io11 rfl (ct_X4_holds_11 en M S1 wS1 _ _ (by omega) (by omega)) rfl rfl (by exact Nat.le_of_ble_eq_true rfl) ?_
                refine z_ifeq_b (tgt := 97) dX6_copy_82 rfl (fun uc82 => ?_) (fun uc82 => ?_)
                ·
                  refine z_aload_n 0 dX6_copy_97 rfl ?_
                  refine z_iconst dX6_copy_98 ?_
                  refine z_vI dX6_copy_99 lX6_190 (by decide) ka0 io0 rfl (ct_X6_found en M O0 wO0 (2)) rfl rfl (by exact Nat.le_of_ble_eq_true rfl) ?_
                  exact z_iret C dX6_copy_102 rfl ⟨_, rfl, Or.inr (Or.inr (Or.inr (Or.inl ⟨⟨by omega, by rw [ux_s, ux_t]; omega, by first | (rw [ux_s, ux_t]; exact uc65) | (rw [ux_s, ux_t]), by rw [ux_s, ux_t]; omega⟩, rfl, rfl⟩)))⟩
                ·
                  refine z_aload 7 dX6_copy_85 rfl ?_
                  refine z_iload 4 dX6_copy_87 rfl ?_
                  refine z_iload 5 dX6_copy_89 rfl ?_
                  refine z_vI dX6_copy_91 lX6_249 (by decide) ka10 io10 rfl (ct_X4_holds_10 en M S0 wS0 _ _ (by omega) (by omega)) rfl rfl (by exact Nat.le_of_ble_eq_true rfl) ?_
                  refine z_ifne_b (tgt := 103) dX6_copy_94 rfl (fun uc94 => ?_) (fun uc94 => ?_)
                  ·
                    refine z_aload 6 dX6_copy_103 rfl ?_
                    refine z_getR dX6_copy_105 fX6_194_4 i11_2 ka11 ?_
                    refine z_iload_n 2 dX6_copy_108 rfl ?_
                    refine z_aload 7 dX6_copy_109 rfl ?_
                    refine z_getR dX6_copy_111 fX6_194_4 i10_2 ka10 ?_
                    refine z_iload 4 dX6_copy_114 rfl ?_
                    refine z_iload 5 dX6_copy_116 rfl ?_
                    refine z_copy (f := I1) (g := I0) rfl dX6_copy_118 is15 is14 ka15 ka14 (wI1) (wI0) (by omega) (Nat.le_of_ble_eq_true rfl) (Nat.le_of_ble_eq_true rfl) (fun r14_118 f14_118 => ?_)
                    refine z_iconst dX6_copy_121 ?_
                    exact z_iret C dX6_copy_122 rfl ⟨_, rfl, Or.inr (Or.inr (Or.inr (Or.inr ⟨⟨by omega, by rw [ux_s, ux_t]; omega, by first | (rw [ux_s, ux_t]; exact uc65) | (rw [ux_s, ux_t]), by rw [ux_s, ux_t]; omega⟩, rfl, by rw [uy_s, uy_t, uz_t, f14_118]⟩)))⟩
                  ·
                    refine z_aload_n 0 dX6_copy_97 rfl ?_
                    refine z_iconst dX6_copy_98 ?_
                    refine z_vI dX6_copy_99 lX6_190 (by decide) ka0 io0 rfl (ct_X6_found en M O0 wO0 (2)) rfl rfl (by exact Nat.le_of_ble_eq_true rfl) ?_
                    exact z_iret C dX6_copy_102 rfl ⟨_, rfl, Or.inr (Or.inr (Or.inr (Or.inl ⟨⟨by omega, by rw [ux_s, ux_t]; omega, by first | (rw [ux_s, ux_t]; exact uc65) | (rw [ux_s, ux_t]), by rw [ux_s, ux_t]; omega⟩, rfl, rfl⟩)))⟩
              ·
                refine z_aload_n 0 dX6_copy_68 rfl ?_
                refine z_iconst dX6_copy_69 ?_
                refine z_vI dX6_copy_70 lX6_190 (by decide) ka0 io0 rfl (ct_X6_found en M O0 wO0 (4)) rfl rfl (by exact Nat.le_of_ble_eq_true rfl) ?_
                exact z_iret C dX6_copy_73 rfl ⟨_, rfl, Or.inr (Or.inr (Or.inl ⟨⟨by omega, by rw [ux_s, ux_t]; omega, by first | (rw [ux_s, ux_t]; exact uc65) | (rw [ux_s, ux_t])⟩, rfl, rfl⟩))⟩
            ·
              refine z_aload_n 0 dX6_copy_49 rfl ?_
              refine z_iconst dX6_copy_50 ?_
              refine z_vI dX6_copy_51 lX6_190 (by decide) ka0 io0 rfl (ct_X6_found en M O0 wO0 (1)) rfl rfl (by exact Nat.le_of_ble_eq_true rfl) ?_
              exact z_iret C dX6_copy_54 rfl ⟨_, rfl, Or.inr (Or.inl ⟨⟨by omega, by rw [ux_s, ux_t]; omega⟩, rfl, rfl⟩)⟩
        ·
          have ux_t : M (10 + t.toNat) = S1 := by rw [show t.toNat = 1 by omega]; exact wS1
          have uy_t : M (14 + t.toNat) = I1 := by rw [show t.toNat = 1 by omega]; exact wI1
          have uz_t : t.toNat = 1 := by omega
          refine z_aald 1 dX6_copy_30 ka9 (by omega) (by decide) ?_
          refine z_astore [(0, rf en 0), (1, vi s), (2, vi i), (3, vi t), (4, vi j), (5, vi n), (6, rf en 11), (7, rf en 11)] [1, 2, 3, 4, 5, 6, 7, 0] dX6_copy_31 (by decide) rfl ?_
          refine z_aload 6 dX6_copy_33 rfl ?_
          refine z_vI dX6_copy_35 lX6_186 (by decide) ka11 io11 rfl (ct_X4_isLost_11 en M S1 wS1 (by omega)) rfl rfl (by exact Nat.le_of_ble_eq_true rfl) ?_
          refine z_ifne_b (tgt := 49) dX6_copy_38 rfl (fun uc38 => ?_) (fun uc38 => ?_)
          ·
            refine z_aload_n 0 dX6_copy_49 rfl ?_
            refine z_iconst dX6_copy_50 ?_
            refine z_vI dX6_copy_51 lX6_190 (by decide) ka0 io0 rfl (ct_X6_found en M O0 wO0 (1)) rfl rfl (by exact Nat.le_of_ble_eq_true rfl) ?_
            exact z_iret C dX6_copy_54 rfl ⟨_, rfl, Or.inr (Or.inl ⟨⟨by omega, by rw [ux_s, ux_t]; omega⟩, rfl, rfl⟩)⟩
          ·
            refine z_aload 7 dX6_copy_41 rfl ?_
            refine z_vI dX6_copy_43 lX6_186 (by decide) ka11 io11 rfl (ct_X4_isLost_11 en M S1 wS1 (by omega)) rfl rfl (by exact Nat.le_of_ble_eq_true rfl) ?_
            refine z_ifeq_b (tgt := 55) dX6_copy_46 rfl (fun uc46 => ?_) (fun uc46 => ?_)
            ·
              refine z_aload 6 dX6_copy_55 rfl ?_
              refine z_getI (r := S1) 0 rfl dX6_copy_57 fX6_246_4 i11_0 ka11 (wS1) ?_
              refine z_aload 7 dX6_copy_60 rfl ?_
              refine z_getI (r := S1) 0 rfl dX6_copy_62 fX6_246_4 i11_0 ka11 (wS1) ?_
              refine z_icmp_eq (tgt := 74) dX6_copy_65 rfl (by omega) (fun uc65 => ?_) (fun uc65 => ?_)
              ·
                refine z_aload 6 dX6_copy_74 rfl ?_
                refine z_iload_n 2 dX6_copy_76 rfl ?_
                refine z_iload 5 dX6_copy_77 rfl ?_
                refine z_vI dX6_copy_79 lX6_249 (by decide) ka11 io11 rfl (ct_X4_holds_11 en M S1 wS1 _ _ (by omega) (by omega)) rfl rfl (by exact Nat.le_of_ble_eq_true rfl) ?_
                refine z_ifeq_b (tgt := 97) dX6_copy_82 rfl (fun uc82 => ?_) (fun uc82 => ?_)
                ·
                  refine z_aload_n 0 dX6_copy_97 rfl ?_
                  refine z_iconst dX6_copy_98 ?_
                  refine z_vI dX6_copy_99 lX6_190 (by decide) ka0 io0 rfl (ct_X6_found en M O0 wO0 (2)) rfl rfl (by exact Nat.le_of_ble_eq_true rfl) ?_
                  exact z_iret C dX6_copy_102 rfl ⟨_, rfl, Or.inr (Or.inr (Or.inr (Or.inl ⟨⟨by omega, by rw [ux_s, ux_t]; omega, by first | (rw [ux_s, ux_t]; exact uc65) | (rw [ux_s, ux_t]), by rw [ux_s, ux_t]; omega⟩, rfl, rfl⟩)))⟩
                ·
                  refine z_aload 7 dX6_copy_85 rfl ?_
                  refine z_iload 4 dX6_copy_87 rfl ?_
                  refine z_iload 5 dX6_copy_89 rfl ?_
                  refine z_vI dX6_copy_91 lX6_249 (by decide) ka11 io11 rfl (ct_X4_holds_11 en M S1 wS1 _ _ (by omega) (by omega)) rfl rfl (by exact Nat.le_of_ble_eq_true rfl) ?_
                  refine z_ifne_b (tgt := 103) dX6_copy_94 rfl (fun uc94 => ?_) (fun uc94 => ?_)
                  ·
                    refine z_aload 6 dX6_copy_103 rfl ?_
                    refine z_getR dX6_copy_105 fX6_194_4 i11_2 ka11 ?_
                    refine z_iload_n 2 dX6_copy_108 rfl ?_
                    refine z_aload 7 dX6_copy_109 rfl ?_
                    refine z_getR dX6_copy_111 fX6_194_4 i11_2 ka11 ?_
                    refine z_iload 4 dX6_copy_114 rfl ?_
                    refine z_iload 5 dX6_copy_116 rfl ?_
                    refine z_copy (f := I1) (g := I1) rfl dX6_copy_118 is15 is15 ka15 ka15 (wI1) (wI1) (by omega) (Nat.le_of_ble_eq_true rfl) (Nat.le_of_ble_eq_true rfl) (fun r15_118 f15_118 => ?_)
                    refine z_iconst dX6_copy_121 ?_
                    exact z_iret C dX6_copy_122 rfl ⟨_, rfl, Or.inr (Or.inr (Or.inr (Or.inr ⟨⟨by omega, by rw [ux_s, ux_t]; omega, by first | (rw [ux_s, ux_t]; exact uc65) | (rw [ux_s, ux_t]), by rw [ux_s, ux_t]; omega⟩, rfl, by rw [uy_s, uy_t, uz_t, f15_118]⟩)))⟩
                  ·
                    refine z_aload_n 0 dX6_copy_97 rfl ?_
                    refine z_iconst dX6_copy_98 ?_
                    refine z_vI dX6_copy_99 lX6_190 (by decide) ka0 io0 rfl (ct_X6_found en M O0 wO0 (2)) rfl rfl (by exact Nat.le_of_ble_eq_true rfl) ?_
                    exact z_iret C dX6_copy_102 rfl ⟨_, rfl, Or.inr (Or.inr (Or.inr (Or.inl ⟨⟨by omega, by rw [ux_s, ux_t]; omega, by first | (rw [ux_s, ux_t]; exact uc65) | (rw [ux_s, ux_t]), by rw [ux_s, ux_t]; omega⟩, rfl, rfl⟩)))⟩
              ·
                refine z_aload_n 0 dX6_copy_68 rfl ?_
                refine z_iconst dX6_copy_69 ?_
                refine z_vI dX6_copy_70 lX6_190 (by decide) ka0 io0 rfl (ct_X6_found en M O0 wO0 (4)) rfl rfl (by exact Nat.le_of_ble_eq_true rfl) ?_
                exact z_iret C dX6_copy_73 rfl ⟨_, rfl, Or.inr (Or.inr (Or.inl ⟨⟨by omega, by rw [ux_s, ux_t]; omega, by first | (rw [ux_s, ux_t]; exact uc65) | (rw [ux_s, ux_t])⟩, rfl, rfl⟩))⟩
            ·
              refine z_aload_n 0 dX6_copy_49 rfl ?_
              refine z_iconst dX6_copy_50 ?_
              refine z_vI dX6_copy_51 lX6_190 (by decide) ka0 io0 rfl (ct_X6_found en M O0 wO0 (1)) rfl rfl (by exact Nat.le_of_ble_eq_true rfl) ?_
              exact z_iret C dX6_copy_54 rfl ⟨_, rfl, Or.inr (Or.inl ⟨⟨by omega, by rw [ux_s, ux_t]; omega⟩, rfl, rfl⟩)⟩
        ·
          have ux_t : M (10 + t.toNat) = S2 := by rw [show t.toNat = 2 by omega]; exact wS2
          have uy_t : M (14 + t.toNat) = I2 := by rw [show t.toNat = 2 by omega]; exact wI2
          have uz_t : t.toNat = 2 := by omega
          refine z_aald 2 dX6_copy_30 ka9 (by omega) (by decide) ?_
          refine z_astore [(0, rf en 0), (1, vi s), (2, vi i), (3, vi t), (4, vi j), (5, vi n), (6, rf en 11), (7, rf en 12)] [1, 2, 3, 4, 5, 6, 7, 0] dX6_copy_31 (by decide) rfl ?_
          refine z_aload 6 dX6_copy_33 rfl ?_
          refine z_vI dX6_copy_35 lX6_186 (by decide) ka11 io11 rfl (ct_X4_isLost_11 en M S1 wS1 (by omega)) rfl rfl (by exact Nat.le_of_ble_eq_true rfl) ?_
          refine z_ifne_b (tgt := 49) dX6_copy_38 rfl (fun uc38 => ?_) (fun uc38 => ?_)
          ·
            refine z_aload_n 0 dX6_copy_49 rfl ?_
            refine z_iconst dX6_copy_50 ?_
            refine z_vI dX6_copy_51 lX6_190 (by decide) ka0 io0 rfl (ct_X6_found en M O0 wO0 (1)) rfl rfl (by exact Nat.le_of_ble_eq_true rfl) ?_
            exact z_iret C dX6_copy_54 rfl ⟨_, rfl, Or.inr (Or.inl ⟨⟨by omega, by rw [ux_s, ux_t]; omega⟩, rfl, rfl⟩)⟩
          ·
            refine z_aload 7 dX6_copy_41 rfl ?_
            refine z_vI dX6_copy_43 lX6_186 (by decide) ka12 io12 rfl (ct_X4_isLost_12 en M S2 wS2 (by omega)) rfl rfl (by exact Nat.le_of_ble_eq_true rfl) ?_
            refine z_ifeq_b (tgt := 55) dX6_copy_46 rfl (fun uc46 => ?_) (fun uc46 => ?_)
            ·
              refine z_aload 6 dX6_copy_55 rfl ?_
              refine z_getI (r := S1) 0 rfl dX6_copy_57 fX6_246_4 i11_0 ka11 (wS1) ?_
              refine z_aload 7 dX6_copy_60 rfl ?_
              refine z_getI (r := S2) 0 rfl dX6_copy_62 fX6_246_4 i12_0 ka12 (wS2) ?_
              refine z_icmp_eq (tgt := 74) dX6_copy_65 rfl (by omega) (fun uc65 => ?_) (fun uc65 => ?_)
              ·
                refine z_aload 6 dX6_copy_74 rfl ?_
                refine z_iload_n 2 dX6_copy_76 rfl ?_
                refine z_iload 5 dX6_copy_77 rfl ?_
                refine z_vI dX6_copy_79 lX6_249 (by decide) ka11 io11 rfl (ct_X4_holds_11 en M S1 wS1 _ _ (by omega) (by omega)) rfl rfl (by exact Nat.le_of_ble_eq_true rfl) ?_
                refine z_ifeq_b (tgt := 97) dX6_copy_82 rfl (fun uc82 => ?_) (fun uc82 => ?_)
                ·
                  refine z_aload_n 0 dX6_copy_97 rfl ?_
                  refine z_iconst dX6_copy_98 ?_
                  refine z_vI dX6_copy_99 lX6_190 (by decide) ka0 io0 rfl (ct_X6_found en M O0 wO0 (2)) rfl rfl (by exact Nat.le_of_ble_eq_true rfl) ?_
                  exact z_iret C dX6_copy_102 rfl ⟨_, rfl, Or.inr (Or.inr (Or.inr (Or.inl ⟨⟨by omega, by rw [ux_s, ux_t]; omega, by first | (rw [ux_s, ux_t]; exact uc65) | (rw [ux_s, ux_t]), by rw [ux_s, ux_t]; omega⟩, rfl, rfl⟩)))⟩
                ·
                  refine z_aload 7 dX6_copy_85 rfl ?_
                  refine z_iload 4 dX6_copy_87 rfl ?_
                  refine z_iload 5 dX6_copy_89 rfl ?_
                  refine z_vI dX6_copy_91 lX6_249 (by decide) ka12 io12 rfl (ct_X4_holds_12 en M S2 wS2 _ _ (by omega) (by omega)) rfl rfl (by exact Nat.le_of_ble_eq_true rfl) ?_
                  refine z_ifne_b (tgt := 103) dX6_copy_94 rfl (fun uc94 => ?_) (fun uc94 => ?_)
                  ·
                    refine z_aload 6 dX6_copy_103 rfl ?_
                    refine z_getR dX6_copy_105 fX6_194_4 i11_2 ka11 ?_
                    refine z_iload_n 2 dX6_copy_108 rfl ?_
                    refine z_aload 7 dX6_copy_109 rfl ?_
                    refine z_getR dX6_copy_111 fX6_194_4 i12_2 ka12 ?_
                    refine z_iload 4 dX6_copy_114 rfl ?_
                    refine z_iload 5 dX6_copy_116 rfl ?_
                    refine z_copy (f := I1) (g := I2) rfl dX6_copy_118 is15 is16 ka15 ka16 (wI1) (wI2) (by omega) (Nat.le_of_ble_eq_true rfl) (Nat.le_of_ble_eq_true rfl) (fun r16_118 f16_118 => ?_)
                    refine z_iconst dX6_copy_121 ?_
                    exact z_iret C dX6_copy_122 rfl ⟨_, rfl, Or.inr (Or.inr (Or.inr (Or.inr ⟨⟨by omega, by rw [ux_s, ux_t]; omega, by first | (rw [ux_s, ux_t]; exact uc65) | (rw [ux_s, ux_t]), by rw [ux_s, ux_t]; omega⟩, rfl, by rw [uy_s, uy_t, uz_t, f16_118]⟩)))⟩
                  ·
                    refine z_aload_n 0 dX6_copy_97 rfl ?_
                    refine z_iconst dX6_copy_98 ?_
                    refine z_vI dX6_copy_99 lX6_190 (by decide) ka0 io0 rfl (ct_X6_found en M O0 wO0 (2)) rfl rfl (by exact Nat.le_of_ble_eq_true rfl) ?_
                    exact z_iret C dX6_copy_102 rfl ⟨_, rfl, Or.inr (Or.inr (Or.inr (Or.inl ⟨⟨by omega, by rw [ux_s, ux_t]; omega, by first | (rw [ux_s, ux_t]; exact uc65) | (rw [ux_s, ux_t]), by rw [ux_s, ux_t]; omega⟩, rfl, rfl⟩)))⟩
              ·
                refine z_aload_n 0 dX6_copy_68 rfl ?_
                refine z_iconst dX6_copy_69 ?_
                refine z_vI dX6_copy_70 lX6_190 (by decide) ka0 io0 rfl (ct_X6_found en M O0 wO0 (4)) rfl rfl (by exact Nat.le_of_ble_eq_true rfl) ?_
                exact z_iret C dX6_copy_73 rfl ⟨_, rfl, Or.inr (Or.inr (Or.inl ⟨⟨by omega, by rw [ux_s, ux_t]; omega, by first | (rw [ux_s, ux_t]; exact uc65) | (rw [ux_s, ux_t])⟩, rfl, rfl⟩))⟩
            ·
              refine z_aload_n 0 dX6_copy_49 rfl ?_
              refine z_iconst dX6_copy_50 ?_
              refine z_vI dX6_copy_51 lX6_190 (by decide) ka0 io0 rfl (ct_X6_found en M O0 wO0 (1)) rfl rfl (by exact Nat.le_of_ble_eq_true rfl) ?_
              exact z_iret C dX6_copy_54 rfl ⟨_, rfl, Or.inr (Or.inl ⟨⟨by omega, by rw [ux_s, ux_t]; omega⟩, rfl, rfl⟩)⟩
        ·
          have ux_t : M (10 + t.toNat) = S3 := by rw [show t.toNat = 3 by omega]; exact wS3
          have uy_t : M (14 + t.toNat) = I3 := by rw [show t.toNat = 3 by omega]; exact wI3
          have uz_t : t.toNat = 3 := by omega
          refine z_aald 3 dX6_copy_30 ka9 (by omega) (by decide) ?_
          refine z_astore [(0, rf en 0), (1, vi s), (2, vi i), (3, vi t), (4, vi j), (5, vi n), (6, rf en 11), (7, rf en 13)] [1, 2, 3, 4, 5, 6, 7, 0] dX6_copy_31 (by decide) rfl ?_
          refine z_aload 6 dX6_copy_33 rfl ?_
          refine z_vI dX6_copy_35 lX6_186 (by decide) ka11 io11 rfl (ct_X4_isLost_11 en M S1 wS1 (by omega)) rfl rfl (by exact Nat.le_of_ble_eq_true rfl) ?_
          refine z_ifne_b (tgt := 49) dX6_copy_38 rfl (fun uc38 => ?_) (fun uc38 => ?_)
          ·
            refine z_aload_n 0 dX6_copy_49 rfl ?_
            refine z_iconst dX6_copy_50 ?_
            refine z_vI dX6_copy_51 lX6_190 (by decide) ka0 io0 rfl (ct_X6_found en M O0 wO0 (1)) rfl rfl (by exact Nat.le_of_ble_eq_true rfl) ?_
            exact z_iret C dX6_copy_54 rfl ⟨_, rfl, Or.inr (Or.inl ⟨⟨by omega, by rw [ux_s, ux_t]; omega⟩, rfl, rfl⟩)⟩
          ·
            refine z_aload 7 dX6_copy_41 rfl ?_
            refine z_vI dX6_copy_43 lX6_186 (by decide) ka13 io13 rfl (ct_X4_isLost_13 en M S3 wS3 (by omega)) rfl rfl (by exact Nat.le_of_ble_eq_true rfl) ?_
            refine z_ifeq_b (tgt := 55) dX6_copy_46 rfl (fun uc46 => ?_) (fun uc46 => ?_)
            ·
              refine z_aload 6 dX6_copy_55 rfl ?_
              refine z_getI (r := S1) 0 rfl dX6_copy_57 fX6_246_4 i11_0 ka11 (wS1) ?_
              refine z_aload 7 dX6_copy_60 rfl ?_
              refine z_getI (r := S3) 0 rfl dX6_copy_62 fX6_246_4 i13_0 ka13 (wS3) ?_
              refine z_icmp_eq (tgt := 74) dX6_copy_65 rfl (by omega) (fun uc65 => ?_) (fun uc65 => ?_)
              ·
                refine z_aload 6 dX6_copy_74 rfl ?_
                refine z_iload_n 2 dX6_copy_76 rfl ?_
                refine z_iload 5 dX6_copy_77 rfl ?_
                refine z_vI dX6_copy_79 lX6_249 (by decide) ka11 io11 rfl (ct_X4_holds_11 en M S1 wS1 _ _ (by omega) (by omega)) rfl rfl (by exact Nat.le_of_ble_eq_true rfl) ?_
                refine z_ifeq_b (tgt := 97) dX6_copy_82 rfl (fun uc82 => ?_) (fun uc82 => ?_)
                ·
                  refine z_aload_n 0 dX6_copy_97 rfl ?_
                  refine z_iconst dX6_copy_98 ?_
                  refine z_vI dX6_copy_99 lX6_190 (by decide) ka0 io0 rfl (ct_X6_found en M O0 wO0 (2)) rfl rfl (by exact Nat.le_of_ble_eq_true rfl) ?_
                  exact z_iret C dX6_copy_102 rfl ⟨_, rfl, Or.inr (Or.inr (Or.inr (Or.inl ⟨⟨by omega, by rw [ux_s, ux_t]; omega, by first | (rw [ux_s, ux_t]; exact uc65) | (rw [ux_s, ux_t]), by rw [ux_s, ux_t]; omega⟩, rfl, rfl⟩)))⟩
                ·
                  refine z_aload 7 dX6_copy_85 rfl ?_
                  refine z_iload 4 dX6_copy_87 rfl ?_
                  refine z_iload 5 dX6_copy_89 rfl ?_
                  refine z_vI dX6_copy_91 lX6_249 (by decide) ka13 io13 rfl (ct_X4_holds_13 en M S3 wS3 _ _ (by omega) (by omega)) rfl rfl (by exact Nat.le_of_ble_eq_true rfl) ?_
                  refine z_ifne_b (tgt := 103) dX6_copy_94 rfl (fun uc94 => ?_) (fun uc94 => ?_)
                  ·
                    refine z_aload 6 dX6_copy_103 rfl ?_
                    refine z_getR dX6_copy_105 fX6_194_4 i11_2 ka11 ?_
                    refine z_iload_n 2 dX6_copy_108 rfl ?_
                    refine z_aload 7 dX6_copy_109 rfl ?_
                    refine z_getR dX6_copy_111 fX6_194_4 i13_2 ka13 ?_
                    refine z_iload 4 dX6_copy_114 rfl ?_
                    refine z_iload 5 dX6_copy_116 rfl ?_
                    refine z_copy (f := I1) (g := I3) rfl dX6_copy_118 is15 is17 ka15 ka17 (wI1) (wI3) (by omega) (Nat.le_of_ble_eq_true rfl) (Nat.le_of_ble_eq_true rfl) (fun r17_118 f17_118 => ?_)
                    refine z_iconst dX6_copy_121 ?_
                    exact z_iret C dX6_copy_122 rfl ⟨_, rfl, Or.inr (Or.inr (Or.inr (Or.inr ⟨⟨by omega, by rw [ux_s, ux_t]; omega, by first | (rw [ux_s, ux_t]; exact uc65) | (rw [ux_s, ux_t]), by rw [ux_s, ux_t]; omega⟩, rfl, by rw [uy_s, uy_t, uz_t, f17_118]⟩)))⟩
                  ·
                    refine z_aload_n 0 dX6_copy_97 rfl ?_
                    refine z_iconst dX6_copy_98 ?_
                    refine z_vI dX6_copy_99 lX6_190 (by decide) ka0 io0 rfl (ct_X6_found en M O0 wO0 (2)) rfl rfl (by exact Nat.le_of_ble_eq_true rfl) ?_
                    exact z_iret C dX6_copy_102 rfl ⟨_, rfl, Or.inr (Or.inr (Or.inr (Or.inl ⟨⟨by omega, by rw [ux_s, ux_t]; omega, by first | (rw [ux_s, ux_t]; exact uc65) | (rw [ux_s, ux_t]), by rw [ux_s, ux_t]; omega⟩, rfl, rfl⟩)))⟩
              ·
                refine z_aload_n 0 dX6_copy_68 rfl ?_
                refine z_iconst dX6_copy_69 ?_
                refine z_vI dX6_copy_70 lX6_190 (by decide) ka0 io0 rfl (ct_X6_found en M O0 wO0 (4)) rfl rfl (by exact Nat.le_of_ble_eq_true rfl) ?_
                exact z_iret C dX6_copy_73 rfl ⟨_, rfl, Or.inr (Or.inr (Or.inl ⟨⟨by omega, by rw [ux_s, ux_t]; omega, by first | (rw [ux_s, ux_t]; exact uc65) | (rw [ux_s, ux_t])⟩, rfl, rfl⟩))⟩
            ·
              refine z_aload_n 0 dX6_copy_49 rfl ?_
              refine z_iconst dX6_copy_50 ?_
              refine z_vI dX6_copy_51 lX6_190 (by decide) ka0 io0 rfl (ct_X6_found en M O0 wO0 (1)) rfl rfl (by exact Nat.le_of_ble_eq_true rfl) ?_
              exact z_iret C dX6_copy_54 rfl ⟨_, rfl, Or.inr (Or.inl ⟨⟨by omega, by rw [ux_s, ux_t]; omega⟩, rfl, rfl⟩)⟩
      ·
        have ux_s : M (10 + s.toNat) = S2 := by rw [show s.toNat = 2 by omega]; exact wS2
        have uy_s : M (14 + s.toNat) = I2 := by rw [show s.toNat = 2 by omega]; exact wI2
        have uz_s : s.toNat = 2 := by omega
        refine z_aald 2 dX6_copy_22 ka9 (by omega) (by decide) ?_
        refine z_astore [(0, rf en 0), (1, vi s), (2, vi i), (3, vi t), (4, vi j), (5, vi n), (6, rf en 12)] [1, 2, 3, 4, 5, 6, 0] dX6_copy_23 (by decide) rfl ?_
        refine z_aload_n 0 dX6_copy_25 rfl ?_
        refine z_getR dX6_copy_26 fX6_59_5 i0_9 ka0 ?_
        refine z_iload_n 3 dX6_copy_29 rfl ?_
        have ush_t : t = 0 ∨ t = 1 ∨ t = 2 ∨ t = 3 := by omega
        rcases ush_t with ush_t | ush_t | ush_t | ush_t
        ·
          have ux_t : M (10 + t.toNat) = S0 := by rw [show t.toNat = 0 by omega]; exact wS0
          have uy_t : M (14 + t.toNat) = I0 := by rw [show t.toNat = 0 by omega]; exact wI0
          have uz_t : t.toNat = 0 := by omega
          refine z_aald 0 dX6_copy_30 ka9 (by omega) (by decide) ?_
          refine z_astore [(0, rf en 0), (1, vi s), (2, vi i), (3, vi t), (4, vi j), (5, vi n), (6, rf en 12), (7, rf en 10)] [1, 2, 3, 4, 5, 6, 7, 0] dX6_copy_31 (by decide) rfl ?_
          refine z_aload 6 dX6_copy_33 rfl ?_
          refine z_vI dX6_copy_35 lX6_186 (by decide) ka12 io12 rfl (ct_X4_isLost_12 en M S2 wS2 (by omega)) rfl rfl (by exact Nat.le_of_ble_eq_true rfl) ?_
          refine z_ifne_b (tgt := 49) dX6_copy_38 rfl (fun uc38 => ?_) (fun uc38 => ?_)
          ·
            refine z_aload_n 0 dX6_copy_49 rfl ?_
            refine z_iconst dX6_copy_50 ?_
            refine z_vI dX6_copy_51 lX6_190 (by decide) ka0 io0 rfl (ct_X6_found en M O0 wO0 (1)) rfl rfl (by exact Nat.le_of_ble_eq_true rfl) ?_
            exact z_iret C dX6_copy_54 rfl ⟨_, rfl, Or.inr (Or.inl ⟨⟨by omega, by rw [ux_s, ux_t]; omega⟩, rfl, rfl⟩)⟩
          ·
            refine z_aload 7 dX6_copy_41 rfl ?_
            refine z_vI dX6_copy_43 lX6_186 (by decide) ka10 io10 rfl (ct_X4_isLost_10 en M S0 wS0 (by omega)) rfl rfl (by exact Nat.le_of_ble_eq_true rfl) ?_
            refine z_ifeq_b (tgt := 55) dX6_copy_46 rfl (fun uc46 => ?_) (fun uc46 => ?_)
            ·
              refine z_aload 6 dX6_copy_55 rfl ?_
              refine z_getI (r := S2) 0 rfl dX6_copy_57 fX6_246_4 i12_0 ka12 (wS2) ?_
              refine z_aload 7 dX6_copy_60 rfl ?_
              refine z_getI (r := S0) 0 rfl dX6_copy_62 fX6_246_4 i10_0 ka10 (wS0) ?_
              refine z_icmp_eq (tgt := 74) dX6_copy_65 rfl (by omega) (fun uc65 => ?_) (fun uc65 => ?_)
              ·
                refine z_aload 6 dX6_copy_74 rfl ?_
                refine z_iload_n 2 dX6_copy_76 rfl ?_
                refine z_iload 5 dX6_copy_77 rfl ?_
                refine z_vI dX6_copy_79 lX6_249 (by decide) ka12 io12 rfl (ct_X4_holds_12 en M S2 wS2 _ _ (by omega) (by omega)) rfl rfl (by exact Nat.le_of_ble_eq_true rfl) ?_
                refine z_ifeq_b (tgt := 97) dX6_copy_82 rfl (fun uc82 => ?_) (fun uc82 => ?_)
                ·
                  refine z_aload_n 0 dX6_copy_97 rfl ?_
                  refine z_iconst dX6_copy_98 ?_
                  refine z_vI dX6_copy_99 lX6_190 (by decide) ka0 io0 rfl (ct_X6_found en M O0 wO0 (2)) rfl rfl (by exact Nat.le_of_ble_eq_true rfl) ?_
                  exact z_iret C dX6_copy_102 rfl ⟨_, rfl, Or.inr (Or.inr (Or.inr (Or.inl ⟨⟨by omega, by rw [ux_s, ux_t]; omega, by first | (rw [ux_s, ux_t]; exact uc65) | (rw [ux_s, ux_t]), by rw [ux_s, ux_t]; omega⟩, rfl, rfl⟩)))⟩
                ·
                  refine z_aload 7 dX6_copy_85 rfl ?_
                  refine z_iload 4 dX6_copy_87 rfl ?_
                  refine z_iload 5 dX6_copy_89 rfl ?_
                  refine z_vI dX6_copy_91 lX6_249 (by decide) ka10 io10 rfl (ct_X4_holds_10 en M S0 wS0 _ _ (by omega) (by omega)) rfl rfl (by exact Nat.le_of_ble_eq_true rfl) ?_
                  refine z_ifne_b (tgt := 103) dX6_copy_94 rfl (fun uc94 => ?_) (fun uc94 => ?_)
                  ·
                    refine z_aload 6 dX6_copy_103 rfl ?_
                    refine z_getR dX6_copy_105 fX6_194_4 i12_2 ka12 ?_
                    refine z_iload_n 2 dX6_copy_108 rfl ?_
                    refine z_aload 7 dX6_copy_109 rfl ?_
                    refine z_getR dX6_copy_111 fX6_194_4 i10_2 ka10 ?_
                    refine z_iload 4 dX6_copy_114 rfl ?_
                    refine z_iload 5 dX6_copy_116 rfl ?_
                    refine z_copy (f := I2) (g := I0) rfl dX6_copy_118 is16 is14 ka16 ka14 (wI2) (wI0) (by omega) (Nat.le_of_ble_eq_true rfl) (Nat.le_of_ble_eq_true rfl) (fun r14_118 f14_118 => ?_)
                    refine z_iconst dX6_copy_121 ?_
                    exact z_iret C dX6_copy_122 rfl ⟨_, rfl, Or.inr (Or.inr (Or.inr (Or.inr ⟨⟨by omega, by rw [ux_s, ux_t]; omega, by first | (rw [ux_s, ux_t]; exact uc65) | (rw [ux_s, ux_t]), by rw [ux_s, ux_t]; omega⟩, rfl, by rw [uy_s, uy_t, uz_t, f14_118]⟩)))⟩
                  ·
                    refine z_aload_n 0 dX6_copy_97 rfl ?_
                    refine z_iconst dX6_copy_98 ?_
                    refine z_vI dX6_copy_99 lX6_190 (by decide) ka0 io0 rfl (ct_X6_found en M O0 wO0 (2)) rfl rfl (by exact Nat.le_of_ble_eq_true rfl) ?_
                    exact z_iret C dX6_copy_102 rfl ⟨_, rfl, Or.inr (Or.inr (Or.inr (Or.inl ⟨⟨by omega, by rw [ux_s, ux_t]; omega, by first | (rw [ux_s, ux_t]; exact uc65) | (rw [ux_s, ux_t]), by rw [ux_s, ux_t]; omega⟩, rfl, rfl⟩)))⟩
              ·
                refine z_aload_n 0 dX6_copy_68 rfl ?_
                refine z_iconst dX6_copy_69 ?_
                refine z_vI dX6_copy_70 lX6_190 (by decide) ka0 io0 rfl (ct_X6_found en M O0 wO0 (4)) rfl rfl (by exact Nat.le_of_ble_eq_true rfl) ?_
                exact z_iret C dX6_copy_73 rfl ⟨_, rfl, Or.inr (Or.inr (Or.inl ⟨⟨by omega, by rw [ux_s, ux_t]; omega, by first | (rw [ux_s, ux_t]; exact uc65) | (rw [ux_s, ux_t])⟩, rfl, rfl⟩))⟩
            ·
              refine z_aload_n 0 dX6_copy_49 rfl ?_
              refine z_iconst dX6_copy_50 ?_
              refine z_vI dX6_copy_51 lX6_190 (by decide) ka0 io0 rfl (ct_X6_found en M O0 wO0 (1)) rfl rfl (by exact Nat.le_of_ble_eq_true rfl) ?_
              exact z_iret C dX6_copy_54 rfl ⟨_, rfl, Or.inr (Or.inl ⟨⟨by omega, by rw [ux_s, ux_t]; omega⟩, rfl, rfl⟩)⟩
        ·
          have ux_t : M (10 + t.toNat) = S1 := by rw [show t.toNat = 1 by omega]; exact wS1
          have uy_t : M (14 + t.toNat) = I1 := by rw [show t.toNat = 1 by omega]; exact wI1
          have uz_t : t.toNat = 1 := by omega
          refine z_aald 1 dX6_copy_30 ka9 (by omega) (by decide) ?_
          refine z_astore [(0, rf en 0), (1, vi s), (2, vi i), (3, vi t), (4, vi j), (5, vi n), (6, rf en 12), (7, rf en 11)] [1, 2, 3, 4, 5, 6, 7, 0] dX6_copy_31 (by decide) rfl ?_
          refine z_aload 6 dX6_copy_33 rfl ?_
          refine z_vI dX6_copy_35 lX6_186 (by decide) ka12 io12 rfl (ct_X4_isLost_12 en M S2 wS2 (by omega)) rfl rfl (by exact Nat.le_of_ble_eq_true rfl) ?_
          refine z_ifne_b (tgt := 49) dX6_copy_38 rfl (fun uc38 => ?_) (fun uc38 => ?_)
          ·
            refine z_aload_n 0 dX6_copy_49 rfl ?_
            refine z_iconst dX6_copy_50 ?_
            refine z_vI dX6_copy_51 lX6_190 (by decide) ka0 io0 rfl (ct_X6_found en M O0 wO0 (1)) rfl rfl (by exact Nat.le_of_ble_eq_true rfl) ?_
            exact z_iret C dX6_copy_54 rfl ⟨_, rfl, Or.inr (Or.inl ⟨⟨by omega, by rw [ux_s, ux_t]; omega⟩, rfl, rfl⟩)⟩
          ·
            refine z_aload 7 dX6_copy_41 rfl ?_
            refine z_vI dX6_copy_43 lX6_186 (by decide) ka11 io11 rfl (ct_X4_isLost_11 en M S1 wS1 (by omega)) rfl rfl (by exact Nat.le_of_ble_eq_true rfl) ?_
            refine z_ifeq_b (tgt := 55) dX6_copy_46 rfl (fun uc46 => ?_) (fun uc46 => ?_)
            ·
              refine z_aload 6 dX6_copy_55 rfl ?_
              refine z_getI (r := S2) 0 rfl dX6_copy_57 fX6_246_4 i12_0 ka12 (wS2) ?_
              refine z_aload 7 dX6_copy_60 rfl ?_
              refine z_getI (r := S1) 0 rfl dX6_copy_62 fX6_246_4 i11_0 ka11 (wS1) ?_
              refine z_icmp_eq (tgt := 74) dX6_copy_65 rfl (by omega) (fun uc65 => ?_) (fun uc65 => ?_)
              ·
                refine z_aload 6 dX6_copy_74 rfl ?_
                refine z_iload_n 2 dX6_copy_76 rfl ?_
                refine z_iload 5 dX6_copy_77 rfl ?_
                refine z_vI dX6_copy_79 lX6_249 (by decide) ka12 io12 rfl (ct_X4_holds_12 en M S2 wS2 _ _ (by omega) (by omega)) rfl rfl (by exact Nat.le_of_ble_eq_true rfl) ?_
                refine z_ifeq_b (tgt := 97) dX6_copy_82 rfl (fun uc82 => ?_) (fun uc82 => ?_)
                ·
                  refine z_aload_n 0 dX6_copy_97 rfl ?_
                  refine z_iconst dX6_copy_98 ?_
                  refine z_vI dX6_copy_99 lX6_190 (by decide) ka0 io0 rfl (ct_X6_found en M O0 wO0 (2)) rfl rfl (by exact Nat.le_of_ble_eq_true rfl) ?_
                  exact z_iret C dX6_copy_102 rfl ⟨_, rfl, Or.inr (Or.inr (Or.inr (Or.inl ⟨⟨by omega, by rw [ux_s, ux_t]; omega, by first | (rw [ux_s, ux_t]; exact uc65) | (rw [ux_s, ux_t]), by rw [ux_s, ux_t]; omega⟩, rfl, rfl⟩)))⟩
                ·
                  refine z_aload 7 dX6_copy_85 rfl ?_
                  refine z_iload 4 dX6_copy_87 rfl ?_
                  refine z_iload 5 dX6_copy_89 rfl ?_
                  refine z_vI dX6_copy_91 lX6_249 (by decide) ka11 io11 rfl (ct_X4_holds_11 en M S1 wS1 _ _ (by omega) (by omega)) rfl rfl (by exact Nat.le_of_ble_eq_true rfl) ?_
                  refine z_ifne_b (tgt := 103) dX6_copy_94 rfl (fun uc94 => ?_) (fun uc94 => ?_)
                  ·
                    refine z_aload 6 dX6_copy_103 rfl ?_
                    refine z_getR dX6_copy_105 fX6_194_4 i12_2 ka12 ?_
                    refine z_iload_n 2 dX6_copy_108 rfl ?_
                    refine z_aload 7 dX6_copy_109 rfl ?_
                    refine z_getR dX6_copy_111 fX6_194_4 i11_2 ka11 ?_
                    refine z_iload 4 dX6_copy_114 rfl ?_
                    refine z_iload 5 dX6_copy_116 rfl ?_
                    refine z_copy (f := I2) (g := I1) rfl dX6_copy_118 is16 is15 ka16 ka15 (wI2) (wI1) (by omega) (Nat.le_of_ble_eq_true rfl) (Nat.le_of_ble_eq_true rfl) (fun r15_118 f15_118 => ?_)
                    refine z_iconst dX6_copy_121 ?_
                    exact z_iret C dX6_copy_122 rfl ⟨_, rfl, Or.inr (Or.inr (Or.inr (Or.inr ⟨⟨by omega, by rw [ux_s, ux_t]; omega, by first | (rw [ux_s, ux_t]; exact uc65) | (rw [ux_s, ux_t]), by rw [ux_s, ux_t]; omega⟩, rfl, by rw [uy_s, uy_t, uz_t, f15_118]⟩)))⟩
                  ·
                    refine z_aload_n 0 dX6_copy_97 rfl ?_
                    refine z_iconst dX6_copy_98 ?_
                    refine z_vI dX6_copy_99 lX6_190 (by decide) ka0 io0 rfl (ct_X6_found en M O0 wO0 (2)) rfl rfl (by exact Nat.le_of_ble_eq_true rfl) ?_
                    exact z_iret C dX6_copy_102 rfl ⟨_, rfl, Or.inr (Or.inr (Or.inr (Or.inl ⟨⟨by omega, by rw [ux_s, ux_t]; omega, by first | (rw [ux_s, ux_t]; exact uc65) | (rw [ux_s, ux_t]), by rw [ux_s, ux_t]; omega⟩, rfl, rfl⟩)))⟩
              ·
                refine z_aload_n 0 dX6_copy_68 rfl ?_
                refine z_iconst dX6_copy_69 ?_
                refine z_vI dX6_copy_70 lX6_190 (by decide) ka0 io0 rfl (ct_X6_found en M O0 wO0 (4)) rfl rfl (by exact Nat.le_of_ble_eq_true rfl) ?_
                exact z_iret C dX6_copy_73 rfl ⟨_, rfl, Or.inr (Or.inr (Or.inl ⟨⟨by omega, by rw [ux_s, ux_t]; omega, by first | (rw [ux_s, ux_t]; exact uc65) | (rw [ux_s, ux_t])⟩, rfl, rfl⟩))⟩
            ·
              refine z_aload_n 0 dX6_copy_49 rfl ?_
              refine z_iconst dX6_copy_50 ?_
              refine z_vI dX6_copy_51 lX6_190 (by decide) ka0 io0 rfl (ct_X6_found en M O0 wO0 (1)) rfl rfl (by exact Nat.le_of_ble_eq_true rfl) ?_
              exact z_iret C dX6_copy_54 rfl ⟨_, rfl, Or.inr (Or.inl ⟨⟨by omega, by rw [ux_s, ux_t]; omega⟩, rfl, rfl⟩)⟩
        ·
          have ux_t : M (10 + t.toNat) = S2 := by rw [show t.toNat = 2 by omega]; exact wS2
          have uy_t : M (14 + t.toNat) = I2 := by rw [show t.toNat = 2 by omega]; exact wI2
          have uz_t : t.toNat = 2 := by omega
          refine z_aald 2 dX6_copy_30 ka9 (by omega) (by decide) ?_
          refine z_astore [(0, rf en 0), (1, vi s), (2, vi i), (3, vi t), (4, vi j), (5, vi n), (6, rf en 12), (7, rf en 12)] [1, 2, 3, 4, 5, 6, 7, 0] dX6_copy_31 (by decide) rfl ?_
          refine z_aload 6 dX6_copy_33 rfl ?_
          refine z_vI dX6_copy_35 lX6_186 (by decide) ka12 io12 rfl (ct_X4_isLost_12 en M S2 wS2 (by omega)) rfl rfl (by exact Nat.le_of_ble_eq_true rfl) ?_
          refine z_ifne_b (tgt := 49) dX6_copy_38 rfl (fun uc38 => ?_) (fun uc38 => ?_)
          ·
            refine z_aload_n 0 dX6_copy_49 rfl ?_
            refine z_iconst dX6_copy_50 ?_
            refine z_vI dX6_copy_51 lX6_190 (by decide) ka0 io0 rfl (ct_X6_found en M O0 wO0 (1)) rfl rfl (by exact Nat.le_of_ble_eq_true rfl) ?_
            exact z_iret C dX6_copy_54 rfl ⟨_, rfl, Or.inr (Or.inl ⟨⟨by omega, by rw [ux_s, ux_t]; omega⟩, rfl, rfl⟩)⟩
          ·
            refine z_aload 7 dX6_copy_41 rfl ?_
            refine z_vI dX6_copy_43 lX6_186 (by decide) ka12 io12 rfl (ct_X4_isLost_12 en M S2 wS2 (by omega)) rfl rfl (by exact Nat.le_of_ble_eq_true rfl) ?_
            refine z_ifeq_b (tgt := 55) dX6_copy_46 rfl (fun uc46 => ?_) (fun uc46 => ?_)
            ·
              refine z_aload 6 dX6_copy_55 rfl ?_
              refine z_getI (r := S2) 0 rfl dX6_copy_57 fX6_246_4 i12_0 ka12 (wS2) ?_
              refine z_aload 7 dX6_copy_60 rfl ?_
              refine z_getI (r := S2) 0 rfl dX6_copy_62 fX6_246_4 i12_0 ka12 (wS2) ?_
              refine z_icmp_eq (tgt := 74) dX6_copy_65 rfl (by omega) (fun uc65 => ?_) (fun uc65 => ?_)
              ·
                refine z_aload 6 dX6_copy_74 rfl ?_
                refine z_iload_n 2 dX6_copy_76 rfl ?_
                refine z_iload 5 dX6_copy_77 rfl ?_
                refine z_vI dX6_copy_79 lX6_249 (by decide) ka12 io12 rfl (ct_X4_holds_12 en M S2 wS2 _ _ (by omega) (by omega)) rfl rfl (by exact Nat.le_of_ble_eq_true rfl) ?_
                refine z_ifeq_b (tgt := 97) dX6_copy_82 rfl (fun uc82 => ?_) (fun uc82 => ?_)
                ·
                  refine z_aload_n 0 dX6_copy_97 rfl ?_
                  refine z_iconst dX6_copy_98 ?_
                  refine z_vI dX6_copy_99 lX6_190 (by decide) ka0 io0 rfl (ct_X6_found en M O0 wO0 (2)) rfl rfl (by exact Nat.le_of_ble_eq_true rfl) ?_
                  exact z_iret C dX6_copy_102 rfl ⟨_, rfl, Or.inr (Or.inr (Or.inr (Or.inl ⟨⟨by omega, by rw [ux_s, ux_t]; omega, by first | (rw [ux_s, ux_t]; exact uc65) | (rw [ux_s, ux_t]), by rw [ux_s, ux_t]; omega⟩, rfl, rfl⟩)))⟩
                ·
                  refine z_aload 7 dX6_copy_85 rfl ?_
                  refine z_iload 4 dX6_copy_87 rfl ?_
                  refine z_iload 5 dX6_copy_89 rfl ?_
                  refine z_vI dX6_copy_91 lX6_249 (by decide) ka12 io12 rfl (ct_X4_holds_12 en M S2 wS2 _ _ (by omega) (by omega)) rfl rfl (by exact Nat.le_of_ble_eq_true rfl) ?_
                  refine z_ifne_b (tgt := 103) dX6_copy_94 rfl (fun uc94 => ?_) (fun uc94 => ?_)
                  ·
                    refine z_aload 6 dX6_copy_103 rfl ?_
                    refine z_getR dX6_copy_105 fX6_194_4 i12_2 ka12 ?_
                    refine z_iload_n 2 dX6_copy_108 rfl ?_
                    refine z_aload 7 dX6_copy_109 rfl ?_
                    refine z_getR dX6_copy_111 fX6_194_4 i12_2 ka12 ?_
                    refine z_iload 4 dX6_copy_114 rfl ?_
                    refine z_iload 5 dX6_copy_116 rfl ?_
                    refine z_copy (f := I2) (g := I2) rfl dX6_copy_118 is16 is16 ka16 ka16 (wI2) (wI2) (by omega) (Nat.le_of_ble_eq_true rfl) (Nat.le_of_ble_eq_true rfl) (fun r16_118 f16_118 => ?_)
                    refine z_iconst dX6_copy_121 ?_
                    exact z_iret C dX6_copy_122 rfl ⟨_, rfl, Or.inr (Or.inr (Or.inr (Or.inr ⟨⟨by omega, by rw [ux_s, ux_t]; omega, by first | (rw [ux_s, ux_t]; exact uc65) | (rw [ux_s, ux_t]), by rw [ux_s, ux_t]; omega⟩, rfl, by rw [uy_s, uy_t, uz_t, f16_118]⟩)))⟩
                  ·
                    refine z_aload_n 0 dX6_copy_97 rfl ?_
                    refine z_iconst dX6_copy_98 ?_
                    refine z_vI dX6_copy_99 lX6_190 (by decide) ka0 io0 rfl (ct_X6_found en M O0 wO0 (2)) rfl rfl (by exact Nat.le_of_ble_eq_true rfl) ?_
                    exact z_iret C dX6_copy_102 rfl ⟨_, rfl, Or.inr (Or.inr (Or.inr (Or.inl ⟨⟨by omega, by rw [ux_s, ux_t]; omega, by first | (rw [ux_s, ux_t]; exact uc65) | (rw [ux_s, ux_t]), by rw [ux_s, ux_t]; omega⟩, rfl, rfl⟩)))⟩
              ·
                refine z_aload_n 0 dX6_copy_68 rfl ?_
                refine z_iconst dX6_copy_69 ?_
                refine z_vI dX6_copy_70 lX6_190 (by decide) ka0 io0 rfl (ct_X6_found en M O0 wO0 (4)) rfl rfl (by exact Nat.le_of_ble_eq_true rfl) ?_
                exact z_iret C dX6_copy_73 rfl ⟨_, rfl, Or.inr (Or.inr (Or.inl ⟨⟨by omega, by rw [ux_s, ux_t]; omega, by first | (rw [ux_s, ux_t]; exact uc65) | (rw [ux_s, ux_t])⟩, rfl, rfl⟩))⟩
            ·
              refine z_aload_n 0 dX6_copy_49 rfl ?_
              refine z_iconst dX6_copy_50 ?_
              refine z_vI dX6_copy_51 lX6_190 (by decide) ka0 io0 rfl (ct_X6_found en M O0 wO0 (1)) rfl rfl (by exact Nat.le_of_ble_eq_true rfl) ?_
              exact z_iret C dX6_copy_54 rfl ⟨_, rfl, Or.inr (Or.inl ⟨⟨by omega, by rw [ux_s, ux_t]; omega⟩, rfl, rfl⟩)⟩
        ·
          have ux_t : M (10 + t.toNat) = S3 := by rw [show t.toNat = 3 by omega]; exact wS3
          have uy_t : M (14 + t.toNat) = I3 := by rw [show t.toNat = 3 by omega]; exact wI3
          have uz_t : t.toNat = 3 := by omega
          refine z_aald 3 dX6_copy_30 ka9 (by omega) (by decide) ?_
          refine z_astore [(0, rf en 0), (1, vi s), (2, vi i), (3, vi t), (4, vi j), (5, vi n), (6, rf en 12), (7, rf en 13)] [1, 2, 3, 4, 5, 6, 7, 0] dX6_copy_31 (by decide) rfl ?_
          refine z_aload 6 dX6_copy_33 rfl ?_
          refine z_vI dX6_copy_35 lX6_186 (by decide) ka12 io12 rfl (ct_X4_isLost_12 en M S2 wS2 (by omega)) rfl rfl (by exact Nat.le_of_ble_eq_true rfl) ?_
          refine z_ifne_b (tgt := 49) dX6_copy_38 rfl (fun uc38 => ?_) (fun uc38 => ?_)
          ·
            refine z_aload_n 0 dX6_copy_49 rfl ?_
            refine z_iconst dX6_copy_50 ?_
            refine z_vI dX6_copy_51 lX6_190 (by decide) ka0 io0 rfl (ct_X6_found en M O0 wO0 (1)) rfl rfl (by exact Nat.le_of_ble_eq_true rfl) ?_
            exact z_iret C dX6_copy_54 rfl ⟨_, rfl, Or.inr (Or.inl ⟨⟨by omega, by rw [ux_s, ux_t]; omega⟩, rfl, rfl⟩)⟩
          ·
            refine z_aload 7 dX6_copy_41 rfl ?_
            refine z_vI dX6_copy_43 lX6_186 (by decide) ka13 io13 rfl (ct_X4_isLost_13 en M S3 wS3 (by omega)) rfl rfl (by exact Nat.le_of_ble_eq_true rfl) ?_
            refine z_ifeq_b (tgt := 55) dX6_copy_46 rfl (fun uc46 => ?_) (fun uc46 => ?_)
            ·
              refine z_aload 6 dX6_copy_55 rfl ?_
              refine z_getI (r := S2) 0 rfl dX6_copy_57 fX6_246_4 i12_0 ka12 (wS2) ?_
              refine z_aload 7 dX6_copy_60 rfl ?_
              refine z_getI (r := S3) 0 rfl dX6_copy_62 fX6_246_4 i13_0 ka13 (wS3) ?_
              refine z_icmp_eq (tgt := 74) dX6_copy_65 rfl (by omega) (fun uc65 => ?_) (fun uc65 => ?_)
              ·
                refine z_aload 6 dX6_copy_74 rfl ?_
                refine z_iload_n 2 dX6_copy_76 rfl ?_
                refine z_iload 5 dX6_copy_77 rfl ?_
                refine z_vI dX6_copy_79 lX6_249 (by decide) ka12 io12 rfl (ct_X4_holds_12 en M S2 wS2 _ _ (by omega) (by omega)) rfl rfl (by exact Nat.le_of_ble_eq_true rfl) ?_
                refine z_ifeq_b (tgt := 97) dX6_copy_82 rfl (fun uc82 => ?_) (fun uc82 => ?_)
                ·
                  refine z_aload_n 0 dX6_copy_97 rfl ?_
                  refine z_iconst dX6_copy_98 ?_
                  refine z_vI dX6_copy_99 lX6_190 (by decide) ka0 io0 rfl (ct_X6_found en M O0 wO0 (2)) rfl rfl (by exact Nat.le_of_ble_eq_true rfl) ?_
                  exact z_iret C dX6_copy_102 rfl ⟨_, rfl, Or.inr (Or.inr (Or.inr (Or.inl ⟨⟨by omega, by rw [ux_s, ux_t]; omega, by first | (rw [ux_s, ux_t]; exact uc65) | (rw [ux_s, ux_t]), by rw [ux_s, ux_t]; omega⟩, rfl, rfl⟩)))⟩
                ·
                  refine z_aload 7 dX6_copy_85 rfl ?_
                  refine z_iload 4 dX6_copy_87 rfl ?_
                  refine z_iload 5 dX6_copy_89 rfl ?_
                  refine z_vI dX6_copy_91 lX6_249 (by decide) ka13 io13 rfl (ct_X4_holds_13 en M S3 wS3 _ _ (by omega) (by omega)) rfl rfl (by exact Nat.le_of_ble_eq_true rfl) ?_
                  refine z_ifne_b (tgt := 103) dX6_copy_94 rfl (fun uc94 => ?_) (fun uc94 => ?_)
                  ·
                    refine z_aload 6 dX6_copy_103 rfl ?_
                    refine z_getR dX6_copy_105 fX6_194_4 i12_2 ka12 ?_
                    refine z_iload_n 2 dX6_copy_108 rfl ?_
                    refine z_aload 7 dX6_copy_109 rfl ?_
                    refine z_getR dX6_copy_111 fX6_194_4 i13_2 ka13 ?_
                    refine z_iload 4 dX6_copy_114 rfl ?_
                    refine z_iload 5 dX6_copy_116 rfl ?_
                    refine z_copy (f := I2) (g := I3) rfl dX6_copy_118 is16 is17 ka16 ka17 (wI2) (wI3) (by omega) (Nat.le_of_ble_eq_true rfl) (Nat.le_of_ble_eq_true rfl) (fun r17_118 f17_118 => ?_)
                    refine z_iconst dX6_copy_121 ?_
                    exact z_iret C dX6_copy_122 rfl ⟨_, rfl, Or.inr (Or.inr (Or.inr (Or.inr ⟨⟨by omega, by rw [ux_s, ux_t]; omega, by first | (rw [ux_s, ux_t]; exact uc65) | (rw [ux_s, ux_t]), by rw [ux_s, ux_t]; omega⟩, rfl, by rw [uy_s, uy_t, uz_t, f17_118]⟩)))⟩
                  ·
                    refine z_aload_n 0 dX6_copy_97 rfl ?_
                    refine z_iconst dX6_copy_98 ?_
                    refine z_vI dX6_copy_99 lX6_190 (by decide) ka0 io0 rfl (ct_X6_found en M O0 wO0 (2)) rfl rfl (by exact Nat.le_of_ble_eq_true rfl) ?_
                    exact z_iret C dX6_copy_102 rfl ⟨_, rfl, Or.inr (Or.inr (Or.inr (Or.inl ⟨⟨by omega, by rw [ux_s, ux_t]; omega, by first | (rw [ux_s, ux_t]; exact uc65) | (rw [ux_s, ux_t]), by rw [ux_s, ux_t]; omega⟩, rfl, rfl⟩)))⟩
              ·
                refine z_aload_n 0 dX6_copy_68 rfl ?_
                refine z_iconst dX6_copy_69 ?_
                refine z_vI dX6_copy_70 lX6_190 (by decide) ka0 io0 rfl (ct_X6_found en M O0 wO0 (4)) rfl rfl (by exact Nat.le_of_ble_eq_true rfl) ?_
                exact z_iret C dX6_copy_73 rfl ⟨_, rfl, Or.inr (Or.inr (Or.inl ⟨⟨by omega, by rw [ux_s, ux_t]; omega, by first | (rw [ux_s, ux_t]; exact uc65) | (rw [ux_s, ux_t])⟩, rfl, rfl⟩))⟩
            ·
              refine z_aload_n 0 dX6_copy_49 rfl ?_
              refine z_iconst dX6_copy_50 ?_
              refine z_vI dX6_copy_51 lX6_190 (by decide) ka0 io0 rfl (ct_X6_found en M O0 wO0 (1)) rfl rfl (by exact Nat.le_of_ble_eq_true rfl) ?_
              exact z_iret C dX6_copy_54 rfl ⟨_, rfl, Or.inr (Or.inl ⟨⟨by omega, by rw [ux_s, ux_t]; omega⟩, rfl, rfl⟩)⟩
      ·
        have ux_s : M (10 + s.toNat) = S3 := by rw [show s.toNat = 3 by omega]; exact wS3
        have uy_s : M (14 + s.toNat) = I3 := by rw [show s.toNat = 3 by omega]; exact wI3
        have uz_s : s.toNat = 3 := by omega
        refine z_aald 3 dX6_copy_22 ka9 (by omega) (by decide) ?_
        refine z_astore [(0, rf en 0), (1, vi s), (2, vi i), (3, vi t), (4, vi j), (5, vi n), (6, rf en 13)] [1, 2, 3, 4, 5, 6, 0] dX6_copy_23 (by decide) rfl ?_
        refine z_aload_n 0 dX6_copy_25 rfl ?_
        refine z_getR dX6_copy_26 fX6_59_5 i0_9 ka0 ?_
        refine z_iload_n 3 dX6_copy_29 rfl ?_
        have ush_t : t = 0 ∨ t = 1 ∨ t = 2 ∨ t = 3 := by omega
        rcases ush_t with ush_t | ush_t | ush_t | ush_t
        ·
          have ux_t : M (10 + t.toNat) = S0 := by rw [show t.toNat = 0 by omega]; exact wS0
          have uy_t : M (14 + t.toNat) = I0 := by rw [show t.toNat = 0 by omega]; exact wI0
          have uz_t : t.toNat = 0 := by omega
          refine z_aald 0 dX6_copy_30 ka9 (by omega) (by decide) ?_
          refine z_astore [(0, rf en 0), (1, vi s), (2, vi i), (3, vi t), (4, vi j), (5, vi n), (6, rf en 13), (7, rf en 10)] [1, 2, 3, 4, 5, 6, 7, 0] dX6_copy_31 (by decide) rfl ?_
          refine z_aload 6 dX6_copy_33 rfl ?_
          refine z_vI dX6_copy_35 lX6_186 (by decide) ka13 io13 rfl (ct_X4_isLost_13 en M S3 wS3 (by omega)) rfl rfl (by exact Nat.le_of_ble_eq_true rfl) ?_
          refine z_ifne_b (tgt := 49) dX6_copy_38 rfl (fun uc38 => ?_) (fun uc38 => ?_)
          ·
            refine z_aload_n 0 dX6_copy_49 rfl ?_
            refine z_iconst dX6_copy_50 ?_
            refine z_vI dX6_copy_51 lX6_190 (by decide) ka0 io0 rfl (ct_X6_found en M O0 wO0 (1)) rfl rfl (by exact Nat.le_of_ble_eq_true rfl) ?_
            exact z_iret C dX6_copy_54 rfl ⟨_, rfl, Or.inr (Or.inl ⟨⟨by omega, by rw [ux_s, ux_t]; omega⟩, rfl, rfl⟩)⟩
          ·
            refine z_aload 7 dX6_copy_41 rfl ?_
            refine z_vI dX6_copy_43 lX6_186 (by decide) ka10 io10 rfl (ct_X4_isLost_10 en M S0 wS0 (by omega)) rfl rfl (by exact Nat.le_of_ble_eq_true rfl) ?_
            refine z_ifeq_b (tgt := 55) dX6_copy_46 rfl (fun uc46 => ?_) (fun uc46 => ?_)
            ·
              refine z_aload 6 dX6_copy_55 rfl ?_
              refine z_getI (r := S3) 0 rfl dX6_copy_57 fX6_246_4 i13_0 ka13 (wS3) ?_
              refine z_aload 7 dX6_copy_60 rfl ?_
              refine z_getI (r := S0) 0 rfl dX6_copy_62 fX6_246_4 i10_0 ka10 (wS0) ?_
              refine z_icmp_eq (tgt := 74) dX6_copy_65 rfl (by omega) (fun uc65 => ?_) (fun uc65 => ?_)
              ·
                refine z_aload 6 dX6_copy_74 rfl ?_
                refine z_iload_n 2 dX6_copy_76 rfl ?_
                refine z_iload 5 dX6_copy_77 rfl ?_
                refine z_vI dX6_copy_79 lX6_249 (by decide) ka13 io13 rfl (ct_X4_holds_13 en M S3 wS3 _ _ (by omega) (by omega)) rfl rfl (by exact Nat.le_of_ble_eq_true rfl) ?_
                refine z_ifeq_b (tgt := 97) dX6_copy_82 rfl (fun uc82 => ?_) (fun uc82 => ?_)
                ·
                  refine z_aload_n 0 dX6_copy_97 rfl ?_
                  refine z_iconst dX6_copy_98 ?_
                  refine z_vI dX6_copy_99 lX6_190 (by decide) ka0 io0 rfl (ct_X6_found en M O0 wO0 (2)) rfl rfl (by exact Nat.le_of_ble_eq_true rfl) ?_
                  exact z_iret C dX6_copy_102 rfl ⟨_, rfl, Or.inr (Or.inr (Or.inr (Or.inl ⟨⟨by omega, by rw [ux_s, ux_t]; omega, by first | (rw [ux_s, ux_t]; exact uc65) | (rw [ux_s, ux_t]), by rw [ux_s, ux_t]; omega⟩, rfl, rfl⟩)))⟩
                ·
                  refine z_aload 7 dX6_copy_85 rfl ?_
                  refine z_iload 4 dX6_copy_87 rfl ?_
                  refine z_iload 5 dX6_copy_89 rfl ?_
                  refine z_vI dX6_copy_91 lX6_249 (by decide) ka10 io10 rfl (ct_X4_holds_10 en M S0 wS0 _ _ (by omega) (by omega)) rfl rfl (by exact Nat.le_of_ble_eq_true rfl) ?_
                  refine z_ifne_b (tgt := 103) dX6_copy_94 rfl (fun uc94 => ?_) (fun uc94 => ?_)
                  ·
                    refine z_aload 6 dX6_copy_103 rfl ?_
                    refine z_getR dX6_copy_105 fX6_194_4 i13_2 ka13 ?_
                    refine z_iload_n 2 dX6_copy_108 rfl ?_
                    refine z_aload 7 dX6_copy_109 rfl ?_
                    refine z_getR dX6_copy_111 fX6_194_4 i10_2 ka10 ?_
                    refine z_iload 4 dX6_copy_114 rfl ?_
                    refine z_iload 5 dX6_copy_116 rfl ?_
                    refine z_copy (f := I3) (g := I0) rfl dX6_copy_118 is17 is14 ka17 ka14 (wI3) (wI0) (by omega) (Nat.le_of_ble_eq_true rfl) (Nat.le_of_ble_eq_true rfl) (fun r14_118 f14_118 => ?_)
                    refine z_iconst dX6_copy_121 ?_
                    exact z_iret C dX6_copy_122 rfl ⟨_, rfl, Or.inr (Or.inr (Or.inr (Or.inr ⟨⟨by omega, by rw [ux_s, ux_t]; omega, by first | (rw [ux_s, ux_t]; exact uc65) | (rw [ux_s, ux_t]), by rw [ux_s, ux_t]; omega⟩, rfl, by rw [uy_s, uy_t, uz_t, f14_118]⟩)))⟩
                  ·
                    refine z_aload_n 0 dX6_copy_97 rfl ?_
                    refine z_iconst dX6_copy_98 ?_
                    refine z_vI dX6_copy_99 lX6_190 (by decide) ka0 io0 rfl (ct_X6_found en M O0 wO0 (2)) rfl rfl (by exact Nat.le_of_ble_eq_true rfl) ?_
                    exact z_iret C dX6_copy_102 rfl ⟨_, rfl, Or.inr (Or.inr (Or.inr (Or.inl ⟨⟨by omega, by rw [ux_s, ux_t]; omega, by first | (rw [ux_s, ux_t]; exact uc65) | (rw [ux_s, ux_t]), by rw [ux_s, ux_t]; omega⟩, rfl, rfl⟩)))⟩
              ·
                refine z_aload_n 0 dX6_copy_68 rfl ?_
                refine z_iconst dX6_copy_69 ?_
                refine z_vI dX6_copy_70 lX6_190 (by decide) ka0 io0 rfl (ct_X6_found en M O0 wO0 (4)) rfl rfl (by exact Nat.le_of_ble_eq_true rfl) ?_
                exact z_iret C dX6_copy_73 rfl ⟨_, rfl, Or.inr (Or.inr (Or.inl ⟨⟨by omega, by rw [ux_s, ux_t]; omega, by first | (rw [ux_s, ux_t]; exact uc65) | (rw [ux_s, ux_t])⟩, rfl, rfl⟩))⟩
            ·
              refine z_aload_n 0 dX6_copy_49 rfl ?_
              refine z_iconst dX6_copy_50 ?_
              refine z_vI dX6_copy_51 lX6_190 (by decide) ka0 io0 rfl (ct_X6_found en M O0 wO0 (1)) rfl rfl (by exact Nat.le_of_ble_eq_true rfl) ?_
              exact z_iret C dX6_copy_54 rfl ⟨_, rfl, Or.inr (Or.inl ⟨⟨by omega, by rw [ux_s, ux_t]; omega⟩, rfl, rfl⟩)⟩
        ·
          have ux_t : M (10 + t.toNat) = S1 := by rw [show t.toNat = 1 by omega]; exact wS1
          have uy_t : M (14 + t.toNat) = I1 := by rw [show t.toNat = 1 by omega]; exact wI1
          have uz_t : t.toNat = 1 := by omega
          refine z_aald 1 dX6_copy_30 ka9 (by omega) (by decide) ?_
          refine z_astore [(0, rf en 0), (1, vi s), (2, vi i), (3, vi t), (4, vi j), (5, vi n), (6, rf en 13), (7, rf en 11)] [1, 2, 3, 4, 5, 6, 7, 0] dX6_copy_31 (by decide) rfl ?_
          refine z_aload 6 dX6_copy_33 rfl ?_
          refine z_vI dX6_copy_35 lX6_186 (by decide) ka13 io13 rfl (ct_X4_isLost_13 en M S3 wS3 (by omega)) rfl rfl (by exact Nat.le_of_ble_eq_true rfl) ?_
          refine z_ifne_b (tgt := 49) dX6_copy_38 rfl (fun uc38 => ?_) (fun uc38 => ?_)
          ·
            refine z_aload_n 0 dX6_copy_49 rfl ?_
            refine z_iconst dX6_copy_50 ?_
            refine z_vI dX6_copy_51 lX6_190 (by decide) ka0 io0 rfl (ct_X6_found en M O0 wO0 (1)) rfl rfl (by exact Nat.le_of_ble_eq_true rfl) ?_
            exact z_iret C dX6_copy_54 rfl ⟨_, rfl, Or.inr (Or.inl ⟨⟨by omega, by rw [ux_s, ux_t]; omega⟩, rfl, rfl⟩)⟩
          ·
            refine z_aload 7 dX6_copy_41 rfl ?_
            refine z_vI dX6_copy_43 lX6_186 (by decide) ka11 io11 rfl (ct_X4_isLost_11 en M S1 wS1 (by omega)) rfl rfl (by exact Nat.le_of_ble_eq_true rfl) ?_
            refine z_ifeq_b (tgt := 55) dX6_copy_46 rfl (fun uc46 => ?_) (fun uc46 => ?_)
            ·
              refine z_aload 6 dX6_copy_55 rfl ?_
              refine z_getI (r := S3) 0 rfl dX6_copy_57 fX6_246_4 i13_0 ka13 (wS3) ?_
              refine z_aload 7 dX6_copy_60 rfl ?_
              refine z_getI (r := S1) 0 rfl dX6_copy_62 fX6_246_4 i11_0 ka11 (wS1) ?_
              refine z_icmp_eq (tgt := 74) dX6_copy_65 rfl (by omega) (fun uc65 => ?_) (fun uc65 => ?_)
              ·
                refine z_aload 6 dX6_copy_74 rfl ?_
                refine z_iload_n 2 dX6_copy_76 rfl ?_
                refine z_iload 5 dX6_copy_77 rfl ?_
                refine z_vI dX6_copy_79 lX6_249 (by decide) ka13 io13 rfl (ct_X4_holds_13 en M S3 wS3 _ _ (by omega) (by omega)) rfl rfl (by exact Nat.le_of_ble_eq_true rfl) ?_
                refine z_ifeq_b (tgt := 97) dX6_copy_82 rfl (fun uc82 => ?_) (fun uc82 => ?_)
                ·
                  refine z_aload_n 0 dX6_copy_97 rfl ?_
                  refine z_iconst dX6_copy_98 ?_
                  refine z_vI dX6_copy_99 lX6_190 (by decide) ka0 io0 rfl (ct_X6_found en M O0 wO0 (2)) rfl rfl (by exact Nat.le_of_ble_eq_true rfl) ?_
                  exact z_iret C dX6_copy_102 rfl ⟨_, rfl, Or.inr (Or.inr (Or.inr (Or.inl ⟨⟨by omega, by rw [ux_s, ux_t]; omega, by first | (rw [ux_s, ux_t]; exact uc65) | (rw [ux_s, ux_t]), by rw [ux_s, ux_t]; omega⟩, rfl, rfl⟩)))⟩
                ·
                  refine z_aload 7 dX6_copy_85 rfl ?_
                  refine z_iload 4 dX6_copy_87 rfl ?_
                  refine z_iload 5 dX6_copy_89 rfl ?_
                  refine z_vI dX6_copy_91 lX6_249 (by decide) ka11 io11 rfl (ct_X4_holds_11 en M S1 wS1 _ _ (by omega) (by omega)) rfl rfl (by exact Nat.le_of_ble_eq_true rfl) ?_
                  refine z_ifne_b (tgt := 103) dX6_copy_94 rfl (fun uc94 => ?_) (fun uc94 => ?_)
                  ·
                    refine z_aload 6 dX6_copy_103 rfl ?_
                    refine z_getR dX6_copy_105 fX6_194_4 i13_2 ka13 ?_
                    refine z_iload_n 2 dX6_copy_108 rfl ?_
                    refine z_aload 7 dX6_copy_109 rfl ?_
                    refine z_getR dX6_copy_111 fX6_194_4 i11_2 ka11 ?_
                    refine z_iload 4 dX6_copy_114 rfl ?_
                    refine z_iload 5 dX6_copy_116 rfl ?_
                    refine z_copy (f := I3) (g := I1) rfl dX6_copy_118 is17 is15 ka17 ka15 (wI3) (wI1) (by omega) (Nat.le_of_ble_eq_true rfl) (Nat.le_of_ble_eq_true rfl) (fun r15_118 f15_118 => ?_)
                    refine z_iconst dX6_copy_121 ?_
                    exact z_iret C dX6_copy_122 rfl ⟨_, rfl, Or.inr (Or.inr (Or.inr (Or.inr ⟨⟨by omega, by rw [ux_s, ux_t]; omega, by first | (rw [ux_s, ux_t]; exact uc65) | (rw [ux_s, ux_t]), by rw [ux_s, ux_t]; omega⟩, rfl, by rw [uy_s, uy_t, uz_t, f15_118]⟩)))⟩
                  ·
                    refine z_aload_n 0 dX6_copy_97 rfl ?_
                    refine z_iconst dX6_copy_98 ?_
                    refine z_vI dX6_copy_99 lX6_190 (by decide) ka0 io0 rfl (ct_X6_found en M O0 wO0 (2)) rfl rfl (by exact Nat.le_of_ble_eq_true rfl) ?_
                    exact z_iret C dX6_copy_102 rfl ⟨_, rfl, Or.inr (Or.inr (Or.inr (Or.inl ⟨⟨by omega, by rw [ux_s, ux_t]; omega, by first | (rw [ux_s, ux_t]; exact uc65) | (rw [ux_s, ux_t]), by rw [ux_s, ux_t]; omega⟩, rfl, rfl⟩)))⟩
              ·
                refine z_aload_n 0 dX6_copy_68 rfl ?_
                refine z_iconst dX6_copy_69 ?_
                refine z_vI dX6_copy_70 lX6_190 (by decide) ka0 io0 rfl (ct_X6_found en M O0 wO0 (4)) rfl rfl (by exact Nat.le_of_ble_eq_true rfl) ?_
                exact z_iret C dX6_copy_73 rfl ⟨_, rfl, Or.inr (Or.inr (Or.inl ⟨⟨by omega, by rw [ux_s, ux_t]; omega, by first | (rw [ux_s, ux_t]; exact uc65) | (rw [ux_s, ux_t])⟩, rfl, rfl⟩))⟩
            ·
              refine z_aload_n 0 dX6_copy_49 rfl ?_
              refine z_iconst dX6_copy_50 ?_
              refine z_vI dX6_copy_51 lX6_190 (by decide) ka0 io0 rfl (ct_X6_found en M O0 wO0 (1)) rfl rfl (by exact Nat.le_of_ble_eq_true rfl) ?_
              exact z_iret C dX6_copy_54 rfl ⟨_, rfl, Or.inr (Or.inl ⟨⟨by omega, by rw [ux_s, ux_t]; omega⟩, rfl, rfl⟩)⟩
        ·
          have ux_t : M (10 + t.toNat) = S2 := by rw [show t.toNat = 2 by omega]; exact wS2
          have uy_t : M (14 + t.toNat) = I2 := by rw [show t.toNat = 2 by omega]; exact wI2
          have uz_t : t.toNat = 2 := by omega
          refine z_aald 2 dX6_copy_30 ka9 (by omega) (by decide) ?_
          refine z_astore [(0, rf en 0), (1, vi s), (2, vi i), (3, vi t), (4, vi j), (5, vi n), (6, rf en 13), (7, rf en 12)] [1, 2, 3, 4, 5, 6, 7, 0] dX6_copy_31 (by decide) rfl ?_
          refine z_aload 6 dX6_copy_33 rfl ?_
          refine z_vI dX6_copy_35 lX6_186 (by decide) ka13 io13 rfl (ct_X4_isLost_13 en M S3 wS3 (by omega)) rfl rfl (by exact Nat.le_of_ble_eq_true rfl) ?_
          refine z_ifne_b (tgt := 49) dX6_copy_38 rfl (fun uc38 => ?_) (fun uc38 => ?_)
          ·
            refine z_aload_n 0 dX6_copy_49 rfl ?_
            refine z_iconst dX6_copy_50 ?_
            refine z_vI dX6_copy_51 lX6_190 (by decide) ka0 io0 rfl (ct_X6_found en M O0 wO0 (1)) rfl rfl (by exact Nat.le_of_ble_eq_true rfl) ?_
            exact z_iret C dX6_copy_54 rfl ⟨_, rfl, Or.inr (Or.inl ⟨⟨by omega, by rw [ux_s, ux_t]; omega⟩, rfl, rfl⟩)⟩
          ·
            refine z_aload 7 dX6_copy_41 rfl ?_
            refine z_vI dX6_copy_43 lX6_186 (by decide) ka12 io12 rfl (ct_X4_isLost_12 en M S2 wS2 (by omega)) rfl rfl (by exact Nat.le_of_ble_eq_true rfl) ?_
            refine z_ifeq_b (tgt := 55) dX6_copy_46 rfl (fun uc46 => ?_) (fun uc46 => ?_)
            ·
              refine z_aload 6 dX6_copy_55 rfl ?_
              refine z_getI (r := S3) 0 rfl dX6_copy_57 fX6_246_4 i13_0 ka13 (wS3) ?_
              refine z_aload 7 dX6_copy_60 rfl ?_
              refine z_getI (r := S2) 0 rfl dX6_copy_62 fX6_246_4 i12_0 ka12 (wS2) ?_
              refine z_icmp_eq (tgt := 74) dX6_copy_65 rfl (by omega) (fun uc65 => ?_) (fun uc65 => ?_)
              ·
                refine z_aload 6 dX6_copy_74 rfl ?_
                refine z_iload_n 2 dX6_copy_76 rfl ?_
                refine z_iload 5 dX6_copy_77 rfl ?_
                refine z_vI dX6_copy_79 lX6_249 (by decide) ka13 io13 rfl (ct_X4_holds_13 en M S3 wS3 _ _ (by omega) (by omega)) rfl rfl (by exact Nat.le_of_ble_eq_true rfl) ?_
                refine z_ifeq_b (tgt := 97) dX6_copy_82 rfl (fun uc82 => ?_) (fun uc82 => ?_)
                ·
                  refine z_aload_n 0 dX6_copy_97 rfl ?_
                  refine z_iconst dX6_copy_98 ?_
                  refine z_vI dX6_copy_99 lX6_190 (by decide) ka0 io0 rfl (ct_X6_found en M O0 wO0 (2)) rfl rfl (by exact Nat.le_of_ble_eq_true rfl) ?_
                  exact z_iret C dX6_copy_102 rfl ⟨_, rfl, Or.inr (Or.inr (Or.inr (Or.inl ⟨⟨by omega, by rw [ux_s, ux_t]; omega, by first | (rw [ux_s, ux_t]; exact uc65) | (rw [ux_s, ux_t]), by rw [ux_s, ux_t]; omega⟩, rfl, rfl⟩)))⟩
                ·
                  refine z_aload 7 dX6_copy_85 rfl ?_
                  refine z_iload 4 dX6_copy_87 rfl ?_
                  refine z_iload 5 dX6_copy_89 rfl ?_
                  refine z_vI dX6_copy_91 lX6_249 (by decide) ka12 io12 rfl (ct_X4_holds_12 en M S2 wS2 _ _ (by omega) (by omega)) rfl rfl (by exact Nat.le_of_ble_eq_true rfl) ?_
                  refine z_ifne_b (tgt := 103) dX6_copy_94 rfl (fun uc94 => ?_) (fun uc94 => ?_)
                  ·
                    refine z_aload 6 dX6_copy_103 rfl ?_
                    refine z_getR dX6_copy_105 fX6_194_4 i13_2 ka13 ?_
                    refine z_iload_n 2 dX6_copy_108 rfl ?_
                    refine z_aload 7 dX6_copy_109 rfl ?_
                    refine z_getR dX6_copy_111 fX6_194_4 i12_2 ka12 ?_
                    refine z_iload 4 dX6_copy_114 rfl ?_
                    refine z_iload 5 dX6_copy_116 rfl ?_
                    refine z_copy (f := I3) (g := I2) rfl dX6_copy_118 is17 is16 ka17 ka16 (wI3) (wI2) (by omega) (Nat.le_of_ble_eq_true rfl) (Nat.le_of_ble_eq_true rfl) (fun r16_118 f16_118 => ?_)
                    refine z_iconst dX6_copy_121 ?_
                    exact z_iret C dX6_copy_122 rfl ⟨_, rfl, Or.inr (Or.inr (Or.inr (Or.inr ⟨⟨by omega, by rw [ux_s, ux_t]; omega, by first | (rw [ux_s, ux_t]; exact uc65) | (rw [ux_s, ux_t]), by rw [ux_s, ux_t]; omega⟩, rfl, by rw [uy_s, uy_t, uz_t, f16_118]⟩)))⟩
                  ·
                    refine z_aload_n 0 dX6_copy_97 rfl ?_
                    refine z_iconst dX6_copy_98 ?_
                    refine z_vI dX6_copy_99 lX6_190 (by decide) ka0 io0 rfl (ct_X6_found en M O0 wO0 (2)) rfl rfl (by exact Nat.le_of_ble_eq_true rfl) ?_
                    exact z_iret C dX6_copy_102 rfl ⟨_, rfl, Or.inr (Or.inr (Or.inr (Or.inl ⟨⟨by omega, by rw [ux_s, ux_t]; omega, by first | (rw [ux_s, ux_t]; exact uc65) | (rw [ux_s, ux_t]), by rw [ux_s, ux_t]; omega⟩, rfl, rfl⟩)))⟩
              ·
                refine z_aload_n 0 dX6_copy_68 rfl ?_
                refine z_iconst dX6_copy_69 ?_
                refine z_vI dX6_copy_70 lX6_190 (by decide) ka0 io0 rfl (ct_X6_found en M O0 wO0 (4)) rfl rfl (by exact Nat.le_of_ble_eq_true rfl) ?_
                exact z_iret C dX6_copy_73 rfl ⟨_, rfl, Or.inr (Or.inr (Or.inl ⟨⟨by omega, by rw [ux_s, ux_t]; omega, by first | (rw [ux_s, ux_t]; exact uc65) | (rw [ux_s, ux_t])⟩, rfl, rfl⟩))⟩
            ·
              refine z_aload_n 0 dX6_copy_49 rfl ?_
              refine z_iconst dX6_copy_50 ?_
              refine z_vI dX6_copy_51 lX6_190 (by decide) ka0 io0 rfl (ct_X6_found en M O0 wO0 (1)) rfl rfl (by exact Nat.le_of_ble_eq_true rfl) ?_
              exact z_iret C dX6_copy_54 rfl ⟨_, rfl, Or.inr (Or.inl ⟨⟨by omega, by rw [ux_s, ux_t]; omega⟩, rfl, rfl⟩)⟩
        ·
          have ux_t : M (10 + t.toNat) = S3 := by rw [show t.toNat = 3 by omega]; exact wS3
          have uy_t : M (14 + t.toNat) = I3 := by rw [show t.toNat = 3 by omega]; exact wI3
          have uz_t : t.toNat = 3 := by omega
          refine z_aald 3 dX6_copy_30 ka9 (by omega) (by decide) ?_
          refine z_astore [(0, rf en 0), (1, vi s), (2, vi i), (3, vi t), (4, vi j), (5, vi n), (6, rf en 13), (7, rf en 13)] [1, 2, 3, 4, 5, 6, 7, 0] dX6_copy_31 (by decide) rfl ?_
          refine z_aload 6 dX6_copy_33 rfl ?_
          refine z_vI dX6_copy_35 lX6_186 (by decide) ka13 io13 rfl (ct_X4_isLost_13 en M S3 wS3 (by omega)) rfl rfl (by exact Nat.le_of_ble_eq_true rfl) ?_
          refine z_ifne_b (tgt := 49) dX6_copy_38 rfl (fun uc38 => ?_) (fun uc38 => ?_)
          ·
            refine z_aload_n 0 dX6_copy_49 rfl ?_
            refine z_iconst dX6_copy_50 ?_
            refine z_vI dX6_copy_51 lX6_190 (by decide) ka0 io0 rfl (ct_X6_found en M O0 wO0 (1)) rfl rfl (by exact Nat.le_of_ble_eq_true rfl) ?_
            exact z_iret C dX6_copy_54 rfl ⟨_, rfl, Or.inr (Or.inl ⟨⟨by omega, by rw [ux_s, ux_t]; omega⟩, rfl, rfl⟩)⟩
          ·
            refine z_aload 7 dX6_copy_41 rfl ?_
            refine z_vI dX6_copy_43 lX6_186 (by decide) ka13 io13 rfl (ct_X4_isLost_13 en M S3 wS3 (by omega)) rfl rfl (by exact Nat.le_of_ble_eq_true rfl) ?_
            refine z_ifeq_b (tgt := 55) dX6_copy_46 rfl (fun uc46 => ?_) (fun uc46 => ?_)
            ·
              refine z_aload 6 dX6_copy_55 rfl ?_
              refine z_getI (r := S3) 0 rfl dX6_copy_57 fX6_246_4 i13_0 ka13 (wS3) ?_
              refine z_aload 7 dX6_copy_60 rfl ?_
              refine z_getI (r := S3) 0 rfl dX6_copy_62 fX6_246_4 i13_0 ka13 (wS3) ?_
              refine z_icmp_eq (tgt := 74) dX6_copy_65 rfl (by omega) (fun uc65 => ?_) (fun uc65 => ?_)
              ·
                refine z_aload 6 dX6_copy_74 rfl ?_
                refine z_iload_n 2 dX6_copy_76 rfl ?_
                refine z_iload 5 dX6_copy_77 rfl ?_
                refine z_vI dX6_copy_79 lX6_249 (by decide) ka13 io13 rfl (ct_X4_holds_13 en M S3 wS3 _ _ (by omega) (by omega)) rfl rfl (by exact Nat.le_of_ble_eq_true rfl) ?_
                refine z_ifeq_b (tgt := 97) dX6_copy_82 rfl (fun uc82 => ?_) (fun uc82 => ?_)
                ·
                  refine z_aload_n 0 dX6_copy_97 rfl ?_
                  refine z_iconst dX6_copy_98 ?_
                  refine z_vI dX6_copy_99 lX6_190 (by decide) ka0 io0 rfl (ct_X6_found en M O0 wO0 (2)) rfl rfl (by exact Nat.le_of_ble_eq_true rfl) ?_
                  exact z_iret C dX6_copy_102 rfl ⟨_, rfl, Or.inr (Or.inr (Or.inr (Or.inl ⟨⟨by omega, by rw [ux_s, ux_t]; omega, by first | (rw [ux_s, ux_t]; exact uc65) | (rw [ux_s, ux_t]), by rw [ux_s, ux_t]; omega⟩, rfl, rfl⟩)))⟩
                ·
                  refine z_aload 7 dX6_copy_85 rfl ?_
                  refine z_iload 4 dX6_copy_87 rfl ?_
                  refine z_iload 5 dX6_copy_89 rfl ?_
                  refine z_vI dX6_copy_91 lX6_249 (by decide) ka13 io13 rfl (ct_X4_holds_13 en M S3 wS3 _ _ (by omega) (by omega)) rfl rfl (by exact Nat.le_of_ble_eq_true rfl) ?_
                  refine z_ifne_b (tgt := 103) dX6_copy_94 rfl (fun uc94 => ?_) (fun uc94 => ?_)
                  ·
                    refine z_aload 6 dX6_copy_103 rfl ?_
                    refine z_getR dX6_copy_105 fX6_194_4 i13_2 ka13 ?_
                    refine z_iload_n 2 dX6_copy_108 rfl ?_
                    refine z_aload 7 dX6_copy_109 rfl ?_
                    refine z_getR dX6_copy_111 fX6_194_4 i13_2 ka13 ?_
                    refine z_iload 4 dX6_copy_114 rfl ?_
                    refine z_iload 5 dX6_copy_116 rfl ?_
                    refine z_copy (f := I3) (g := I3) rfl dX6_copy_118 is17 is17 ka17 ka17 (wI3) (wI3) (by omega) (Nat.le_of_ble_eq_true rfl) (Nat.le_of_ble_eq_true rfl) (fun r17_118 f17_118 => ?_)
                    refine z_iconst dX6_copy_121 ?_
                    exact z_iret C dX6_copy_122 rfl ⟨_, rfl, Or.inr (Or.inr (Or.inr (Or.inr ⟨⟨by omega, by rw [ux_s, ux_t]; omega, by first | (rw [ux_s, ux_t]; exact uc65) | (rw [ux_s, ux_t]), by rw [ux_s, ux_t]; omega⟩, rfl, by rw [uy_s, uy_t, uz_t, f17_118]⟩)))⟩
                  ·
                    refine z_aload_n 0 dX6_copy_97 rfl ?_
                    refine z_iconst dX6_copy_98 ?_
                    refine z_vI dX6_copy_99 lX6_190 (by decide) ka0 io0 rfl (ct_X6_found en M O0 wO0 (2)) rfl rfl (by exact Nat.le_of_ble_eq_true rfl) ?_
                    exact z_iret C dX6_copy_102 rfl ⟨_, rfl, Or.inr (Or.inr (Or.inr (Or.inl ⟨⟨by omega, by rw [ux_s, ux_t]; omega, by first | (rw [ux_s, ux_t]; exact uc65) | (rw [ux_s, ux_t]), by rw [ux_s, ux_t]; omega⟩, rfl, rfl⟩)))⟩
              ·
                refine z_aload_n 0 dX6_copy_68 rfl ?_
                refine z_iconst dX6_copy_69 ?_
                refine z_vI dX6_copy_70 lX6_190 (by decide) ka0 io0 rfl (ct_X6_found en M O0 wO0 (4)) rfl rfl (by exact Nat.le_of_ble_eq_true rfl) ?_
                exact z_iret C dX6_copy_73 rfl ⟨_, rfl, Or.inr (Or.inr (Or.inl ⟨⟨by omega, by rw [ux_s, ux_t]; omega, by first | (rw [ux_s, ux_t]; exact uc65) | (rw [ux_s, ux_t])⟩, rfl, rfl⟩))⟩
            ·
              refine z_aload_n 0 dX6_copy_49 rfl ?_
              refine z_iconst dX6_copy_50 ?_
              refine z_vI dX6_copy_51 lX6_190 (by decide) ka0 io0 rfl (ct_X6_found en M O0 wO0 (1)) rfl rfl (by exact Nat.le_of_ble_eq_true rfl) ?_
              exact z_iret C dX6_copy_54 rfl ⟨_, rfl, Or.inr (Or.inl ⟨⟨by omega, by rw [ux_s, ux_t]; omega⟩, rfl, rfl⟩)⟩
    ·
      refine z_bipush dX6_copy_14 rfl ?_
      exact z_iret C dX6_copy_16 rfl ⟨_, rfl, Or.inl ⟨by omega, rfl, rfl⟩⟩
