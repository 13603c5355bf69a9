/-! the reference's sheets and texts -/
abbrev shBad (s f n : Int) : Prop := ¬ ((0 ≤ s ∧ s ≤ 3) ∧ (0 ≤ f ∧ f ≤ 2) ∧ n ≤ 60)
set_option maxRecDepth 100000 in
theorem ct_X7_sheet (en : zE) (M : zW) (O : Int → Int) (F : Int → Int) (S : Int → Int) (I : Int → Int) (wO : M 37 = O) (wF : M 38 = F) (wS : M 39 = S) (wI : M 40 = I) (s : Int) (f : Int) (n : Int) (h0 : -2147483648 ≤ s ∧ s < 2147483648 ∧ -2147483648 ≤ f ∧ f < 2147483648 ∧ -2147483648 ≤ n ∧ n < 2147483648) : Ct en kA yX7_sheet mX7_sheet [rf en 37, vi s, vi f, vi n] M (pX (fun x N => ((¬ ((0 ≤ s ∧ s ≤ 3) ∧ (0 ≤ f ∧ f ≤ 2) ∧ n ≤ 60)) ∧ x = -2 ∧ M = N) ∨ ((((0 ≤ s ∧ s ≤ 3) ∧ (0 ≤ f ∧ f ≤ 2) ∧ n ≤ 60) ∧ n < 0) ∧ x = -15 ∧ upR M 37 (up O 4 5) = N) ∨ ((((0 ≤ s ∧ s ≤ 3) ∧ (0 ≤ f ∧ f ≤ 2) ∧ n ≤ 60) ∧ 0 ≤ n) ∧ x = n ∧ upR (upR (upR M 38 (up F s f)) 39 (up S s n)) 40 (fil (fun _ => 0) I (60 * s) n) = N))) := by
  refine Ct.of (by decide +kernel) rfl [(0, rf en 37), (1, vi s), (2, vi f), (3, vi n)] rfl (Nat.le_of_ble_eq_true rfl) (fun cx C => ?_)
  refine z_iload_n 1 dX7_sheet_0 rfl ?_
  refine z_sI dX7_sheet_1 lX7_67 (by decide) (ct_X7_isSheet en M _ (by omega)) rfl rfl (by exact Nat.le_of_ble_eq_true rfl) ?_
  refine z_ifeq_b (tgt := 25) dX7_sheet_4 rfl (fun uc4 => ?_) (fun uc4 => ?_)
  ·
    refine z_bipush dX7_sheet_25 rfl ?_
    exact z_iret C dX7_sheet_27 rfl ⟨_, rfl, Or.inl ⟨by omega, rfl, rfl⟩⟩
  ·
    refine z_iload_n 2 dX7_sheet_7 rfl ?_
    refine z_i2l dX7_sheet_8 (by omega) ?_
    refine z_lconst (v := 0) dX7_sheet_9 rfl ?_
    refine z_ldc2 (n := 2) dX7_sheet_10 kX7_71 rfl ?_
    refine z_sI dX7_sheet_13 lX7_57 (by decide) (ct_X7_in en M _ (0) (2) (by omega)) rfl rfl (by exact Nat.le_of_ble_eq_true rfl) ?_
    refine z_ifeq_b (tgt := 25) dX7_sheet_16 rfl (fun uc16 => ?_) (fun uc16 => ?_)
    ·
      refine z_bipush dX7_sheet_25 rfl ?_
      exact z_iret C dX7_sheet_27 rfl ⟨_, rfl, Or.inl ⟨by omega, rfl, rfl⟩⟩
    ·
      refine z_iload_n 3 dX7_sheet_19 rfl ?_
      refine z_bipush dX7_sheet_20 rfl ?_
      refine z_icmp_le (tgt := 28) dX7_sheet_22 rfl (by omega) (fun uc22 => ?_) (fun uc22 => ?_)
      ·
        refine z_iload_n 3 dX7_sheet_28 rfl ?_
        refine z_if_ge (tgt := 38) dX7_sheet_29 rfl (by omega) (fun uc29 => ?_) (fun uc29 => ?_)
        ·
          refine z_aload_n 0 dX7_sheet_38 rfl ?_
          refine z_getR dX7_sheet_39 fX7_7_6 i37_0 ka37 ?_
          refine z_iload_n 1 dX7_sheet_42 rfl ?_
          refine z_iload_n 2 dX7_sheet_43 rfl ?_
          refine z_iast (r := F) dX7_sheet_44 is38 ka38 (wF) (by omega) (fun r38_44 f38_44 => ?_)
          refine z_aload_n 0 dX7_sheet_45 rfl ?_
          refine z_getR dX7_sheet_46 fX7_13_6 i37_1 ka37 ?_
          refine z_iload_n 1 dX7_sheet_49 rfl ?_
          refine z_iload_n 3 dX7_sheet_50 rfl ?_
          refine z_iast (r := S) dX7_sheet_51 is39 ka39 (wS) (by omega) (fun r39_51 f39_51 => ?_)
          refine z_iconst dX7_sheet_52 ?_
          refine z_istore (fun y => [(0, rf en 37), (1, vi s), (2, vi f), (3, vi n), (4, vi y)]) [1, 2, 3, 4, 0] dX7_sheet_53 (by decide) (fun _ => rfl) (fun x4_53 e4_53 => ?_)
          have uL55 : ∀ (fu : Nat) (x4 : Int) (r40 : Int → Int), (n - x4).toNat < fu → (0 ≤ x4 ∧ x4 ≤ n ∧ r40 = fil (fun _ => 0) I (60 * s) x4) → Z en kA cx mX7_sheet (upR (upR (upR M 38 r38_44) 39 r39_51) 40 r40) 55 [(0, rf en 37), (1, vi s), (2, vi f), (3, vi n), (4, vi x4)] [] := by
            intro fu
            induction fu with
            | zero => intro x4 r40 uhf; exact absurd uhf (Nat.not_lt_zero _)
            | succ fu uih55 =>
              intro x4 r40 uf55 uI55
              obtain ⟨uq1, uq2, uq3⟩ := uI55
              refine z_iload 4 dX7_sheet_55 rfl ?_
              refine z_iload_n 3 dX7_sheet_57 rfl ?_
              refine z_icmp_ge (tgt := 80) dX7_sheet_58 rfl (by omega) (fun uc58 => ?_) (fun uc58 => ?_)
              ·
                refine z_iload_n 3 dX7_sheet_80 rfl ?_
                exact z_iret C dX7_sheet_81 rfl ⟨_, rfl, Or.inr (Or.inr ⟨by omega, rfl, by subst uq3; subst f38_44; subst f39_51; rw [show n = x4 by omega]⟩)⟩
              ·
                refine z_aload_n 0 dX7_sheet_61 rfl ?_
                refine z_getR dX7_sheet_62 fX7_16_6 i37_2 ka37 ?_
                refine z_bipush dX7_sheet_65 rfl ?_
                refine z_iload_n 1 dX7_sheet_67 rfl ?_
                refine z_imul dX7_sheet_68 ?_
                refine z_iload 4 dX7_sheet_69 rfl ?_
                refine z_iadd dX7_sheet_71 ?_
                refine z_iconst dX7_sheet_72 ?_
                refine z_iast' (r := r40) (fun r => (upR (upR (upR M 38 r38_44) 39 r39_51) 40 r)) dX7_sheet_73 is40 ka40 (rfl) (by omega) (fun _ => uu1) (fun r40_73 f40_73 => ?_)
                refine z_iinc (fun y => [(0, rf en 37), (1, vi s), (2, vi f), (3, vi n), (4, vi y)]) [1, 2, 3, 4, 0] 4 dX7_sheet_74 rfl (by decide) (fun _ => rfl) (fun x4_74 e4_74 => ?_)
                refine z_goto (tgt := 55) dX7_sheet_77 rfl ?_
                exact uih55 x4_74 r40_73 (by omega) (⟨by omega, by omega, by rw [f40_73, uq3, e4_74]; exact fil_s _ _ _ _ uq1 rfl⟩)
          refine Z.eqM (upR_id (k := 40) wI) ?_
          exact uL55 _ x4_53 I (Nat.lt_succ_self _) (⟨by omega, by omega, by rw [e4_53, fil_0]⟩)
        ·
          refine z_aload_n 0 dX7_sheet_32 rfl ?_
          refine z_iconst dX7_sheet_33 ?_
          refine z_vI dX7_sheet_34 lX7_73 (by decide) ka37 io37 rfl (ct_X7_finds en M O wO (5)) rfl rfl (by exact Nat.le_of_ble_eq_true rfl) ?_
          exact z_iret C dX7_sheet_37 rfl ⟨_, rfl, Or.inr (Or.inl ⟨by omega, rfl, rfl⟩)⟩
      ·
        refine z_bipush dX7_sheet_25 rfl ?_
        exact z_iret C dX7_sheet_27 rfl ⟨_, rfl, Or.inl ⟨by omega, rfl, rfl⟩⟩
set_option maxRecDepth 100000 in
theorem ct_X7_lose (en : zE) (M : zW) (O : Int → Int) (F : Int → Int) (S : Int → Int) (wO : M 37 = O) (wF : M 38 = F) (wS : M 39 = S) (s : Int) (h0 : -2147483648 ≤ s ∧ s < 2147483648) (hF : ∀ j, 0 ≤ j → j < 4 → -1 ≤ F j ∧ F j ≤ 2) : Ct en kA yX7_lose mX7_lose [rf en 37, vi s] M (pX (fun x N => ((¬ (0 ≤ s ∧ s ≤ 3)) ∧ x = -2 ∧ M = N) ∨ (((0 ≤ s ∧ s ≤ 3) ∧ F s < 0) ∧ x = -11 ∧ upR M 37 (up O 4 1) = N) ∨ (((0 ≤ s ∧ s ≤ 3) ∧ 0 ≤ F s) ∧ x = S s ∧ upR M 38 (up F s (-1)) = N))) := by
  refine Ct.of (by decide +kernel) rfl [(0, rf en 37), (1, vi s)] rfl (Nat.le_of_ble_eq_true rfl) (fun cx C => ?_)
  refine z_iload_n 1 dX7_lose_0 rfl ?_
  refine z_sI dX7_lose_1 lX7_67 (by decide) (ct_X7_isSheet en M _ (by omega)) rfl rfl (by exact Nat.le_of_ble_eq_true rfl) ?_
  refine z_ifne_b (tgt := 10) dX7_lose_4 rfl (fun uc4 => ?_) (fun uc4 => ?_)
  ·
    refine z_aload_n 0 dX7_lose_10 rfl ?_
    refine z_getR dX7_lose_11 fX7_7_6 i37_0 ka37 ?_
    refine z_iload_n 1 dX7_lose_14 rfl ?_
    refine z_ialdB (r := F) dX7_lose_15 is38 ka38 (wF) (by omega) (hF) (fun uy15 ug15 ub15 => ?_)
    refine z_if_ge (tgt := 25) dX7_lose_16 rfl (by omega) (fun uc16 => ?_) (fun uc16 => ?_)
    ·
      refine z_aload_n 0 dX7_lose_25 rfl ?_
      refine z_getR dX7_lose_26 fX7_7_6 i37_0 ka37 ?_
      refine z_iload_n 1 dX7_lose_29 rfl ?_
      refine z_iconst dX7_lose_30 ?_
      refine z_iast (r := F) dX7_lose_31 is38 ka38 (wF) (by omega) (fun r38_31 f38_31 => ?_)
      refine z_aload_n 0 dX7_lose_32 rfl ?_
      refine z_getR dX7_lose_33 fX7_13_6 i37_1 ka37 ?_
      refine z_iload_n 1 dX7_lose_36 rfl ?_
      refine z_iald (r := S) dX7_lose_37 is39 ka39 (wS) (by omega) ?_
      exact z_iret C dX7_lose_38 rfl ⟨_, rfl, Or.inr (Or.inr ⟨by omega, rfl, by subst f38_31; rfl⟩)⟩
    ·
      refine z_aload_n 0 dX7_lose_19 rfl ?_
      refine z_iconst dX7_lose_20 ?_
      refine z_vI dX7_lose_21 lX7_73 (by decide) ka37 io37 rfl (ct_X7_finds en M O wO (1)) rfl rfl (by exact Nat.le_of_ble_eq_true rfl) ?_
      exact z_iret C dX7_lose_24 rfl ⟨_, rfl, Or.inr (Or.inl ⟨by omega, rfl, rfl⟩)⟩
  ·
    refine z_bipush dX7_lose_7 rfl ?_
    exact z_iret C dX7_lose_9 rfl ⟨_, rfl, Or.inl ⟨by omega, rfl, rfl⟩⟩
set_option maxRecDepth 100000 in
theorem ct_X7_lacks (en : zE) (M : zW) (O : Int → Int) (F : Int → Int) (S : Int → Int) (wO : M 37 = O) (wF : M 38 = F) (wS : M 39 = S) (s : Int) (f : Int) (i : Int) (h0 : -2147483648 ≤ f ∧ f < 2147483648 ∧ -2147483648 ≤ i ∧ i < 2147483648 ∧ 0 ≤ s ∧ s ≤ 3) (hF : ∀ j, 0 ≤ j → j < 4 → -1 ≤ F j ∧ F j ≤ 2) (hS : ∀ j, 0 ≤ j → j < 4 → 0 ≤ S j ∧ S j ≤ 60) : Ct en kA yX7_lacks mX7_lacks [rf en 37, vi s, vi f, vi i] M (pX (fun x N => ((F s < 0) ∧ x = -11 ∧ upR M 37 (up O 4 1) = N) ∨ ((0 ≤ F s ∧ F s ≠ f) ∧ x = -13 ∧ upR M 37 (up O 4 3) = N) ∨ ((0 ≤ F s ∧ F s = f ∧ ¬ (0 ≤ i ∧ i ≤ S s - 1)) ∧ x = -12 ∧ upR M 37 (up O 4 2) = N) ∨ ((0 ≤ F s ∧ F s = f ∧ 0 ≤ i ∧ i ≤ S s - 1) ∧ x = 0 ∧ M = N))) := by
  refine Ct.of (by decide +kernel) rfl [(0, rf en 37), (1, vi s), (2, vi f), (3, vi i)] rfl (Nat.le_of_ble_eq_true rfl) (fun cx C => ?_)
  refine z_aload_n 0 dX7_lacks_0 rfl ?_
  refine z_getR dX7_lacks_1 fX7_7_6 i37_0 ka37 ?_
  refine z_iload_n 1 dX7_lacks_4 rfl ?_
  refine z_ialdB (r := F) dX7_lacks_5 is38 ka38 (wF) (by omega) (hF) (fun uy5 ug5 ub5 => ?_)
  refine z_if_ge (tgt := 15) dX7_lacks_6 rfl (by omega) (fun uc6 => ?_) (fun uc6 => ?_)
  ·
    refine z_aload_n 0 dX7_lacks_15 rfl ?_
    refine z_getR dX7_lacks_16 fX7_7_6 i37_0 ka37 ?_
    refine z_iload_n 1 dX7_lacks_19 rfl ?_
    refine z_ialdB (r := F) dX7_lacks_20 is38 ka38 (wF) (by omega) (hF) (fun uy20 ug20 ub20 => ?_)
    refine z_iload_n 2 dX7_lacks_21 rfl ?_
    refine z_icmp_eq (tgt := 31) dX7_lacks_22 rfl (by omega) (fun uc22 => ?_) (fun uc22 => ?_)
    ·
      refine z_iload_n 3 dX7_lacks_31 rfl ?_
      refine z_i2l dX7_lacks_32 (by omega) ?_
      refine z_lconst (v := 0) dX7_lacks_33 rfl ?_
      refine z_aload_n 0 dX7_lacks_34 rfl ?_
      refine z_getR dX7_lacks_35 fX7_13_6 i37_1 ka37 ?_
      refine z_iload_n 1 dX7_lacks_38 rfl ?_
      refine z_ialdB (r := S) dX7_lacks_39 is39 ka39 (wS) (by omega) (hS) (fun uy39 ug39 ub39 => ?_)
      refine z_iconst dX7_lacks_40 ?_
      refine z_isub dX7_lacks_41 ?_
      refine z_i2l dX7_lacks_42 (by omega) ?_
      refine z_sI dX7_lacks_43 lX7_57 (by decide) (ct_X7_in en M _ (0) _ (by omega)) rfl rfl (by exact Nat.le_of_ble_eq_true rfl) ?_
      refine z_ifeq_b (tgt := 53) dX7_lacks_46 rfl (fun uc46 => ?_) (fun uc46 => ?_)
      ·
        refine z_aload_n 0 dX7_lacks_53 rfl ?_
        refine z_iconst dX7_lacks_54 ?_
        refine z_vI dX7_lacks_55 lX7_73 (by decide) ka37 io37 rfl (ct_X7_finds en M O wO (2)) rfl rfl (by exact Nat.le_of_ble_eq_true rfl) ?_
        exact z_iret C dX7_lacks_58 rfl ⟨_, rfl, (by first | exact Or.inr (Or.inr (Or.inl ⟨by omega, rfl, rfl⟩)) | exact Or.inr (Or.inr (Or.inr ⟨by omega, rfl, rfl⟩)))⟩
      ·
        refine z_iconst dX7_lacks_49 ?_
        refine z_goto (tgt := 58) dX7_lacks_50 rfl ?_
        exact z_iret C dX7_lacks_58 rfl ⟨_, rfl, (by first | exact Or.inr (Or.inr (Or.inl ⟨by omega, rfl, rfl⟩)) | exact Or.inr (Or.inr (Or.inr ⟨by omega, rfl, rfl⟩)))⟩
    ·
      refine z_aload_n 0 dX7_lacks_25 rfl ?_
      refine z_iconst dX7_lacks_26 ?_
      refine z_vI dX7_lacks_27 lX7_73 (by decide) ka37 io37 rfl (ct_X7_finds en M O wO (3)) rfl rfl (by exact Nat.le_of_ble_eq_true rfl) ?_
      exact z_iret C dX7_lacks_30 rfl ⟨_, rfl, Or.inr (Or.inl ⟨by omega, rfl, rfl⟩)⟩
  ·
    refine z_aload_n 0 dX7_lacks_9 rfl ?_
    refine z_iconst dX7_lacks_10 ?_
    refine z_vI dX7_lacks_11 lX7_73 (by decide) ka37 io37 rfl (ct_X7_finds en M O wO (1)) rfl rfl (by exact Nat.le_of_ble_eq_true rfl) ?_
    exact z_iret C dX7_lacks_14 rfl ⟨_, rfl, Or.inl ⟨by omega, rfl, rfl⟩⟩
set_option maxRecDepth 100000 in
theorem ct_X7_lay (en : zE) (M : zW) (O : Int → Int) (F : Int → Int) (S : Int → Int) (I : Int → Int) (wO : M 37 = O) (wF : M 38 = F) (wS : M 39 = S) (wI : M 40 = I) (s : Int) (f : Int) (i : Int) (v : Int) (h0 : -2147483648 ≤ s ∧ s < 2147483648 ∧ -2147483648 ≤ f ∧ f < 2147483648 ∧ -2147483648 ≤ i ∧ i < 2147483648) (hF : ∀ j, 0 ≤ j → j < 4 → -1 ≤ F j ∧ F j ≤ 2) (hS : ∀ j, 0 ≤ j → j < 4 → 0 ≤ S j ∧ S j ≤ 60) : Ct en kA yX7_lay mX7_lay [rf en 37, vi s, vi f, vi i, vi v] M (pX (fun x N => ((¬ ((0 ≤ s ∧ s ≤ 3) ∧ (0 ≤ f ∧ f ≤ 2))) ∧ x = -2 ∧ M = N) ∨ ((((0 ≤ s ∧ s ≤ 3) ∧ (0 ≤ f ∧ f ≤ 2)) ∧ F s < 0) ∧ x = -11 ∧ upR M 37 (up O 4 1) = N) ∨ ((((0 ≤ s ∧ s ≤ 3) ∧ (0 ≤ f ∧ f ≤ 2)) ∧ 0 ≤ F s ∧ F s ≠ f) ∧ x = -13 ∧ upR M 37 (up O 4 3) = N) ∨ ((((0 ≤ s ∧ s ≤ 3) ∧ (0 ≤ f ∧ f ≤ 2)) ∧ 0 ≤ F s ∧ F s = f ∧ ¬ (0 ≤ i ∧ i ≤ S s - 1)) ∧ x = -12 ∧ upR M 37 (up O 4 2) = N) ∨ ((((0 ≤ s ∧ s ≤ 3) ∧ (0 ≤ f ∧ f ≤ 2)) ∧ 0 ≤ F s ∧ F s = f ∧ 0 ≤ i ∧ i ≤ S s - 1) ∧ x = 1 ∧ upR M 40 (up I (60 * s + i) (cutv f v)) = N))) := by
  refine Ct.of (by decide +kernel) rfl [(0, rf en 37), (1, vi s), (2, vi f), (3, vi i), (4, vi v)] rfl (Nat.le_of_ble_eq_true rfl) (fun cx C => ?_)
  refine z_iload_n 1 dX7_lay_0 rfl ?_
  refine z_sI dX7_lay_1 lX7_67 (by decide) (ct_X7_isSheet en M _ (by omega)) rfl rfl (by exact Nat.le_of_ble_eq_true rfl) ?_
  refine z_ifeq_b (tgt := 19) dX7_lay_4 rfl (fun uc4 => ?_) (fun uc4 => ?_)
  ·
    refine z_bipush dX7_lay_19 rfl ?_
    exact z_iret C dX7_lay_21 rfl ⟨_, rfl, Or.inl ⟨by omega, rfl, rfl⟩⟩
  ·
    refine z_iload_n 2 dX7_lay_7 rfl ?_
    refine z_i2l dX7_lay_8 (by omega) ?_
    refine z_lconst (v := 0) dX7_lay_9 rfl ?_
    refine z_ldc2 (n := 2) dX7_lay_10 kX7_71 rfl ?_
    refine z_sI dX7_lay_13 lX7_57 (by decide) (ct_X7_in en M _ (0) (2) (by omega)) rfl rfl (by exact Nat.le_of_ble_eq_true rfl) ?_
    refine z_ifne_b (tgt := 22) dX7_lay_16 rfl (fun uc16 => ?_) (fun uc16 => ?_)
    ·
      refine z_aload_n 0 dX7_lay_22 rfl ?_
      refine z_iload_n 1 dX7_lay_23 rfl ?_
      refine z_iload_n 2 dX7_lay_24 rfl ?_
      refine z_iload_n 3 dX7_lay_25 rfl ?_
      refine z_vX dX7_lay_26 lX7_77 (by decide) ka37 io37 rfl (ct_X7_lacks en M O F S wO wF wS _ _ _ (by omega) (hF) (hS)) rfl rfl (by exact Nat.le_of_ble_eq_true rfl) (fun uv26 uN26 uh26 => ?_)
      rcases uh26 with ⟨uk26, rfl, rfl⟩ | ⟨uk26, rfl, rfl⟩ | ⟨uk26, rfl, rfl⟩ | ⟨uk26, rfl, rfl⟩
      ·
        refine z_istore (fun y => [(0, rf en 37), (1, vi s), (2, vi f), (3, vi i), (4, vi v), (5, vi y)]) [1, 2, 3, 4, 5, 0] dX7_lay_29 (by decide) (fun _ => rfl) (fun uy uhy => ?_)
        subst uhy
        refine z_iload 5 dX7_lay_31 rfl ?_
        refine z_if_eq (tgt := 39) dX7_lay_33 rfl (by omega) (fun z => absurd z (by decide)) (fun _ => ?_)
        refine z_iload 5 dX7_lay_36 rfl ?_
        exact z_iret C dX7_lay_38 rfl ⟨_, rfl, (by first | exact Or.inr (Or.inl ⟨by omega, rfl, rfl⟩) | exact Or.inr (Or.inr (Or.inl ⟨by omega, rfl, rfl⟩)) | exact Or.inr (Or.inr (Or.inr (Or.inl ⟨by omega, rfl, rfl⟩))))⟩
      ·
        refine z_istore (fun y => [(0, rf en 37), (1, vi s), (2, vi f), (3, vi i), (4, vi v), (5, vi y)]) [1, 2, 3, 4, 5, 0] dX7_lay_29 (by decide) (fun _ => rfl) (fun uy uhy => ?_)
        subst uhy
        refine z_iload 5 dX7_lay_31 rfl ?_
        refine z_if_eq (tgt := 39) dX7_lay_33 rfl (by omega) (fun z => absurd z (by decide)) (fun _ => ?_)
        refine z_iload 5 dX7_lay_36 rfl ?_
        exact z_iret C dX7_lay_38 rfl ⟨_, rfl, (by first | exact Or.inr (Or.inl ⟨by omega, rfl, rfl⟩) | exact Or.inr (Or.inr (Or.inl ⟨by omega, rfl, rfl⟩)) | exact Or.inr (Or.inr (Or.inr (Or.inl ⟨by omega, rfl, rfl⟩))))⟩
      ·
        refine z_istore (fun y => [(0, rf en 37), (1, vi s), (2, vi f), (3, vi i), (4, vi v), (5, vi y)]) [1, 2, 3, 4, 5, 0] dX7_lay_29 (by decide) (fun _ => rfl) (fun uy uhy => ?_)
        subst uhy
        refine z_iload 5 dX7_lay_31 rfl ?_
        refine z_if_eq (tgt := 39) dX7_lay_33 rfl (by omega) (fun z => absurd z (by decide)) (fun _ => ?_)
        refine z_iload 5 dX7_lay_36 rfl ?_
        exact z_iret C dX7_lay_38 rfl ⟨_, rfl, (by first | exact Or.inr (Or.inl ⟨by omega, rfl, rfl⟩) | exact Or.inr (Or.inr (Or.inl ⟨by omega, rfl, rfl⟩)) | exact Or.inr (Or.inr (Or.inr (Or.inl ⟨by omega, rfl, rfl⟩))))⟩
      ·
        refine z_istore (fun y => [(0, rf en 37), (1, vi s), (2, vi f), (3, vi i), (4, vi v), (5, vi y)]) [1, 2, 3, 4, 5, 0] dX7_lay_29 (by decide) (fun _ => rfl) (fun uy uhy => ?_)
        subst uhy
        refine z_iload 5 dX7_lay_31 rfl ?_
        refine z_if_eq (tgt := 39) dX7_lay_33 rfl (by omega) (fun _ => ?_) (fun z => absurd z (by decide))
        have uhs1 := hS s (by omega) (by omega)
        refine z_aload_n 0 dX7_lay_39 rfl ?_
        refine z_getR dX7_lay_40 fX7_16_6 i37_2 ka37 ?_
        refine z_bipush dX7_lay_43 rfl ?_
        refine z_iload_n 1 dX7_lay_45 rfl ?_
        refine z_imul dX7_lay_46 ?_
        refine z_iload_n 3 dX7_lay_47 rfl ?_
        refine z_iadd dX7_lay_48 ?_
        refine z_iload_n 2 dX7_lay_49 rfl ?_
        refine z_iload 4 dX7_lay_50 rfl ?_
        refine z_sI dX7_lay_52 lX7_81 (by decide) (ct_X7_cut en M _ _ (by omega)) rfl rfl (by exact Nat.le_of_ble_eq_true rfl) ?_
        refine z_iast (r := I) dX7_lay_55 is40 ka40 (wI) (by omega) (fun r40_55 f40_55 => ?_)
        refine z_iconst dX7_lay_56 ?_
        exact z_iret C dX7_lay_57 rfl ⟨_, rfl, Or.inr (Or.inr (Or.inr (Or.inr ⟨by omega, rfl, by subst f40_55; rfl⟩)))⟩
    ·
      refine z_bipush dX7_lay_19 rfl ?_
      exact z_iret C dX7_lay_21 rfl ⟨_, rfl, Or.inl ⟨by omega, rfl, rfl⟩⟩
set_option maxRecDepth 100000 in
theorem ct_X7_get (en : zE) (M : zW) (O : Int → Int) (F : Int → Int) (S : Int → Int) (I : Int → Int) (wO : M 37 = O) (wF : M 38 = F) (wS : M 39 = S) (wI : M 40 = I) (s : Int) (f : Int) (i : Int) (h0 : -2147483648 ≤ s ∧ s < 2147483648 ∧ -2147483648 ≤ f ∧ f < 2147483648 ∧ -2147483648 ≤ i ∧ i < 2147483648) (hF : ∀ j, 0 ≤ j → j < 4 → -1 ≤ F j ∧ F j ≤ 2) (hS : ∀ j, 0 ≤ j → j < 4 → 0 ≤ S j ∧ S j ≤ 60) : Ct en kA yX7_get mX7_get [rf en 37, vi s, vi f, vi i] M (pX (fun x N => ((¬ ((0 ≤ s ∧ s ≤ 3) ∧ (0 ≤ f ∧ f ≤ 2))) ∧ x = -2147483648 ∧ M = N) ∨ ((((0 ≤ s ∧ s ≤ 3) ∧ (0 ≤ f ∧ f ≤ 2)) ∧ F s < 0) ∧ x = -2147483648 ∧ upR M 37 (up O 4 1) = N) ∨ ((((0 ≤ s ∧ s ≤ 3) ∧ (0 ≤ f ∧ f ≤ 2)) ∧ 0 ≤ F s ∧ F s ≠ f) ∧ x = -2147483648 ∧ upR M 37 (up O 4 3) = N) ∨ ((((0 ≤ s ∧ s ≤ 3) ∧ (0 ≤ f ∧ f ≤ 2)) ∧ 0 ≤ F s ∧ F s = f ∧ ¬ (0 ≤ i ∧ i ≤ S s - 1)) ∧ x = -2147483648 ∧ upR M 37 (up O 4 2) = N) ∨ ((((0 ≤ s ∧ s ≤ 3) ∧ (0 ≤ f ∧ f ≤ 2)) ∧ 0 ≤ F s ∧ F s = f ∧ 0 ≤ i ∧ i ≤ S s - 1) ∧ x = I (60 * s + i) ∧ M = N))) := by
  refine Ct.of (by decide +kernel) rfl [(0, rf en 37), (1, vi s), (2, vi f), (3, vi i)] rfl (Nat.le_of_ble_eq_true rfl) (fun cx C => ?_)
  refine z_iload_n 1 dX7_get_0 rfl ?_
  refine z_sI dX7_get_1 lX7_67 (by decide) (ct_X7_isSheet en M _ (by omega)) rfl rfl (by exact Nat.le_of_ble_eq_true rfl) ?_
  refine z_ifeq_b (tgt := 29) dX7_get_4 rfl (fun uc4 => ?_) (fun uc4 => ?_)
  ·
    refine z_ldc (n := -2147483648) dX7_get_29 kX7_85 rfl ?_
    exact z_iret C dX7_get_31 rfl ⟨_, rfl, (by first | exact Or.inl ⟨by omega, rfl, rfl⟩ | exact Or.inr (Or.inl ⟨by omega, rfl, rfl⟩) | exact Or.inr (Or.inr (Or.inl ⟨by omega, rfl, rfl⟩)) | exact Or.inr (Or.inr (Or.inr (Or.inl ⟨by omega, rfl, rfl⟩))))⟩
  ·
    refine z_iload_n 2 dX7_get_7 rfl ?_
    refine z_i2l dX7_get_8 (by omega) ?_
    refine z_lconst (v := 0) dX7_get_9 rfl ?_
    refine z_ldc2 (n := 2) dX7_get_10 kX7_71 rfl ?_
    refine z_sI dX7_get_13 lX7_57 (by decide) (ct_X7_in en M _ (0) (2) (by omega)) rfl rfl (by exact Nat.le_of_ble_eq_true rfl) ?_
    refine z_ifeq_b (tgt := 29) dX7_get_16 rfl (fun uc16 => ?_) (fun uc16 => ?_)
    ·
      refine z_ldc (n := -2147483648) dX7_get_29 kX7_85 rfl ?_
      exact z_iret C dX7_get_31 rfl ⟨_, rfl, (by first | exact Or.inl ⟨by omega, rfl, rfl⟩ | exact Or.inr (Or.inl ⟨by omega, rfl, rfl⟩) | exact Or.inr (Or.inr (Or.inl ⟨by omega, rfl, rfl⟩)) | exact Or.inr (Or.inr (Or.inr (Or.inl ⟨by omega, rfl, rfl⟩))))⟩
    ·
      refine z_aload_n 0 dX7_get_19 rfl ?_
      refine z_iload_n 1 dX7_get_20 rfl ?_
      refine z_iload_n 2 dX7_get_21 rfl ?_
      refine z_iload_n 3 dX7_get_22 rfl ?_
      refine z_vX dX7_get_23 lX7_77 (by decide) ka37 io37 rfl (ct_X7_lacks en M O F S wO wF wS _ _ _ (by omega) (hF) (hS)) rfl rfl (by exact Nat.le_of_ble_eq_true rfl) (fun uv23 uN23 uh23 => ?_)
      rcases uh23 with ⟨uk23, rfl, rfl⟩ | ⟨uk23, rfl, rfl⟩ | ⟨uk23, rfl, rfl⟩ | ⟨uk23, rfl, rfl⟩
      ·
        refine z_if_eq (tgt := 32) dX7_get_26 rfl (by omega) (fun z => absurd z (by decide)) (fun _ => ?_)
        refine z_ldc (n := -2147483648) dX7_get_29 kX7_85 rfl ?_
        exact z_iret C dX7_get_31 rfl ⟨_, rfl, (by first | exact Or.inl ⟨by omega, rfl, rfl⟩ | exact Or.inr (Or.inl ⟨by omega, rfl, rfl⟩) | exact Or.inr (Or.inr (Or.inl ⟨by omega, rfl, rfl⟩)) | exact Or.inr (Or.inr (Or.inr (Or.inl ⟨by omega, rfl, rfl⟩))))⟩
      ·
        refine z_if_eq (tgt := 32) dX7_get_26 rfl (by omega) (fun z => absurd z (by decide)) (fun _ => ?_)
        refine z_ldc (n := -2147483648) dX7_get_29 kX7_85 rfl ?_
        exact z_iret C dX7_get_31 rfl ⟨_, rfl, (by first | exact Or.inl ⟨by omega, rfl, rfl⟩ | exact Or.inr (Or.inl ⟨by omega, rfl, rfl⟩) | exact Or.inr (Or.inr (Or.inl ⟨by omega, rfl, rfl⟩)) | exact Or.inr (Or.inr (Or.inr (Or.inl ⟨by omega, rfl, rfl⟩))))⟩
      ·
        refine z_if_eq (tgt := 32) dX7_get_26 rfl (by omega) (fun z => absurd z (by decide)) (fun _ => ?_)
        refine z_ldc (n := -2147483648) dX7_get_29 kX7_85 rfl ?_
        exact z_iret C dX7_get_31 rfl ⟨_, rfl, (by first | exact Or.inl ⟨by omega, rfl, rfl⟩ | exact Or.inr (Or.inl ⟨by omega, rfl, rfl⟩) | exact Or.inr (Or.inr (Or.inl ⟨by omega, rfl, rfl⟩)) | exact Or.inr (Or.inr (Or.inr (Or.inl ⟨by omega, rfl, rfl⟩))))⟩
      ·
        refine z_if_eq (tgt := 32) dX7_get_26 rfl (by omega) (fun _ => ?_) (fun z => absurd z (by decide))
        have uhs1 := hS s (by omega) (by omega)
        refine z_aload_n 0 dX7_get_32 rfl ?_
        refine z_getR dX7_get_33 fX7_16_6 i37_2 ka37 ?_
        refine z_bipush dX7_get_36 rfl ?_
        refine z_iload_n 1 dX7_get_38 rfl ?_
        refine z_imul dX7_get_39 ?_
        refine z_iload_n 3 dX7_get_40 rfl ?_
        refine z_iadd dX7_get_41 ?_
        refine z_iald (r := I) dX7_get_42 is40 ka40 (wI) (by omega) ?_
        exact z_iret C dX7_get_43 rfl ⟨_, rfl, Or.inr (Or.inr (Or.inr (Or.inr ⟨by omega, rfl, rfl⟩)))⟩
set_option maxRecDepth 100000 in
theorem ct_X7_copy (en : zE) (M : zW) (O : Int → Int) (F : Int → Int) (S : Int → Int) (I : Int → Int) (V : Int → Int) (wO : M 37 = O) (wF : M 38 = F) (wS : M 39 = S) (wI : M 40 = I) (wV : M 41 = V) (s : Int) (i : Int) (t : Int) (j : Int) (n : Int) (h0 : -2147483648 ≤ s ∧ s < 2147483648 ∧ -2147483648 ≤ i ∧ i < 2147483648 ∧ -2147483648 ≤ t ∧ t < 2147483648 ∧ -2147483648 ≤ j ∧ j < 2147483648 ∧ -2147483648 ≤ n ∧ n < 2147483648) (hF : ∀ j, 0 ≤ j → j < 4 → -1 ≤ F j ∧ F j ≤ 2) (hS : ∀ j, 0 ≤ j → j < 4 → 0 ≤ S j ∧ S j ≤ 60) : Ct en kA yX7_copy mX7_copy [rf en 37, vi s, vi i, vi t, vi j, vi n] M (pX (fun x N => ((¬ ((0 ≤ s ∧ s ≤ 3) ∧ (0 ≤ t ∧ t ≤ 3))) ∧ x = -2 ∧ M = N) ∨ ((((0 ≤ s ∧ s ≤ 3) ∧ (0 ≤ t ∧ t ≤ 3)) ∧ (F s < 0 ∨ F t < 0)) ∧ x = -11 ∧ upR M 37 (up O 4 1) = N) ∨ ((((0 ≤ s ∧ s ≤ 3) ∧ (0 ≤ t ∧ t ≤ 3)) ∧ 0 ≤ F s ∧ 0 ≤ F t ∧ F s ≠ F t) ∧ x = -14 ∧ upR M 37 (up O 4 4) = N) ∨ ((((0 ≤ s ∧ s ≤ 3) ∧ (0 ≤ t ∧ t ≤ 3)) ∧ 0 ≤ F s ∧ 0 ≤ F t ∧ F s = F t ∧ ¬ (0 ≤ i ∧ 0 ≤ j ∧ 0 ≤ n ∧ i + n ≤ S s ∧ j + n ≤ S t)) ∧ x = -12 ∧ upR M 37 (up O 4 2) = N) ∨ ((((0 ≤ s ∧ s ≤ 3) ∧ (0 ≤ t ∧ t ≤ 3)) ∧ 0 ≤ F s ∧ 0 ≤ F t ∧ F s = F t ∧ (0 ≤ i ∧ 0 ≤ j ∧ 0 ≤ n ∧ i + n ≤ S s ∧ j + n ≤ S t)) ∧ x = 1 ∧ ∃ v, upR (upR M 41 v) 40 (fil (fun q => I (60 * s + i + q)) I (60 * t + j) n) = N))) := by
  refine Ct.of (by decide +kernel) rfl [(0, rf en 37), (1, vi s), (2, vi i), (3, vi t), (4, vi j), (5, vi n)] rfl (Nat.le_of_ble_eq_true rfl) (fun cx C => ?_)
  refine z_iload_n 1 dX7_copy_0 rfl ?_
  refine z_sI dX7_copy_1 lX7_67 (by decide) (ct_X7_isSheet en M _ (by omega)) rfl rfl (by exact Nat.le_of_ble_eq_true rfl) ?_
  refine z_ifeq_b (tgt := 14) dX7_copy_4 rfl (fun uc4 => ?_) (fun uc4 => ?_)
  ·
    refine z_bipush dX7_copy_14 rfl ?_
    exact z_iret C dX7_copy_16 rfl ⟨_, rfl, Or.inl ⟨by omega, rfl, rfl⟩⟩
  ·
    refine z_iload_n 3 dX7_copy_7 rfl ?_
    refine z_sI dX7_copy_8 lX7_67 (by decide) (ct_X7_isSheet en M _ (by omega)) rfl rfl (by exact Nat.le_of_ble_eq_true rfl) ?_
    refine z_ifne_b (tgt := 17) dX7_copy_11 rfl (fun uc11 => ?_) (fun uc11 => ?_)
    ·
      refine z_aload_n 0 dX7_copy_17 rfl ?_
      refine z_getR dX7_copy_18 fX7_7_6 i37_0 ka37 ?_
      refine z_iload_n 1 dX7_copy_21 rfl ?_
      refine z_ialdB (r := F) dX7_copy_22 is38 ka38 (wF) (by omega) (hF) (fun uy22 ug22 ub22 => ?_)
      refine z_if_lt (tgt := 35) dX7_copy_23 rfl (by omega) (fun uc23 => ?_) (fun uc23 => ?_)
      ·
        refine z_aload_n 0 dX7_copy_35 rfl ?_
        refine z_iconst dX7_copy_36 ?_
        refine z_vI dX7_copy_37 lX7_73 (by decide) ka37 io37 rfl (ct_X7_finds en M O wO (1)) rfl rfl (by exact Nat.le_of_ble_eq_true rfl) ?_
        exact z_iret C dX7_copy_40 rfl ⟨_, rfl, Or.inr (Or.inl ⟨by omega, rfl, rfl⟩)⟩
      ·
        refine z_aload_n 0 dX7_copy_26 rfl ?_
        refine z_getR dX7_copy_27 fX7_7_6 i37_0 ka37 ?_
        refine z_iload_n 3 dX7_copy_30 rfl ?_
        refine z_ialdB (r := F) dX7_copy_31 is38 ka38 (wF) (by omega) (hF) (fun uy31 ug31 ub31 => ?_)
        refine z_if_ge (tgt := 41) dX7_copy_32 rfl (by omega) (fun uc32 => ?_) (fun uc32 => ?_)
        ·
          refine z_aload_n 0 dX7_copy_41 rfl ?_
          refine z_getR dX7_copy_42 fX7_7_6 i37_0 ka37 ?_
          refine z_iload_n 1 dX7_copy_45 rfl ?_
          refine z_ialdB (r := F) dX7_copy_46 is38 ka38 (wF) (by omega) (hF) (fun uy46 ug46 ub46 => ?_)
          refine z_aload_n 0 dX7_copy_47 rfl ?_
          refine z_getR dX7_copy_48 fX7_7_6 i37_0 ka37 ?_
          refine z_iload_n 3 dX7_copy_51 rfl ?_
          refine z_ialdB (r := F) dX7_copy_52 is38 ka38 (wF) (by omega) (hF) (fun uy52 ug52 ub52 => ?_)
          refine z_icmp_eq (tgt := 62) dX7_copy_53 rfl (by omega) (fun uc53 => ?_) (fun uc53 => ?_)
          ·
            refine z_iload_n 2 dX7_copy_62 rfl ?_
            refine z_if_lt (tgt := 111) dX7_copy_63 rfl (by omega) (fun uc63 => ?_) (fun uc63 => ?_)
            ·
              refine z_aload_n 0 dX7_copy_111 rfl ?_
              refine z_iconst dX7_copy_112 ?_
              refine z_vI dX7_copy_113 lX7_73 (by decide) ka37 io37 rfl (ct_X7_finds en M O wO (2)) rfl rfl (by exact Nat.le_of_ble_eq_true rfl) ?_
              exact z_iret C dX7_copy_116 rfl ⟨_, rfl, Or.inr (Or.inr (Or.inr (Or.inl ⟨by omega, rfl, rfl⟩)))⟩
            ·
              refine z_iload 4 dX7_copy_66 rfl ?_
              refine z_if_lt (tgt := 111) dX7_copy_68 rfl (by omega) (fun uc68 => ?_) (fun uc68 => ?_)
              ·
                refine z_aload_n 0 dX7_copy_111 rfl ?_
                refine z_iconst dX7_copy_112 ?_
                refine z_vI dX7_copy_113 lX7_73 (by decide) ka37 io37 rfl (ct_X7_finds en M O wO (2)) rfl rfl (by exact Nat.le_of_ble_eq_true rfl) ?_
                exact z_iret C dX7_copy_116 rfl ⟨_, rfl, Or.inr (Or.inr (Or.inr (Or.inl ⟨by omega, rfl, rfl⟩)))⟩
              ·
                refine z_iload 5 dX7_copy_71 rfl ?_
                refine z_if_lt (tgt := 111) dX7_copy_73 rfl (by omega) (fun uc73 => ?_) (fun uc73 => ?_)
                ·
                  refine z_aload_n 0 dX7_copy_111 rfl ?_
                  refine z_iconst dX7_copy_112 ?_
                  refine z_vI dX7_copy_113 lX7_73 (by decide) ka37 io37 rfl (ct_X7_finds en M O wO (2)) rfl rfl (by exact Nat.le_of_ble_eq_true rfl) ?_
                  exact z_iret C dX7_copy_116 rfl ⟨_, rfl, Or.inr (Or.inr (Or.inr (Or.inl ⟨by omega, rfl, rfl⟩)))⟩
                ·
                  refine z_iload_n 2 dX7_copy_76 rfl ?_
                  refine z_i2l dX7_copy_77 (by omega) ?_
                  refine z_iload 5 dX7_copy_78 rfl ?_
                  refine z_i2l dX7_copy_80 (by omega) ?_
                  refine z_ladd dX7_copy_81 ?_
                  refine z_aload_n 0 dX7_copy_82 rfl ?_
                  refine z_getR dX7_copy_83 fX7_13_6 i37_1 ka37 ?_
                  refine z_iload_n 1 dX7_copy_86 rfl ?_
                  refine z_ialdB (r := S) dX7_copy_87 is39 ka39 (wS) (by omega) (hS) (fun uy87 ug87 ub87 => ?_)
                  refine z_i2l dX7_copy_88 (by omega) ?_
                  refine z_lcmp dX7_copy_89 (by omega) (fun uz89 uhz89 => ?_)
                  refine z_if_gt (tgt := 111) dX7_copy_90 rfl (by omega) (fun uc90 => ?_) (fun uc90 => ?_)
                  ·
                    refine z_aload_n 0 dX7_copy_111 rfl ?_
                    refine z_iconst dX7_copy_112 ?_
                    refine z_vI dX7_copy_113 lX7_73 (by decide) ka37 io37 rfl (ct_X7_finds en M O wO (2)) rfl rfl (by exact Nat.le_of_ble_eq_true rfl) ?_
                    exact z_iret C dX7_copy_116 rfl ⟨_, rfl, Or.inr (Or.inr (Or.inr (Or.inl ⟨by omega, rfl, rfl⟩)))⟩
                  ·
                    refine z_iload 4 dX7_copy_93 rfl ?_
                    refine z_i2l dX7_copy_95 (by omega) ?_
                    refine z_iload 5 dX7_copy_96 rfl ?_
                    refine z_i2l dX7_copy_98 (by omega) ?_
                    refine z_ladd dX7_copy_99 ?_
                    refine z_aload_n 0 dX7_copy_100 rfl ?_
                    refine z_getR dX7_copy_101 fX7_13_6 i37_1 ka37 ?_
                    refine z_iload_n 3 dX7_copy_104 rfl ?_
                    refine z_ialdB (r := S) dX7_copy_105 is39 ka39 (wS) (by omega) (hS) (fun uy105 ug105 ub105 => ?_)
                    refine z_i2l dX7_copy_106 (by omega) ?_
                    refine z_lcmp dX7_copy_107 (by omega) (fun uz107 uhz107 => ?_)
                    refine z_if_le (tgt := 117) dX7_copy_108 rfl (by omega) (fun uc108 => ?_) (fun uc108 => ?_)
                    ·
                      have uhs1 := hS s (by omega) (by omega)
                      have uhs2 := hS t (by omega) (by omega)
                      refine z_iconst dX7_copy_117 ?_
                      refine z_istore (fun y => [(0, rf en 37), (1, vi s), (2, vi i), (3, vi t), (4, vi j), (5, vi n), (6, vi y)]) [1, 2, 3, 4, 5, 6, 0] dX7_copy_118 (by decide) (fun _ => rfl) (fun x6_118 e6_118 => ?_)
                      have uL120 : ∀ (fu : Nat) (x6 : Int) (r41 : Int → Int), (n - x6).toNat < fu → (0 ≤ x6 ∧ x6 ≤ n ∧ r41 = fil (fun q => I (60 * s + i + q)) V 0 x6) → Z en kA cx mX7_copy (upR M 41 r41) 120 [(0, rf en 37), (1, vi s), (2, vi i), (3, vi t), (4, vi j), (5, vi n), (6, vi x6)] [] := by
                        intro fu
                        induction fu with
                        | zero => intro x6 r41 uhf; exact absurd uhf (Nat.not_lt_zero _)
                        | succ fu uih120 =>
                          intro x6 r41 uf120 uI120
                          obtain ⟨uq1, uq2, uq3⟩ := uI120
                          refine z_iload 6 dX7_copy_120 rfl ?_
                          refine z_iload 5 dX7_copy_122 rfl ?_
                          refine z_icmp_ge (tgt := 154) dX7_copy_124 rfl (by omega) (fun uc124 => ?_) (fun uc124 => ?_)
                          ·
                            refine z_iconst dX7_copy_154 ?_
                            refine z_istore (fun y => [(0, rf en 37), (1, vi s), (2, vi i), (3, vi t), (4, vi j), (5, vi n), (6, vi y)]) [1, 2, 3, 4, 5, 6, 0] dX7_copy_155 (by decide) (fun _ => rfl) (fun x6_155 e6_155 => ?_)
                            have uL157 : ∀ (fu : Nat) (x6 : Int) (r40 : Int → Int), (n - x6).toNat < fu → (0 ≤ x6 ∧ x6 ≤ n ∧ r40 = fil (fun q => I (60 * s + i + q)) I (60 * t + j) x6) → Z en kA cx mX7_copy (upR (upR M 41 r41) 40 r40) 157 [(0, rf en 37), (1, vi s), (2, vi i), (3, vi t), (4, vi j), (5, vi n), (6, vi x6)] [] := by
                              intro fu
                              induction fu with
                              | zero => intro x6 r40 uhf; exact absurd uhf (Nat.not_lt_zero _)
                              | succ fu uih157 =>
                                intro x6 r40 uf157 uI157
                                obtain ⟨uq5, uq6, uq7⟩ := uI157
                                refine z_iload 6 dX7_copy_157 rfl ?_
                                refine z_iload 5 dX7_copy_159 rfl ?_
                                refine z_icmp_ge (tgt := 192) dX7_copy_161 rfl (by omega) (fun uc161 => ?_) (fun uc161 => ?_)
                                ·
                                  refine z_iconst dX7_copy_192 ?_
                                  exact z_iret C dX7_copy_193 rfl ⟨_, rfl, Or.inr (Or.inr (Or.inr (Or.inr ⟨by omega, rfl, r41, by rw [uq7, show x6 = n by omega]⟩)))⟩
                                ·
                                  refine z_aload_n 0 dX7_copy_164 rfl ?_
                                  refine z_getR dX7_copy_165 fX7_16_6 i37_2 ka37 ?_
                                  refine z_bipush dX7_copy_168 rfl ?_
                                  refine z_iload_n 3 dX7_copy_170 rfl ?_
                                  refine z_imul dX7_copy_171 ?_
                                  refine z_iload 4 dX7_copy_172 rfl ?_
                                  refine z_iadd dX7_copy_174 ?_
                                  refine z_iload 6 dX7_copy_175 rfl ?_
                                  refine z_iadd dX7_copy_177 ?_
                                  refine z_aload_n 0 dX7_copy_178 rfl ?_
                                  refine z_getR dX7_copy_179 fX7_19_6 i37_3 ka37 ?_
                                  refine z_iload 6 dX7_copy_182 rfl ?_
                                  refine z_iald (r := r41) dX7_copy_184 is41 ka41 (rfl) (by omega) ?_
                                  refine z_iast' (r := r40) (fun r => (upR (upR M 41 r41) 40 r)) dX7_copy_185 is40 ka40 (rfl) (by omega) (fun _ => uu1) (fun r40_185 f40_185 => ?_)
                                  refine z_iinc (fun y => [(0, rf en 37), (1, vi s), (2, vi i), (3, vi t), (4, vi j), (5, vi n), (6, vi y)]) [1, 2, 3, 4, 5, 6, 0] 6 dX7_copy_186 rfl (by decide) (fun _ => rfl) (fun x6_186 e6_186 => ?_)
                                  refine z_goto (tgt := 157) dX7_copy_189 rfl ?_
                                  exact uih157 x6_186 r40_185 (by omega) (⟨by omega, by omega, by rw [f40_185, uq7, e6_186]; exact fil_s _ _ _ _ uq5 (by rw [uq3, fil_in _ _ (by omega), Int.sub_zero])⟩)
                            refine Z.eqM (upR_id (k := 40) wI) ?_
                            exact uL157 _ x6_155 I (Nat.lt_succ_self _) (⟨by omega, by omega, by rw [e6_155, fil_0]⟩)
                          ·
                            refine z_aload_n 0 dX7_copy_127 rfl ?_
                            refine z_getR dX7_copy_128 fX7_19_6 i37_3 ka37 ?_
                            refine z_iload 6 dX7_copy_131 rfl ?_
                            refine z_aload_n 0 dX7_copy_133 rfl ?_
                            refine z_getR dX7_copy_134 fX7_16_6 i37_2 ka37 ?_
                            refine z_bipush dX7_copy_137 rfl ?_
                            refine z_iload_n 1 dX7_copy_139 rfl ?_
                            refine z_imul dX7_copy_140 ?_
                            refine z_iload_n 2 dX7_copy_141 rfl ?_
                            refine z_iadd dX7_copy_142 ?_
                            refine z_iload 6 dX7_copy_143 rfl ?_
                            refine z_iadd dX7_copy_145 ?_
                            refine z_iald (r := I) dX7_copy_146 is40 ka40 (wI) (by omega) ?_
                            refine z_iast' (r := r41) (fun r => (upR M 41 r)) dX7_copy_147 is41 ka41 (rfl) (by omega) (fun _ => uu1) (fun r41_147 f41_147 => ?_)
                            refine z_iinc (fun y => [(0, rf en 37), (1, vi s), (2, vi i), (3, vi t), (4, vi j), (5, vi n), (6, vi y)]) [1, 2, 3, 4, 5, 6, 0] 6 dX7_copy_148 rfl (by decide) (fun _ => rfl) (fun x6_148 e6_148 => ?_)
                            refine z_goto (tgt := 120) dX7_copy_151 rfl ?_
                            exact uih120 x6_148 r41_147 (by omega) (⟨by omega, by omega, by rw [f41_147, uq3, e6_148]; have := fil_s (fun q => I (60 * s + i + q)) V 0 x6 uq1 rfl; rw [Int.zero_add] at this; exact this⟩)
                      refine Z.eqM (upR_id (k := 41) wV) ?_
                      exact uL120 _ x6_118 V (Nat.lt_succ_self _) (⟨by omega, by omega, by rw [e6_118, fil_0]⟩)
                    ·
                      refine z_aload_n 0 dX7_copy_111 rfl ?_
                      refine z_iconst dX7_copy_112 ?_
                      refine z_vI dX7_copy_113 lX7_73 (by decide) ka37 io37 rfl (ct_X7_finds en M O wO (2)) rfl rfl (by exact Nat.le_of_ble_eq_true rfl) ?_
                      exact z_iret C dX7_copy_116 rfl ⟨_, rfl, Or.inr (Or.inr (Or.inr (Or.inl ⟨by omega, rfl, rfl⟩)))⟩
          ·
            refine z_aload_n 0 dX7_copy_56 rfl ?_
            refine z_iconst dX7_copy_57 ?_
            refine z_vI dX7_copy_58 lX7_73 (by decide) ka37 io37 rfl (ct_X7_finds en M O wO (4)) rfl rfl (by exact Nat.le_of_ble_eq_true rfl) ?_
            exact z_iret C dX7_copy_61 rfl ⟨_, rfl, Or.inr (Or.inr (Or.inl ⟨by omega, rfl, rfl⟩))⟩
        ·
          refine z_aload_n 0 dX7_copy_35 rfl ?_
          refine z_iconst dX7_copy_36 ?_
          refine z_vI dX7_copy_37 lX7_73 (by decide) ka37 io37 rfl (ct_X7_finds en M O wO (1)) rfl rfl (by exact Nat.le_of_ble_eq_true rfl) ?_
          exact z_iret C dX7_copy_40 rfl ⟨_, rfl, Or.inr (Or.inl ⟨by omega, rfl, rfl⟩)⟩
    ·
      refine z_bipush dX7_copy_14 rfl ?_
      exact z_iret C dX7_copy_16 rfl ⟨_, rfl, Or.inl ⟨by omega, rfl, rfl⟩⟩
set_option maxRecDepth 100000 in
theorem ct_X7_type (en : zE) (M : zW) (B : Int → Int) (Y : Int → Int) (wB : M 42 = B) (wY : M 43 = Y) (t : Int) (b : Int) (h0 : -2147483648 ≤ t ∧ t < 2147483648 ∧ -2147483648 ≤ b ∧ b < 2147483648) (hY : ∀ j, 0 ≤ j → j < 2 → 0 ≤ Y j ∧ Y j ≤ 47) : Ct en kA yX7_type mX7_type [rf en 37, vi t, vi b] M (pX (fun x N => ((¬ ((0 ≤ t ∧ t ≤ 1) ∧ (0 ≤ b ∧ b ≤ 255))) ∧ x = -2 ∧ M = N) ∨ ((((0 ≤ t ∧ t ≤ 1) ∧ (0 ≤ b ∧ b ≤ 255)) ∧ Y t = 47) ∧ x = -4 ∧ M = N) ∨ ((((0 ≤ t ∧ t ≤ 1) ∧ (0 ≤ b ∧ b ≤ 255)) ∧ Y t ≠ 47) ∧ x = Y t + 1 ∧ upR (upR M 42 (up B (48 * t + Y t) b)) 43 (up Y t (Y t + 1)) = N))) := by
  refine Ct.of (by decide +kernel) rfl [(0, rf en 37), (1, vi t), (2, vi b)] rfl (Nat.le_of_ble_eq_true rfl) (fun cx C => ?_)
  refine z_iload_n 1 dX7_type_0 rfl ?_
  refine z_sI dX7_type_1 lX7_86 (by decide) (ct_X7_isTwo en M _ (by omega)) rfl rfl (by exact Nat.le_of_ble_eq_true rfl) ?_
  refine z_ifeq_b (tgt := 19) dX7_type_4 rfl (fun uc4 => ?_) (fun uc4 => ?_)
  ·
    refine z_bipush dX7_type_19 rfl ?_
    exact z_iret C dX7_type_21 rfl ⟨_, rfl, Or.inl ⟨by omega, rfl, rfl⟩⟩
  ·
    refine z_iload_n 2 dX7_type_7 rfl ?_
    refine z_i2l dX7_type_8 (by omega) ?_
    refine z_lconst (v := 0) dX7_type_9 rfl ?_
    refine z_ldc2 (n := 255) dX7_type_10 kX7_89 rfl ?_
    refine z_sI dX7_type_13 lX7_57 (by decide) (ct_X7_in en M _ (0) (255) (by omega)) rfl rfl (by exact Nat.le_of_ble_eq_true rfl) ?_
    refine z_ifne_b (tgt := 22) dX7_type_16 rfl (fun uc16 => ?_) (fun uc16 => ?_)
    ·
      refine z_aload_n 0 dX7_type_22 rfl ?_
      refine z_getR dX7_type_23 fX7_25_6 i37_6 ka37 ?_
      refine z_iload_n 1 dX7_type_26 rfl ?_
      refine z_ialdB (r := Y) dX7_type_27 is43 ka43 (wY) (by omega) (hY) (fun uy27 ug27 ub27 => ?_)
      refine z_bipush dX7_type_28 rfl ?_
      refine z_icmp_ne (tgt := 36) dX7_type_30 rfl (by omega) (fun uc30 => ?_) (fun uc30 => ?_)
      ·
        refine z_aload_n 0 dX7_type_36 rfl ?_
        refine z_getR dX7_type_37 fX7_22_6 i37_5 ka37 ?_
        refine z_bipush dX7_type_40 rfl ?_
        refine z_iload_n 1 dX7_type_42 rfl ?_
        refine z_imul dX7_type_43 ?_
        refine z_aload_n 0 dX7_type_44 rfl ?_
        refine z_getR dX7_type_45 fX7_25_6 i37_6 ka37 ?_
        refine z_iload_n 1 dX7_type_48 rfl ?_
        refine z_ialdB (r := Y) dX7_type_49 is43 ka43 (wY) (by omega) (hY) (fun uy49 ug49 ub49 => ?_)
        refine z_iadd dX7_type_50 ?_
        refine z_iload_n 2 dX7_type_51 rfl ?_
        refine z_iast (r := B) dX7_type_52 is42 ka42 (wB) (by omega) (fun r42_52 f42_52 => ?_)
        refine z_aload_n 0 dX7_type_53 rfl ?_
        refine z_getR dX7_type_54 fX7_25_6 i37_6 ka37 ?_
        refine z_iload_n 1 dX7_type_57 rfl ?_
        refine z_dup2_ia dX7_type_58 ?_
        refine z_ialdB (r := Y) dX7_type_59 is43 ka43 (wY) (by omega) (hY) (fun uy59 ug59 ub59 => ?_)
        refine z_iconst dX7_type_60 ?_
        refine z_iadd dX7_type_61 ?_
        refine z_iast (r := Y) dX7_type_62 is43 ka43 (wY) (by omega) (fun r43_62 f43_62 => ?_)
        refine z_aload_n 0 dX7_type_63 rfl ?_
        refine z_getR dX7_type_64 fX7_25_6 i37_6 ka37 ?_
        refine z_iload_n 1 dX7_type_67 rfl ?_
        refine z_iald (r := r43_62) dX7_type_68 is43 ka43 (rfl) (by omega) ?_
        exact z_iret C dX7_type_69 rfl ⟨_, rfl, Or.inr (Or.inr ⟨by omega, by rw [f43_62, up_s]; omega, by subst f42_52; subst f43_62; subst ug49; subst ug59; rfl⟩)⟩
      ·
        refine z_bipush dX7_type_33 rfl ?_
        exact z_iret C dX7_type_35 rfl ⟨_, rfl, Or.inr (Or.inl ⟨by omega, rfl, rfl⟩)⟩
    ·
      refine z_bipush dX7_type_19 rfl ?_
      exact z_iret C dX7_type_21 rfl ⟨_, rfl, Or.inl ⟨by omega, rfl, rfl⟩⟩
set_option maxRecDepth 100000 in
theorem ct_X7_wipe (en : zE) (M : zW) (Y : Int → Int) (wY : M 43 = Y) (t : Int) (h0 : -2147483648 ≤ t ∧ t < 2147483648) (hY : ∀ j, 0 ≤ j → j < 2 → 0 ≤ Y j ∧ Y j ≤ 47) : Ct en kA yX7_wipe mX7_wipe [rf en 37, vi t] M (pX (fun x N => ((¬ (0 ≤ t ∧ t ≤ 1)) ∧ x = -2 ∧ M = N) ∨ (((0 ≤ t ∧ t ≤ 1)) ∧ x = Y t ∧ upR M 43 (up Y t 0) = N))) := by
  refine Ct.of (by decide +kernel) rfl [(0, rf en 37), (1, vi t)] rfl (Nat.le_of_ble_eq_true rfl) (fun cx C => ?_)
  refine z_iload_n 1 dX7_wipe_0 rfl ?_
  refine z_sI dX7_wipe_1 lX7_86 (by decide) (ct_X7_isTwo en M _ (by omega)) rfl rfl (by exact Nat.le_of_ble_eq_true rfl) ?_
  refine z_ifne_b (tgt := 10) dX7_wipe_4 rfl (fun uc4 => ?_) (fun uc4 => ?_)
  ·
    refine z_aload_n 0 dX7_wipe_10 rfl ?_
    refine z_getR dX7_wipe_11 fX7_25_6 i37_6 ka37 ?_
    refine z_iload_n 1 dX7_wipe_14 rfl ?_
    refine z_ialdB (r := Y) dX7_wipe_15 is43 ka43 (wY) (by omega) (hY) (fun uy15 ug15 ub15 => ?_)
    refine z_istore_n (fun y => [(0, rf en 37), (1, vi t), (2, vi y)]) [1, 2, 0] dX7_wipe_16 (by decide) (fun _ => rfl) (fun x2_16 e2_16 => ?_)
    refine z_aload_n 0 dX7_wipe_17 rfl ?_
    refine z_getR dX7_wipe_18 fX7_25_6 i37_6 ka37 ?_
    refine z_iload_n 1 dX7_wipe_21 rfl ?_
    refine z_iconst dX7_wipe_22 ?_
    refine z_iast (r := Y) dX7_wipe_23 is43 ka43 (wY) (by omega) (fun r43_23 f43_23 => ?_)
    refine z_iload_n 2 dX7_wipe_24 rfl ?_
    exact z_iret C dX7_wipe_25 rfl ⟨_, rfl, Or.inr ⟨by omega, by omega, by subst f43_23; rfl⟩⟩
  ·
    refine z_bipush dX7_wipe_7 rfl ?_
    exact z_iret C dX7_wipe_9 rfl ⟨_, rfl, Or.inl ⟨by omega, rfl, rfl⟩⟩
set_option maxRecDepth 100000 in
theorem ct_X7_undo (en : zE) (M : zW) (Y : Int → Int) (wY : M 43 = Y) (t : Int) (h0 : -2147483648 ≤ t ∧ t < 2147483648) (hY : ∀ j, 0 ≤ j → j < 2 → 0 ≤ Y j ∧ Y j ≤ 47) : Ct en kA yX7_undo mX7_undo [rf en 37, vi t] M (pX (fun x N => ((¬ (0 ≤ t ∧ t ≤ 1)) ∧ x = -2 ∧ M = N) ∨ (((0 ≤ t ∧ t ≤ 1) ∧ Y t = 0) ∧ x = -3 ∧ M = N) ∨ (((0 ≤ t ∧ t ≤ 1) ∧ Y t ≠ 0) ∧ x = Y t - 1 ∧ upR M 43 (up Y t (Y t - 1)) = N))) := by
  refine Ct.of (by decide +kernel) rfl [(0, rf en 37), (1, vi t)] rfl (Nat.le_of_ble_eq_true rfl) (fun cx C => ?_)
  refine z_iload_n 1 dX7_undo_0 rfl ?_
  refine z_sI dX7_undo_1 lX7_86 (by decide) (ct_X7_isTwo en M _ (by omega)) rfl rfl (by exact Nat.le_of_ble_eq_true rfl) ?_
  refine z_ifne_b (tgt := 10) dX7_undo_4 rfl (fun uc4 => ?_) (fun uc4 => ?_)
  ·
    refine z_aload_n 0 dX7_undo_10 rfl ?_
    refine z_getR dX7_undo_11 fX7_25_6 i37_6 ka37 ?_
    refine z_iload_n 1 dX7_undo_14 rfl ?_
    refine z_ialdB (r := Y) dX7_undo_15 is43 ka43 (wY) (by omega) (hY) (fun uy15 ug15 ub15 => ?_)
    refine z_if_ne (tgt := 22) dX7_undo_16 rfl (by omega) (fun uc16 => ?_) (fun uc16 => ?_)
    ·
      refine z_aload_n 0 dX7_undo_22 rfl ?_
      refine z_getR dX7_undo_23 fX7_25_6 i37_6 ka37 ?_
      refine z_iload_n 1 dX7_undo_26 rfl ?_
      refine z_dup2_ia dX7_undo_27 ?_
      refine z_ialdB (r := Y) dX7_undo_28 is43 ka43 (wY) (by omega) (hY) (fun uy28 ug28 ub28 => ?_)
      refine z_iconst dX7_undo_29 ?_
      refine z_isub dX7_undo_30 ?_
      refine z_iast (r := Y) dX7_undo_31 is43 ka43 (wY) (by omega) (fun r43_31 f43_31 => ?_)
      refine z_aload_n 0 dX7_undo_32 rfl ?_
      refine z_getR dX7_undo_33 fX7_25_6 i37_6 ka37 ?_
      refine z_iload_n 1 dX7_undo_36 rfl ?_
      refine z_iald (r := r43_31) dX7_undo_37 is43 ka43 (rfl) (by omega) ?_
      exact z_iret C dX7_undo_38 rfl ⟨_, rfl, Or.inr (Or.inr ⟨by omega, by rw [f43_31, up_s]; omega, by subst f43_31; subst ug28; rfl⟩)⟩
    ·
      refine z_bipush dX7_undo_19 rfl ?_
      exact z_iret C dX7_undo_21 rfl ⟨_, rfl, Or.inr (Or.inl ⟨by omega, rfl, rfl⟩)⟩
  ·
    refine z_bipush dX7_undo_7 rfl ?_
    exact z_iret C dX7_undo_9 rfl ⟨_, rfl, Or.inl ⟨by omega, rfl, rfl⟩⟩
