/-! Chance: adding up -/
abbrev gbt (g : Int → Int) (s : Int) : Prop := sgn (g (s / 64)) / 2 ^ (s % 64).toNat % 2 = 1
def adS (g wt : Int → Int) : Nat → Int
  | 0 => 0
  | s + 1 => adS g wt s + (if gbt g s then wt (pcw s : Int) else 0)
theorem adS_s (g wt : Int → Int) {x : Int} (h : 0 ≤ x) : adS g wt (x + 1).toNat = adS g wt x.toNat + (if gbt g x then wt (pcw x.toNat : Int) else 0) := by rw [tnS h, adS, tnC h]
theorem pcw_12 : ∀ a : Nat, a < 64 → ∀ b : Nat, b < 64 → pcw (64 * a + b) ≤ 12 := by decide +kernel
theorem pcw_le {s : Nat} (h : s < 4096) : pcw s ≤ 12 := by
  have := pcw_12 (s / 64) (by omega) (s % 64) (by omega)
  rw [show 64 * (s / 64) + s % 64 = s by omega] at this
  exact this
set_option maxRecDepth 100000 in
theorem ct_X0_addUp (en : zE) (M : zW) (O1 : Int → Int) (O6 : Int → Int) (g : Int → Int) (wt : Int → Int) (wO1 : M 1 = O1) (wO6 : M 6 = O6) (wg : M 35 = g) (wwt : M 36 = wt) (hO : 0 ≤ O1 4 ∧ O1 4 ≤ 12) (hg : ∀ w, 0 ≤ w → w < 64 → 0 ≤ g w ∧ g w < 18446744073709551616) : Ct en kA yX0_addUp mX0_addUp [rf en 6] M (pN (fun N => ∃ r6 : Int → Int, r6 4 = adS g wt (2 ^ (O1 4).toNat) ∧ r6 5 = 2 ^ (4 * O1 4).toNat ∧ (∀ q, q ≠ 4 → q ≠ 5 → r6 q = O6 q) ∧ upR M 6 r6 = N)) := by
  refine Ct.of (by decide +kernel) rfl [(0, rf en 6)] rfl (Nat.le_of_ble_eq_true rfl) (fun cx C => ?_)
  refine z_aload_n 0 dX0_addUp_0 rfl ?_
  refine z_lconst (v := 0) dX0_addUp_1 rfl ?_
  refine z_putJ (r := O6) 4 rfl dX0_addUp_2 pfX0_71_0 i6_4 ka6 (wO6) (fun r6_2 f6_2 => ?_)
  refine z_aload_n 0 dX0_addUp_5 rfl ?_
  refine z_lconst (v := 1) dX0_addUp_6 rfl ?_
  refine z_iconst dX0_addUp_7 ?_
  refine z_aload_n 0 dX0_addUp_8 rfl ?_
  refine z_getR dX0_addUp_9 fX0_18_0 i6_0 ka6 ?_
  refine z_getI (r := O1) 4 rfl dX0_addUp_12 fX0_36_3 i1_4 ka1 (wO1) ?_
  refine z_imul dX0_addUp_15 ?_
  refine z_lshl dX0_addUp_16 (by omega) ?_
  refine z_putJ' (r := r6_2) 5 rfl (fun r => (upR M 6 r)) dX0_addUp_17 pfX0_75_0 i6_5 ka6 (rfl) (fun _ => uu1) (fun r6_17 f6_17 => ?_)
  refine z_iconst dX0_addUp_20 ?_
  refine z_istore_n (fun y => [(0, rf en 6), (1, vi y)]) [1, 0] dX0_addUp_21 (by decide) (fun _ => rfl) (fun x1_21 e1_21 => ?_)
  have uL22 : ∀ (fu : Nat) (x1 : Int) (r6 : Int → Int), (2 ^ (O1 4).toNat - x1).toNat < fu → (0 ≤ x1 ∧ x1 ≤ 2 ^ (O1 4).toNat ∧ r6 4 = adS g wt x1.toNat ∧ r6 5 = 2 ^ (4 * O1 4).toNat ∧ (∀ q, q ≠ 4 → q ≠ 5 → r6 q = O6 q)) → Z en kA cx mX0_addUp (upR M 6 r6) 22 [(0, rf en 6), (1, vi x1)] [] := by
    intro fu
    induction fu with
    | zero => intro x1 r6 uhf; exact absurd uhf (Nat.not_lt_zero _)
    | succ fu uih22 =>
      intro x1 r6 uf22 uI22
      obtain ⟨uq1, uq2, uq3, uq4, uq5⟩ := uI22
      have up2 := p2_rg (O1 4).toNat (by omega)
      refine z_iload_n 1 dX0_addUp_22 rfl ?_
      refine z_iconst dX0_addUp_23 ?_
      refine z_aload_n 0 dX0_addUp_24 rfl ?_
      refine z_getR dX0_addUp_25 fX0_18_0 i6_0 ka6 ?_
      refine z_getI (r := O1) 4 rfl dX0_addUp_28 fX0_36_3 i1_4 ka1 (wO1) ?_
      refine z_ishl dX0_addUp_31 (by omega) ?_
      rw [Int.one_mul]
      refine z_icmp_ge (tgt := 80) dX0_addUp_32 rfl (by omega) (fun uc32 => ?_) (fun uc32 => ?_)
      ·
        exact z_vret C dX0_addUp_80 rfl ⟨rfl, ⟨r6, by rw [uq3, show x1 = 2 ^ (O1 4).toNat by omega, p2_nat], uq4, uq5, rfl⟩⟩
      ·
        have ux6 : x1 / 2 ^ (6 : Int).toNat = x1 / 64 := rfl
        have ugw := hg (x1 / 64) (by omega) (by omega)
        refine z_aload_n 0 dX0_addUp_35 rfl ?_
        refine z_getR dX0_addUp_36 fX0_11_0 i6_1 ka6 ?_
        refine z_iload_n 1 dX0_addUp_39 rfl ?_
        refine z_bipush dX0_addUp_40 rfl ?_
        refine z_ishr dX0_addUp_42 (by omega) (by omega) ?_
        rw [ux6]
        refine z_lald (r := g) dX0_addUp_43 is35 ka35 (wg) (by omega) ?_
        refine z_iload_n 1 dX0_addUp_44 rfl ?_
        refine z_bipush dX0_addUp_45 rfl ?_
        refine z_iand63 dX0_addUp_47 ?_
        refine z_lshrW dX0_addUp_48 (by omega) (by omega) ?_
        refine z_lconst (v := 1) dX0_addUp_49 rfl ?_
        refine z_land1 dX0_addUp_50 ?_
        refine z_lconst (v := 1) dX0_addUp_51 rfl ?_
        refine z_lcmp dX0_addUp_52 (by omega) (fun uz52 uhz52 => ?_)
        have uz1 := uhz52
        have ugb2 : sgn (g (x1 / 64)) / 2 ^ (x1 % 64).toNat % 2 = 1 ↔ uz52 = 0 := uz1.2.1.symm
        refine z_if_ne (tgt := 74) dX0_addUp_53 rfl (by omega) (fun uc53 => ?_) (fun uc53 => ?_)
        ·
          have ugb : ¬ gbt g x1 := fun uz => uc53 (ugb2.mp uz)
          refine z_iinc (fun y => [(0, rf en 6), (1, vi y)]) [1, 0] 1 dX0_addUp_74 rfl (by decide) (fun _ => rfl) (fun x1_74 e1_74 => ?_)
          refine z_goto (tgt := 22) dX0_addUp_77 rfl ?_
          exact uih22 x1_74 r6 (by omega) (⟨by omega, by omega, by rw [e1_74, adS_s _ _ uq1, if_neg ugb]; omega, uq4, uq5⟩)
        ·
          have ugb : gbt g x1 := ugb2.mpr uc53
          refine z_aload_n 0 dX0_addUp_56 rfl ?_
          refine z_dup_a dX0_addUp_57 ?_
          refine z_getJ (r := r6) 4 rfl dX0_addUp_58 fX0_71_0 i6_4 ka6 (rfl) ?_
          refine z_aload_n 0 dX0_addUp_61 rfl ?_
          refine z_getR dX0_addUp_62 fX0_15_0 i6_2 ka6 ?_
          refine z_iload_n 1 dX0_addUp_65 rfl ?_
          refine z_sI dX0_addUp_66 lX0_78 (by decide) (ct_J6_bitCount_0f7a4 en (upR M 6 r6) _ (by omega)) rfl rfl (by exact Nat.le_of_ble_eq_true rfl) ?_
          have upc := pcw_le (s := x1.toNat) (by omega)
          refine z_lald (r := wt) dX0_addUp_69 is36 ka36 (wwt) (by omega) ?_
          refine z_ladd dX0_addUp_70 ?_
          refine z_putJ' (r := r6) 4 rfl (fun r => (upR M 6 r)) dX0_addUp_71 pfX0_71_0 i6_4 ka6 (rfl) (fun _ => uu1) (fun r6_71 f6_71 => ?_)
          skip
          refine z_iinc (fun y => [(0, rf en 6), (1, vi y)]) [1, 0] 1 dX0_addUp_74 rfl (by decide) (fun _ => rfl) (fun x1_74 e1_74 => ?_)
          refine z_goto (tgt := 22) dX0_addUp_77 rfl ?_
          exact uih22 x1_74 r6_71 (by omega) (⟨by omega, by omega, by rw [f6_71, up_s, e1_74, adS_s _ _ uq1, if_pos ugb, uq3], by rw [f6_71, up_n _ _ (by decide)]; exact uq4, fun uj ua ub => by rw [f6_71, up_n _ _ ua]; exact uq5 uj ua ub⟩)
  exact uL22 _ x1_21 r6_17 (Nat.lt_succ_self _) (⟨by omega, by have up2 := p2_rg (O1 4).toNat (by omega); omega, by rw [f6_17, up_n _ _ (by decide), f6_2, up_s, e1_21]; rfl, by rw [f6_17, up_s]; show 1 * 2 ^ _ = _; rw [Int.one_mul], fun uj ua ub => by rw [f6_17, up_n _ _ ub, f6_2, up_n _ _ ua]⟩)
