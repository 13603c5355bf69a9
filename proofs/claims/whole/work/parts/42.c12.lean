/-! Chance: halving, weights -/
theorem p2_48 : ∀ m : Nat, m < 49 → 1 ≤ (2 : Int) ^ m ∧ (2 : Int) ^ m ≤ 281474976710656 ∧ ((2 : Int) ^ m = 1 ↔ m = 0) := by decide +kernel
theorem half_a {a A : Int} {x : Int} (hx : 0 ≤ x) (h : a * 2 ^ x.toNat = A) (he : a % 2 = 0) : a / 2 * 2 ^ (x + 1).toNat = A := by
  rw [tnS hx, Int.pow_succ, Int.mul_comm (2 ^ x.toNat) 2, ← Int.mul_assoc, show a / 2 * 2 = a by omega]
  exact h
/-- k of n factors are the one, the others the other -/
def wtp (p q : Int) (k : Int) : Nat → Int
  | 0 => 1
  | r + 1 => wtp p q k r * (if (r : Int) < k then p else q)
theorem wtp_s (p q k : Int) {x : Int} (h : 0 ≤ x) : wtp p q k (x + 1).toNat = wtp p q k x.toNat * (if x < k then p else q) := by rw [tnS h, wtp, tnC h]
set_option maxRecDepth 100000 in
theorem ct_X0_lower (en : zE) (M : zW) (K : Nat) (O6 : Int → Int) (wO6 : M 6 = O6) (hK : K ≤ 48) (hb : O6 5 = 2 ^ K) (ha : 0 ≤ O6 4 ∧ O6 4 < 4611686018427387904) : Ct en kA yX0_lower mX0_lower [rf en 6] M (pN (fun N => ∃ (r6 : Int → Int) (j m : Nat), r6 4 * 2 ^ j = O6 4 ∧ r6 5 = 2 ^ m ∧ m + j = K ∧ (r6 4 % 2 = 1 ∨ m = 0 ∨ j = 48) ∧ 0 ≤ r6 4 ∧ (∀ q, q ≠ 4 → q ≠ 5 → r6 q = O6 q) ∧ upR M 6 r6 = N)) := by
  refine Ct.of (by decide +kernel) rfl [(0, rf en 6)] rfl (Nat.le_of_ble_eq_true rfl) (fun cx C => ?_)
  refine z_iconst dX0_lower_0 ?_
  refine z_istore_n (fun y => [(0, rf en 6), (1, vi y)]) [1, 0] dX0_lower_1 (by decide) (fun _ => rfl) (fun x1_1 e1_1 => ?_)
  have uL2 : ∀ (fu : Nat) (x1 : Int) (r6 : Int → Int) (m : Nat), (48 - x1).toNat < fu → (0 ≤ x1 ∧ x1 ≤ 48 ∧ r6 5 = 2 ^ m ∧ (m : Int) + x1 = K ∧ r6 4 * 2 ^ x1.toNat = O6 4 ∧ 0 ≤ r6 4 ∧ r6 4 ≤ O6 4 ∧ (∀ q, q ≠ 4 → q ≠ 5 → r6 q = O6 q)) → Z en kA cx mX0_lower (upR M 6 r6) 2 [(0, rf en 6), (1, vi x1)] [] := by
    intro fu
    induction fu with
    | zero => intro x1 r6 m uhf; exact absurd uhf (Nat.not_lt_zero _)
    | succ fu uih2 =>
      intro x1 r6 m uf2 uI2
      obtain ⟨uq1, uq2, uq3, uq4, uq5, uq6, uq7, uq8⟩ := uI2
      have uqm := p2_48 m (by omega)
      refine z_iload_n 1 dX0_lower_2 rfl ?_
      refine z_bipush dX0_lower_3 rfl ?_
      refine z_icmp_ge (tgt := 54) dX0_lower_5 rfl (by omega) (fun uc5 => ?_) (fun uc5 => ?_)
      ·
        exact z_vret C dX0_lower_54 rfl ⟨rfl, ⟨r6, x1.toNat, m, uq5, uq3, by omega, Or.inr (Or.inr (by omega)), uq6, uq8, rfl⟩⟩
      ·
        refine z_aload_n 0 dX0_lower_8 rfl ?_
        refine z_getJ (r := r6) 4 rfl dX0_lower_9 fX0_71_0 i6_4 ka6 (rfl) ?_
        refine z_lconst (v := 1) dX0_lower_12 rfl ?_
        refine z_land1 dX0_lower_13 ?_
        refine z_lconst (v := 0) dX0_lower_14 rfl ?_
        refine z_lcmp dX0_lower_15 (by omega) (fun uz15 uhz15 => ?_)
        have uz1 := uhz15
        refine z_if_ne (tgt := 54) dX0_lower_16 rfl (by omega) (fun uc16 => ?_) (fun uc16 => ?_)
        ·
          exact z_vret C dX0_lower_54 rfl ⟨rfl, ⟨r6, x1.toNat, m, uq5, uq3, by omega, Or.inl (by omega), uq6, uq8, rfl⟩⟩
        ·
          refine z_aload_n 0 dX0_lower_19 rfl ?_
          refine z_getJ (r := r6) 5 rfl dX0_lower_20 fX0_75_0 i6_5 ka6 (rfl) ?_
          refine z_lconst (v := 1) dX0_lower_23 rfl ?_
          refine z_lcmp dX0_lower_24 (by omega) (fun uz24 uhz24 => ?_)
          have uz2 := uhz24
          have um0 : m = 0 ↔ r6 5 = 1 := by rw [uq3]; exact uqm.2.2.symm
          refine z_if_le (tgt := 54) dX0_lower_25 rfl (by omega) (fun uc25 => ?_) (fun uc25 => ?_)
          ·
            exact z_vret C dX0_lower_54 rfl ⟨rfl, ⟨r6, x1.toNat, m, uq5, uq3, by omega, Or.inr (Or.inl (um0.mpr (by omega))), uq6, uq8, rfl⟩⟩
          ·
            refine z_aload_n 0 dX0_lower_28 rfl ?_
            refine z_dup_a dX0_lower_29 ?_
            refine z_getJ (r := r6) 4 rfl dX0_lower_30 fX0_71_0 i6_4 ka6 (rfl) ?_
            refine z_iconst dX0_lower_33 ?_
            refine z_lshr dX0_lower_34 (by omega) (by omega) ?_
            refine z_putJ' (r := r6) 4 rfl (fun r => (upR M 6 r)) dX0_lower_35 pfX0_71_0 i6_4 ka6 (rfl) (fun _ => uu1) (fun r6_35 f6_35 => ?_)
            refine z_aload_n 0 dX0_lower_38 rfl ?_
            refine z_dup_a dX0_lower_39 ?_
            refine z_getJ (r := r6_35) 5 rfl dX0_lower_40 fX0_75_0 i6_5 ka6 (rfl) ?_
            refine z_iconst dX0_lower_43 ?_
            have uo5 : r6_35 5 = r6 5 := by rw [f6_35, up_n _ _ (by decide)]
            refine z_lshr dX0_lower_44 (by omega) (by omega) ?_
            refine z_putJ' (r := r6_35) 5 rfl (fun r => (upR M 6 r)) dX0_lower_45 pfX0_75_0 i6_5 ka6 (rfl) (fun _ => uu1) (fun r6_45 f6_45 => ?_)
            refine z_iinc (fun y => [(0, rf en 6), (1, vi y)]) [1, 0] 1 dX0_lower_48 rfl (by decide) (fun _ => rfl) (fun x1_48 e1_48 => ?_)
            refine z_goto (tgt := 2) dX0_lower_51 rfl ?_
            obtain ⟨um, ume⟩ : ∃ um, m = um + 1 := ⟨m - 1, by omega⟩
            exact uih2 x1_48 r6_45 (m - 1) (by omega) (⟨by omega, by omega, by rw [f6_45, up_s, f6_35, up_n _ _ (by decide), uq3, ume, Int.pow_succ]; show 2 ^ um * 2 / 2 = 2 ^ um; omega, by omega, by rw [f6_45, up_n _ _ (by decide), f6_35, up_s, e1_48]; exact half_a uq1 uq5 (by omega), by rw [f6_45, up_n _ _ (by decide), f6_35, up_s]; show 0 ≤ r6 4 / 2; omega, by rw [f6_45, up_n _ _ (by decide), f6_35, up_s]; show r6 4 / 2 ≤ O6 4; omega, fun uj ua ub => by rw [f6_45, up_n _ _ ub, f6_35, up_n _ _ ua]; exact uq8 uj ua ub⟩)
  refine Z.eqM (upR_id (k := 6) wO6) ?_
  exact uL2 _ x1_1 O6 K (Nat.lt_succ_self _) (⟨by omega, by omega, hb, by omega, by rw [e1_1]; exact Int.mul_one _, ha.1, Int.le_refl _, fun _ _ _ => rfl⟩)
set_option maxRecDepth 100000 in
theorem ct_X0_weigh (en : zE) (M : zW) (O1 : Int → Int) (G0 : Int → Int) (wO1 : M 1 = O1) (wG0 : M 36 = G0) (c : Int) (h0 : 0 ≤ c ∧ c ≤ 16) (hO : 0 ≤ O1 4 ∧ O1 4 ≤ 12) : Ct en kA yX0_weigh mX0_weigh [rf en 6, vi c] M (pN (fun N => ∃ r36 : Int → Int, (∀ k, 0 ≤ k → k ≤ O1 4 → r36 k = wtp (16 - c) c k (O1 4).toNat) ∧ upR M 36 r36 = N)) := by
  refine Ct.of (by decide +kernel) rfl [(0, rf en 6), (1, vi c)] rfl (Nat.le_of_ble_eq_true rfl) (fun cx C => ?_)
  refine z_iconst dX0_weigh_0 ?_
  refine z_istore_n (fun y => [(0, rf en 6), (1, vi c), (2, vi y)]) [1, 2, 0] dX0_weigh_1 (by decide) (fun _ => rfl) (fun x2_1 e2_1 => ?_)
  have uL2 : ∀ (fu : Nat) (x2 : Int) (r36 : Int → Int), (13 - x2).toNat < fu → (0 ≤ x2 ∧ x2 ≤ O1 4 + 1 ∧ (∀ k, 0 ≤ k → k < x2 → r36 k = wtp (16 - c) c k (O1 4).toNat)) → Z en kA cx mX0_weigh (upR M 36 r36) 2 [(0, rf en 6), (1, vi c), (2, vi x2)] [] := by
    intro fu
    induction fu with
    | zero => intro x2 r36 uhf; exact absurd uhf (Nat.not_lt_zero _)
    | succ fu uih2 =>
      intro x2 r36 uf2 uI2
      obtain ⟨uq1, uq2, uq3⟩ := uI2
      refine z_iload_n 2 dX0_weigh_2 rfl ?_
      refine z_aload_n 0 dX0_weigh_3 rfl ?_
      refine z_getR dX0_weigh_4 fX0_18_0 i6_0 ka6 ?_
      refine z_getI (r := O1) 4 rfl dX0_weigh_7 fX0_36_3 i1_4 ka1 (wO1) ?_
      refine z_icmp_gt (tgt := 69) dX0_weigh_10 rfl (by omega) (fun uc10 => ?_) (fun uc10 => ?_)
      ·
        exact z_vret C dX0_weigh_69 rfl ⟨rfl, ⟨r36, fun uk ua ub => uq3 uk ua (by omega), rfl⟩⟩
      ·
        refine z_aload_n 0 dX0_weigh_13 rfl ?_
        refine z_getR dX0_weigh_14 fX0_15_0 i6_2 ka6 ?_
        refine z_iload_n 2 dX0_weigh_17 rfl ?_
        refine z_lconst (v := 1) dX0_weigh_18 rfl ?_
        refine z_last' (r := r36) (fun r => (upR M 36 r)) dX0_weigh_19 is36 ka36 (rfl) (by omega) (fun _ => uu1) (fun r36_19 f36_19 => ?_)
        refine z_iconst dX0_weigh_20 ?_
        refine z_istore_n (fun y => [(0, rf en 6), (1, vi c), (2, vi x2), (3, vi y)]) [1, 2, 3, 0] dX0_weigh_21 (by decide) (fun _ => rfl) (fun x3_21 e3_21 => ?_)
        have uL22 : ∀ (fu : Nat) (x3 : Int) (r36 : Int → Int), (O1 4 - x3).toNat < fu → (0 ≤ x3 ∧ x3 ≤ O1 4 ∧ (∀ k, 0 ≤ k → k < x2 → r36 k = wtp (16 - c) c k (O1 4).toNat) ∧ r36 x2 = wtp (16 - c) c x2 x3.toNat) → Z en kA cx mX0_weigh (upR M 36 r36) 22 [(0, rf en 6), (1, vi c), (2, vi x2), (3, vi x3)] [] := by
          intro fu
          induction fu with
          | zero => intro x3 r36 uhf; exact absurd uhf (Nat.not_lt_zero _)
          | succ fu uih22 =>
            intro x3 r36 uf22 uI22
            obtain ⟨uq4, uq5, uq6, uq7⟩ := uI22
            refine z_iload_n 3 dX0_weigh_22 rfl ?_
            refine z_aload_n 0 dX0_weigh_23 rfl ?_
            refine z_getR dX0_weigh_24 fX0_18_0 i6_0 ka6 ?_
            refine z_getI (r := O1) 4 rfl dX0_weigh_27 fX0_36_3 i1_4 ka1 (wO1) ?_
            refine z_icmp_ge (tgt := 63) dX0_weigh_30 rfl (by omega) (fun uc30 => ?_) (fun uc30 => ?_)
            ·
              refine z_iinc (fun y => [(0, rf en 6), (1, vi c), (2, vi y), (3, vi x3)]) [1, 2, 0, 3] 2 dX0_weigh_63 rfl (by decide) (fun _ => rfl) (fun x2_63 e2_63 => ?_)
              refine z_goto (tgt := 2) dX0_weigh_66 rfl ?_
              refine z_lv [0, 1, 2] [(0, rf en 6), (1, vi c), (2, vi x2_63)] rfl ?_
              exact uih2 x2_63 r36 (by omega) (⟨by omega, by omega, fun uk ua ub => if uz : uk = x2 then (by rw [uz, uq7, show x3 = O1 4 by omega]) else uq6 uk ua (by omega)⟩)
            ·
              refine z_aload_n 0 dX0_weigh_33 rfl ?_
              refine z_getR dX0_weigh_34 fX0_15_0 i6_2 ka6 ?_
              refine z_iload_n 2 dX0_weigh_37 rfl ?_
              refine z_dup2_ia dX0_weigh_38 ?_
              refine z_lald (r := r36) dX0_weigh_39 is36 ka36 (rfl) (by omega) ?_
              refine z_iload_n 3 dX0_weigh_40 rfl ?_
              refine z_iload_n 2 dX0_weigh_41 rfl ?_
              refine z_icmp_ge (tgt := 53) dX0_weigh_42 rfl (by omega) (fun uc42 => ?_) (fun uc42 => ?_)
              ·
                refine z_iload_n 1 dX0_weigh_53 rfl ?_
                refine z_i2l dX0_weigh_54 (by omega) ?_
                refine z_lmul dX0_weigh_55 ?_
                refine z_last' (r := r36) (fun r => (upR M 36 r)) dX0_weigh_56 is36 ka36 (rfl) (by omega) (fun _ => uu1) (fun r36_56 f36_56 => ?_)
                refine z_iinc (fun y => [(0, rf en 6), (1, vi c), (2, vi x2), (3, vi y)]) [1, 2, 3, 0] 3 dX0_weigh_57 rfl (by decide) (fun _ => rfl) (fun x3_57 e3_57 => ?_)
                refine z_goto (tgt := 22) dX0_weigh_60 rfl ?_
                exact uih22 x3_57 r36_56 (by omega) (⟨by omega, by omega, fun uk ua ub => by rw [f36_56, up_n _ _ (by omega)]; exact uq6 uk ua ub, by rw [f36_56, up_s, e3_57, wtp_s _ _ _ uq4, uq7, if_neg (by omega)]⟩)
              ·
                refine z_bipush dX0_weigh_45 rfl ?_
                refine z_iload_n 1 dX0_weigh_47 rfl ?_
                refine z_isub dX0_weigh_48 ?_
                refine z_i2l dX0_weigh_49 (by omega) ?_
                refine z_goto (tgt := 55) dX0_weigh_50 rfl ?_
                refine z_lmul dX0_weigh_55 ?_
                refine z_last' (r := r36) (fun r => (upR M 36 r)) dX0_weigh_56 is36 ka36 (rfl) (by omega) (fun _ => uu1) (fun r36_56 f36_56 => ?_)
                refine z_iinc (fun y => [(0, rf en 6), (1, vi c), (2, vi x2), (3, vi y)]) [1, 2, 3, 0] 3 dX0_weigh_57 rfl (by decide) (fun _ => rfl) (fun x3_57 e3_57 => ?_)
                refine z_goto (tgt := 22) dX0_weigh_60 rfl ?_
                exact uih22 x3_57 r36_56 (by omega) (⟨by omega, by omega, fun uk ua ub => by rw [f36_56, up_n _ _ (by omega)]; exact uq6 uk ua ub, by rw [f36_56, up_s, e3_57, wtp_s _ _ _ uq4, uq7, if_pos uc42]⟩)
        exact uL22 _ x3_21 r36_19 (Nat.lt_succ_self _) (⟨by omega, by omega, fun uk ua ub => by rw [f36_19, up_n _ _ (by omega)]; exact uq3 uk ua ub, by rw [f36_19, up_s, e3_21]; rfl⟩)
  refine Z.eqM (upR_id (k := 36) wG0) ?_
  exact uL2 _ x2_1 G0 (Nat.lt_succ_self _) (⟨by omega, by omega, fun uk ua ub => absurd ub (by omega)⟩)
