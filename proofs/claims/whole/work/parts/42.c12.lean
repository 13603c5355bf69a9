/-! Chance: halving, weights -/
theorem p2_48 : ∀ m : Nat, m < 49 → 1 ≤ (2 : Int) ^ m ∧ (2 : Int) ^ m ≤ 281474976710656 ∧ ((2 : Int) ^ m = 1 ↔ m = 0) := by decide +kernel
theorem half_a {a A : Int} {x : Int} (hx : 0 ≤ x) (h : a * 2 ^ x.toNat = A) (he : a % 2 = 0) : a / 2 * 2 ^ (x + 1).toNat = A := by
  rw [tnS hx, Int.pow_succ, Int.mul_comm (2 ^ x.toNat) 2, ← Int.mul_assoc, show a / 2 * 2 = a by omega]
  exact h
/-- k of n factors are the one, the others the other -/
def wtp (p q : Int) (k : Int) : Nat → Int
  | 0 => 1
  | r + 1 => wtp p q k r * (if (r : Int) < k then p else q)
theorem wtp_s (p q k : Int) {x : Int} (h : 0 ≤ x) : wtp p q k (x + 1).toNat = wtp p q k x.toNat * (if x < k then p else q) := by rw [tnS h, wtp, tnC h]
set_option maxRecDepth 100000 in
theorem ct_X0_lower (en : zE) (M : zW) (K : Nat) (O6 : Int → Int) (wO6 : M 6 = O6) (hK : K ≤ 48) (hb : O6 5 = 2 ^ K) (ha : 0 ≤ O6 4 ∧ O6 4 < 4611686018427387904) : Ct en kA yX0_lower mX0_lower [rf en 6] M (pN (fun N => ∃ (r6 : Int → Int) (j m : Nat), r6 4 * 2 ^ j = O6 4 ∧ r6 5 = 2 ^ m ∧ m + j = K ∧ (r6 4 % 2 = 1 ∨ m = 0 ∨ j = 48) ∧ 0 ≤ r6 4 ∧ (∀ q, q ≠ 4 → q ≠ 5 → r6 q = O6 q) ∧ upR M 6 r6 = N)) := by
  refine Ct.of (by decide +kernel) rfl [(0, rf en 6)] rfl (Nat.le_of_ble_eq_true rfl) (fun cx C => ?_)
  refine z_iconst dX0_lower_0 ?_
  refine z_istore_n (fun y => [(0, rf en 6), (1, vi y)]) [1, 0] dX0_lower_1 (by decide) (fun _ => rfl) (fun x1_1 e1_1 => ?_)
  have uL2 : ∀ (fu : Nat) (x1 : Int) (r6 : Int → Int) (m : Nat), (48 - x1).toNat < fu → (0 ≤ x1 ∧ x1 ≤ 48 ∧ r6 5 = 2 ^ m ∧ (m : Int) + x1 = K ∧ r6 4 * 2 ^ x1.toNat = O6 4 ∧ 0 ≤ r6 4 ∧ r6 4 ≤ O6 4 ∧ (∀ q, q ≠ 4 → q ≠ 5 → r6 q = O6 q)) → Z en kA cx mX0_lower (upR M 6 r6) 2 [(0, rf en 6), (1, vi x1)] [] := by
    intro fu
    induction fu with
    | zero => intro x1 r6 m uhf; exact absurd uhf (Nat.not_lt_zero _)
    | succ fu uih2 =>
      intro x1 r6 m uf2 uI2
      obtain ⟨uq1, uq2, uq3, uq4, uq5, uq6, uq7, uq8⟩ := uI2
      have uqm := p2_48 m (by omega)
      refine z_iload_n 1 dX0_lower_2 rfl ?_
      refine z_bipush dX0_lower_3 rfl ?_
      refine z_icmp_ge (tgt := 54) dX0_lower_5 rfl (by omega) (fun uc5 => ?_) (fun uc5 => ?_)
      ·
        exact z_vret C dX0_lower_54 rfl ⟨rfl, ⟨r6, x1.toNat, m, uq5, uq3, by omega, Or.inr (Or.inr (by omega)), uq6, uq8, rfl⟩⟩
      ·
        refine z_aload_n 0 dX0_lower_8 rfl ?_
        refine z_getJ (r := r6) 4 rfl dX0_lower_9 fX0_71_0 i6_4 ka6 (rfl) ?_
        refine z_lconst (v := 1) dX0_lower_12 rfl ?_
        refine z_land1 dX0_lower_13 ?_
        refine z_lconst (v := 0) dX0_lower_14 rfl ?_
        refine z_lcmp dX0_lower_15 (by omega) (fun uz15 uhz15 => ?_)
        have uz1 := uhz15
        refine z_if_ne (tgt := 54) dX0_lower_16 rfl (by omega) (fun uc16 => ?_) (fun uc16 => ?_)
        ·
          exact z_vret C dX0_lower_54 rfl ⟨rfl, ⟨r6, x1.toNat, m, uq5, uq3, by omega, Or.inl (by omega), uq6, uq8, rfl⟩⟩
        ·
          refine z_aload_n 0 dX0_lower_19 rfl ?_
          refine z_getJ (r := r6) 5 rfl dX0_lower_20 fX0_75_0 i6_5 ka6 (rfl) ?_
          refine z_lconst (v := 1) dX0_lower_23 rfl ?_
          refine z_lcmp dX0_lower_24 (by omega) (fun uz24 uhz24 => ?_)
          have uz2 := uhz24
          have um0 : m = 0 ↔ r6 5 = 1 := by rw [uq3]; exact uqm.2.2.symm
          refine z_if_le (tgt := 54) dX0_lower_25 rfl (by omega) (fun uc25 => ?_) (fun uc25 => ?_)
          ·
            exact z_vret C dX0_lower_54 rfl ⟨rfl, ⟨r6, x1.toNat, m, uq5, uq3, by omega, Or.inr (Or.inl (um0.mpr (by omega))), uq6, uq8, rfl⟩⟩
          ·
            refine z_aload_n 0 dX0_lower_28 rfl ?_
            refine z_dup_a dX0_lower_29 ?_
            refine z_getJ (r := r6) 4 rfl dX0_lower_30 fX0_71_0 i6_4 ka6 (rfl) ?_
            refine z_iconst dX0_lower_33 ?_
            refine z_lshr dX0_lower_34 (by omega) (by omega) ?_
            refine z_putJ' (r := r6) 4 rfl (fun r => (upR M 6 r)) dX0_lower_35 pfX0_71_0 i6_4 ka6 (rfl) (fun _ => uu1) (fun r6_35 f6_35 => ?_)
            refine z_aload_n 0 dX0_lower_38 rfl ?_
            refine z_dup_a dX0_lower_39 ?_
            refine z_getJ (r := r6_35) 5 rfl dX0_lower_40 fX0_75_0 i6_5 ka6 (rfl) ?_
            refine z_iconst dX0_lower_43 ?_
            have uo5 : r6_35 5 = r6 5 := by rw [f6_35, up_n _ _ (by decide)]
            refine z_lshr dX0_lower_44 (by omega) (by omega) ?_
            refine z_putJ' (r := r6_35) 5 rfl (fun r => (upR M 6 r)) dX0_lower_45 pfX0_75_0 i6_5 ka6 (rfl) (fun _ => uu1) (fun r6_45 f6_45 => ?_)
            refine z_iinc (fun y => [(0, rf en 6), (1, vi y)]) [1, 0] 1 dX0_lower_48 rfl (by decide) (fun _ => rfl) (fun x1_48 e1_48 => ?_)
            refine z_goto (tgt := 2) dX0_lower_51 rfl ?_
            obtain ⟨um, ume⟩ : ∃ um, m = um + 1 := ⟨m - 1, by omega⟩
            exact uih2 x1_48 r6_45 (m - 1) (by omega) (⟨by omega, by omega, by rw [f6_45, up_s, f6_35, up_n _ _ (by decide), uq3, ume, Int.pow_succ]; show 2 ^ um * 2 / 2 = 2 ^ um; omega, by omega, by rw [f6_45, up_n _ _ (by decide), f6_35, up_s, e1_48]; exact half_a uq1 uq5 (by omega), by rw [f6_45, up_n _ _ (by decide), f6_35, up_s]; show 0 ≤ r6 4 / 2; omega, by rw [f6_45, up_n _ _ (by decide), f6_35, up_s]; show r6 4 / 2 ≤ O6 4; omega, fun uj ua ub => by rw [f6_45, up_n _ _ ub, f6_35, up_n _ _ ua]; exact uq8 uj ua ub⟩)
  refine Z.eqM (upR_id (k := 6) wO6) ?_
  exact uL2 _ x1_1 O6 K (Nat.lt_succ_self _) (⟨by omega, by omega, hb, by omega, by rw [e1_1]; exact Int.mul_one _, ha.1, Int.le_refl _, fun _ _ _ => rfl⟩)
