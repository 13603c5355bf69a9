/-! write, read -/
theorem kc_k {M N : zW} {k : Nat} {a : Int → Int} (h : kc M N) : kc (upR M k a) (upR N k a) := fun q hq => by
  by_cases z : q = k
  · subst z; rw [upR_eq, upR_eq]
  · rw [upR_ne z, upR_ne z]; exact h q hq
theorem rdP0_s {I : Int → Int} {sz c x : Int} {Sg r7 r8 : Int → Int} (h : rdP0 I 0 sz Sg c x (sgC r7 r8)) (hc : 0 ≤ c) (h1 : 2 * x + 2 ≤ sz) (h2 : c + x < 8) (ok : okS (I (2 * x)) (I (2 * x + 1))) : rdP0 I 0 sz Sg c (x + 1) (sgC (up r7 (c + x) (I (2 * x))) (up r8 (c + x) (I (2 * x + 1)))) := by
  obtain ⟨a, b, d⟩ := h
  refine ⟨by omega, fun k k1 k2 => ?_, fun j j1 j2 => ?_⟩
  · rw [Int.zero_add, sgC_0, sgC_1]
    by_cases z : k = x
    · subst z; rw [up_s, up_s]; exact ⟨ok, rfl, rfl⟩
    · rw [up_n _ _ (by omega), up_n _ _ (by omega)]
      have := b k k1 (by omega)
      rw [Int.zero_add, sgC_0, sgC_1] at this
      exact this
  · rw [← d j j1 j2]
    unfold sgC
    rw [up_n _ _ (by omega), up_n _ _ (by omega)]
set_option maxRecDepth 100000 in
theorem ct_X6_write (en : zE) (M : zW) (O0 : Int → Int) (S0 : Int → Int) (S1 : Int → Int) (S2 : Int → Int) (S3 : Int → Int) (I0 : Int → Int) (I1 : Int → Int) (I2 : Int → Int) (I3 : Int → Int) (O2 : Int → Int) (T : Int → Int) (O5 : Int → Int) (c : Int → Int) (A : Int → Int) (G : Int → Int) (K : Int → Int) (H : Int → Int) (S : Int → Int) (P0 : Int → Int) (Hd : Int → Int) (Lw : Int → Int) (C0 : Int → Int) (E0 : Int → Int) (R0 : Int → Int) (wO0 : M 0 = O0) (wS0 : M 10 = S0) (wS1 : M 11 = S1) (wS2 : M 12 = S2) (wS3 : M 13 = S3) (wI0 : M 14 = I0) (wI1 : M 15 = I1) (wI2 : M 16 = I2) (wI3 : M 17 = I3) (wO2 : M 2 = O2) (wT : M 3 = T) (wO5 : M 5 = O5) (wc : M 22 = c) (wA : M 24 = A) (wG : M 25 = G) (wK : M 26 = K) (wH : M 27 = H) (wS : M 28 = S) (wP0 : M 29 = P0) (wHd : M 30 = Hd) (wLw : M 31 = Lw) (wC0 : M 32 = C0) (wE0 : M 33 = E0) (wR0 : M 34 = R0) (wh : Int) (s : Int) (h0 : -2147483648 ≤ wh ∧ wh < 2147483648 ∧ -2147483648 ≤ s ∧ s < 2147483648) (hS : ((-1 ≤ S0 0 ∧ S0 0 ≤ 2) ∧ (0 ≤ S0 1 ∧ S0 1 ≤ 60)) ∧ ((-1 ≤ S1 0 ∧ S1 0 ≤ 2) ∧ (0 ≤ S1 1 ∧ S1 1 ≤ 60)) ∧ ((-1 ≤ S2 0 ∧ S2 0 ≤ 2) ∧ (0 ≤ S2 1 ∧ S2 1 ≤ 60)) ∧ ((-1 ≤ S3 0 ∧ S3 0 ≤ 2) ∧ (0 ≤ S3 1 ∧ S3 1 ≤ 60))) (hT : tOK T) (hc : wB c) (hP : (0 ≤ O2 4 ∧ O2 4 ≤ 8) ∧ pOK (tP A G K H S) (O2 4)) : Ct en kA yX6_write mX6_write [rf en 0, vi wh, vi s] M (pX (fun x N => (¬ ((0 ≤ wh ∧ wh ≤ 1) ∧ (0 ≤ s ∧ s ≤ 3)) ∧ x = -2 ∧ M = N) ∨ ((((0 ≤ wh ∧ wh ≤ 1) ∧ (0 ≤ s ∧ s ≤ 3)) ∧ M (10 + s.toNat) 0 = -1) ∧ x = -11 ∧ upR M 0 (up O0 10 1) = N) ∨ ((((0 ≤ wh ∧ wh ≤ 1) ∧ (0 ≤ s ∧ s ≤ 3)) ∧ M (10 + s.toNat) 0 ≠ -1) ∧ x = min 8 (M (10 + s.toNat) 1) ∧ kc (upR M (14 + s.toNat) (fil (fun t => cutv (M (10 + s.toNat) 0) (hBy T (cW c) t wh)) (M (14 + s.toNat)) 0 (min 8 (M (10 + s.toNat) 1)))) N))) := by
  refine Ct.of (by decide +kernel) rfl [(0, rf en 0), (1, vi wh), (2, vi s)] rfl (Nat.le_of_ble_eq_true rfl) (fun cx C => ?_)
  refine z_iload_n 1 dX6_write_0 rfl ?_
  refine z_iconst dX6_write_1 ?_
  refine z_sI dX6_write_2 lX6_68 (by decide) (ct_X6_within en M _ (1) (by omega)) rfl rfl (by exact Nat.le_of_ble_eq_true rfl) ?_
  refine z_ifeq_b (tgt := 15) dX6_write_5 rfl (fun uc5 => ?_) (fun uc5 => ?_)
  ·
    refine z_bipush dX6_write_15 rfl ?_
    exact z_iret C dX6_write_17 rfl ⟨_, rfl, Or.inl ⟨by omega, rfl, rfl⟩⟩
  ·
    refine z_iload_n 2 dX6_write_8 rfl ?_
    refine z_sI dX6_write_9 lX6_183 (by decide) (ct_X6_isSheet en M _ (by omega)) rfl rfl (by exact Nat.le_of_ble_eq_true rfl) ?_
    refine z_ifne_b (tgt := 18) dX6_write_12 rfl (fun uc12 => ?_) (fun uc12 => ?_)
    ·
      refine z_aload_n 0 dX6_write_18 rfl ?_
      refine z_getR dX6_write_19 fX6_59_5 i0_9 ka0 ?_
      refine z_iload_n 2 dX6_write_22 rfl ?_
      have ush_s : s = 0 ∨ s = 1 ∨ s = 2 ∨ s = 3 := by omega
      rcases ush_s with ush_s | ush_s | ush_s | ush_s
      ·
        have ux_s : M (10 + s.toNat) = S0 := by rw [show s.toNat = 0 by omega]; exact wS0
        have uy_s : M (14 + s.toNat) = I0 := by rw [show s.toNat = 0 by omega]; exact wI0
        have uz_s : s.toNat = 0 := by omega
        refine z_aald 0 dX6_write_23 ka9 (by omega) (by decide) ?_
        refine z_astore_n [(0, rf en 0), (1, vi wh), (2, vi s), (3, rf en 10)] [1, 2, 3, 0] dX6_write_24 (by decide) rfl ?_
        refine z_aload_n 3 dX6_write_25 rfl ?_
        refine z_vI dX6_write_26 lX6_186 (by decide) ka10 io10 rfl (ct_X4_isLost_10 en M S0 wS0 (by omega)) rfl rfl (by exact Nat.le_of_ble_eq_true rfl) ?_
        refine z_ifeq_b (tgt := 38) dX6_write_29 rfl (fun uc29 => ?_) (fun uc29 => ?_)
        ·
          refine z_aload_n 0 dX6_write_38 rfl ?_
          refine z_getR dX6_write_39 fX6_38_5 i0_4 ka0 ?_
          refine z_aload_n 0 dX6_write_42 rfl ?_
          refine z_getR dX6_write_43 fX6_27_5 i0_2 ka0 ?_
          refine z_vN dX6_write_46 lX6_126 (by decide) ka5 io5 rfl (ct_X1_follow_3 en M O2 T O5 c A G K H S P0 Hd Lw C0 E0 R0 wO2 wT wO5 wc wA wG wK wH wS wP0 wHd wLw wC0 wE0 wR0 (by assumption) (by assumption) (by assumption)) rfl rfl (by exact Nat.le_of_ble_eq_true rfl) (fun uN46 uh46 => ?_)
          obtain ⟨r5_46, r29_46, r30_46, r31_46, r32_46, r33_46, r34_46, uF, uF5, rfl⟩ := uh46
          have uFr := Flw.rg hT hc hP uF
          obtain ⟨uf1, uf2, uf3, uf4, uf5, uf6, uf7, uf8⟩ := id uF
          refine z_bipush dX6_write_49 rfl ?_
          refine z_aload_n 3 dX6_write_51 rfl ?_
          refine z_getI (r := S0) 1 rfl dX6_write_52 fX6_193_4 i10_1 ka10 (wS0) ?_
          refine z_mmin dX6_write_55 lX6_252 (by omega) (by decide) (Nat.le_of_ble_eq_true rfl) ?_
          refine z_istore (fun y => [(0, rf en 0), (1, vi wh), (2, vi s), (3, rf en 10), (4, vi y)]) [1, 2, 3, 4, 0] dX6_write_58 (by decide) (fun _ => rfl) (fun x4_58 e4_58 => ?_)
          refine z_iconst dX6_write_60 ?_
          refine z_istore (fun y => [(0, rf en 0), (1, vi wh), (2, vi s), (3, rf en 10), (4, vi x4_58), (5, vi y)]) [1, 2, 3, 4, 5, 0] dX6_write_61 (by decide) (fun _ => rfl) (fun x5_61 e5_61 => ?_)
          have uL63 : ∀ (fu : Nat) (x5 : Int) (rI : Int → Int), (x4_58 - x5).toNat < fu → (0 ≤ x5 ∧ x5 ≤ x4_58 ∧ rI = fil (fun t => cutv (S0 0) (hBy T (cW c) t wh)) I0 0 x5) → Z en kA cx mX6_write (upR (upR (upR (upR (upR (upR (upR (upR M 30 r30_46) 5 r5_46) 31 r31_46) 32 r32_46) 33 r33_46) 34 r34_46) 29 r29_46) 14 rI) 63 [(0, rf en 0), (1, vi wh), (2, vi s), (3, rf en 10), (4, vi x4_58), (5, vi x5)] [] := by
            intro fu
            induction fu with
            | zero => intro x5 rI uhf; exact absurd uhf (Nat.not_lt_zero _)
            | succ fu uih63 =>
              intro x5 rI uf63 uI63
              obtain ⟨uq1, uq2, uq3⟩ := uI63
              refine z_iload 5 dX6_write_63 rfl ?_
              refine z_iload 4 dX6_write_65 rfl ?_
              refine z_icmp_ge (tgt := 109) dX6_write_67 rfl (by omega) (fun uc67 => ?_) (fun uc67 => ?_)
              ·
                refine z_iload 4 dX6_write_109 rfl ?_
                exact z_iret C dX6_write_111 rfl ⟨_, rfl, Or.inr (Or.inr ⟨⟨by omega, by rw [ux_s]; exact uc29⟩, by rw [ux_s]; exact e4_58, by rw [ux_s, uy_s, uz_s, ← e4_58, show x4_58 = x5 by omega, ← uq3]; exact kc_k (kc_u (by decide) (kc_u (by decide) (kc_u (by decide) (kc_u (by decide) (kc_u (by decide) (kc_u (by decide) (kc_u (by decide) (kc_r M))))))))⟩)⟩
              ·
                refine z_aload_n 3 dX6_write_70 rfl ?_
                refine z_iload 5 dX6_write_71 rfl ?_
                refine z_iload_n 1 dX6_write_73 rfl ?_
                refine z_if_ne (tgt := 90) dX6_write_74 rfl (by omega) (fun uc74 => ?_) (fun uc74 => ?_)
                ·
                  refine z_aload_n 0 dX6_write_90 rfl ?_
                  refine z_getR dX6_write_91 fX6_38_5 i0_4 ka0 ?_
                  refine z_getR dX6_write_94 fX6_133_1 i5_4 ka5 ?_
                  refine z_iload 5 dX6_write_97 rfl ?_
                  refine z_iald (r := r31_46) dX6_write_99 is31 ka31 (rfl) (by omega) ?_
                  refine z_vV dX6_write_100 lX6_242 (by decide) ka10 io10 rfl (ct_X4_put_10 en (upR (upR (upR (upR (upR (upR (upR (upR M 30 r30_46) 5 r5_46) 31 r31_46) 32 r32_46) 33 r33_46) 34 r34_46) 29 r29_46) 14 rI) S0 rI wS0 rfl _ _ (by omega) (by omega)) rfl rfl (by exact Nat.le_of_ble_eq_true rfl) ?_
                  rw [uu1 (a := 14)]
                  refine z_iinc (fun y => [(0, rf en 0), (1, vi wh), (2, vi s), (3, rf en 10), (4, vi x4_58), (5, vi y)]) [1, 2, 3, 4, 5, 0] 5 dX6_write_103 rfl (by decide) (fun _ => rfl) (fun x5_103 e5_103 => ?_)
                  refine z_goto (tgt := 63) dX6_write_106 rfl ?_
                  have uq4 := fil_s (fun t => cutv (S0 0) (hBy T (cW c) t wh)) I0 0 x5 uq1 (show cutv (S0 0) (r31_46 x5) = _ from (by rw [uf2 x5 uq1 (by omega)]; unfold hBy; rw [if_neg uc74, if_pos (by omega)]))
                  rw [Int.zero_add] at uq4
                  exact uih63 x5_103 (up rI x5 (cutv (S0 0) (r31_46 x5))) (by omega) (⟨by omega, by omega, by rw [e5_103, uq3, uq4]⟩)
                ·
                  refine z_aload_n 0 dX6_write_77 rfl ?_
                  refine z_getR dX6_write_78 fX6_38_5 i0_4 ka0 ?_
                  refine z_getR dX6_write_81 fX6_130_1 i5_3 ka5 ?_
                  refine z_iload 5 dX6_write_84 rfl ?_
                  refine z_iald (r := r30_46) dX6_write_86 is30 ka30 (rfl) (by omega) ?_
                  refine z_goto (tgt := 100) dX6_write_87 rfl ?_
                  refine z_vV dX6_write_100 lX6_242 (by decide) ka10 io10 rfl (ct_X4_put_10 en (upR (upR (upR (upR (upR (upR (upR (upR M 30 r30_46) 5 r5_46) 31 r31_46) 32 r32_46) 33 r33_46) 34 r34_46) 29 r29_46) 14 rI) S0 rI wS0 rfl _ _ (by omega) (by omega)) rfl rfl (by exact Nat.le_of_ble_eq_true rfl) ?_
                  rw [uu1 (a := 14)]
                  refine z_iinc (fun y => [(0, rf en 0), (1, vi wh), (2, vi s), (3, rf en 10), (4, vi x4_58), (5, vi y)]) [1, 2, 3, 4, 5, 0] 5 dX6_write_103 rfl (by decide) (fun _ => rfl) (fun x5_103 e5_103 => ?_)
                  refine z_goto (tgt := 63) dX6_write_106 rfl ?_
                  have uq4 := fil_s (fun t => cutv (S0 0) (hBy T (cW c) t wh)) I0 0 x5 uq1 (show cutv (S0 0) (r30_46 x5) = _ from (by rw [uf1 x5 uq1 (by omega)]; unfold hBy; rw [if_pos uc74]))
                  rw [Int.zero_add] at uq4
                  exact uih63 x5_103 (up rI x5 (cutv (S0 0) (r30_46 x5))) (by omega) (⟨by omega, by omega, by rw [e5_103, uq3, uq4]⟩)
          refine Z.eqM (upR_id (k := 14) wI0) ?_
          exact uL63 _ x5_61 I0 (Nat.lt_succ_self _) (⟨by omega, by omega, by rw [e5_61, fil_0]⟩)
        ·
          refine z_aload_n 0 dX6_write_32 rfl ?_
          refine z_iconst dX6_write_33 ?_
          refine z_vI dX6_write_34 lX6_190 (by decide) ka0 io0 rfl (ct_X6_found en M O0 wO0 (1)) rfl rfl (by exact Nat.le_of_ble_eq_true rfl) ?_
          exact z_iret C dX6_write_37 rfl ⟨_, rfl, Or.inr (Or.inl ⟨⟨by omega, by rw [ux_s]; exact uc29⟩, rfl, rfl⟩)⟩
      ·
        have ux_s : M (10 + s.toNat) = S1 := by rw [show s.toNat = 1 by omega]; exact wS1
        have uy_s : M (14 + s.toNat) = I1 := by rw [show s.toNat = 1 by omega]; exact wI1
        have uz_s : s.toNat = 1 := by omega
        refine z_aald 1 dX6_write_23 ka9 (by omega) (by decide) ?_
        refine z_astore_n [(0, rf en 0), (1, vi wh), (2, vi s), (3, rf en 11)] [1, 2, 3, 0] dX6_write_24 (by decide) rfl ?_
        refine z_aload_n 3 dX6_write_25 rfl ?_
        refine z_vI dX6_write_26 lX6_186 (by decide) ka11 io11 rfl (ct_X4_isLost_11 en M S1 wS1 (by omega)) rfl rfl (by exact Nat.le_of_ble_eq_true rfl) ?_
        refine z_ifeq_b (tgt := 38) dX6_write_29 rfl (fun uc29 => ?_) (fun uc29 => ?_)
        ·
          refine z_aload_n 0 dX6_write_38 rfl ?_
          refine z_getR dX6_write_39 fX6_38_5 i0_4 ka0 ?_
          refine z_aload_n 0 dX6_write_42 rfl ?_
          refine z_getR dX6_write_43 fX6_27_5 i0_2 ka0 ?_
          refine z_vN dX6_write_46 lX6_126 (by decide) ka5 io5 rfl (ct_X1_follow_3 en M O2 T O5 c A G K H S P0 Hd Lw C0 E0 R0 wO2 wT wO5 wc wA wG wK wH wS wP0 wHd wLw wC0 wE0 wR0 (by assumption) (by assumption) (by assumption)) rfl rfl (by exact Nat.le_of_ble_eq_true rfl) (fun uN46 uh46 => ?_)
          obtain ⟨r5_46, r29_46, r30_46, r31_46, r32_46, r33_46, r34_46, uF, uF5, rfl⟩ := uh46
          have uFr := Flw.rg hT hc hP uF
          obtain ⟨uf1, uf2, uf3, uf4, uf5, uf6, uf7, uf8⟩ := id uF
          refine z_bipush dX6_write_49 rfl ?_
          refine z_aload_n 3 dX6_write_51 rfl ?_
          refine z_getI (r := S1) 1 rfl dX6_write_52 fX6_193_4 i11_1 ka11 (wS1) ?_
          refine z_mmin dX6_write_55 lX6_252 (by omega) (by decide) (Nat.le_of_ble_eq_true rfl) ?_
          refine z_istore (fun y => [(0, rf en 0), (1, vi wh), (2, vi s), (3, rf en 11), (4, vi y)]) [1, 2, 3, 4, 0] dX6_write_58 (by decide) (fun _ => rfl) (fun x4_58 e4_58 => ?_)
          refine z_iconst dX6_write_60 ?_
          refine z_istore (fun y => [(0, rf en 0), (1, vi wh), (2, vi s), (3, rf en 11), (4, vi x4_58), (5, vi y)]) [1, 2, 3, 4, 5, 0] dX6_write_61 (by decide) (fun _ => rfl) (fun x5_61 e5_61 => ?_)
          have uL63 : ∀ (fu : Nat) (x5 : Int) (rI : Int → Int), (x4_58 - x5).toNat < fu → (0 ≤ x5 ∧ x5 ≤ x4_58 ∧ rI = fil (fun t => cutv (S1 0) (hBy T (cW c) t wh)) I1 0 x5) → Z en kA cx mX6_write (upR (upR (upR (upR (upR (upR (upR (upR M 30 r30_46) 5 r5_46) 31 r31_46) 32 r32_46) 33 r33_46) 34 r34_46) 29 r29_46) 15 rI) 63 [(0, rf en 0), (1, vi wh), (2, vi s), (3, rf en 11), (4, vi x4_58), (5, vi x5)] [] := by
            intro fu
            induction fu with
            | zero => intro x5 rI uhf; exact absurd uhf (Nat.not_lt_zero _)
            | succ fu uih63 =>
              intro x5 rI uf63 uI63
              obtain ⟨uq1, uq2, uq3⟩ := uI63
              refine z_iload 5 dX6_write_63 rfl ?_
              refine z_iload 4 dX6_write_65 rfl ?_
              refine z_icmp_ge (tgt := 109) dX6_write_67 rfl (by omega) (fun uc67 => ?_) (fun uc67 => ?_)
              ·
                refine z_iload 4 dX6_write_109 rfl ?_
                exact z_iret C dX6_write_111 rfl ⟨_, rfl, Or.inr (Or.inr ⟨⟨by omega, by rw [ux_s]; exact uc29⟩, by rw [ux_s]; exact e4_58, by rw [ux_s, uy_s, uz_s, ← e4_58, show x4_58 = x5 by omega, ← uq3]; exact kc_k (kc_u (by decide) (kc_u (by decide) (kc_u (by decide) (kc_u (by decide) (kc_u (by decide) (kc_u (by decide) (kc_u (by decide) (kc_r M))))))))⟩)⟩
              ·
                refine z_aload_n 3 dX6_write_70 rfl ?_
                refine z_iload 5 dX6_write_71 rfl ?_
                refine z_iload_n 1 dX6_write_73 rfl ?_
                refine z_if_ne (tgt := 90) dX6_write_74 rfl (by omega) (fun uc74 => ?_) (fun uc74 => ?_)
                ·
                  refine z_aload_n 0 dX6_write_90 rfl ?_
                  refine z_getR dX6_write_91 fX6_38_5 i0_4 ka0 ?_
                  refine z_getR dX6_write_94 fX6_133_1 i5_4 ka5 ?_
                  refine z_iload 5 dX6_write_97 rfl ?_
                  refine z_iald (r := r31_46) dX6_write_99 is31 ka31 (rfl) (by omega) ?_
                  refine z_vV dX6_write_100 lX6_242 (by decide) ka11 io11 rfl (ct_X4_put_11 en (upR (upR (upR (upR (upR (upR (upR (upR M 30 r30_46) 5 r5_46) 31 r31_46) 32 r32_46) 33 r33_46) 34 r34_46) 29 r29_46) 15 rI) S1 rI wS1 rfl _ _ (by omega) (by omega)) rfl rfl (by exact Nat.le_of_ble_eq_true rfl) ?_
                  rw [uu1 (a := 15)]
                  refine z_iinc (fun y => [(0, rf en 0), (1, vi wh), (2, vi s), (3, rf en 11), (4, vi x4_58), (5, vi y)]) [1, 2, 3, 4, 5, 0] 5 dX6_write_103 rfl (by decide) (fun _ => rfl) (fun x5_103 e5_103 => ?_)
                  refine z_goto (tgt := 63) dX6_write_106 rfl ?_
                  have uq4 := fil_s (fun t => cutv (S1 0) (hBy T (cW c) t wh)) I1 0 x5 uq1 (show cutv (S1 0) (r31_46 x5) = _ from (by rw [uf2 x5 uq1 (by omega)]; unfold hBy; rw [if_neg uc74, if_pos (by omega)]))
                  rw [Int.zero_add] at uq4
                  exact uih63 x5_103 (up rI x5 (cutv (S1 0) (r31_46 x5))) (by omega) (⟨by omega, by omega, by rw [e5_103, uq3, uq4]⟩)
                ·
                  refine z_aload_n 0 dX6_write_77 rfl ?_
                  refine z_getR dX6_write_78 fX6_38_5 i0_4 ka0 ?_
                  refine z_getR dX6_write_81 fX6_130_1 i5_3 ka5 ?_
                  refine z_iload 5 dX6_write_84 rfl ?_
                  refine z_iald (r := r30_46) dX6_write_86 is30 ka30 (rfl) (by omega) ?_
                  refine z_goto (tgt := 100) dX6_write_87 rfl ?_
                  refine z_vV dX6_write_100 lX6_242 (by decide) ka11 io11 rfl (ct_X4_put_11 en (upR (upR (upR (upR (upR (upR (upR (upR M 30 r30_46) 5 r5_46) 31 r31_46) 32 r32_46) 33 r33_46) 34 r34_46) 29 r29_46) 15 rI) S1 rI wS1 rfl _ _ (by omega) (by omega)) rfl rfl (by exact Nat.le_of_ble_eq_true rfl) ?_
                  rw [uu1 (a := 15)]
                  refine z_iinc (fun y => [(0, rf en 0), (1, vi wh), (2, vi s), (3, rf en 11), (4, vi x4_58), (5, vi y)]) [1, 2, 3, 4, 5, 0] 5 dX6_write_103 rfl (by decide) (fun _ => rfl) (fun x5_103 e5_103 => ?_)
                  refine z_goto (tgt := 63) dX6_write_106 rfl ?_
                  have uq4 := fil_s (fun t => cutv (S1 0) (hBy T (cW c) t wh)) I1 0 x5 uq1 (show cutv (S1 0) (r30_46 x5) = _ from (by rw [uf1 x5 uq1 (by omega)]; unfold hBy; rw [if_pos uc74]))
                  rw [Int.zero_add] at uq4
                  exact uih63 x5_103 (up rI x5 (cutv (S1 0) (r30_46 x5))) (by omega) (⟨by omega, by omega, by rw [e5_103, uq3, uq4]⟩)
          refine Z.eqM (upR_id (k := 15) wI1) ?_
          exact uL63 _ x5_61 I1 (Nat.lt_succ_self _) (⟨by omega, by omega, by rw [e5_61, fil_0]⟩)
        ·
          refine z_aload_n 0 dX6_write_32 rfl ?_
          refine z_iconst dX6_write_33 ?_
          refine z_vI dX6_write_34 lX6_190 (by decide) ka0 io0 rfl (ct_X6_found en M O0 wO0 (1)) rfl rfl (by exact Nat.le_of_ble_eq_true rfl) ?_
          exact z_iret C dX6_write_37 rfl ⟨_, rfl, Or.inr (Or.inl ⟨⟨by omega, by rw [ux_s]; exact uc29⟩, rfl, rfl⟩)⟩
      ·
        have ux_s : M (10 + s.toNat) = S2 := by rw [show s.toNat = 2 by omega]; exact wS2
        have uy_s : M (14 + s.toNat) = I2 := by rw [show s.toNat = 2 by omega]; exact wI2
        have uz_s : s.toNat = 2 := by omega
        refine z_aald 2 dX6_write_23 ka9 (by omega) (by decide) ?_
        refine z_astore_n [(0, rf en 0), (1, vi wh), (2, vi s), (3, rf en 12)] [1, 2, 3, 0] dX6_write_24 (by decide) rfl ?_
        refine z_aload_n 3 dX6_write_25 rfl ?_
        refine z_vI dX6_write_26 lX6_186 (by decide) ka12 io12 rfl (ct_X4_isLost_12 en M S2 wS2 (by omega)) rfl rfl (by exact Nat.le_of_ble_eq_true rfl) ?_
        refine z_ifeq_b (tgt := 38) dX6_write_29 rfl (fun uc29 => ?_) (fun uc29 => ?_)
        ·
          refine z_aload_n 0 dX6_write_38 rfl ?_
          refine z_getR dX6_write_39 fX6_38_5 i0_4 ka0 ?_
          refine z_aload_n 0 dX6_write_42 rfl ?_
          refine z_getR dX6_write_43 fX6_27_5 i0_2 ka0 ?_
          refine z_vN dX6_write_46 lX6_126 (by decide) ka5 io5 rfl (ct_X1_follow_3 en M O2 T O5 c A G K H S P0 Hd Lw C0 E0 R0 wO2 wT wO5 wc wA wG wK wH wS wP0 wHd wLw wC0 wE0 wR0 (by assumption) (by assumption) (by assumption)) rfl rfl (by exact Nat.le_of_ble_eq_true rfl) (fun uN46 uh46 => ?_)
          obtain ⟨r5_46, r29_46, r30_46, r31_46, r32_46, r33_46, r34_46, uF, uF5, rfl⟩ := uh46
          have uFr := Flw.rg hT hc hP uF
          obtain ⟨uf1, uf2, uf3, uf4, uf5, uf6, uf7, uf8⟩ := id uF
          refine z_bipush dX6_write_49 rfl ?_
          refine z_aload_n 3 dX6_write_51 rfl ?_
          refine z_getI (r := S2) 1 rfl dX6_write_52 fX6_193_4 i12_1 ka12 (wS2) ?_
          refine z_mmin dX6_write_55 lX6_252 (by omega) (by decide) (Nat.le_of_ble_eq_true rfl) ?_
          refine z_istore (fun y => [(0, rf en 0), (1, vi wh), (2, vi s), (3, rf en 12), (4, vi y)]) [1, 2, 3, 4, 0] dX6_write_58 (by decide) (fun _ => rfl) (fun x4_58 e4_58 => ?_)
          refine z_iconst dX6_write_60 ?_
          refine z_istore (fun y => [(0, rf en 0), (1, vi wh), (2, vi s), (3, rf en 12), (4, vi x4_58), (5, vi y)]) [1, 2, 3, 4, 5, 0] dX6_write_61 (by decide) (fun _ => rfl) (fun x5_61 e5_61 => ?_)
          have uL63 : ∀ (fu : Nat) (x5 : Int) (rI : Int → Int), (x4_58 - x5).toNat < fu → (0 ≤ x5 ∧ x5 ≤ x4_58 ∧ rI = fil (fun t => cutv (S2 0) (hBy T (cW c) t wh)) I2 0 x5) → Z en kA cx mX6_write (upR (upR (upR (upR (upR (upR (upR (upR M 30 r30_46) 5 r5_46) 31 r31_46) 32 r32_46) 33 r33_46) 34 r34_46) 29 r29_46) 16 rI) 63 [(0, rf en 0), (1, vi wh), (2, vi s), (3, rf en 12), (4, vi x4_58), (5, vi x5)] [] := by
            intro fu
            induction fu with
            | zero => intro x5 rI uhf; exact absurd uhf (Nat.not_lt_zero _)
            | succ fu uih63 =>
              intro x5 rI uf63 uI63
              obtain ⟨uq1, uq2, uq3⟩ := uI63
              refine z_iload 5 dX6_write_63 rfl ?_
              refine z_iload 4 dX6_write_65 rfl ?_
              refine z_icmp_ge (tgt := 109) dX6_write_67 rfl (by omega) (fun uc67 => ?_) (fun uc67 => ?_)
              ·
                refine z_iload 4 dX6_write_109 rfl ?_
                exact z_iret C dX6_write_111 rfl ⟨_, rfl, Or.inr (Or.inr ⟨⟨by omega, by rw [ux_s]; exact uc29⟩, by rw [ux_s]; exact e4_58, by rw [ux_s, uy_s, uz_s, ← e4_58, show x4_58 = x5 by omega, ← uq3]; exact kc_k (kc_u (by decide) (kc_u (by decide) (kc_u (by decide) (kc_u (by decide) (kc_u (by decide) (kc_u (by decide) (kc_u (by decide) (kc_r M))))))))⟩)⟩
              ·
                refine z_aload_n 3 dX6_write_70 rfl ?_
                refine z_iload 5 dX6_write_71 rfl ?_
                refine z_iload_n 1 dX6_write_73 rfl ?_
                refine z_if_ne (tgt := 90) dX6_write_74 rfl (by omega) (fun uc74 => ?_) (fun uc74 => ?_)
                ·
                  refine z_aload_n 0 dX6_write_90 rfl ?_
                  refine z_getR dX6_write_91 fX6_38_5 i0_4 ka0 ?_
                  refine z_getR dX6_write_94 fX6_133_1 i5_4 ka5 ?_
                  refine z_iload 5 dX6_write_97 rfl ?_
                  refine z_iald (r := r31_46) dX6_write_99 is31 ka31 (rfl) (by omega) ?_
                  refine z_vV dX6_write_100 lX6_242 (by decide) ka12 io12 rfl (ct_X4_put_12 en (upR (upR (upR (upR (upR (upR (upR (upR M 30 r30_46) 5 r5_46) 31 r31_46) 32 r32_46) 33 r33_46) 34 r34_46) 29 r29_46) 16 rI) S2 rI wS2 rfl _ _ (by omega) (by omega)) rfl rfl (by exact Nat.le_of_ble_eq_true rfl) ?_
                  rw [uu1 (a := 16)]
                  refine z_iinc (fun y => [(0, rf en 0), (1, vi wh), (2, vi s), (3, rf en 12), (4, vi x4_58), (5, vi y)]) [1, 2, 3, 4, 5, 0] 5 dX6_write_103 rfl (by decide) (fun _ => rfl) (fun x5_103 e5_103 => ?_)
                  refine z_goto (tgt := 63) dX6_write_106 rfl ?_
                  have uq4 := fil_s (fun t => cutv (S2 0) (hBy T (cW c) t wh)) I2 0 x5 uq1 (show cutv (S2 0) (r31_46 x5) = _ from (by rw [uf2 x5 uq1 (by omega)]; unfold hBy; rw [if_neg uc74, if_pos (by omega)]))
                  rw [Int.zero_add] at uq4
                  exact uih63 x5_103 (up rI x5 (cutv (S2 0) (r31_46 x5))) (by omega) (⟨by omega, by omega, by rw [e5_103, uq3, uq4]⟩)
                ·
                  refine z_aload_n 0 dX6_write_77 rfl ?_
                  refine z_getR dX6_write_78 fX6_38_5 i0_4 ka0 ?_
                  refine z_getR dX6_write_81 fX6_130_1 i5_3 ka5 ?_
                  refine z_iload 5 dX6_write_84 rfl ?_
                  refine z_iald (r := r30_46) dX6_write_86 is30 ka30 (rfl) (by omega) ?_
                  refine z_goto (tgt := 100) dX6_write_87 rfl ?_
                  refine z_vV dX6_write_100 lX6_242 (by decide) ka12 io12 rfl (ct_X4_put_12 en (upR (upR (upR (upR (upR (upR (upR (upR M 30 r30_46) 5 r5_46) 31 r31_46) 32 r32_46) 33 r33_46) 34 r34_46) 29 r29_46) 16 rI) S2 rI wS2 rfl _ _ (by omega) (by omega)) rfl rfl (by exact Nat.le_of_ble_eq_true rfl) ?_
                  rw [uu1 (a := 16)]
                  refine z_iinc (fun y => [(0, rf en 0), (1, vi wh), (2, vi s), (3, rf en 12), (4, vi x4_58), (5, vi y)]) [1, 2, 3, 4, 5, 0] 5 dX6_write_103 rfl (by decide) (fun _ => rfl) (fun x5_103 e5_103 => ?_)
                  refine z_goto (tgt := 63) dX6_write_106 rfl ?_
                  have uq4 := fil_s (fun t => cutv (S2 0) (hBy T (cW c) t wh)) I2 0 x5 uq1 (show cutv (S2 0) (r30_46 x5) = _ from (by rw [uf1 x5 uq1 (by omega)]; unfold hBy; rw [if_pos uc74]))
                  rw [Int.zero_add] at uq4
                  exact uih63 x5_103 (up rI x5 (cutv (S2 0) (r30_46 x5))) (by omega) (⟨by omega, by omega, by rw [e5_103, uq3, uq4]⟩)
          refine Z.eqM (upR_id (k := 16) wI2) ?_
          exact uL63 _ x5_61 I2 (Nat.lt_succ_self _) (⟨by omega, by omega, by rw [e5_61, fil_0]⟩)
        ·
          refine z_aload_n 0 dX6_write_32 rfl ?_
          refine z_iconst dX6_write_33 ?_
          refine z_vI dX6_write_34 lX6_190 (by decide) ka0 io0 rfl (ct_X6_found en M O0 wO0 (1)) rfl rfl (by exact Nat.le_of_ble_eq_true rfl) ?_
          exact z_iret C dX6_write_37 rfl ⟨_, rfl, Or.inr (Or.inl ⟨⟨by omega, by rw [ux_s]; exact uc29⟩, rfl, rfl⟩)⟩
      ·
        have ux_s : M (10 + s.toNat) = S3 := by rw [show s.toNat = 3 by omega]; exact wS3
        have uy_s : M (14 + s.toNat) = I3 := by rw [show s.toNat = 3 by omega]; exact wI3
        have uz_s : s.toNat = 3 := by omega
        refine z_aald 3 dX6_write_23 ka9 (by omega) (by decide) ?_
        refine z_astore_n [(0, rf en 0), (1, vi wh), (2, vi s), (3, rf en 13)] [1, 2, 3, 0] dX6_write_24 (by decide) rfl ?_
        refine z_aload_n 3 dX6_write_25 rfl ?_
        refine z_vI dX6_write_26 lX6_186 (by decide) ka13 io13 rfl (ct_X4_isLost_13 en M S3 wS3 (by omega)) rfl rfl (by exact Nat.le_of_ble_eq_true rfl) ?_
        refine z_ifeq_b (tgt := 38) dX6_write_29 rfl (fun uc29 => ?_) (fun uc29 => ?_)
        ·
          refine z_aload_n 0 dX6_write_38 rfl ?_
          refine z_getR dX6_write_39 fX6_38_5 i0_4 ka0 ?_
          refine z_aload_n 0 dX6_write_42 rfl ?_
          refine z_getR dX6_write_43 fX6_27_5 i0_2 ka0 ?_
          refine z_vN dX6_write_46 lX6_126 (by decide) ka5 io5 rfl (ct_X1_follow_3 en M O2 T O5 c A G K H S P0 Hd Lw C0 E0 R0 wO2 wT wO5 wc wA wG wK wH wS wP0 wHd wLw wC0 wE0 wR0 (by assumption) (by assumption) (by assumption)) rfl rfl (by exact Nat.le_of_ble_eq_true rfl) (fun uN46 uh46 => ?_)
          obtain ⟨r5_46, r29_46, r30_46, r31_46, r32_46, r33_46, r34_46, uF, uF5, rfl⟩ := uh46
          have uFr := Flw.rg hT hc hP uF
          obtain ⟨uf1, uf2, uf3, uf4, uf5, uf6, uf7, uf8⟩ := id uF
          refine z_bipush dX6_write_49 rfl ?_
          refine z_aload_n 3 dX6_write_51 rfl ?_
          refine z_getI (r := S3) 1 rfl dX6_write_52 fX6_193_4 i13_1 ka13 (wS3) ?_
          refine z_mmin dX6_write_55 lX6_252 (by omega) (by decide) (Nat.le_of_ble_eq_true rfl) ?_
          refine z_istore (fun y => [(0, rf en 0), (1, vi wh), (2, vi s), (3, rf en 13), (4, vi y)]) [1, 2, 3, 4, 0] dX6_write_58 (by decide) (fun _ => rfl) (fun x4_58 e4_58 => ?_)
          refine z_iconst dX6_write_60 ?_
          refine z_istore (fun y => [(0, rf en 0), (1, vi wh), (2, vi s), (3, rf en 13), (4, vi x4_58), (5, vi y)]) [1, 2, 3, 4, 5, 0] dX6_write_61 (by decide) (fun _ => rfl) (fun x5_61 e5_61 => ?_)
          have uL63 : ∀ (fu : Nat) (x5 : Int) (rI : Int → Int), (x4_58 - x5).toNat < fu → (0 ≤ x5 ∧ x5 ≤ x4_58 ∧ rI = fil (fun t => cutv (S3 0) (hBy T (cW c) t wh)) I3 0 x5) → Z en kA cx mX6_write (upR (upR (upR (upR (upR (upR (upR (upR M 30 r30_46) 5 r5_46) 31 r31_46) 32 r32_46) 33 r33_46) 34 r34_46) 29 r29_46) 17 rI) 63 [(0, rf en 0), (1, vi wh), (2, vi s), (3, rf en 13), (4, vi x4_58), (5, vi x5)] [] := by
            intro fu
            induction fu with
            | zero => intro x5 rI uhf; exact absurd uhf (Nat.not_lt_zero _)
            | succ fu uih63 =>
              intro x5 rI uf63 uI63
              obtain ⟨uq1, uq2, uq3⟩ := uI63
              refine z_iload 5 dX6_write_63 rfl ?_
              refine z_iload 4 dX6_write_65 rfl ?_
              refine z_icmp_ge (tgt := 109) dX6_write_67 rfl (by omega) (fun uc67 => ?_) (fun uc67 => ?_)
              ·
                refine z_iload 4 dX6_write_109 rfl ?_
                exact z_iret C dX6_write_111 rfl ⟨_, rfl, Or.inr (Or.inr ⟨⟨by omega, by rw [ux_s]; exact uc29⟩, by rw [ux_s]; exact e4_58, by rw [ux_s, uy_s, uz_s, ← e4_58, show x4_58 = x5 by omega, ← uq3]; exact kc_k (kc_u (by decide) (kc_u (by decide) (kc_u (by decide) (kc_u (by decide) (kc_u (by decide) (kc_u (by decide) (kc_u (by decide) (kc_r M))))))))⟩)⟩
              ·
                refine z_aload_n 3 dX6_write_70 rfl ?_
                refine z_iload 5 dX6_write_71 rfl ?_
                refine z_iload_n 1 dX6_write_73 rfl ?_
                refine z_if_ne (tgt := 90) dX6_write_74 rfl (by omega) (fun uc74 => ?_) (fun uc74 => ?_)
                ·
                  refine z_aload_n 0 dX6_write_90 rfl ?_
                  refine z_getR dX6_write_91 fX6_38_5 i0_4 ka0 ?_
                  refine z_getR dX6_write_94 fX6_133_1 i5_4 ka5 ?_
                  refine z_iload 5 dX6_write_97 rfl ?_
                  refine z_iald (r := r31_46) dX6_write_99 is31 ka31 (rfl) (by omega) ?_
                  refine z_vV dX6_write_100 lX6_242 (by decide) ka13 io13 rfl (ct_X4_put_13 en (upR (upR (upR (upR (upR (upR (upR (upR M 30 r30_46) 5 r5_46) 31 r31_46) 32 r32_46) 33 r33_46) 34 r34_46) 29 r29_46) 17 rI) S3 rI wS3 rfl _ _ (by omega) (by omega)) rfl rfl (by exact Nat.le_of_ble_eq_true rfl) ?_
                  rw [uu1 (a := 17)]
                  refine z_iinc (fun y => [(0, rf en 0), (1, vi wh), (2, vi s), (3, rf en 13), (4, vi x4_58), (5, vi y)]) [1, 2, 3, 4, 5, 0] 5 dX6_write_103 rfl (by decide) (fun _ => rfl) (fun x5_103 e5_103 => ?_)
                  refine z_goto (tgt := 63) dX6_write_106 rfl ?_
                  have uq4 := fil_s (fun t => cutv (S3 0) (hBy T (cW c) t wh)) I3 0 x5 uq1 (show cutv (S3 0) (r31_46 x5) = _ from (by rw [uf2 x5 uq1 (by omega)]; unfold hBy; rw [if_neg uc74, if_pos (by omega)]))
                  rw [Int.zero_add] at uq4
                  exact uih63 x5_103 (up rI x5 (cutv (S3 0) (r31_46 x5))) (by omega) (⟨by omega, by omega, by rw [e5_103, uq3, uq4]⟩)
                ·
                  refine z_aload_n 0 dX6_write_77 rfl ?_
                  refine z_getR dX6_write_78 fX6_38_5 i0_4 ka0 ?_
                  refine z_getR dX6_write_81 fX6_130_1 i5_3 ka5 ?_
                  refine z_iload 5 dX6_write_84 rfl ?_
                  refine z_iald (r := r30_46) dX6_write_86 is30 ka30 (rfl) (by omega) ?_
                  refine z_goto (tgt := 100) dX6_write_87 rfl ?_
                  refine z_vV dX6_write_100 lX6_242 (by decide) ka13 io13 rfl (ct_X4_put_13 en (upR (upR (upR (upR (upR (upR (upR (upR M 30 r30_46) 5 r5_46) 31 r31_46) 32 r32_46) 33 r33_46) 34 r34_46) 29 r29_46) 17 rI) S3 rI wS3 rfl _ _ (by omega) (by omega)) rfl rfl (by exact Nat.le_of_ble_eq_true rfl) ?_
                  rw [uu1 (a := 17)]
                  refine z_iinc (fun y => [(0, rf en 0), (1, vi wh), (2, vi s), (3, rf en 13), (4, vi x4_58), (5, vi y)]) [1, 2, 3, 4, 5, 0] 5 dX6_write_103 rfl (by decide) (fun _ => rfl) (fun x5_103 e5_103 => ?_)
                  refine z_goto (tgt := 63) dX6_write_106 rfl ?_
                  have uq4 := fil_s (fun t => cutv (S3 0) (hBy T (cW c) t wh)) I3 0 x5 uq1 (show cutv (S3 0) (r30_46 x5) = _ from (by rw [uf1 x5 uq1 (by omega)]; unfold hBy; rw [if_pos uc74]))
                  rw [Int.zero_add] at uq4
                  exact uih63 x5_103 (up rI x5 (cutv (S3 0) (r30_46 x5))) (by omega) (⟨by omega, by omega, by rw [e5_103, uq3, uq4]⟩)
          refine Z.eqM (upR_id (k := 17) wI3) ?_
          exact uL63 _ x5_61 I3 (Nat.lt_succ_self _) (⟨by omega, by omega, by rw [e5_61, fil_0]⟩)
        ·
          refine z_aload_n 0 dX6_write_32 rfl ?_
          refine z_iconst dX6_write_33 ?_
          refine z_vI dX6_write_34 lX6_190 (by decide) ka0 io0 rfl (ct_X6_found en M O0 wO0 (1)) rfl rfl (by exact Nat.le_of_ble_eq_true rfl) ?_
          exact z_iret C dX6_write_37 rfl ⟨_, rfl, Or.inr (Or.inl ⟨⟨by omega, by rw [ux_s]; exact uc29⟩, rfl, rfl⟩)⟩
    ·
      refine z_bipush dX6_write_15 rfl ?_
      exact z_iret C dX6_write_17 rfl ⟨_, rfl, Or.inl ⟨by omega, rfl, rfl⟩⟩
set_option maxRecDepth 100000 in
theorem ct_X6_read (en : zE) (M : zW) (O0 : Int → Int) (Q7 : Int → Int) (Q8 : Int → Int) (S0 : Int → Int) (S1 : Int → Int) (S2 : Int → Int) (S3 : Int → Int) (I0 : Int → Int) (I1 : Int → Int) (I2 : Int → Int) (I3 : Int → Int) (wO0 : M 0 = O0) (wQ7 : M 7 = Q7) (wQ8 : M 8 = Q8) (wS0 : M 10 = S0) (wS1 : M 11 = S1) (wS2 : M 12 = S2) (wS3 : M 13 = S3) (wI0 : M 14 = I0) (wI1 : M 15 = I1) (wI2 : M 16 = I2) (wI3 : M 17 = I3) (s : Int) (h0 : -2147483648 ≤ s ∧ s < 2147483648 ∧ 0 ≤ O0 8 ∧ O0 8 ≤ 8) (hS : ((-1 ≤ S0 0 ∧ S0 0 ≤ 2) ∧ (0 ≤ S0 1 ∧ S0 1 ≤ 60)) ∧ ((-1 ≤ S1 0 ∧ S1 0 ≤ 2) ∧ (0 ≤ S1 1 ∧ S1 1 ≤ 60)) ∧ ((-1 ≤ S2 0 ∧ S2 0 ≤ 2) ∧ (0 ≤ S2 1 ∧ S2 1 ≤ 60)) ∧ ((-1 ≤ S3 0 ∧ S3 0 ≤ 2) ∧ (0 ≤ S3 1 ∧ S3 1 ≤ 60))) (hI : ∀ j, 0 ≤ j → j < 60 → (-2147483648 ≤ I0 j ∧ I0 j ≤ 2147483647) ∧ (-2147483648 ≤ I1 j ∧ I1 j ≤ 2147483647) ∧ (-2147483648 ≤ I2 j ∧ I2 j ≤ 2147483647) ∧ (-2147483648 ≤ I3 j ∧ I3 j ≤ 2147483647)) : Ct en kA yX6_read mX6_read [rf en 0, vi s] M (pX (fun x N => (¬ (0 ≤ s ∧ s ≤ 3) ∧ x = -2 ∧ M = N) ∨ (((0 ≤ s ∧ s ≤ 3) ∧ M (10 + s.toNat) 0 = -1) ∧ x = -11 ∧ upR M 0 (up O0 10 1) = N) ∨ (((0 ≤ s ∧ s ≤ 3) ∧ M (10 + s.toNat) 0 ≠ -1) ∧ ∃ r7 r8 : Int → Int, rdP (M (14 + s.toNat)) 0 (M (10 + s.toNat) 1) (sgC Q7 Q8) (O0 8) x (sgC r7 r8) ∧ upR (upR (upR M 7 r7) 8 r8) 0 (up O0 8 (O0 8 + x)) = N))) := by
  refine Ct.of (by decide +kernel) rfl [(0, rf en 0), (1, vi s)] rfl (Nat.le_of_ble_eq_true rfl) (fun cx C => ?_)
  refine z_iload_n 1 dX6_read_0 rfl ?_
  refine z_sI dX6_read_1 lX6_183 (by decide) (ct_X6_isSheet en M _ (by omega)) rfl rfl (by exact Nat.le_of_ble_eq_true rfl) ?_
  refine z_ifne_b (tgt := 10) dX6_read_4 rfl (fun uc4 => ?_) (fun uc4 => ?_)
  ·
    refine z_aload_n 0 dX6_read_10 rfl ?_
    refine z_getR dX6_read_11 fX6_59_5 i0_9 ka0 ?_
    refine z_iload_n 1 dX6_read_14 rfl ?_
    have ush_s : s = 0 ∨ s = 1 ∨ s = 2 ∨ s = 3 := by omega
    rcases ush_s with ush_s | ush_s | ush_s | ush_s
    ·
      have ux_s : M (10 + s.toNat) = S0 := by rw [show s.toNat = 0 by omega]; exact wS0
      have uy_s : M (14 + s.toNat) = I0 := by rw [show s.toNat = 0 by omega]; exact wI0
      have uz_s : s.toNat = 0 := by omega
      refine z_aald 0 dX6_read_15 ka9 (by omega) (by decide) ?_
      refine z_astore_n [(0, rf en 0), (1, vi s), (2, rf en 10)] [1, 2, 0] dX6_read_16 (by decide) rfl ?_
      refine z_aload_n 2 dX6_read_17 rfl ?_
      refine z_vI dX6_read_18 lX6_186 (by decide) ka10 io10 rfl (ct_X4_isLost_10 en M S0 wS0 (by omega)) rfl rfl (by exact Nat.le_of_ble_eq_true rfl) ?_
      refine z_ifeq_b (tgt := 30) dX6_read_21 rfl (fun uc21 => ?_) (fun uc21 => ?_)
      ·
        refine z_iconst dX6_read_30 ?_
        refine z_istore_n (fun y => [(0, rf en 0), (1, vi s), (2, rf en 10), (3, vi y)]) [1, 2, 3, 0] dX6_read_31 (by decide) (fun _ => rfl) (fun x3_31 e3_31 => ?_)
        refine z_iconst dX6_read_32 ?_
        refine z_istore (fun y => [(0, rf en 0), (1, vi s), (2, rf en 10), (3, vi x3_31), (4, vi y)]) [1, 2, 3, 4, 0] dX6_read_33 (by decide) (fun _ => rfl) (fun x4_33 e4_33 => ?_)
        have uL35 : ∀ (fu : Nat) (x3 : Int) (x4 : Int) (r7 : Int → Int) (r8 : Int → Int) (r0 : Int → Int), (60 - x4).toNat < fu → (rdP0 I0 0 (S0 1) (sgC Q7 Q8) (O0 8) x3 (sgC r7 r8) ∧ x4 = 2 * x3 ∧ r0 = up O0 8 (O0 8 + x3)) → Z en kA cx mX6_read (upR (upR (upR M 7 r7) 8 r8) 0 r0) 35 [(0, rf en 0), (1, vi s), (2, rf en 10), (3, vi x3), (4, vi x4)] [] := by
          intro fu
          induction fu with
          | zero => intro x3 x4 r7 r8 r0 uhf; exact absurd uhf (Nat.not_lt_zero _)
          | succ fu uih35 =>
            intro x3 x4 r7 r8 r0 uf35 uI35
            obtain ⟨uq1, uq2, uq3⟩ := uI35
            have uqr := uq1.1
            have uo8 : r0 8 = O0 8 + x3 := by rw [uq3, up_s]
            refine z_iload 4 dX6_read_35 rfl ?_
            refine z_iconst dX6_read_37 ?_
            refine z_iadd dX6_read_38 ?_
            refine z_aload_n 2 dX6_read_39 rfl ?_
            refine z_getI (r := S0) 1 rfl dX6_read_40 fX6_193_4 i10_1 ka10 (wS0) ?_
            refine z_icmp_ge (tgt := 109) dX6_read_43 rfl (by omega) (fun uc43 => ?_) (fun uc43 => ?_)
            ·
              refine z_iload_n 3 dX6_read_109 rfl ?_
              exact z_iret C dX6_read_110 rfl ⟨_, rfl, Or.inr (Or.inr ⟨⟨by omega, by rw [ux_s]; exact uc21⟩, r7, r8, by rw [ux_s, uy_s]; exact ⟨uq1, Or.inl (by omega)⟩, by rw [uq3]⟩)⟩
            ·
              refine z_aload_n 0 dX6_read_46 rfl ?_
              refine z_getI (r := r0) 8 rfl dX6_read_47 fX6_177_5 i0_8 ka0 (rfl) ?_
              refine z_bipush dX6_read_50 rfl ?_
              refine z_icmp_ge (tgt := 109) dX6_read_52 rfl (by omega) (fun uc52 => ?_) (fun uc52 => ?_)
              ·
                refine z_iload_n 3 dX6_read_109 rfl ?_
                exact z_iret C dX6_read_110 rfl ⟨_, rfl, Or.inr (Or.inr ⟨⟨by omega, by rw [ux_s]; exact uc21⟩, r7, r8, by rw [ux_s, uy_s]; exact ⟨uq1, Or.inr (Or.inl (by omega))⟩, by rw [uq3]⟩)⟩
              ·
                refine z_aload_n 2 dX6_read_55 rfl ?_
                refine z_getR dX6_read_56 fX6_194_4 i10_2 ka10 ?_
                refine z_iload 4 dX6_read_59 rfl ?_
                refine z_iald (r := I0) dX6_read_61 is14 ka14 (wI0) (by omega) ?_
                refine z_aload_n 2 dX6_read_62 rfl ?_
                refine z_getR dX6_read_63 fX6_194_4 i10_2 ka10 ?_
                refine z_iload 4 dX6_read_66 rfl ?_
                refine z_iconst dX6_read_68 ?_
                refine z_iadd dX6_read_69 ?_
                refine z_iald (r := I0) dX6_read_70 is14 ka14 (wI0) (by omega) ?_
                have ui1 := hI x4 (by omega) (by omega)
                have ui2 := hI (x4 + 1) (by omega) (by omega)
                refine z_sI dX6_read_71 lX6_174 (by decide) (ct_X6_maySee en (upR (upR (upR M 7 r7) 8 r8) 0 r0) _ _ (by omega)) rfl rfl (by exact Nat.le_of_ble_eq_true rfl) ?_
                refine z_ifne_b (tgt := 80) dX6_read_74 rfl (fun uc74 => ?_) (fun uc74 => ?_)
                ·
                  refine z_aload_n 0 dX6_read_80 rfl ?_
                  refine z_aload_n 2 dX6_read_81 rfl ?_
                  refine z_getR dX6_read_82 fX6_194_4 i10_2 ka10 ?_
                  refine z_iload 4 dX6_read_85 rfl ?_
                  refine z_iald (r := I0) dX6_read_87 is14 ka14 (wI0) (by omega) ?_
                  refine z_aload_n 2 dX6_read_88 rfl ?_
                  refine z_getR dX6_read_89 fX6_194_4 i10_2 ka10 ?_
                  refine z_iload 4 dX6_read_92 rfl ?_
                  refine z_iconst dX6_read_94 ?_
                  refine z_iadd dX6_read_95 ?_
                  refine z_iald (r := I0) dX6_read_96 is14 ka14 (wI0) (by omega) ?_
                  refine z_vV dX6_read_97 lX6_180 (by decide) ka0 io0 rfl (ct_X6_seeMore en (upR (upR (upR M 7 r7) 8 r8) 0 r0) r0 r7 r8 rfl rfl rfl _ _ (by omega)) rfl rfl (by exact Nat.le_of_ble_eq_true rfl) ?_
                  rw [uu3 (a := 7) (b0 := 8) (b1 := 0) (by decide) (by decide)]
                  rw [uu2 (a := 8) (b0 := 0) (by decide)]
                  rw [uu1 (a := 0)]
                  refine z_iinc (fun y => [(0, rf en 0), (1, vi s), (2, rf en 10), (3, vi y), (4, vi x4)]) [1, 2, 3, 0, 4] 3 dX6_read_100 rfl (by decide) (fun _ => rfl) (fun x3_100 e3_100 => ?_)
                  refine z_iinc (fun y => [(0, rf en 0), (1, vi s), (2, rf en 10), (3, vi x3_100), (4, vi y)]) [1, 2, 3, 4, 0] 4 dX6_read_103 rfl (by decide) (fun _ => rfl) (fun x4_103 e4_103 => ?_)
                  refine z_goto (tgt := 35) dX6_read_106 rfl ?_
                  exact uih35 x3_100 x4_103 (up r7 (r0 8) (I0 x4)) (up r8 (r0 8) (I0 (x4 + 1))) (up r0 8 (r0 8 + 1)) (by omega) (⟨by rw [e3_100, uo8, uq2]; exact rdP0_s uq1 (by omega) (by omega) (by omega) (by rw [← uq2]; exact uc74), by omega, by rw [uo8, e3_100, uq3, up_up]; congr 1; omega⟩)
                ·
                  refine z_goto (tgt := 109) dX6_read_77 rfl ?_
                  refine z_iload_n 3 dX6_read_109 rfl ?_
                  exact z_iret C dX6_read_110 rfl ⟨_, rfl, Or.inr (Or.inr ⟨⟨by omega, by rw [ux_s]; exact uc21⟩, r7, r8, by rw [ux_s, uy_s]; exact ⟨uq1, Or.inr (Or.inr (by rw [Int.zero_add, ← uq2]; exact uc74))⟩, by rw [uq3]⟩)⟩
        refine Z.eqM (upR_id (k := 7) wQ7) ?_
        refine Z.eqM (upR_id (k := 8) wQ8) ?_
        refine Z.eqM (upR_id (k := 0) wO0) ?_
        exact uL35 _ x3_31 x4_33 Q7 Q8 O0 (Nat.lt_succ_self _) (⟨⟨by omega, fun uk ua ub => absurd ub (by omega), fun uj ua ub => rfl⟩, by omega, by rw [e3_31, Int.add_zero, up_id]⟩)
      ·
        refine z_aload_n 0 dX6_read_24 rfl ?_
        refine z_iconst dX6_read_25 ?_
        refine z_vI dX6_read_26 lX6_190 (by decide) ka0 io0 rfl (ct_X6_found en M O0 wO0 (1)) rfl rfl (by exact Nat.le_of_ble_eq_true rfl) ?_
        exact z_iret C dX6_read_29 rfl ⟨_, rfl, Or.inr (Or.inl ⟨⟨by omega, by rw [ux_s]; exact uc21⟩, rfl, rfl⟩)⟩
    ·
      have ux_s : M (10 + s.toNat) = S1 := by rw [show s.toNat = 1 by omega]; exact wS1
      have uy_s : M (14 + s.toNat) = I1 := by rw [show s.toNat = 1 by omega]; exact wI1
      have uz_s : s.toNat = 1 := by omega
      refine z_aald 1 dX6_read_15 ka9 (by omega) (by decide) ?_
      refine z_astore_n [(0, rf en 0), (1, vi s), (2, rf en 11)] [1, 2, 0] dX6_read_16 (by decide) rfl ?_
      refine z_aload_n 2 dX6_read_17 rfl ?_
      refine z_vI dX6_read_18 lX6_186 (by decide) ka11 io11 rfl (ct_X4_isLost_11 en M S1 wS1 (by omega)) rfl rfl (by exact Nat.le_of_ble_eq_true rfl) ?_
      refine z_ifeq_b (tgt := 30) dX6_read_21 rfl (fun uc21 => ?_) (fun uc21 => ?_)
      ·
        refine z_iconst dX6_read_30 ?_
        refine z_istore_n (fun y => [(0, rf en 0), (1, vi s), (2, rf en 11), (3, vi y)]) [1, 2, 3, 0] dX6_read_31 (by decide) (fun _ => rfl) (fun x3_31 e3_31 => ?_)
        refine z_iconst dX6_read_32 ?_
        refine z_istore (fun y => [(0, rf en 0), (1, vi s), (2, rf en 11), (3, vi x3_31), (4, vi y)]) [1, 2, 3, 4, 0] dX6_read_33 (by decide) (fun _ => rfl) (fun x4_33 e4_33 => ?_)
        have uL35 : ∀ (fu : Nat) (x3 : Int) (x4 : Int) (r7 : Int → Int) (r8 : Int → Int) (r0 : Int → Int), (60 - x4).toNat < fu → (rdP0 I1 0 (S1 1) (sgC Q7 Q8) (O0 8) x3 (sgC r7 r8) ∧ x4 = 2 * x3 ∧ r0 = up O0 8 (O0 8 + x3)) → Z en kA cx mX6_read (upR (upR (upR M 7 r7) 8 r8) 0 r0) 35 [(0, rf en 0), (1, vi s), (2, rf en 11), (3, vi x3), (4, vi x4)] [] := by
          intro fu
          induction fu with
          | zero => intro x3 x4 r7 r8 r0 uhf; exact absurd uhf (Nat.not_lt_zero _)
          | succ fu uih35 =>
            intro x3 x4 r7 r8 r0 uf35 uI35
            obtain ⟨uq1, uq2, uq3⟩ := uI35
            have uqr := uq1.1
            have uo8 : r0 8 = O0 8 + x3 := by rw [uq3, up_s]
            refine z_iload 4 dX6_read_35 rfl ?_
            refine z_iconst dX6_read_37 ?_
            refine z_iadd dX6_read_38 ?_
            refine z_aload_n 2 dX6_read_39 rfl ?_
            refine z_getI (r := S1) 1 rfl dX6_read_40 fX6_193_4 i11_1 ka11 (wS1) ?_
            refine z_icmp_ge (tgt := 109) dX6_read_43 rfl (by omega) (fun uc43 => ?_) (fun uc43 => ?_)
            ·
              refine z_iload_n 3 dX6_read_109 rfl ?_
              exact z_iret C dX6_read_110 rfl ⟨_, rfl, Or.inr (Or.inr ⟨⟨by omega, by rw [ux_s]; exact uc21⟩, r7, r8, by rw [ux_s, uy_s]; exact ⟨uq1, Or.inl (by omega)⟩, by rw [uq3]⟩)⟩
            ·
              refine z_aload_n 0 dX6_read_46 rfl ?_
              refine z_getI (r := r0) 8 rfl dX6_read_47 fX6_177_5 i0_8 ka0 (rfl) ?_
              refine z_bipush dX6_read_50 rfl ?_
              refine z_icmp_ge (tgt := 109) dX6_read_52 rfl (by omega) (fun uc52 => ?_) (fun uc52 => ?_)
              ·
                refine z_iload_n 3 dX6_read_109 rfl ?_
                exact z_iret C dX6_read_110 rfl ⟨_, rfl, Or.inr (Or.inr ⟨⟨by omega, by rw [ux_s]; exact uc21⟩, r7, r8, by rw [ux_s, uy_s]; exact ⟨uq1, Or.inr (Or.inl (by omega))⟩, by rw [uq3]⟩)⟩
              ·
                refine z_aload_n 2 dX6_read_55 rfl ?_
                refine z_getR dX6_read_56 fX6_194_4 i11_2 ka11 ?_
                refine z_iload 4 dX6_read_59 rfl ?_
                refine z_iald (r := I1) dX6_read_61 is15 ka15 (wI1) (by omega) ?_
                refine z_aload_n 2 dX6_read_62 rfl ?_
                refine z_getR dX6_read_63 fX6_194_4 i11_2 ka11 ?_
                refine z_iload 4 dX6_read_66 rfl ?_
                refine z_iconst dX6_read_68 ?_
                refine z_iadd dX6_read_69 ?_
                refine z_iald (r := I1) dX6_read_70 is15 ka15 (wI1) (by omega) ?_
                have ui1 := hI x4 (by omega) (by omega)
                have ui2 := hI (x4 + 1) (by omega) (by omega)
                refine z_sI dX6_read_71 lX6_174 (by decide) (ct_X6_maySee en (upR (upR (upR M 7 r7) 8 r8) 0 r0) _ _ (by omega)) rfl rfl (by exact Nat.le_of_ble_eq_true rfl) ?_
                refine z_ifne_b (tgt := 80) dX6_read_74 rfl (fun uc74 => ?_) (fun uc74 => ?_)
                ·
                  refine z_aload_n 0 dX6_read_80 rfl ?_
                  refine z_aload_n 2 dX6_read_81 rfl ?_
                  refine z_getR dX6_read_82 fX6_194_4 i11_2 ka11 ?_
                  refine z_iload 4 dX6_read_85 rfl ?_
                  refine z_iald (r := I1) dX6_read_87 is15 ka15 (wI1) (by omega) ?_
                  refine z_aload_n 2 dX6_read_88 rfl ?_
                  refine z_getR dX6_read_89 fX6_194_4 i11_2 ka11 ?_
                  refine z_iload 4 dX6_read_92 rfl ?_
                  refine z_iconst dX6_read_94 ?_
                  refine z_iadd dX6_read_95 ?_
                  refine z_iald (r := I1) dX6_read_96 is15 ka15 (wI1) (by omega) ?_
                  refine z_vV dX6_read_97 lX6_180 (by decide) ka0 io0 rfl (ct_X6_seeMore en (upR (upR (upR M 7 r7) 8 r8) 0 r0) r0 r7 r8 rfl rfl rfl _ _ (by omega)) rfl rfl (by exact Nat.le_of_ble_eq_true rfl) ?_
                  rw [uu3 (a := 7) (b0 := 8) (b1 := 0) (by decide) (by decide)]
                  rw [uu2 (a := 8) (b0 := 0) (by decide)]
                  rw [uu1 (a := 0)]
                  refine z_iinc (fun y => [(0, rf en 0), (1, vi s), (2, rf en 11), (3, vi y), (4, vi x4)]) [1, 2, 3, 0, 4] 3 dX6_read_100 rfl (by decide) (fun _ => rfl) (fun x3_100 e3_100 => ?_)
                  refine z_iinc (fun y => [(0, rf en 0), (1, vi s), (2, rf en 11), (3, vi x3_100), (4, vi y)]) [1, 2, 3, 4, 0] 4 dX6_read_103 rfl (by decide) (fun _ => rfl) (fun x4_103 e4_103 => ?_)
                  refine z_goto (tgt := 35) dX6_read_106 rfl ?_
                  exact uih35 x3_100 x4_103 (up r7 (r0 8) (I1 x4)) (up r8 (r0 8) (I1 (x4 + 1))) (up r0 8 (r0 8 + 1)) (by omega) (⟨by rw [e3_100, uo8, uq2]; exact rdP0_s uq1 (by omega) (by omega) (by omega) (by rw [← uq2]; exact uc74), by omega, by rw [uo8, e3_100, uq3, up_up]; congr 1; omega⟩)
                ·
                  refine z_goto (tgt := 109) dX6_read_77 rfl ?_
                  refine z_iload_n 3 dX6_read_109 rfl ?_
                  exact z_iret C dX6_read_110 rfl ⟨_, rfl, Or.inr (Or.inr ⟨⟨by omega, by rw [ux_s]; exact uc21⟩, r7, r8, by rw [ux_s, uy_s]; exact ⟨uq1, Or.inr (Or.inr (by rw [Int.zero_add, ← uq2]; exact uc74))⟩, by rw [uq3]⟩)⟩
        refine Z.eqM (upR_id (k := 7) wQ7) ?_
        refine Z.eqM (upR_id (k := 8) wQ8) ?_
        refine Z.eqM (upR_id (k := 0) wO0) ?_
        exact uL35 _ x3_31 x4_33 Q7 Q8 O0 (Nat.lt_succ_self _) (⟨⟨by omega, fun uk ua ub => absurd ub (by omega), fun uj ua ub => rfl⟩, by omega, by rw [e3_31, Int.add_zero, up_id]⟩)
      ·
        refine z_aload_n 0 dX6_read_24 rfl ?_
        refine z_iconst dX6_read_25 ?_
        refine z_vI dX6_read_26 lX6_190 (by decide) ka0 io0 rfl (ct_X6_found en M O0 wO0 (1)) rfl rfl (by exact Nat.le_of_ble_eq_true rfl) ?_
        exact z_iret C dX6_read_29 rfl ⟨_, rfl, Or.inr (Or.inl ⟨⟨by omega, by rw [ux_s]; exact uc21⟩, rfl, rfl⟩)⟩
    ·
      have ux_s : M (10 + s.toNat) = S2 := by rw [show s.toNat = 2 by omega]; exact wS2
      have uy_s : M (14 + s.toNat) = I2 := by rw [show s.toNat = 2 by omega]; exact wI2
      have uz_s : s.toNat = 2 := by omega
      refine z_aald 2 dX6_read_15 ka9 (by omega) (by decide) ?_
      refine z_astore_n [(0, rf en 0), (1, vi s), (2, rf en 12)] [1, 2, 0] dX6_read_16 (by decide) rfl ?_
      refine z_aload_n 2 dX6_read_17 rfl ?_
      refine z_vI dX6_read_18 lX6_186 (by decide) ka12 io12 rfl (ct_X4_isLost_12 en M S2 wS2 (by omega)) rfl rfl (by exact Nat.le_of_ble_eq_true rfl) ?_
      refine z_ifeq_b (tgt := 30) dX6_read_21 rfl (fun uc21 => ?_) (fun uc21 => ?_)
      ·
        refine z_iconst dX6_read_30 ?_
        refine z_istore_n (fun y => [(0, rf en 0), (1, vi s), (2, rf en 12), (3, vi y)]) [1, 2, 3, 0] dX6_read_31 (by decide) (fun _ => rfl) (fun x3_31 e3_31 => ?_)
        refine z_iconst dX6_read_32 ?_
        refine z_istore (fun y => [(0, rf en 0), (1, vi s), (2, rf en 12), (3, vi x3_31), (4, vi y)]) [1, 2, 3, 4, 0] dX6_read_33 (by decide) (fun _ => rfl) (fun x4_33 e4_33 => ?_)
        have uL35 : ∀ (fu : Nat) (x3 : Int) (x4 : Int) (r7 : Int → Int) (r8 : Int → Int) (r0 : Int → Int), (60 - x4).toNat < fu → (rdP0 I2 0 (S2 1) (sgC Q7 Q8) (O0 8) x3 (sgC r7 r8) ∧ x4 = 2 * x3 ∧ r0 = up O0 8 (O0 8 + x3)) → Z en kA cx mX6_read (upR (upR (upR M 7 r7) 8 r8) 0 r0) 35 [(0, rf en 0), (1, vi s), (2, rf en 12), (3, vi x3), (4, vi x4)] [] := by
          intro fu
          induction fu with
          | zero => intro x3 x4 r7 r8 r0 uhf; exact absurd uhf (Nat.not_lt_zero _)
          | succ fu uih35 =>
            intro x3 x4 r7 r8 r0 uf35 uI35
            obtain ⟨uq1, uq2, uq3⟩ := uI35
            have uqr := uq1.1
            have uo8 : r0 8 = O0 8 + x3 := by rw [uq3, up_s]
            refine z_iload 4 dX6_read_35 rfl ?_
            refine z_iconst dX6_read_37 ?_
            refine z_iadd dX6_read_38 ?_
            refine z_aload_n 2 dX6_read_39 rfl ?_
            refine z_getI (r := S2) 1 rfl dX6_read_40 fX6_193_4 i12_1 ka12 (wS2) ?_
            refine z_icmp_ge (tgt := 109) dX6_read_43 rfl (by omega) (fun uc43 => ?_) (fun uc43 => ?_)
            ·
              refine z_iload_n 3 dX6_read_109 rfl ?_
              exact z_iret C dX6_read_110 rfl ⟨_, rfl, Or.inr (Or.inr ⟨⟨by omega, by rw [ux_s]; exact uc21⟩, r7, r8, by rw [ux_s, uy_s]; exact ⟨uq1, Or.inl (by omega)⟩, by rw [uq3]⟩)⟩
            ·
              refine z_aload_n 0 dX6_read_46 rfl ?_
              refine z_getI (r := r0) 8 rfl dX6_read_47 fX6_177_5 i0_8 ka0 (rfl) ?_
              refine z_bipush dX6_read_50 rfl ?_
              refine z_icmp_ge (tgt := 109) dX6_read_52 rfl (by omega) (fun uc52 => ?_) (fun uc52 => ?_)
              ·
                refine z_iload_n 3 dX6_read_109 rfl ?_
                exact z_iret C dX6_read_110 rfl ⟨_, rfl, Or.inr (Or.inr ⟨⟨by omega, by rw [ux_s]; exact uc21⟩, r7, r8, by rw [ux_s, uy_s]; exact ⟨uq1, Or.inr (Or.inl (by omega))⟩, by rw [uq3]⟩)⟩
              ·
                refine z_aload_n 2 dX6_read_55 rfl ?_
                refine z_getR dX6_read_56 fX6_194_4 i12_2 ka12 ?_
                refine z_iload 4 dX6_read_59 rfl ?_
                refine z_iald (r := I2) dX6_read_61 is16 ka16 (wI2) (by omega) ?_
                refine z_aload_n 2 dX6_read_62 rfl ?_
                refine z_getR dX6_read_63 fX6_194_4 i12_2 ka12 ?_
                refine z_iload 4 dX6_read_66 rfl ?_
                refine z_iconst dX6_read_68 ?_
                refine z_iadd dX6_read_69 ?_
                refine z_iald (r := I2) dX6_read_70 is16 ka16 (wI2) (by omega) ?_
                have ui1 := hI x4 (by omega) (by omega)
                have ui2 := hI (x4 + 1) (by omega) (by omega)
                refine z_sI dX6_read_71 lX6_174 (by decide) (ct_X6_maySee en (upR (upR (upR M 7 r7) 8 r8) 0 r0) _ _ (by omega)) rfl rfl (by exact Nat.le_of_ble_eq_true rfl) ?_
                refine z_ifne_b (tgt := 80) dX6_read_74 rfl (fun uc74 => ?_) (fun uc74 => ?_)
                ·
                  refine z_aload_n 0 dX6_read_80 rfl ?_
                  refine z_aload_n 2 dX6_read_81 rfl ?_
                  refine z_getR dX6_read_82 fX6_194_4 i12_2 ka12 ?_
                  refine z_iload 4 dX6_read_85 rfl ?_
                  refine z_iald (r := I2) dX6_read_87 is16 ka16 (wI2) (by omega) ?_
                  refine z_aload_n 2 dX6_read_88 rfl ?_
                  refine z_getR dX6_read_89 fX6_194_4 i12_2 ka12 ?_
                  refine z_iload 4 dX6_read_92 rfl ?_
                  refine z_iconst dX6_read_94 ?_
                  refine z_iadd dX6_read_95 ?_
                  refine z_iald (r := I2) dX6_read_96 is16 ka16 (wI2) (by omega) ?_
                  refine z_vV dX6_read_97 lX6_180 (by decide) ka0 io0 rfl (ct_X6_seeMore en (upR (upR (upR M 7 r7) 8 r8) 0 r0) r0 r7 r8 rfl rfl rfl _ _ (by omega)) rfl rfl (by exact Nat.le_of_ble_eq_true rfl) ?_
                  rw [uu3 (a := 7) (b0 := 8) (b1 := 0) (by decide) (by decide)]
                  rw [uu2 (a := 8) (b0 := 0) (by decide)]
                  rw [uu1 (a := 0)]
                  refine z_iinc (fun y => [(0, rf en 0), (1, vi s), (2, rf en 12), (3, vi y), (4, vi x4)]) [1, 2, 3, 0, 4] 3 dX6_read_100 rfl (by decide) (fun _ => rfl) (fun x3_100 e3_100 => ?_)
                  refine z_iinc (fun y => [(0, rf en 0), (1, vi s), (2, rf en 12), (3, vi x3_100), (4, vi y)]) [1, 2, 3, 4, 0] 4 dX6_read_103 rfl (by decide) (fun _ => rfl) (fun x4_103 e4_103 => ?_)
                  refine z_goto (tgt := 35) dX6_read_106 rfl ?_
                  exact uih35 x3_100 x4_103 (up r7 (r0 8) (I2 x4)) (up r8 (r0 8) (I2 (x4 + 1))) (up r0 8 (r0 8 + 1)) (by omega) (⟨by rw [e3_100, uo8, uq2]; exact rdP0_s uq1 (by omega) (by omega) (by omega) (by rw [← uq2]; exact uc74), by omega, by rw [uo8, e3_100, uq3, up_up]; congr 1; omega⟩)
                ·
                  refine z_goto (tgt := 109) dX6_read_77 rfl ?_
                  refine z_iload_n 3 dX6_read_109 rfl ?_
                  exact z_iret C dX6_read_110 rfl ⟨_, rfl, Or.inr (Or.inr ⟨⟨by omega, by rw [ux_s]; exact uc21⟩, r7, r8, by rw [ux_s, uy_s]; exact ⟨uq1, Or.inr (Or.inr (by rw [Int.zero_add, ← uq2]; exact uc74))⟩, by rw [uq3]⟩)⟩
        refine Z.eqM (upR_id (k := 7) wQ7) ?_
        refine Z.eqM (upR_id (k := 8) wQ8) ?_
        refine Z.eqM (upR_id (k := 0) wO0) ?_
        exact uL35 _ x3_31 x4_33 Q7 Q8 O0 (Nat.lt_succ_self _) (⟨⟨by omega, fun uk ua ub => absurd ub (by omega), fun uj ua ub => rfl⟩, by omega, by rw [e3_31, Int.add_zero, up_id]⟩)
      ·
        refine z_aload_n 0 dX6_read_24 rfl ?_
        refine z_iconst dX6_read_25 ?_
        refine z_vI dX6_read_26 lX6_190 (by decide) ka0 io0 rfl (ct_X6_found en M O0 wO0 (1)) rfl rfl (by exact Nat.le_of_ble_eq_true rfl) ?_
        exact z_iret C dX6_read_29 rfl ⟨_, rfl, Or.inr (Or.inl ⟨⟨by omega, by rw [ux_s]; exact uc21⟩, rfl, rfl⟩)⟩
    ·
      have ux_s : M (10 + s.toNat) = S3 := by rw [show s.toNat = 3 by omega]; exact wS3
      have uy_s : M (14 + s.toNat) = I3 := by rw [show s.toNat = 3 by omega]; exact wI3
      have uz_s : s.toNat = 3 := by omega
      refine z_aald 3 dX6_read_15 ka9 (by omega) (by decide) ?_
      refine z_astore_n [(0, rf en 0), (1, vi s), (2, rf en 13)] [1, 2, 0] dX6_read_16 (by decide) rfl ?_
      refine z_aload_n 2 dX6_read_17 rfl ?_
      refine z_vI dX6_read_18 lX6_186 (by decide) ka13 io13 rfl (ct_X4_isLost_13 en M S3 wS3 (by omega)) rfl rfl (by exact Nat.le_of_ble_eq_true rfl) ?_
      refine z_ifeq_b (tgt := 30) dX6_read_21 rfl (fun uc21 => ?_) (fun uc21 => ?_)
      ·
        refine z_iconst dX6_read_30 ?_
        refine z_istore_n (fun y => [(0, rf en 0), (1, vi s), (2, rf en 13), (3, vi y)]) [1, 2, 3, 0] dX6_read_31 (by decide) (fun _ => rfl) (fun x3_31 e3_31 => ?_)
        refine z_iconst dX6_read_32 ?_
        refine z_istore (fun y => [(0, rf en 0), (1, vi s), (2, rf en 13), (3, vi x3_31), (4, vi y)]) [1, 2, 3, 4, 0] dX6_read_33 (by decide) (fun _ => rfl) (fun x4_33 e4_33 => ?_)
        have uL35 : ∀ (fu : Nat) (x3 : Int) (x4 : Int) (r7 : Int → Int) (r8 : Int → Int) (r0 : Int → Int), (60 - x4).toNat < fu → (rdP0 I3 0 (S3 1) (sgC Q7 Q8) (O0 8) x3 (sgC r7 r8) ∧ x4 = 2 * x3 ∧ r0 = up O0 8 (O0 8 + x3)) → Z en kA cx mX6_read (upR (upR (upR M 7 r7) 8 r8) 0 r0) 35 [(0, rf en 0), (1, vi s), (2, rf en 13), (3, vi x3), (4, vi x4)] [] := by
          intro fu
          induction fu with
          | zero => intro x3 x4 r7 r8 r0 uhf; exact absurd uhf (Nat.not_lt_zero _)
          | succ fu uih35 =>
            intro x3 x4 r7 r8 r0 uf35 uI35
            obtain ⟨uq1, uq2, uq3⟩ := uI35
            have uqr := uq1.1
            have uo8 : r0 8 = O0 8 + x3 := by rw [uq3, up_s]
            refine z_iload 4 dX6_read_35 rfl ?_
            refine z_iconst dX6_read_37 ?_
            refine z_iadd dX6_read_38 ?_
            refine z_aload_n 2 dX6_read_39 rfl ?_
            refine z_getI (r := S3) 1 rfl dX6_read_40 fX6_193_4 i13_1 ka13 (wS3) ?_
            refine z_icmp_ge (tgt := 109) dX6_read_43 rfl (by omega) (fun uc43 => ?_) (fun uc43 => ?_)
            ·
              refine z_iload_n 3 dX6_read_109 rfl ?_
              exact z_iret C dX6_read_110 rfl ⟨_, rfl, Or.inr (Or.inr ⟨⟨by omega, by rw [ux_s]; exact uc21⟩, r7, r8, by rw [ux_s, uy_s]; exact ⟨uq1, Or.inl (by omega)⟩, by rw [uq3]⟩)⟩
            ·
              refine z_aload_n 0 dX6_read_46 rfl ?_
              refine z_getI (r := r0) 8 rfl dX6_read_47 fX6_177_5 i0_8 ka0 (rfl) ?_
              refine z_bipush dX6_read_50 rfl ?_
              refine z_icmp_ge (tgt := 109) dX6_read_52 rfl (by omega) (fun uc52 => ?_) (fun uc52 => ?_)
              ·
                refine z_iload_n 3 dX6_read_109 rfl ?_
                exact z_iret C dX6_read_110 rfl ⟨_, rfl, Or.inr (Or.inr ⟨⟨by omega, by rw [ux_s]; exact uc21⟩, r7, r8, by rw [ux_s, uy_s]; exact ⟨uq1, Or.inr (Or.inl (by omega))⟩, by rw [uq3]⟩)⟩
              ·
                refine z_aload_n 2 dX6_read_55 rfl ?_
                refine z_getR dX6_read_56 fX6_194_4 i13_2 ka13 ?_
                refine z_iload 4 dX6_read_59 rfl ?_
                refine z_iald (r := I3) dX6_read_61 is17 ka17 (wI3) (by omega) ?_
                refine z_aload_n 2 dX6_read_62 rfl ?_
                refine z_getR dX6_read_63 fX6_194_4 i13_2 ka13 ?_
                refine z_iload 4 dX6_read_66 rfl ?_
                refine z_iconst dX6_read_68 ?_
                refine z_iadd dX6_read_69 ?_
                refine z_iald (r := I3) dX6_read_70 is17 ka17 (wI3) (by omega) ?_
                have ui1 := hI x4 (by omega) (by omega)
                have ui2 := hI (x4 + 1) (by omega) (by omega)
                refine z_sI dX6_read_71 lX6_174 (by decide) (ct_X6_maySee en (upR (upR (upR M 7 r7) 8 r8) 0 r0) _ _ (by omega)) rfl rfl (by exact Nat.le_of_ble_eq_true rfl) ?_
                refine z_ifne_b (tgt := 80) dX6_read_74 rfl (fun uc74 => ?_) (fun uc74 => ?_)
                ·
                  refine z_aload_n 0 dX6_read_80 rfl ?_
                  refine z_aload_n 2 dX6_read_81 rfl ?_
                  refine z_getR dX6_read_82 fX6_194_4 i13_2 ka13 ?_
                  refine z_iload 4 dX6_read_85 rfl ?_
                  refine z_iald (r := I3) dX6_read_87 is17 ka17 (wI3) (by omega) ?_
                  refine z_aload_n 2 dX6_read_88 rfl ?_
                  refine z_getR dX6_read_89 fX6_194_4 i13_2 ka13 ?_
                  refine z_iload 4 dX6_read_92 rfl ?_
                  refine z_iconst dX6_read_94 ?_
                  refine z_iadd dX6_read_95 ?_
                  refine z_iald (r := I3) dX6_read_96 is17 ka17 (wI3) (by omega) ?_
                  refine z_vV dX6_read_97 lX6_180 (by decide) ka0 io0 rfl (ct_X6_seeMore en (upR (upR (upR M 7 r7) 8 r8) 0 r0) r0 r7 r8 rfl rfl rfl _ _ (by omega)) rfl rfl (by exact Nat.le_of_ble_eq_true rfl) ?_
                  rw [uu3 (a := 7) (b0 := 8) (b1 := 0) (by decide) (by decide)]
                  rw [uu2 (a := 8) (b0 := 0) (by decide)]
                  rw [uu1 (a := 0)]
                  refine z_iinc (fun y => [(0, rf en 0), (1, vi s), (2, rf en 13), (3, vi y), (4, vi x4)]) [1, 2, 3, 0, 4] 3 dX6_read_100 rfl (by decide) (fun _ => rfl) (fun x3_100 e3_100 => ?_)
                  refine z_iinc (fun y => [(0, rf en 0), (1, vi s), (2, rf en 13), (3, vi x3_100), (4, vi y)]) [1, 2, 3, 4, 0] 4 dX6_read_103 rfl (by decide) (fun _ => rfl) (fun x4_103 e4_103 => ?_)
                  refine z_goto (tgt := 35) dX6_read_106 rfl ?_
                  exact uih35 x3_100 x4_103 (up r7 (r0 8) (I3 x4)) (up r8 (r0 8) (I3 (x4 + 1))) (up r0 8 (r0 8 + 1)) (by omega) (⟨by rw [e3_100, uo8, uq2]; exact rdP0_s uq1 (by omega) (by omega) (by omega) (by rw [← uq2]; exact uc74), by omega, by rw [uo8, e3_100, uq3, up_up]; congr 1; omega⟩)
                ·
                  refine z_goto (tgt := 109) dX6_read_77 rfl ?_
                  refine z_iload_n 3 dX6_read_109 rfl ?_
                  exact z_iret C dX6_read_110 rfl ⟨_, rfl, Or.inr (Or.inr ⟨⟨by omega, by rw [ux_s]; exact uc21⟩, r7, r8, by rw [ux_s, uy_s]; exact ⟨uq1, Or.inr (Or.inr (by rw [Int.zero_add, ← uq2]; exact uc74))⟩, by rw [uq3]⟩)⟩
        refine Z.eqM (upR_id (k := 7) wQ7) ?_
        refine Z.eqM (upR_id (k := 8) wQ8) ?_
        refine Z.eqM (upR_id (k := 0) wO0) ?_
        exact uL35 _ x3_31 x4_33 Q7 Q8 O0 (Nat.lt_succ_self _) (⟨⟨by omega, fun uk ua ub => absurd ub (by omega), fun uj ua ub => rfl⟩, by omega, by rw [e3_31, Int.add_zero, up_id]⟩)
      ·
        refine z_aload_n 0 dX6_read_24 rfl ?_
        refine z_iconst dX6_read_25 ?_
        refine z_vI dX6_read_26 lX6_190 (by decide) ka0 io0 rfl (ct_X6_found en M O0 wO0 (1)) rfl rfl (by exact Nat.le_of_ble_eq_true rfl) ?_
        exact z_iret C dX6_read_29 rfl ⟨_, rfl, Or.inr (Or.inl ⟨⟨by omega, by rw [ux_s]; exact uc21⟩, rfl, rfl⟩)⟩
  ·
    refine z_bipush dX6_read_7 rfl ?_
    exact z_iret C dX6_read_9 rfl ⟨_, rfl, Or.inl ⟨by omega, rfl, rfl⟩⟩
