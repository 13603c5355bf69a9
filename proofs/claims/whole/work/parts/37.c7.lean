/-! plans, guesses -/
def whn (y : Int) : Int := if y = 9999 then 1000 else y
/-- a way takes 63 days at most, or there is none -/
abbrev w63 (c : Int → Int) : Prop := ∀ j, 0 ≤ j → j < 64 → (0 ≤ c j ∧ c j ≤ 63) ∨ c j = 1000
theorem cW_63 {c : Int → Int} (h : w63 c) {j : Int} (h1 : 0 ≤ j) (h2 : j < 64) : (0 ≤ cW c j ∧ cW c j ≤ 63) ∨ cW c j = 9999 := by
  have := h j h1 h2
  unfold cW; split <;> omega
/-- so nobody is crowned behind day 145 -/
theorem cr_145 {T c : Int → Int} (hT : tOK T) (h : w63 c) : (0 ≤ crO T (cW c) ∧ crO T (cW c) ≤ 145) ∨ crO T (cW c) = 9999 := by
  have h1 := cW_63 h (j := 8 * T 0 + T 3) (by omega) (by omega)
  have h2 := cW_63 h (j := 8 * T 3 + T 4) (by omega) (by omega)
  unfold crO hA; omega
def PLR (T V P : Int → Int) (np : Int) (n x2 x3 x4 : Int) : Prop := (n = 0 ∧ x2 = 0 ∧ x3 = 1000 ∧ x4 = 1000) ∨ (0 < n ∧ (x2 = (plS T V P np n.toNat).1 ∧ 0 ≤ x2 ∧ x2 ≤ 7) ∧ (x3 = (plS T V P np n.toNat).2.1 ∧ 0 ≤ x3 ∧ x3 ≤ 8) ∧ x4 = whn (plS T V P np n.toNat).2.2 ∧ ((0 ≤ (plS T V P np n.toNat).2.2 ∧ (plS T V P np n.toNat).2.2 ≤ 145) ∨ (plS T V P np n.toNat).2.2 = 9999))
theorem plS_s (T V P : Int → Int) (np : Int) {n : Int} (h : 0 ≤ n) : plS T V P np (n + 1).toNat = if (plS T V P np n.toNat).1 = -1 ∨ wns (up T 4 n) V P np < (plS T V P np n.toNat).2.1 ∨ (wns (up T 4 n) V P np = (plS T V P np n.toNat).2.1 ∧ crO (up T 4 n) V < (plS T V P np n.toNat).2.2) then (n, wns (up T 4 n) V P np, crO (up T 4 n) V) else plS T V P np n.toNat := by rw [tnS h, plS, tnC h]
theorem PLR_y {T V P : Int → Int} {np n x2 x3 x4 w y : Int} (hn : 0 ≤ n ∧ n ≤ 7) (h : PLR T V P np n x2 x3 x4) (hw : w = wns (up T 4 n) V P np) (hw2 : 0 ≤ w ∧ w ≤ 8) (hc : (0 ≤ crO (up T 4 n) V ∧ crO (up T 4 n) V ≤ 145) ∨ crO (up T 4 n) V = 9999) (hy : y = whn (crO (up T 4 n) V)) (c : w < x3 ∨ (w = x3 ∧ y < x4)) : PLR T V P np (n + 1) n w y := by
  refine Or.inr ⟨by omega, ?_⟩
  have e : plS T V P np (n + 1).toNat = (n, wns (up T 4 n) V P np, crO (up T 4 n) V) := by
    rw [plS_s T V P np hn.1]
    refine if_pos ?_
    rcases h with ⟨a, -⟩ | ⟨a, b, b2, b3, b4⟩
    · left; subst a; rfl
    · right
      rw [← hw]
      rcases c with c | c
      · left; omega
      · right
        refine ⟨by omega, ?_⟩
        have c2 := c.2
        rw [hy, b3] at c2
        unfold whn at c2
        split at c2 <;> split at c2 <;> omega
  rw [e]
  exact ⟨⟨rfl, hn.1, hn.2⟩, ⟨hw, hw2.1, hw2.2⟩, hy, hc⟩
theorem PLR_n {T V P : Int → Int} {np n x2 x3 x4 w y : Int} (hn : 0 ≤ n ∧ n ≤ 7) (h : PLR T V P np n x2 x3 x4) (hw : w = wns (up T 4 n) V P np) (hw2 : 0 ≤ w ∧ w ≤ 8) (hc : (0 ≤ crO (up T 4 n) V ∧ crO (up T 4 n) V ≤ 145) ∨ crO (up T 4 n) V = 9999) (hy : y = whn (crO (up T 4 n) V)) (c : ¬ (w < x3 ∨ (w = x3 ∧ y < x4))) : PLR T V P np (n + 1) x2 x3 x4 := by
  rcases h with ⟨a, b⟩ | ⟨a, b, b2, b3, b4⟩
  · omega
  · have e : plS T V P np (n + 1).toNat = plS T V P np n.toNat := by
      rw [plS_s T V P np hn.1]
      refine if_neg ?_
      rw [← hw]
      rintro (d | d | d)
      · omega
      · omega
      · refine c (Or.inr ⟨by omega, ?_⟩)
        rw [hy, b3]
        unfold whn
        split <;> split <;> omega
    refine Or.inr ⟨by omega, ?_⟩
    rw [e]
    exact ⟨b, b2, b3, b4⟩
def LTR (T V P : Int → Int) (np : Int) (n x2 x3 : Int) : Prop := (n = 0 ∧ x2 = 0 ∧ x3 = 1000) ∨ (0 < n ∧ (x2 = (ltS T V P np n.toNat).1 ∧ 0 ≤ x2 ∧ x2 ≤ 9) ∧ (x3 = (ltS T V P np n.toNat).2 ∧ 0 ≤ x3 ∧ x3 ≤ 8))
theorem ltS_s (T V P : Int → Int) (np : Int) {n : Int} (h : 0 ≤ n) : ltS T V P np (n + 1).toNat = if (ltS T V P np n.toNat).1 = -1 ∨ wns (up T 2 n) V P np < (ltS T V P np n.toNat).2 then (n, wns (up T 2 n) V P np) else ltS T V P np n.toNat := by rw [tnS h, ltS, tnC h]
theorem LTR_y {T V P : Int → Int} {np n x2 x3 w : Int} (hn : 0 ≤ n ∧ n ≤ 9) (h : LTR T V P np n x2 x3) (hw : w = wns (up T 2 n) V P np) (hw2 : 0 ≤ w ∧ w ≤ 8) (c : w < x3) : LTR T V P np (n + 1) n w := by
  refine Or.inr ⟨by omega, ?_⟩
  have e : ltS T V P np (n + 1).toNat = (n, wns (up T 2 n) V P np) := by
    rw [ltS_s T V P np hn.1]
    refine if_pos ?_
    rcases h with ⟨a, -⟩ | ⟨a, b, b2⟩
    · left; subst a; rfl
    · right; omega
  rw [e]
  exact ⟨⟨rfl, hn.1, hn.2⟩, hw, hw2.1, hw2.2⟩
theorem LTR_n {T V P : Int → Int} {np n x2 x3 w : Int} (hn : 0 ≤ n ∧ n ≤ 9) (h : LTR T V P np n x2 x3) (hw : w = wns (up T 2 n) V P np) (hw2 : 0 ≤ w ∧ w ≤ 8) (c : x3 ≤ w) : LTR T V P np (n + 1) x2 x3 := by
  rcases h with ⟨a, b⟩ | ⟨a, b, b2⟩
  · omega
  · have e : ltS T V P np (n + 1).toNat = ltS T V P np n.toNat := by
      rw [ltS_s T V P np hn.1]
      refine if_neg ?_
      omega
    refine Or.inr ⟨by omega, ?_⟩
    rw [e]
    exact ⟨b, b2⟩
theorem twS_cong {E F A S : Int → Int} : ∀ n : Nat, (∀ p : Int, 0 ≤ p → p < n → E p = F p) → twS E A S n = twS F A S n
  | 0, _ => rfl
  | n + 1, h => by rw [twS, twS, twS_cong n (fun p a b => h p a (by omega)), h n (by omega) (by omega)]
/-- who and won, as one row -/
def sgC (Q R : Int → Int) (j : Int) : Int := if j % 2 = 0 then Q (j / 2) else R (j / 2)
theorem sgC_0 (Q R : Int → Int) (k : Int) : sgC Q R (2 * k) = Q k := by unfold sgC; rw [if_pos (by omega)]; congr 1; omega
theorem sgC_1 (Q R : Int → Int) (k : Int) : sgC Q R (2 * k + 1) = R k := by unfold sgC; rw [if_neg (by omega)]; congr 1; omega
theorem snO_z {T W P : Int → Int} {np : Int} {Sg : Int → Int} {k : Nat} (h : snO T W P np Sg k ≠ 1) : ∀ j : Nat, snO T W P np Sg (k + j) ≠ 1
  | 0 => h
  | j + 1 => by
    rw [show k + (j + 1) = k + j + 1 from rfl, snO, if_neg (fun z => snO_z h j z.1)]
    decide
theorem snO_C {T W P : Int → Int} {np : Int} {Q R : Int → Int} {k : Int} (hk : 0 ≤ k) (h1 : snO T W P np (sgC Q R) k.toNat = 1) (hQ : 0 ≤ Q k ∧ Q k ≤ 7) (hR : 0 ≤ R k ∧ R k ≤ 1) : snO T W P np (sgC Q R) (k + 1).toNat = 1 ↔ (enX T W P np (Q k) = 1 ↔ R k = 1) := by
  have e : (if (0 ≤ Q k ∧ Q k ≤ np - 1) ∧ enO T W P np (Q k) = 1 then (1 : Int) else 0) = if enX T W P np (Q k) = 1 then 1 else 0 := by
    unfold enX
    by_cases q : Q k < np
    · rw [if_pos q]
      by_cases z : enO T W P np (Q k) = 1
      · rw [if_pos ⟨⟨hQ.1, by omega⟩, z⟩, if_pos z]
      · rw [if_neg (fun y => z y.2), if_neg z]
    · rw [if_neg q, if_neg (show ¬ ((0 ≤ Q k ∧ Q k ≤ np - 1) ∧ enO T W P np (Q k) = 1) by omega), if_neg (by decide)]
  rw [tnS hk, snO, tnC hk, sgC_0, sgC_1, h1, e]
  have y : R k = 0 ∨ R k = 1 := by omega
  rcases y with y | y <;> rw [y] <;> by_cases z : enX T W P np (Q k) = 1 <;> simp [z]
set_option maxRecDepth 100000 in
theorem ct_X6_swear (en : zE) (M : zW) (O2 : Int → Int) (T : Int → Int) (T4 : Int → Int) (O5 : Int → Int) (c : Int → Int) (A : Int → Int) (G : Int → Int) (K : Int → Int) (H : Int → Int) (S : Int → Int) (P0 : Int → Int) (Hd : Int → Int) (Lw : Int → Int) (C0 : Int → Int) (E0 : Int → Int) (R0 : Int → Int) (wO2 : M 2 = O2) (wT : M 3 = T) (wT4 : M 4 = T4) (wO5 : M 5 = O5) (wc : M 22 = c) (wA : M 24 = A) (wG : M 25 = G) (wK : M 26 = K) (wH : M 27 = H) (wS : M 28 = S) (wP0 : M 29 = P0) (wHd : M 30 = Hd) (wLw : M 31 = Lw) (wC0 : M 32 = C0) (wE0 : M 33 = E0) (wR0 : M 34 = R0) (wh : Int) (h0 : -2147483648 ≤ wh ∧ wh < 2147483648) (hT : tOK T) (hc : wB c) (hP : (0 ≤ O2 4 ∧ O2 4 ≤ 8) ∧ pOK (tP A G K H S) (O2 4)) : Ct en kA yX6_swear mX6_swear [rf en 0, vi wh] M (pX (fun x N => x = (if 0 ≤ wh ∧ wh ≤ 1 then (if wh = 0 then (pcw (twS (enX (up T 5 0) (cW c) (tP A G K H S) (O2 4)) A S 8) : Int) else (twS (enX (up T 5 0) (cW c) (tP A G K H S) (O2 4)) A S 8 : Int)) else -2) ∧ kc M N)) := by
  refine Ct.of (by decide +kernel) rfl [(0, rf en 0), (1, vi wh)] rfl (Nat.le_of_ble_eq_true rfl) (fun cx C => ?_)
  refine z_iload_n 1 dX6_swear_0 rfl ?_
  refine z_iconst dX6_swear_1 ?_
  refine z_sI dX6_swear_2 lX6_68 (by decide) (ct_X6_within en M _ (1) (by omega)) rfl rfl (by exact Nat.le_of_ble_eq_true rfl) ?_
  refine z_ifne_b (tgt := 11) dX6_swear_5 rfl (fun uc5 => ?_) (fun uc5 => ?_)
  ·
    refine z_aload_n 0 dX6_swear_11 rfl ?_
    refine z_iconst dX6_swear_12 ?_
    refine z_iconst dX6_swear_13 ?_
    refine z_vN dX6_swear_14 lX6_161 (by decide) ka0 io0 rfl (ct_X6_followWith en M O2 T T4 O5 c A G K H S P0 Hd Lw C0 E0 R0 wO2 wT wT4 wO5 wc wA wG wK wH wS wP0 wHd wLw wC0 wE0 wR0 (5) (0) (by decide) (tOK_5 hT (v := 0) (by omega)) hc hP) rfl rfl (by exact Nat.le_of_ble_eq_true rfl) (fun uN14 uh14 => ?_)
    obtain ⟨r4_14, r5_14, r29_14, r30_14, r31_14, r32_14, r33_14, r34_14, uF, rfl⟩ := uh14
    have uFr := Flw.rg (tOK_5 hT (v := 0) (by omega)) hc hP uF
    obtain ⟨uf1, uf2, uf3, uf4, uf5, uf6, uf7, uf8⟩ := id uF
    have uw5 : ∀ uj, 0 ≤ uj → uj < 8 → enX (up T 5 0) (cW c) (tP A G K H S) (O2 4) uj = 1 → (0 ≤ S uj ∧ S uj ≤ 7) ∧ (0 ≤ A (S uj) ∧ A (S uj) ≤ 7) := fun uj ua ub uz => by have uz2 := enX_win (tOK_5 hT (v := 0) (by omega)) hc hP.2 ⟨ua, ub⟩ uz; have uz3 := tP_np hP.2 (q := S uj) (by omega) (by omega); omega
    have utw : ∀ uj, 0 ≤ uj → uj < 8 → (0 ≤ r33_14 uj ∧ r33_14 uj ≤ 3) ∧ (r33_14 uj = 1 → (0 ≤ S uj ∧ S uj ≤ 7) ∧ (0 ≤ A (S uj) ∧ A (S uj) ≤ 7)) := fun uj ua ub => ⟨(uFr.2.1 uj ua ub).2, fun uz => uw5 uj ua ub (uf4 uj ua ub ▸ uz)⟩
    refine z_aload_n 0 dX6_swear_17 rfl ?_
    refine z_getR dX6_swear_18 fX6_38_5 i0_4 ka0 ?_
    refine z_vI dX6_swear_21 lX6_165 (by decide) ka5 io5 rfl (ct_X1_townsOfWins en (upR (upR (upR (upR (upR (upR (upR (upR M 4 r4_14) 30 r30_14) 5 r5_14) 31 r31_14) 32 r32_14) 33 r33_14) 34 r34_14) 29 r29_14) A S r33_14 wA wS rfl utw) rfl rfl (by exact Nat.le_of_ble_eq_true rfl) ?_
    refine z_istore_n (fun y => [(0, rf en 0), (1, vi wh), (2, vi y)]) [1, 2, 0] dX6_swear_24 (by decide) (fun _ => rfl) (fun x2_24 e2_24 => ?_)
    have utl := twS_lt (E := r33_14) (A := A) (S := S) (fun uj ua ub uz => ((utw uj ua ub).2 uz).2) 8 (by omega)
    have ute : twS r33_14 A S 8 = twS (enX (up T 5 0) (cW c) (tP A G K H S) (O2 4)) A S 8 := twS_cong 8 (fun uj ua ub => uf4 uj ua ub)
    refine z_iload_n 1 dX6_swear_25 rfl ?_
    refine z_if_ne (tgt := 36) dX6_swear_26 rfl (by omega) (fun uc26 => ?_) (fun uc26 => ?_)
    ·
      refine z_iload_n 2 dX6_swear_36 rfl ?_
      exact z_iret C dX6_swear_37 rfl ⟨_, rfl, ⟨by refine Eq.trans ?_ (if_pos (show 0 ≤ wh ∧ wh ≤ 1 by omega)).symm; rw [if_neg uc26, e2_24, ute], (kc_u (by decide) (kc_u (by decide) (kc_u (by decide) (kc_u (by decide) (kc_u (by decide) (kc_u (by decide) (kc_u (by decide) (kc_u (by decide) (kc_r M)))))))))⟩⟩
    ·
      refine z_iload_n 2 dX6_swear_29 rfl ?_
      refine z_sI dX6_swear_30 lX6_169 (by decide) (ct_J6_bitCount_0f7a4 en (upR (upR (upR (upR (upR (upR (upR (upR M 4 r4_14) 30 r30_14) 5 r5_14) 31 r31_14) 32 r32_14) 33 r33_14) 34 r34_14) 29 r29_14) _ (by omega)) rfl rfl (by exact Nat.le_of_ble_eq_true rfl) ?_
      refine z_goto (tgt := 37) dX6_swear_33 rfl ?_
      exact z_iret C dX6_swear_37 rfl ⟨_, rfl, ⟨by refine Eq.trans ?_ (if_pos (show 0 ≤ wh ∧ wh ≤ 1 by omega)).symm; rw [if_pos uc26, e2_24, Int.toNat_natCast, ute], (kc_u (by decide) (kc_u (by decide) (kc_u (by decide) (kc_u (by decide) (kc_u (by decide) (kc_u (by decide) (kc_u (by decide) (kc_u (by decide) (kc_r M)))))))))⟩⟩
  ·
    refine z_bipush dX6_swear_8 rfl ?_
    exact z_iret C dX6_swear_10 rfl ⟨_, rfl, ⟨(if_neg (by omega)).symm, (kc_r M)⟩⟩
set_option maxRecDepth 100000 in
theorem ct_X6_place (en : zE) (M : zW) (O2 : Int → Int) (T : Int → Int) (T4 : Int → Int) (O5 : Int → Int) (c : Int → Int) (A : Int → Int) (G : Int → Int) (K : Int → Int) (H : Int → Int) (S : Int → Int) (P0 : Int → Int) (Hd : Int → Int) (Lw : Int → Int) (C0 : Int → Int) (E0 : Int → Int) (R0 : Int → Int) (wO2 : M 2 = O2) (wT : M 3 = T) (wT4 : M 4 = T4) (wO5 : M 5 = O5) (wc : M 22 = c) (wA : M 24 = A) (wG : M 25 = G) (wK : M 26 = K) (wH : M 27 = H) (wS : M 28 = S) (wP0 : M 29 = P0) (wHd : M 30 = Hd) (wLw : M 31 = Lw) (wC0 : M 32 = C0) (wE0 : M 33 = E0) (wR0 : M 34 = R0) (wh : Int) (h0 : -2147483648 ≤ wh ∧ wh < 2147483648) (hT : tOK T) (hc : wB c) (hP : (0 ≤ O2 4 ∧ O2 4 ≤ 8) ∧ pOK (tP A G K H S) (O2 4)) (h6 : w63 c) : Ct en kA yX6_place mX6_place [rf en 0, vi wh] M (pX (fun x N => x = (if 0 ≤ wh ∧ wh ≤ 1 then (if wh = 0 then (plS T (cW c) (tP A G K H S) (O2 4) 8).1 else (plS T (cW c) (tP A G K H S) (O2 4) 8).2.1) else -2) ∧ kc M N)) := by
  refine Ct.of (by decide +kernel) rfl [(0, rf en 0), (1, vi wh)] rfl (Nat.le_of_ble_eq_true rfl) (fun cx C => ?_)
  refine z_iload_n 1 dX6_place_0 rfl ?_
  refine z_iconst dX6_place_1 ?_
  refine z_sI dX6_place_2 lX6_68 (by decide) (ct_X6_within en M _ (1) (by omega)) rfl rfl (by exact Nat.le_of_ble_eq_true rfl) ?_
  refine z_ifne_b (tgt := 11) dX6_place_5 rfl (fun uc5 => ?_) (fun uc5 => ?_)
  ·
    refine z_iconst dX6_place_11 ?_
    refine z_istore_n (fun y => [(0, rf en 0), (1, vi wh), (2, vi y)]) [1, 2, 0] dX6_place_12 (by decide) (fun _ => rfl) (fun x2_12 e2_12 => ?_)
    refine z_sipush dX6_place_13 rfl ?_
    refine z_istore_n (fun y => [(0, rf en 0), (1, vi wh), (2, vi x2_12), (3, vi y)]) [1, 2, 3, 0] dX6_place_16 (by decide) (fun _ => rfl) (fun x3_16 e3_16 => ?_)
    refine z_sipush dX6_place_17 rfl ?_
    refine z_istore (fun y => [(0, rf en 0), (1, vi wh), (2, vi x2_12), (3, vi x3_16), (4, vi y)]) [1, 2, 3, 4, 0] dX6_place_20 (by decide) (fun _ => rfl) (fun x4_20 e4_20 => ?_)
    refine z_iconst dX6_place_22 ?_
    refine z_istore (fun y => [(0, rf en 0), (1, vi wh), (2, vi x2_12), (3, vi x3_16), (4, vi x4_20), (5, vi y)]) [1, 2, 3, 4, 5, 0] dX6_place_23 (by decide) (fun _ => rfl) (fun x5_23 e5_23 => ?_)
    have uL25 : ∀ (fu : Nat) (x2 : Int) (x3 : Int) (x4 : Int) (x5 : Int) (r4 : Int → Int) (r5 : Int → Int) (r29 : Int → Int) (r30 : Int → Int) (r31 : Int → Int) (r32 : Int → Int) (r33 : Int → Int) (r34 : Int → Int), (8 - x5).toNat < fu → (0 ≤ x5 ∧ x5 ≤ 8 ∧ PLR T (cW c) (tP A G K H S) (O2 4) x5 x2 x3 x4) → Z en kA cx mX6_place (upR (upR (upR (upR (upR (upR (upR (upR M 4 r4) 30 r30) 5 r5) 31 r31) 32 r32) 33 r33) 34 r34) 29 r29) 25 [(0, rf en 0), (1, vi wh), (2, vi x2), (3, vi x3), (4, vi x4), (5, vi x5)] [] := by
      intro fu
      induction fu with
      | zero => intro x2 x3 x4 x5 r4 r5 r29 r30 r31 r32 r33 r34 uhf; exact absurd uhf (Nat.not_lt_zero _)
      | succ fu uih25 =>
        intro x2 x3 x4 x5 r4 r5 r29 r30 r31 r32 r33 r34 uf25 uI25
        obtain ⟨uq1, uq2, uq3⟩ := uI25
        have uqr : (0 ≤ x2 ∧ x2 ≤ 7) ∧ (0 ≤ x3 ∧ x3 ≤ 1000) ∧ (0 ≤ x4 ∧ x4 ≤ 1000) := by rcases uq3 with uz | uz; omega; (obtain ⟨ua, ub, uc, ud, ue⟩ := uz; unfold whn at ud; split at ud <;> omega)
        refine z_iload 5 dX6_place_25 rfl ?_
        refine z_bipush dX6_place_27 rfl ?_
        refine z_icmp_ge (tgt := 115) dX6_place_29 rfl (by omega) (fun uc29 => ?_) (fun uc29 => ?_)
        ·
          refine z_iload_n 1 dX6_place_115 rfl ?_
          refine z_if_ne (tgt := 123) dX6_place_116 rfl (by omega) (fun uc116 => ?_) (fun uc116 => ?_)
          ·
            refine z_iload_n 3 dX6_place_123 rfl ?_
            exact z_iret C dX6_place_124 rfl ⟨_, rfl, ⟨by refine Eq.trans ?_ (if_pos (show 0 ≤ wh ∧ wh ≤ 1 by omega)).symm; rcases uq3 with uz | ⟨ua, ub, uc, ud⟩; omega; rw [show x5 = 8 by omega] at ub uc; rw [if_neg uc116]; exact uc.1, (kc_u (by decide) (kc_u (by decide) (kc_u (by decide) (kc_u (by decide) (kc_u (by decide) (kc_u (by decide) (kc_u (by decide) (kc_u (by decide) (kc_r M)))))))))⟩⟩
          ·
            refine z_iload_n 2 dX6_place_119 rfl ?_
            refine z_goto (tgt := 124) dX6_place_120 rfl ?_
            exact z_iret C dX6_place_124 rfl ⟨_, rfl, ⟨by refine Eq.trans ?_ (if_pos (show 0 ≤ wh ∧ wh ≤ 1 by omega)).symm; rcases uq3 with uz | ⟨ua, ub, uc, ud⟩; omega; rw [show x5 = 8 by omega] at ub uc; rw [if_pos uc116]; exact ub.1, (kc_u (by decide) (kc_u (by decide) (kc_u (by decide) (kc_u (by decide) (kc_u (by decide) (kc_u (by decide) (kc_u (by decide) (kc_u (by decide) (kc_r M)))))))))⟩⟩
        ·
          refine z_aload_n 0 dX6_place_32 rfl ?_
          refine z_iconst dX6_place_33 ?_
          refine z_iload 5 dX6_place_34 rfl ?_
          refine z_vN dX6_place_36 lX6_161 (by decide) ka0 io0 rfl (ct_X6_followWith en (upR (upR (upR (upR (upR (upR (upR (upR M 4 r4) 30 r30) 5 r5) 31 r31) 32 r32) 33 r33) 34 r34) 29 r29) O2 T r4 r5 c A G K H S r29 r30 r31 r32 r33 r34 wO2 wT rfl rfl wc wA wG wK wH wS rfl rfl rfl rfl rfl rfl (4) _ (by decide) (tOK_4 hT (v := x5) (by omega)) hc hP) rfl rfl (by exact Nat.le_of_ble_eq_true rfl) (fun uN36 uh36 => ?_)
          obtain ⟨r4_36, r5_36, r29_36, r30_36, r31_36, r32_36, r33_36, r34_36, uF, rfl⟩ := uh36
          rw [uu8 (a := 4) (b0 := 30) (b1 := 5) (b2 := 31) (b3 := 32) (b4 := 33) (b5 := 34) (b6 := 29) (by decide) (by decide) (by decide) (by decide) (by decide) (by decide) (by decide)]
          rw [uu7 (a := 30) (b0 := 5) (b1 := 31) (b2 := 32) (b3 := 33) (b4 := 34) (b5 := 29) (by decide) (by decide) (by decide) (by decide) (by decide) (by decide)]
          rw [uu6 (a := 5) (b0 := 31) (b1 := 32) (b2 := 33) (b3 := 34) (b4 := 29) (by decide) (by decide) (by decide) (by decide) (by decide)]
          rw [uu5 (a := 31) (b0 := 32) (b1 := 33) (b2 := 34) (b3 := 29) (by decide) (by decide) (by decide) (by decide)]
          rw [uu4 (a := 32) (b0 := 33) (b1 := 34) (b2 := 29) (by decide) (by decide) (by decide)]
          rw [uu3 (a := 33) (b0 := 34) (b1 := 29) (by decide) (by decide)]
          rw [uu2 (a := 34) (b0 := 29) (by decide)]
          rw [uu1 (a := 29)]
          have uFr := Flw.rg (tOK_4 hT (v := x5) (by omega)) hc hP uF
          obtain ⟨uf1, uf2, uf3, uf4, uf5, uf6, uf7, uf8⟩ := id uF
          refine z_aload_n 0 dX6_place_39 rfl ?_
          refine z_getR dX6_place_40 fX6_38_5 i0_4 ka0 ?_
          refine z_getI (r := r5_36) 8 rfl dX6_place_43 fX6_140_1 i5_8 ka5 (rfl) ?_
          refine z_iconst dX6_place_46 ?_
          refine z_icmp_ne (tgt := 56) dX6_place_47 rfl (by omega) (fun uc47 => ?_) (fun uc47 => ?_)
          ·
            refine z_aload_n 0 dX6_place_56 rfl ?_
            refine z_getR dX6_place_57 fX6_38_5 i0_4 ka0 ?_
            refine z_getI (r := r5_36) 8 rfl dX6_place_60 fX6_140_1 i5_8 ka5 (rfl) ?_
            refine z_istore (fun y => [(0, rf en 0), (1, vi wh), (2, vi x2), (3, vi x3), (4, vi x4), (5, vi x5), (6, vi y)]) [1, 2, 3, 4, 5, 6, 0] dX6_place_63 (by decide) (fun _ => rfl) (fun x6_63 e6_63 => ?_)
            have ucr := cr_145 (tOK_4 hT (v := x5) (by omega)) h6
            have uwh : x6_63 = whn (crO (up T 4 x5) (cW c)) := by rw [e6_63]; unfold whn; rw [uf6] at *; unfold orN at *; split <;> (try split at *) <;> omega
            have uw6 : 0 ≤ x6_63 ∧ x6_63 ≤ 1000 := by rw [uwh]; unfold whn; split <;> omega
            refine z_aload_n 0 dX6_place_65 rfl ?_
            refine z_getR dX6_place_66 fX6_38_5 i0_4 ka0 ?_
            refine z_getI (r := r5_36) 9 rfl dX6_place_69 fX6_155_1 i5_9 ka5 (rfl) ?_
            refine z_iload_n 3 dX6_place_72 rfl ?_
            refine z_icmp_lt (tgt := 94) dX6_place_73 rfl (by omega) (fun uc73 => ?_) (fun uc73 => ?_)
            ·
              refine z_iload 5 dX6_place_94 rfl ?_
              refine z_istore_n (fun y => [(0, rf en 0), (1, vi wh), (2, vi y), (3, vi x3), (4, vi x4), (5, vi x5), (6, vi x6_63)]) [1, 2, 0, 3, 4, 5, 6] dX6_place_96 (by decide) (fun _ => rfl) (fun x2_96 e2_96 => ?_)
              refine z_aload_n 0 dX6_place_97 rfl ?_
              refine z_getR dX6_place_98 fX6_38_5 i0_4 ka0 ?_
              refine z_getI (r := r5_36) 9 rfl dX6_place_101 fX6_155_1 i5_9 ka5 (rfl) ?_
              refine z_istore_n (fun y => [(0, rf en 0), (1, vi wh), (2, vi x2_96), (3, vi y), (4, vi x4), (5, vi x5), (6, vi x6_63)]) [1, 2, 3, 0, 4, 5, 6] dX6_place_104 (by decide) (fun _ => rfl) (fun x3_104 e3_104 => ?_)
              refine z_iload 6 dX6_place_105 rfl ?_
              refine z_istore (fun y => [(0, rf en 0), (1, vi wh), (2, vi x2_96), (3, vi x3_104), (4, vi y), (5, vi x5), (6, vi x6_63)]) [1, 2, 3, 4, 0, 5, 6] dX6_place_107 (by decide) (fun _ => rfl) (fun x4_107 e4_107 => ?_)
              refine z_iinc (fun y => [(0, rf en 0), (1, vi wh), (2, vi x2_96), (3, vi x3_104), (4, vi x4_107), (5, vi y), (6, vi x6_63)]) [1, 2, 3, 4, 5, 0, 6] 5 dX6_place_109 rfl (by decide) (fun _ => rfl) (fun x5_109 e5_109 => ?_)
              refine z_goto (tgt := 25) dX6_place_112 rfl ?_
              refine z_lv [0, 1, 2, 3, 4, 5] [(0, rf en 0), (1, vi wh), (2, vi x2_96), (3, vi x3_104), (4, vi x4_107), (5, vi x5_109)] rfl ?_
              exact uih25 x2_96 x3_104 x4_107 x5_109 r4_36 r5_36 r29_36 r30_36 r31_36 r32_36 r33_36 r34_36 (by omega) (⟨by omega, by omega, by rw [e5_109, e2_96, e3_104, e4_107]; exact PLR_y (by omega) uq3 uf7 uFr.2.2.2 ucr uwh (by omega)⟩)
            ·
              refine z_aload_n 0 dX6_place_76 rfl ?_
              refine z_getR dX6_place_77 fX6_38_5 i0_4 ka0 ?_
              refine z_getI (r := r5_36) 9 rfl dX6_place_80 fX6_155_1 i5_9 ka5 (rfl) ?_
              refine z_iload_n 3 dX6_place_83 rfl ?_
              refine z_icmp_ne (tgt := 109) dX6_place_84 rfl (by omega) (fun uc84 => ?_) (fun uc84 => ?_)
              ·
                refine z_iinc (fun y => [(0, rf en 0), (1, vi wh), (2, vi x2), (3, vi x3), (4, vi x4), (5, vi y), (6, vi x6_63)]) [1, 2, 3, 4, 5, 0, 6] 5 dX6_place_109 rfl (by decide) (fun _ => rfl) (fun x5_109 e5_109 => ?_)
                refine z_goto (tgt := 25) dX6_place_112 rfl ?_
                refine z_lv [0, 1, 2, 3, 4, 5] [(0, rf en 0), (1, vi wh), (2, vi x2), (3, vi x3), (4, vi x4), (5, vi x5_109)] rfl ?_
                exact uih25 x2 x3 x4 x5_109 r4_36 r5_36 r29_36 r30_36 r31_36 r32_36 r33_36 r34_36 (by omega) (⟨by omega, by omega, by rw [e5_109]; exact PLR_n (by omega) uq3 uf7 uFr.2.2.2 ucr uwh (by omega)⟩)
              ·
                refine z_iload 6 dX6_place_87 rfl ?_
                refine z_iload 4 dX6_place_89 rfl ?_
                refine z_icmp_ge (tgt := 109) dX6_place_91 rfl (by omega) (fun uc91 => ?_) (fun uc91 => ?_)
                ·
                  refine z_iinc (fun y => [(0, rf en 0), (1, vi wh), (2, vi x2), (3, vi x3), (4, vi x4), (5, vi y), (6, vi x6_63)]) [1, 2, 3, 4, 5, 0, 6] 5 dX6_place_109 rfl (by decide) (fun _ => rfl) (fun x5_109 e5_109 => ?_)
                  refine z_goto (tgt := 25) dX6_place_112 rfl ?_
                  refine z_lv [0, 1, 2, 3, 4, 5] [(0, rf en 0), (1, vi wh), (2, vi x2), (3, vi x3), (4, vi x4), (5, vi x5_109)] rfl ?_
                  exact uih25 x2 x3 x4 x5_109 r4_36 r5_36 r29_36 r30_36 r31_36 r32_36 r33_36 r34_36 (by omega) (⟨by omega, by omega, by rw [e5_109]; exact PLR_n (by omega) uq3 uf7 uFr.2.2.2 ucr uwh (by omega)⟩)
                ·
                  refine z_iload 5 dX6_place_94 rfl ?_
                  refine z_istore_n (fun y => [(0, rf en 0), (1, vi wh), (2, vi y), (3, vi x3), (4, vi x4), (5, vi x5), (6, vi x6_63)]) [1, 2, 0, 3, 4, 5, 6] dX6_place_96 (by decide) (fun _ => rfl) (fun x2_96 e2_96 => ?_)
                  refine z_aload_n 0 dX6_place_97 rfl ?_
                  refine z_getR dX6_place_98 fX6_38_5 i0_4 ka0 ?_
                  refine z_getI (r := r5_36) 9 rfl dX6_place_101 fX6_155_1 i5_9 ka5 (rfl) ?_
                  refine z_istore_n (fun y => [(0, rf en 0), (1, vi wh), (2, vi x2_96), (3, vi y), (4, vi x4), (5, vi x5), (6, vi x6_63)]) [1, 2, 3, 0, 4, 5, 6] dX6_place_104 (by decide) (fun _ => rfl) (fun x3_104 e3_104 => ?_)
                  refine z_iload 6 dX6_place_105 rfl ?_
                  refine z_istore (fun y => [(0, rf en 0), (1, vi wh), (2, vi x2_96), (3, vi x3_104), (4, vi y), (5, vi x5), (6, vi x6_63)]) [1, 2, 3, 4, 0, 5, 6] dX6_place_107 (by decide) (fun _ => rfl) (fun x4_107 e4_107 => ?_)
                  refine z_iinc (fun y => [(0, rf en 0), (1, vi wh), (2, vi x2_96), (3, vi x3_104), (4, vi x4_107), (5, vi y), (6, vi x6_63)]) [1, 2, 3, 4, 5, 0, 6] 5 dX6_place_109 rfl (by decide) (fun _ => rfl) (fun x5_109 e5_109 => ?_)
                  refine z_goto (tgt := 25) dX6_place_112 rfl ?_
                  refine z_lv [0, 1, 2, 3, 4, 5] [(0, rf en 0), (1, vi wh), (2, vi x2_96), (3, vi x3_104), (4, vi x4_107), (5, vi x5_109)] rfl ?_
                  exact uih25 x2_96 x3_104 x4_107 x5_109 r4_36 r5_36 r29_36 r30_36 r31_36 r32_36 r33_36 r34_36 (by omega) (⟨by omega, by omega, by rw [e5_109, e2_96, e3_104, e4_107]; exact PLR_y (by omega) uq3 uf7 uFr.2.2.2 ucr uwh (by omega)⟩)
          ·
            refine z_sipush dX6_place_50 rfl ?_
            refine z_goto (tgt := 63) dX6_place_53 rfl ?_
            refine z_istore (fun y => [(0, rf en 0), (1, vi wh), (2, vi x2), (3, vi x3), (4, vi x4), (5, vi x5), (6, vi y)]) [1, 2, 3, 4, 5, 6, 0] dX6_place_63 (by decide) (fun _ => rfl) (fun x6_63 e6_63 => ?_)
            have ucr := cr_145 (tOK_4 hT (v := x5) (by omega)) h6
            have uwh : x6_63 = whn (crO (up T 4 x5) (cW c)) := by rw [e6_63]; unfold whn; rw [uf6] at *; unfold orN at *; split <;> (try split at *) <;> omega
            have uw6 : 0 ≤ x6_63 ∧ x6_63 ≤ 1000 := by rw [uwh]; unfold whn; split <;> omega
            refine z_aload_n 0 dX6_place_65 rfl ?_
            refine z_getR dX6_place_66 fX6_38_5 i0_4 ka0 ?_
            refine z_getI (r := r5_36) 9 rfl dX6_place_69 fX6_155_1 i5_9 ka5 (rfl) ?_
            refine z_iload_n 3 dX6_place_72 rfl ?_
            refine z_icmp_lt (tgt := 94) dX6_place_73 rfl (by omega) (fun uc73 => ?_) (fun uc73 => ?_)
            ·
              refine z_iload 5 dX6_place_94 rfl ?_
              refine z_istore_n (fun y => [(0, rf en 0), (1, vi wh), (2, vi y), (3, vi x3), (4, vi x4), (5, vi x5), (6, vi x6_63)]) [1, 2, 0, 3, 4, 5, 6] dX6_place_96 (by decide) (fun _ => rfl) (fun x2_96 e2_96 => ?_)
              refine z_aload_n 0 dX6_place_97 rfl ?_
              refine z_getR dX6_place_98 fX6_38_5 i0_4 ka0 ?_
              refine z_getI (r := r5_36) 9 rfl dX6_place_101 fX6_155_1 i5_9 ka5 (rfl) ?_
              refine z_istore_n (fun y => [(0, rf en 0), (1, vi wh), (2, vi x2_96), (3, vi y), (4, vi x4), (5, vi x5), (6, vi x6_63)]) [1, 2, 3, 0, 4, 5, 6] dX6_place_104 (by decide) (fun _ => rfl) (fun x3_104 e3_104 => ?_)
              refine z_iload 6 dX6_place_105 rfl ?_
              refine z_istore (fun y => [(0, rf en 0), (1, vi wh), (2, vi x2_96), (3, vi x3_104), (4, vi y), (5, vi x5), (6, vi x6_63)]) [1, 2, 3, 4, 0, 5, 6] dX6_place_107 (by decide) (fun _ => rfl) (fun x4_107 e4_107 => ?_)
              refine z_iinc (fun y => [(0, rf en 0), (1, vi wh), (2, vi x2_96), (3, vi x3_104), (4, vi x4_107), (5, vi y), (6, vi x6_63)]) [1, 2, 3, 4, 5, 0, 6] 5 dX6_place_109 rfl (by decide) (fun _ => rfl) (fun x5_109 e5_109 => ?_)
              refine z_goto (tgt := 25) dX6_place_112 rfl ?_
              refine z_lv [0, 1, 2, 3, 4, 5] [(0, rf en 0), (1, vi wh), (2, vi x2_96), (3, vi x3_104), (4, vi x4_107), (5, vi x5_109)] rfl ?_
              exact uih25 x2_96 x3_104 x4_107 x5_109 r4_36 r5_36 r29_36 r30_36 r31_36 r32_36 r33_36 r34_36 (by omega) (⟨by omega, by omega, by rw [e5_109, e2_96, e3_104, e4_107]; exact PLR_y (by omega) uq3 uf7 uFr.2.2.2 ucr uwh (by omega)⟩)
            ·
              refine z_aload_n 0 dX6_place_76 rfl ?_
              refine z_getR dX6_place_77 fX6_38_5 i0_4 ka0 ?_
              refine z_getI (r := r5_36) 9 rfl dX6_place_80 fX6_155_1 i5_9 ka5 (rfl) ?_
              refine z_iload_n 3 dX6_place_83 rfl ?_
              refine z_icmp_ne (tgt := 109) dX6_place_84 rfl (by omega) (fun uc84 => ?_) (fun uc84 => ?_)
              ·
                refine z_iinc (fun y => [(0, rf en 0), (1, vi wh), (2, vi x2), (3, vi x3), (4, vi x4), (5, vi y), (6, vi x6_63)]) [1, 2, 3, 4, 5, 0, 6] 5 dX6_place_109 rfl (by decide) (fun _ => rfl) (fun x5_109 e5_109 => ?_)
                refine z_goto (tgt := 25) dX6_place_112 rfl ?_
                refine z_lv [0, 1, 2, 3, 4, 5] [(0, rf en 0), (1, vi wh), (2, vi x2), (3, vi x3), (4, vi x4), (5, vi x5_109)] rfl ?_
                exact uih25 x2 x3 x4 x5_109 r4_36 r5_36 r29_36 r30_36 r31_36 r32_36 r33_36 r34_36 (by omega) (⟨by omega, by omega, by rw [e5_109]; exact PLR_n (by omega) uq3 uf7 uFr.2.2.2 ucr uwh (by omega)⟩)
              ·
                refine z_iload 6 dX6_place_87 rfl ?_
                refine z_iload 4 dX6_place_89 rfl ?_
                refine z_icmp_ge (tgt := 109) dX6_place_91 rfl (by omega) (fun uc91 => ?_) (fun uc91 => ?_)
                ·
                  refine z_iinc (fun y => [(0, rf en 0), (1, vi wh), (2, vi x2), (3, vi x3), (4, vi x4), (5, vi y), (6, vi x6_63)]) [1, 2, 3, 4, 5, 0, 6] 5 dX6_place_109 rfl (by decide) (fun _ => rfl) (fun x5_109 e5_109 => ?_)
                  refine z_goto (tgt := 25) dX6_place_112 rfl ?_
                  refine z_lv [0, 1, 2, 3, 4, 5] [(0, rf en 0), (1, vi wh), (2, vi x2), (3, vi x3), (4, vi x4), (5, vi x5_109)] rfl ?_
                  exact uih25 x2 x3 x4 x5_109 r4_36 r5_36 r29_36 r30_36 r31_36 r32_36 r33_36 r34_36 (by omega) (⟨by omega, by omega, by rw [e5_109]; exact PLR_n (by omega) uq3 uf7 uFr.2.2.2 ucr uwh (by omega)⟩)
                ·
                  refine z_iload 5 dX6_place_94 rfl ?_
                  refine z_istore_n (fun y => [(0, rf en 0), (1, vi wh), (2, vi y), (3, vi x3), (4, vi x4), (5, vi x5), (6, vi x6_63)]) [1, 2, 0, 3, 4, 5, 6] dX6_place_96 (by decide) (fun _ => rfl) (fun x2_96 e2_96 => ?_)
                  refine z_aload_n 0 dX6_place_97 rfl ?_
                  refine z_getR dX6_place_98 fX6_38_5 i0_4 ka0 ?_
                  refine z_getI (r := r5_36) 9 rfl dX6_place_101 fX6_155_1 i5_9 ka5 (rfl) ?_
                  refine z_istore_n (fun y => [(0, rf en 0), (1, vi wh), (2, vi x2_96), (3, vi y), (4, vi x4), (5, vi x5), (6, vi x6_63)]) [1, 2, 3, 0, 4, 5, 6] dX6_place_104 (by decide) (fun _ => rfl) (fun x3_104 e3_104 => ?_)
                  refine z_iload 6 dX6_place_105 rfl ?_
                  refine z_istore (fun y => [(0, rf en 0), (1, vi wh), (2, vi x2_96), (3, vi x3_104), (4, vi y), (5, vi x5), (6, vi x6_63)]) [1, 2, 3, 4, 0, 5, 6] dX6_place_107 (by decide) (fun _ => rfl) (fun x4_107 e4_107 => ?_)
                  refine z_iinc (fun y => [(0, rf en 0), (1, vi wh), (2, vi x2_96), (3, vi x3_104), (4, vi x4_107), (5, vi y), (6, vi x6_63)]) [1, 2, 3, 4, 5, 0, 6] 5 dX6_place_109 rfl (by decide) (fun _ => rfl) (fun x5_109 e5_109 => ?_)
                  refine z_goto (tgt := 25) dX6_place_112 rfl ?_
                  refine z_lv [0, 1, 2, 3, 4, 5] [(0, rf en 0), (1, vi wh), (2, vi x2_96), (3, vi x3_104), (4, vi x4_107), (5, vi x5_109)] rfl ?_
                  exact uih25 x2_96 x3_104 x4_107 x5_109 r4_36 r5_36 r29_36 r30_36 r31_36 r32_36 r33_36 r34_36 (by omega) (⟨by omega, by omega, by rw [e5_109, e2_96, e3_104, e4_107]; exact PLR_y (by omega) uq3 uf7 uFr.2.2.2 ucr uwh (by omega)⟩)
    refine Z.eqM (upR_id (k := 4) wT4) ?_
    refine Z.eqM (upR_id (k := 30) wHd) ?_
    refine Z.eqM (upR_id (k := 5) wO5) ?_
    refine Z.eqM (upR_id (k := 31) wLw) ?_
    refine Z.eqM (upR_id (k := 32) wC0) ?_
    refine Z.eqM (upR_id (k := 33) wE0) ?_
    refine Z.eqM (upR_id (k := 34) wR0) ?_
    refine Z.eqM (upR_id (k := 29) wP0) ?_
    exact uL25 _ x2_12 x3_16 x4_20 x5_23 T4 O5 P0 Hd Lw C0 E0 R0 (Nat.lt_succ_self _) (⟨by omega, by omega, Or.inl ⟨by omega, by omega, by omega, by omega⟩⟩)
  ·
    refine z_bipush dX6_place_8 rfl ?_
    exact z_iret C dX6_place_10 rfl ⟨_, rfl, ⟨(if_neg (by omega)).symm, (kc_r M)⟩⟩
set_option maxRecDepth 100000 in
theorem ct_X6_litter (en : zE) (M : zW) (O2 : Int → Int) (T : Int → Int) (T4 : Int → Int) (O5 : Int → Int) (c : Int → Int) (A : Int → Int) (G : Int → Int) (K : Int → Int) (H : Int → Int) (S : Int → Int) (P0 : Int → Int) (Hd : Int → Int) (Lw : Int → Int) (C0 : Int → Int) (E0 : Int → Int) (R0 : Int → Int) (wO2 : M 2 = O2) (wT : M 3 = T) (wT4 : M 4 = T4) (wO5 : M 5 = O5) (wc : M 22 = c) (wA : M 24 = A) (wG : M 25 = G) (wK : M 26 = K) (wH : M 27 = H) (wS : M 28 = S) (wP0 : M 29 = P0) (wHd : M 30 = Hd) (wLw : M 31 = Lw) (wC0 : M 32 = C0) (wE0 : M 33 = E0) (wR0 : M 34 = R0) (wh : Int) (h0 : -2147483648 ≤ wh ∧ wh < 2147483648) (hT : tOK T) (hc : wB c) (hP : (0 ≤ O2 4 ∧ O2 4 ≤ 8) ∧ pOK (tP A G K H S) (O2 4)) : Ct en kA yX6_litter mX6_litter [rf en 0, vi wh] M (pX (fun x N => x = (if 0 ≤ wh ∧ wh ≤ 1 then (if wh = 0 then (ltS T (cW c) (tP A G K H S) (O2 4) 10).1 else (ltS T (cW c) (tP A G K H S) (O2 4) 10).2) else -2) ∧ kc M N)) := by
  refine Ct.of (by decide +kernel) rfl [(0, rf en 0), (1, vi wh)] rfl (Nat.le_of_ble_eq_true rfl) (fun cx C => ?_)
  refine z_iload_n 1 dX6_litter_0 rfl ?_
  refine z_iconst dX6_litter_1 ?_
  refine z_sI dX6_litter_2 lX6_68 (by decide) (ct_X6_within en M _ (1) (by omega)) rfl rfl (by exact Nat.le_of_ble_eq_true rfl) ?_
  refine z_ifne_b (tgt := 11) dX6_litter_5 rfl (fun uc5 => ?_) (fun uc5 => ?_)
  ·
    refine z_iconst dX6_litter_11 ?_
    refine z_istore_n (fun y => [(0, rf en 0), (1, vi wh), (2, vi y)]) [1, 2, 0] dX6_litter_12 (by decide) (fun _ => rfl) (fun x2_12 e2_12 => ?_)
    refine z_sipush dX6_litter_13 rfl ?_
    refine z_istore_n (fun y => [(0, rf en 0), (1, vi wh), (2, vi x2_12), (3, vi y)]) [1, 2, 3, 0] dX6_litter_16 (by decide) (fun _ => rfl) (fun x3_16 e3_16 => ?_)
    refine z_iconst dX6_litter_17 ?_
    refine z_istore (fun y => [(0, rf en 0), (1, vi wh), (2, vi x2_12), (3, vi x3_16), (4, vi y)]) [1, 2, 3, 4, 0] dX6_litter_18 (by decide) (fun _ => rfl) (fun x4_18 e4_18 => ?_)
    have uL20 : ∀ (fu : Nat) (x2 : Int) (x3 : Int) (x4 : Int) (r4 : Int → Int) (r5 : Int → Int) (r29 : Int → Int) (r30 : Int → Int) (r31 : Int → Int) (r32 : Int → Int) (r33 : Int → Int) (r34 : Int → Int), (10 - x4).toNat < fu → (0 ≤ x4 ∧ x4 ≤ 10 ∧ LTR T (cW c) (tP A G K H S) (O2 4) x4 x2 x3) → Z en kA cx mX6_litter (upR (upR (upR (upR (upR (upR (upR (upR M 4 r4) 30 r30) 5 r5) 31 r31) 32 r32) 33 r33) 34 r34) 29 r29) 20 [(0, rf en 0), (1, vi wh), (2, vi x2), (3, vi x3), (4, vi x4)] [] := by
      intro fu
      induction fu with
      | zero => intro x2 x3 x4 r4 r5 r29 r30 r31 r32 r33 r34 uhf; exact absurd uhf (Nat.not_lt_zero _)
      | succ fu uih20 =>
        intro x2 x3 x4 r4 r5 r29 r30 r31 r32 r33 r34 uf20 uI20
        obtain ⟨uq1, uq2, uq3⟩ := uI20
        have uqr : (0 ≤ x2 ∧ x2 ≤ 9) ∧ (0 ≤ x3 ∧ x3 ≤ 1000) := by rcases uq3 with uz | uz <;> omega
        refine z_iload 4 dX6_litter_20 rfl ?_
        refine z_bipush dX6_litter_22 rfl ?_
        refine z_icmp_gt (tgt := 62) dX6_litter_24 rfl (by omega) (fun uc24 => ?_) (fun uc24 => ?_)
        ·
          refine z_iload_n 1 dX6_litter_62 rfl ?_
          refine z_if_ne (tgt := 70) dX6_litter_63 rfl (by omega) (fun uc63 => ?_) (fun uc63 => ?_)
          ·
            refine z_iload_n 3 dX6_litter_70 rfl ?_
            exact z_iret C dX6_litter_71 rfl ⟨_, rfl, ⟨by refine Eq.trans ?_ (if_pos (show 0 ≤ wh ∧ wh ≤ 1 by omega)).symm; rcases uq3 with uz | ⟨ua, ub, uc⟩; omega; rw [show x4 = 10 by omega] at ub uc; rw [if_neg uc63]; exact uc.1, (kc_u (by decide) (kc_u (by decide) (kc_u (by decide) (kc_u (by decide) (kc_u (by decide) (kc_u (by decide) (kc_u (by decide) (kc_u (by decide) (kc_r M)))))))))⟩⟩
          ·
            refine z_iload_n 2 dX6_litter_66 rfl ?_
            refine z_goto (tgt := 71) dX6_litter_67 rfl ?_
            exact z_iret C dX6_litter_71 rfl ⟨_, rfl, ⟨by refine Eq.trans ?_ (if_pos (show 0 ≤ wh ∧ wh ≤ 1 by omega)).symm; rcases uq3 with uz | ⟨ua, ub, uc⟩; omega; rw [show x4 = 10 by omega] at ub uc; rw [if_pos uc63]; exact ub.1, (kc_u (by decide) (kc_u (by decide) (kc_u (by decide) (kc_u (by decide) (kc_u (by decide) (kc_u (by decide) (kc_u (by decide) (kc_u (by decide) (kc_r M)))))))))⟩⟩
        ·
          refine z_aload_n 0 dX6_litter_27 rfl ?_
          refine z_iconst dX6_litter_28 ?_
          refine z_iload 4 dX6_litter_29 rfl ?_
          refine z_vN dX6_litter_31 lX6_161 (by decide) ka0 io0 rfl (ct_X6_followWith en (upR (upR (upR (upR (upR (upR (upR (upR M 4 r4) 30 r30) 5 r5) 31 r31) 32 r32) 33 r33) 34 r34) 29 r29) O2 T r4 r5 c A G K H S r29 r30 r31 r32 r33 r34 wO2 wT rfl rfl wc wA wG wK wH wS rfl rfl rfl rfl rfl rfl (2) _ (by decide) (tOK_2 hT (v := x4) (by omega)) hc hP) rfl rfl (by exact Nat.le_of_ble_eq_true rfl) (fun uN31 uh31 => ?_)
          obtain ⟨r4_31, r5_31, r29_31, r30_31, r31_31, r32_31, r33_31, r34_31, uF, rfl⟩ := uh31
          rw [uu8 (a := 4) (b0 := 30) (b1 := 5) (b2 := 31) (b3 := 32) (b4 := 33) (b5 := 34) (b6 := 29) (by decide) (by decide) (by decide) (by decide) (by decide) (by decide) (by decide)]
          rw [uu7 (a := 30) (b0 := 5) (b1 := 31) (b2 := 32) (b3 := 33) (b4 := 34) (b5 := 29) (by decide) (by decide) (by decide) (by decide) (by decide) (by decide)]
          rw [uu6 (a := 5) (b0 := 31) (b1 := 32) (b2 := 33) (b3 := 34) (b4 := 29) (by decide) (by decide) (by decide) (by decide) (by decide)]
          rw [uu5 (a := 31) (b0 := 32) (b1 := 33) (b2 := 34) (b3 := 29) (by decide) (by decide) (by decide) (by decide)]
          rw [uu4 (a := 32) (b0 := 33) (b1 := 34) (b2 := 29) (by decide) (by decide) (by decide)]
          rw [uu3 (a := 33) (b0 := 34) (b1 := 29) (by decide) (by decide)]
          rw [uu2 (a := 34) (b0 := 29) (by decide)]
          rw [uu1 (a := 29)]
          have uFr := Flw.rg (tOK_2 hT (v := x4) (by omega)) hc hP uF
          obtain ⟨uf1, uf2, uf3, uf4, uf5, uf6, uf7, uf8⟩ := id uF
          refine z_aload_n 0 dX6_litter_34 rfl ?_
          refine z_getR dX6_litter_35 fX6_38_5 i0_4 ka0 ?_
          refine z_getI (r := r5_31) 9 rfl dX6_litter_38 fX6_155_1 i5_9 ka5 (rfl) ?_
          refine z_iload_n 3 dX6_litter_41 rfl ?_
          refine z_icmp_ge (tgt := 56) dX6_litter_42 rfl (by omega) (fun uc42 => ?_) (fun uc42 => ?_)
          ·
            refine z_iinc (fun y => [(0, rf en 0), (1, vi wh), (2, vi x2), (3, vi x3), (4, vi y)]) [1, 2, 3, 4, 0] 4 dX6_litter_56 rfl (by decide) (fun _ => rfl) (fun x4_56 e4_56 => ?_)
            refine z_goto (tgt := 20) dX6_litter_59 rfl ?_
            exact uih20 x2 x3 x4_56 r4_31 r5_31 r29_31 r30_31 r31_31 r32_31 r33_31 r34_31 (by omega) (⟨by omega, by omega, by rw [e4_56]; exact LTR_n (by omega) uq3 uf7 uFr.2.2.2 uc42⟩)
          ·
            refine z_iload 4 dX6_litter_45 rfl ?_
            refine z_istore_n (fun y => [(0, rf en 0), (1, vi wh), (2, vi y), (3, vi x3), (4, vi x4)]) [1, 2, 0, 3, 4] dX6_litter_47 (by decide) (fun _ => rfl) (fun x2_47 e2_47 => ?_)
            refine z_aload_n 0 dX6_litter_48 rfl ?_
            refine z_getR dX6_litter_49 fX6_38_5 i0_4 ka0 ?_
            refine z_getI (r := r5_31) 9 rfl dX6_litter_52 fX6_155_1 i5_9 ka5 (rfl) ?_
            refine z_istore_n (fun y => [(0, rf en 0), (1, vi wh), (2, vi x2_47), (3, vi y), (4, vi x4)]) [1, 2, 3, 0, 4] dX6_litter_55 (by decide) (fun _ => rfl) (fun x3_55 e3_55 => ?_)
            refine z_iinc (fun y => [(0, rf en 0), (1, vi wh), (2, vi x2_47), (3, vi x3_55), (4, vi y)]) [1, 2, 3, 4, 0] 4 dX6_litter_56 rfl (by decide) (fun _ => rfl) (fun x4_56 e4_56 => ?_)
            refine z_goto (tgt := 20) dX6_litter_59 rfl ?_
            exact uih20 x2_47 x3_55 x4_56 r4_31 r5_31 r29_31 r30_31 r31_31 r32_31 r33_31 r34_31 (by omega) (⟨by omega, by omega, by rw [e4_56, e2_47, e3_55]; exact LTR_y (by omega) uq3 uf7 uFr.2.2.2 uc42⟩)
    refine Z.eqM (upR_id (k := 4) wT4) ?_
    refine Z.eqM (upR_id (k := 30) wHd) ?_
    refine Z.eqM (upR_id (k := 5) wO5) ?_
    refine Z.eqM (upR_id (k := 31) wLw) ?_
    refine Z.eqM (upR_id (k := 32) wC0) ?_
    refine Z.eqM (upR_id (k := 33) wE0) ?_
    refine Z.eqM (upR_id (k := 34) wR0) ?_
    refine Z.eqM (upR_id (k := 29) wP0) ?_
    exact uL20 _ x2_12 x3_16 x4_18 T4 O5 P0 Hd Lw C0 E0 R0 (Nat.lt_succ_self _) (⟨by omega, by omega, Or.inl ⟨by omega, by omega, by omega⟩⟩)
  ·
    refine z_bipush dX6_litter_8 rfl ?_
    exact z_iret C dX6_litter_10 rfl ⟨_, rfl, ⟨(if_neg (by omega)).symm, (kc_r M)⟩⟩
set_option maxRecDepth 100000 in
theorem ct_X6_comesOutAsSeen (en : zE) (M : zW) (U W P : Int → Int) (np : Int) (O0 : Int → Int) (Q7 : Int → Int) (Q8 : Int → Int) (E0 : Int → Int) (wO0 : M 0 = O0) (wQ7 : M 7 = Q7) (wQ8 : M 8 = Q8) (wE0 : M 33 = E0) (hs : (0 ≤ O0 8 ∧ O0 8 ≤ 8) ∧ ∀ j, 0 ≤ j → j < O0 8 → (0 ≤ Q7 j ∧ Q7 j ≤ 7) ∧ (0 ≤ Q8 j ∧ Q8 j ≤ 1)) (hE : ∀ p, 0 ≤ p → p < 8 → E0 p = enX U W P np p) : Ct en kA yX6_comesOutAsSeen mX6_comesOutAsSeen [rf en 0] M (pI (bi (snO U W P np (sgC Q7 Q8) (O0 8).toNat = 1)) M) := by
  refine Ct.of (by decide +kernel) rfl [(0, rf en 0)] rfl (Nat.le_of_ble_eq_true rfl) (fun cx C => ?_)
  refine z_iconst dX6_comesOutAsSeen_0 ?_
  refine z_istore_n (fun y => [(0, rf en 0), (1, vi y)]) [1, 0] dX6_comesOutAsSeen_1 (by decide) (fun _ => rfl) (fun uy uhy => ?_)
  subst uhy
  have uL2 : ∀ (fu : Nat) (x1 : Int), (O0 8 - x1).toNat < fu → (0 ≤ x1 ∧ x1 ≤ O0 8 ∧ snO U W P np (sgC Q7 Q8) x1.toNat = 1) → Z en kA cx mX6_comesOutAsSeen M 2 [(0, rf en 0), (1, vi x1)] [] := by
    intro fu
    induction fu with
    | zero => intro x1 uhf; exact absurd uhf (Nat.not_lt_zero _)
    | succ fu uih2 =>
      intro x1 uf2 uI2
      obtain ⟨uq1, uq2, uq3⟩ := uI2
      refine z_iload_n 1 dX6_comesOutAsSeen_2 rfl ?_
      refine z_aload_n 0 dX6_comesOutAsSeen_3 rfl ?_
      refine z_getI (r := O0) 8 rfl dX6_comesOutAsSeen_4 fX6_177_5 i0_8 ka0 (wO0) ?_
      refine z_icmp_ge (tgt := 61) dX6_comesOutAsSeen_7 rfl (by omega) (fun uc7 => ?_) (fun uc7 => ?_)
      ·
        refine z_iconst dX6_comesOutAsSeen_61 ?_
        exact z_zret C dX6_comesOutAsSeen_62 rfl (by decide) ⟨congrArg (fun z => some (vi z)) (bi1 (by rw [show O0 8 = x1 by omega]; exact uq3)), rfl⟩
      ·
        have uj := hs.2 x1 uq1 (by omega)
        have uee := hE (Q7 x1) (by omega) (by omega)
        have uer := enX_rg U W P np (Q7 x1)
        have usn := snO_C (T := U) (W := W) (P := P) (np := np) uq1 uq3 uj.1 uj.2
        rw [← uee] at usn uer
        refine z_aload_n 0 dX6_comesOutAsSeen_10 rfl ?_
        refine z_getR dX6_comesOutAsSeen_11 fX6_38_5 i0_4 ka0 ?_
        refine z_getR dX6_comesOutAsSeen_14 fX6_149_1 i5_6 ka5 ?_
        refine z_aload_n 0 dX6_comesOutAsSeen_17 rfl ?_
        refine z_getR dX6_comesOutAsSeen_18 fX6_51_5 i0_6 ka0 ?_
        refine z_iload_n 1 dX6_comesOutAsSeen_21 rfl ?_
        refine z_iald (r := Q7) dX6_comesOutAsSeen_22 is7 ka7 (wQ7) (by omega) ?_
        refine z_iald (r := E0) dX6_comesOutAsSeen_23 is33 ka33 (wE0) (by omega) ?_
        refine z_iconst dX6_comesOutAsSeen_24 ?_
        refine z_icmp_ne (tgt := 32) dX6_comesOutAsSeen_25 rfl (by omega) (fun uc25 => ?_) (fun uc25 => ?_)
        ·
          refine z_iconst dX6_comesOutAsSeen_32 ?_
          refine z_istore_n (fun y => [(0, rf en 0), (1, vi x1), (2, vi y)]) [1, 2, 0] dX6_comesOutAsSeen_33 (by decide) (fun _ => rfl) (fun uy uhy => ?_)
          subst uhy
          refine z_iload_n 2 dX6_comesOutAsSeen_34 rfl ?_
          refine z_aload_n 0 dX6_comesOutAsSeen_35 rfl ?_
          refine z_getR dX6_comesOutAsSeen_36 fX6_54_5 i0_7 ka0 ?_
          refine z_iload_n 1 dX6_comesOutAsSeen_39 rfl ?_
          refine z_iald (r := Q8) dX6_comesOutAsSeen_40 is8 ka8 (wQ8) (by omega) ?_
          refine z_iconst dX6_comesOutAsSeen_41 ?_
          refine z_icmp_ne (tgt := 49) dX6_comesOutAsSeen_42 rfl (by omega) (fun uc42 => ?_) (fun uc42 => ?_)
          ·
            refine z_iconst dX6_comesOutAsSeen_49 ?_
            refine z_icmp_eq (tgt := 55) dX6_comesOutAsSeen_50 rfl (by omega) (fun _ => ?_) (fun z => absurd z (by decide))
            refine z_iinc (fun y => [(0, rf en 0), (1, vi y), (2, vi (0))]) [1, 0, 2] 1 dX6_comesOutAsSeen_55 rfl (by decide) (fun _ => rfl) (fun x1_55 e1_55 => ?_)
            refine z_goto (tgt := 2) dX6_comesOutAsSeen_58 rfl ?_
            refine z_lv [0, 1] [(0, rf en 0), (1, vi x1_55)] rfl ?_
            exact uih2 x1_55 (by omega) (⟨by omega, by omega, by rw [e1_55]; exact usn.mpr (by omega)⟩)
          ·
            refine z_iconst dX6_comesOutAsSeen_45 ?_
            refine z_goto (tgt := 50) dX6_comesOutAsSeen_46 rfl ?_
            refine z_icmp_eq (tgt := 55) dX6_comesOutAsSeen_50 rfl (by omega) (fun z => absurd z (by decide)) (fun _ => ?_)
            refine z_iconst dX6_comesOutAsSeen_53 ?_
            exact z_zret C dX6_comesOutAsSeen_54 rfl (by decide) ⟨congrArg (fun z => some (vi z)) (bi0 (by rw [show (O0 8).toNat = (x1 + 1).toNat + ((O0 8).toNat - (x1 + 1).toNat) by omega]; exact snO_z (fun uz => by have uz2 := usn.mp uz; omega) _)), rfl⟩
        ·
          refine z_iconst dX6_comesOutAsSeen_28 ?_
          refine z_goto (tgt := 33) dX6_comesOutAsSeen_29 rfl ?_
          refine z_istore_n (fun y => [(0, rf en 0), (1, vi x1), (2, vi y)]) [1, 2, 0] dX6_comesOutAsSeen_33 (by decide) (fun _ => rfl) (fun uy uhy => ?_)
          subst uhy
          refine z_iload_n 2 dX6_comesOutAsSeen_34 rfl ?_
          refine z_aload_n 0 dX6_comesOutAsSeen_35 rfl ?_
          refine z_getR dX6_comesOutAsSeen_36 fX6_54_5 i0_7 ka0 ?_
          refine z_iload_n 1 dX6_comesOutAsSeen_39 rfl ?_
          refine z_iald (r := Q8) dX6_comesOutAsSeen_40 is8 ka8 (wQ8) (by omega) ?_
          refine z_iconst dX6_comesOutAsSeen_41 ?_
          refine z_icmp_ne (tgt := 49) dX6_comesOutAsSeen_42 rfl (by omega) (fun uc42 => ?_) (fun uc42 => ?_)
          ·
            refine z_iconst dX6_comesOutAsSeen_49 ?_
            refine z_icmp_eq (tgt := 55) dX6_comesOutAsSeen_50 rfl (by omega) (fun z => absurd z (by decide)) (fun _ => ?_)
            refine z_iconst dX6_comesOutAsSeen_53 ?_
            exact z_zret C dX6_comesOutAsSeen_54 rfl (by decide) ⟨congrArg (fun z => some (vi z)) (bi0 (by rw [show (O0 8).toNat = (x1 + 1).toNat + ((O0 8).toNat - (x1 + 1).toNat) by omega]; exact snO_z (fun uz => by have uz2 := usn.mp uz; omega) _)), rfl⟩
          ·
            refine z_iconst dX6_comesOutAsSeen_45 ?_
            refine z_goto (tgt := 50) dX6_comesOutAsSeen_46 rfl ?_
            refine z_icmp_eq (tgt := 55) dX6_comesOutAsSeen_50 rfl (by omega) (fun _ => ?_) (fun z => absurd z (by decide))
            refine z_iinc (fun y => [(0, rf en 0), (1, vi y), (2, vi (1))]) [1, 0, 2] 1 dX6_comesOutAsSeen_55 rfl (by decide) (fun _ => rfl) (fun x1_55 e1_55 => ?_)
            refine z_goto (tgt := 2) dX6_comesOutAsSeen_58 rfl ?_
            refine z_lv [0, 1] [(0, rf en 0), (1, vi x1_55)] rfl ?_
            exact uih2 x1_55 (by omega) (⟨by omega, by omega, by rw [e1_55]; exact usn.mpr (by omega)⟩)
  exact uL2 _ 0 (Nat.lt_succ_self _) (⟨by omega, by omega, rfl⟩)
set_option maxRecDepth 100000 in
theorem ct_X6_fitting (en : zE) (M : zW) (O0 : Int → Int) (O2 : Int → Int) (T : Int → Int) (T4 : Int → Int) (O5 : Int → Int) (Q7 : Int → Int) (Q8 : Int → Int) (c : Int → Int) (A : Int → Int) (G : Int → Int) (K : Int → Int) (H : Int → Int) (S : Int → Int) (P0 : Int → Int) (Hd : Int → Int) (Lw : Int → Int) (C0 : Int → Int) (E0 : Int → Int) (R0 : Int → Int) (wO0 : M 0 = O0) (wO2 : M 2 = O2) (wT : M 3 = T) (wT4 : M 4 = T4) (wO5 : M 5 = O5) (wQ7 : M 7 = Q7) (wQ8 : M 8 = Q8) (wc : M 22 = c) (wA : M 24 = A) (wG : M 25 = G) (wK : M 26 = K) (wH : M 27 = H) (wS : M 28 = S) (wP0 : M 29 = P0) (wHd : M 30 = Hd) (wLw : M 31 = Lw) (wC0 : M 32 = C0) (wE0 : M 33 = E0) (wR0 : M 34 = R0) (wh : Int) (h0 : wh = 0 ∨ wh = 2) (hT : tOK T) (hc : wB c) (hP : (0 ≤ O2 4 ∧ O2 4 ≤ 8) ∧ pOK (tP A G K H S) (O2 4)) (hs : (0 ≤ O0 8 ∧ O0 8 ≤ 8) ∧ ∀ j, 0 ≤ j → j < O0 8 → (0 ≤ Q7 j ∧ Q7 j ≤ 7) ∧ (0 ≤ Q8 j ∧ Q8 j ≤ 1)) : Ct en kA yX6_fitting mX6_fitting [rf en 0, vi wh] M (pX (fun x N => x = ((fiS T (cW c) (tP A G K H S) (O2 4) (sgC Q7 Q8) (O0 8).toNat wh (tMost wh + 1).toNat : Nat) : Int) ∧ kc M N)) := by
  refine Ct.of (by decide +kernel) rfl [(0, rf en 0), (1, vi wh)] rfl (Nat.le_of_ble_eq_true rfl) (fun cx C => ?_)
  have utm : tMost wh = 7 ∨ tMost wh = 9 := by rcases h0 with uz | uz <;> rw [uz]; left; rfl; right; rfl
  have utw : tMost wh ≤ 9 ∧ (wh = 0 → tMost wh = 7) := by rcases h0 with uz | uz <;> rw [uz] <;> decide
  refine z_aload_n 0 dX6_fitting_0 rfl ?_
  refine z_getR dX6_fitting_1 fX6_27_5 i0_2 ka0 ?_
  refine z_iconst dX6_fitting_4 ?_
  refine z_aload_n 0 dX6_fitting_5 rfl ?_
  refine z_getR dX6_fitting_6 fX6_30_5 i0_3 ka0 ?_
  refine z_iconst dX6_fitting_9 ?_
  refine z_aload_n 0 dX6_fitting_10 rfl ?_
  refine z_getR dX6_fitting_11 fX6_27_5 i0_2 ka0 ?_
  refine z_alenI dX6_fitting_14 is3 ka3 ?_
  refine z_copy (f := T) (g := T4) rfl dX6_fitting_15 is3 is4 ka3 ka4 (wT) (wT4) (by omega) (Nat.le_of_ble_eq_true rfl) (Nat.le_of_ble_eq_true rfl) (fun r4_15 f4_15 => ?_)
  refine z_iconst dX6_fitting_18 ?_
  refine z_istore_n (fun y => [(0, rf en 0), (1, vi wh), (2, vi y)]) [1, 2, 0] dX6_fitting_19 (by decide) (fun _ => rfl) (fun x2_19 e2_19 => ?_)
  refine z_iconst dX6_fitting_20 ?_
  refine z_istore_n (fun y => [(0, rf en 0), (1, vi wh), (2, vi x2_19), (3, vi y)]) [1, 2, 3, 0] dX6_fitting_21 (by decide) (fun _ => rfl) (fun x3_21 e3_21 => ?_)
  have uL22 : ∀ (fu : Nat) (x2 : Int) (x3 : Int) (r4 : Int → Int) (r5 : Int → Int) (r29 : Int → Int) (r30 : Int → Int) (r31 : Int → Int) (r32 : Int → Int) (r33 : Int → Int) (r34 : Int → Int), (tMost wh + 1 - x3).toNat < fu → (0 ≤ x3 ∧ x3 ≤ tMost wh + 1 ∧ x2 = ((fiS T (cW c) (tP A G K H S) (O2 4) (sgC Q7 Q8) (O0 8).toNat wh x3.toNat : Nat) : Int) ∧ (∀ v, Tq (up r4 wh v) (up T wh v))) → Z en kA cx mX6_fitting (upR (upR (upR (upR (upR (upR (upR (upR M 4 r4) 30 r30) 5 r5) 31 r31) 32 r32) 33 r33) 34 r34) 29 r29) 22 [(0, rf en 0), (1, vi wh), (2, vi x2), (3, vi x3)] [] := by
    intro fu
    induction fu with
    | zero => intro x2 x3 r4 r5 r29 r30 r31 r32 r33 r34 uhf; exact absurd uhf (Nat.not_lt_zero _)
    | succ fu uih22 =>
      intro x2 x3 r4 r5 r29 r30 r31 r32 r33 r34 uf22 uI22
      obtain ⟨uq1, uq2, uq3, uq4⟩ := uI22
      have uql := fiS_k T (cW c) (tP A G K H S) (O2 4) (sgC Q7 Q8) (O0 8).toNat wh (n := x3.toNat) (by omega)
      refine z_iload_n 3 dX6_fitting_22 rfl ?_
      refine z_tabA dX6_fitting_23 rfl ?_
      refine z_iload_n 1 dX6_fitting_26 rfl ?_
      refine z_tabI dX6_fitting_27 (by omega) ?_
      refine z_icmp_gt (tgt := 68) dX6_fitting_28 rfl (by omega) (fun uc28 => ?_) (fun uc28 => ?_)
      ·
        refine z_iload_n 2 dX6_fitting_68 rfl ?_
        exact z_iret C dX6_fitting_69 rfl ⟨_, rfl, ⟨by rw [uq3, show x3 = tMost wh + 1 by omega], (kc_u (by decide) (kc_u (by decide) (kc_u (by decide) (kc_u (by decide) (kc_u (by decide) (kc_u (by decide) (kc_u (by decide) (kc_u (by decide) (kc_r M)))))))))⟩⟩
      ·
        refine z_aload_n 0 dX6_fitting_31 rfl ?_
        refine z_getR dX6_fitting_32 fX6_30_5 i0_3 ka0 ?_
        refine z_iload_n 1 dX6_fitting_35 rfl ?_
        refine z_iload_n 3 dX6_fitting_36 rfl ?_
        refine z_iast' (r := r4) (fun r => (upR (upR (upR (upR (upR (upR (upR (upR M 4 r) 30 r30) 5 r5) 31 r31) 32 r32) 33 r33) 34 r34) 29 r29)) dX6_fitting_37 is4 ka4 (rfl) (by omega) (fun _ => uu8 (by decide) (by decide) (by decide) (by decide) (by decide) (by decide) (by decide)) (fun r4_37 f4_37 => ?_)
        have utq : Tq r4_37 (up T wh x3) := by rw [f4_37]; exact uq4 x3
        have uU : tOK (up T wh x3) := by rcases h0 with uz | uz; (rw [uz]; exact tOK_0 hT (by have := utw.2 uz; omega)); (rw [uz]; exact tOK_2 hT (by omega))
        refine z_aload_n 0 dX6_fitting_38 rfl ?_
        refine z_getR dX6_fitting_39 fX6_38_5 i0_4 ka0 ?_
        refine z_aload_n 0 dX6_fitting_42 rfl ?_
        refine z_getR dX6_fitting_43 fX6_30_5 i0_3 ka0 ?_
        refine z_vN dX6_fitting_46 lX6_126 (by decide) ka5 io5 rfl (ct_X1_follow_4 en (upR (upR (upR (upR (upR (upR (upR (upR M 4 r4_37) 30 r30) 5 r5) 31 r31) 32 r32) 33 r33) 34 r34) 29 r29) O2 r4_37 r5 c A G K H S r29 r30 r31 r32 r33 r34 wO2 rfl rfl wc wA wG wK wH wS rfl rfl rfl rfl rfl rfl (Tq_ok utq uU) hc hP) rfl rfl (by exact Nat.le_of_ble_eq_true rfl) (fun uN46 uh46 => ?_)
        obtain ⟨r5_46, r29_46, r30_46, r31_46, r32_46, r33_46, r34_46, uF, uF5, rfl⟩ := uh46
        rw [uu7 (a := 30) (b0 := 5) (b1 := 31) (b2 := 32) (b3 := 33) (b4 := 34) (b5 := 29) (by decide) (by decide) (by decide) (by decide) (by decide) (by decide)]
        rw [uu6 (a := 5) (b0 := 31) (b1 := 32) (b2 := 33) (b3 := 34) (b4 := 29) (by decide) (by decide) (by decide) (by decide) (by decide)]
        rw [uu5 (a := 31) (b0 := 32) (b1 := 33) (b2 := 34) (b3 := 29) (by decide) (by decide) (by decide) (by decide)]
        rw [uu4 (a := 32) (b0 := 33) (b1 := 34) (b2 := 29) (by decide) (by decide) (by decide)]
        rw [uu3 (a := 33) (b0 := 34) (b1 := 29) (by decide) (by decide)]
        rw [uu2 (a := 34) (b0 := 29) (by decide)]
        rw [uu1 (a := 29)]
        have uG := Flw_t utq uF
        refine z_aload_n 0 dX6_fitting_49 rfl ?_
        refine z_vI dX6_fitting_50 lX6_333 (by decide) ka0 io0 rfl (ct_X6_comesOutAsSeen en (upR (upR (upR (upR (upR (upR (upR (upR M 4 r4_37) 30 r30_46) 5 r5_46) 31 r31_46) 32 r32_46) 33 r33_46) 34 r34_46) 29 r29_46) (up T wh x3) (cW c) (tP A G K H S) (O2 4) O0 Q7 Q8 r33_46 wO0 wQ7 wQ8 rfl hs uG.2.2.2.1) rfl rfl (by exact Nat.le_of_ble_eq_true rfl) ?_
        refine z_ifeq_b (tgt := 62) dX6_fitting_53 rfl (fun uc53 => ?_) (fun uc53 => ?_)
        ·
          refine z_iinc (fun y => [(0, rf en 0), (1, vi wh), (2, vi x2), (3, vi y)]) [1, 2, 3, 0] 3 dX6_fitting_62 rfl (by decide) (fun _ => rfl) (fun x3_62 e3_62 => ?_)
          refine z_goto (tgt := 22) dX6_fitting_65 rfl ?_
          exact uih22 x2 x3_62 r4_37 r5_46 r29_46 r30_46 r31_46 r32_46 r33_46 r34_46 (by omega) (⟨by omega, by omega, by rw [e3_62, tnS uq1, fiS, tnC uq1, if_neg uc53, Nat.or_zero]; exact uq3, fun uv => by rw [f4_37, up_up]; exact uq4 uv⟩)
        ·
          refine z_iload_n 2 dX6_fitting_56 rfl ?_
          refine z_iconst dX6_fitting_57 ?_
          refine z_iload_n 3 dX6_fitting_58 rfl ?_
          refine z_ishl dX6_fitting_59 (by omega) ?_
          have uz4 := p2_rg x3.toNat (by omega)
          refine z_ior dX6_fitting_60 (by omega) ?_
          refine z_istore_n (fun y => [(0, rf en 0), (1, vi wh), (2, vi y), (3, vi x3)]) [1, 2, 0, 3] dX6_fitting_61 (by decide) (fun _ => rfl) (fun x2_61 e2_61 => ?_)
          refine z_iinc (fun y => [(0, rf en 0), (1, vi wh), (2, vi x2_61), (3, vi y)]) [1, 2, 3, 0] 3 dX6_fitting_62 rfl (by decide) (fun _ => rfl) (fun x3_62 e3_62 => ?_)
          refine z_goto (tgt := 22) dX6_fitting_65 rfl ?_
          exact uih22 x2_61 x3_62 r4_37 r5_46 r29_46 r30_46 r31_46 r32_46 r33_46 r34_46 (by omega) (⟨by omega, by omega, by rw [e3_62, tnS uq1, fiS, tnC uq1, if_pos uc53, e2_61, uq3, Int.toNat_natCast, Int.one_mul, p2_nat], fun uv => by rw [f4_37, up_up]; exact uq4 uv⟩)
  refine Z.eqM (upR_id (k := 30) wHd) ?_
  refine Z.eqM (upR_id (k := 5) wO5) ?_
  refine Z.eqM (upR_id (k := 31) wLw) ?_
  refine Z.eqM (upR_id (k := 32) wC0) ?_
  refine Z.eqM (upR_id (k := 33) wE0) ?_
  refine Z.eqM (upR_id (k := 34) wR0) ?_
  refine Z.eqM (upR_id (k := 29) wP0) ?_
  exact uL22 _ x2_19 x3_21 r4_15 O5 P0 Hd Lw C0 E0 R0 (Nat.lt_succ_self _) (⟨by omega, by omega, by rw [e2_19, e3_21]; rfl, fun uv => by rw [f4_15]; exact Tq_up (cpy_q T T4) wh uv⟩)
set_option maxRecDepth 100000 in
theorem ct_X6_fits (en : zE) (M : zW) (O0 : Int → Int) (O2 : Int → Int) (T : Int → Int) (T4 : Int → Int) (O5 : Int → Int) (Q7 : Int → Int) (Q8 : Int → Int) (c : Int → Int) (A : Int → Int) (G : Int → Int) (K : Int → Int) (H : Int → Int) (S : Int → Int) (P0 : Int → Int) (Hd : Int → Int) (Lw : Int → Int) (C0 : Int → Int) (E0 : Int → Int) (R0 : Int → Int) (wO0 : M 0 = O0) (wO2 : M 2 = O2) (wT : M 3 = T) (wT4 : M 4 = T4) (wO5 : M 5 = O5) (wQ7 : M 7 = Q7) (wQ8 : M 8 = Q8) (wc : M 22 = c) (wA : M 24 = A) (wG : M 25 = G) (wK : M 26 = K) (wH : M 27 = H) (wS : M 28 = S) (wP0 : M 29 = P0) (wHd : M 30 = Hd) (wLw : M 31 = Lw) (wC0 : M 32 = C0) (wE0 : M 33 = E0) (wR0 : M 34 = R0) (wh : Int) (h0 : -2147483648 ≤ wh ∧ wh < 2147483648) (hT : tOK T) (hc : wB c) (hP : (0 ≤ O2 4 ∧ O2 4 ≤ 8) ∧ pOK (tP A G K H S) (O2 4)) (hs : (0 ≤ O0 8 ∧ O0 8 ≤ 8) ∧ ∀ j, 0 ≤ j → j < O0 8 → (0 ≤ Q7 j ∧ Q7 j ≤ 7) ∧ (0 ≤ Q8 j ∧ Q8 j ≤ 1)) : Ct en kA yX6_fits mX6_fits [rf en 0, vi wh] M (pX (fun x N => x = (if 0 ≤ wh ∧ wh ≤ 1 then (if wh = 0 then (fiS T (cW c) (tP A G K H S) (O2 4) (sgC Q7 Q8) (O0 8).toNat 2 10 : Int) else (fiS T (cW c) (tP A G K H S) (O2 4) (sgC Q7 Q8) (O0 8).toNat 0 8 : Int)) else -2) ∧ kc M N)) := by
  refine Ct.of (by decide +kernel) rfl [(0, rf en 0), (1, vi wh)] rfl (Nat.le_of_ble_eq_true rfl) (fun cx C => ?_)
  refine z_iload_n 1 dX6_fits_0 rfl ?_
  refine z_if_ne (tgt := 12) dX6_fits_1 rfl (by omega) (fun uc1 => ?_) (fun uc1 => ?_)
  ·
    refine z_iload_n 1 dX6_fits_12 rfl ?_
    refine z_iconst dX6_fits_13 ?_
    refine z_icmp_ne (tgt := 25) dX6_fits_14 rfl (by omega) (fun uc14 => ?_) (fun uc14 => ?_)
    ·
      refine z_bipush dX6_fits_25 rfl ?_
      exact z_iret C dX6_fits_27 rfl ⟨_, rfl, ⟨(if_neg (by omega)).symm, kc_r M⟩⟩
    ·
      refine z_aload_n 0 dX6_fits_17 rfl ?_
      refine z_iconst dX6_fits_18 ?_
      refine z_vX dX6_fits_19 lX6_196 (by decide) ka0 io0 rfl (ct_X6_fitting en M O0 O2 T T4 O5 Q7 Q8 c A G K H S P0 Hd Lw C0 E0 R0 wO0 wO2 wT wT4 wO5 wQ7 wQ8 wc wA wG wK wH wS wP0 wHd wLw wC0 wE0 wR0 (0) (by omega) (by assumption) (by assumption) (by assumption) (by assumption)) rfl rfl (by exact Nat.le_of_ble_eq_true rfl) (fun uv19 uN19 uh19 => ?_)
      obtain ⟨uw_19, uk_19⟩ := uh19
      refine z_goto (tgt := 27) dX6_fits_22 rfl ?_
      exact z_iret C dX6_fits_27 rfl ⟨_, rfl, ⟨by refine Eq.trans ?_ (if_pos (show 0 ≤ wh ∧ wh ≤ 1 by omega)).symm; rw [if_neg uc1]; exact uw_19, uk_19⟩⟩
  ·
    refine z_aload_n 0 dX6_fits_4 rfl ?_
    refine z_iconst dX6_fits_5 ?_
    refine z_vX dX6_fits_6 lX6_196 (by decide) ka0 io0 rfl (ct_X6_fitting en M O0 O2 T T4 O5 Q7 Q8 c A G K H S P0 Hd Lw C0 E0 R0 wO0 wO2 wT wT4 wO5 wQ7 wQ8 wc wA wG wK wH wS wP0 wHd wLw wC0 wE0 wR0 (2) (by omega) (by assumption) (by assumption) (by assumption) (by assumption)) rfl rfl (by exact Nat.le_of_ble_eq_true rfl) (fun uv6 uN6 uh6 => ?_)
    obtain ⟨uw_6, uk_6⟩ := uh6
    refine z_goto (tgt := 27) dX6_fits_9 rfl ?_
    exact z_iret C dX6_fits_27 rfl ⟨_, rfl, ⟨by refine Eq.trans ?_ (if_pos (show 0 ≤ wh ∧ wh ≤ 1 by omega)).symm; rw [if_pos uc1]; exact uw_6, uk_6⟩⟩
