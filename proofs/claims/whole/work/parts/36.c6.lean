/-! the class's face -/
abbrev Tq (T U : Int → Int) : Prop := ∀ j, 0 ≤ j → j < 6 → T j = U j
theorem cpy_q (T U : Int → Int) : Tq (cpy T U 0 0 6) T := fun j h1 h2 => by
  unfold cpy; rw [if_pos (by omega)]; congr 1; omega
theorem Tq_up {T U : Int → Int} (h : Tq T U) (k v : Int) : Tq (up T k v) (up U k v) := fun j h1 h2 => by
  by_cases q : j = k
  · rw [q, up_s, up_s]
  · rw [up_n _ _ q, up_n _ _ q]; exact h j h1 h2
theorem Tq_ok {T U : Int → Int} (h : Tq T U) (k : tOK U) : tOK T := by
  rw [tOK, h 0 (by decide) (by decide), h 1 (by decide) (by decide), h 2 (by decide) (by decide), h 3 (by decide) (by decide), h 4 (by decide) (by decide), h 5 (by decide) (by decide)]
  exact k
theorem hA_t {T U : Int → Int} (h : Tq T U) (W : Int → Int) : hA T W = hA U W := by
  funext t
  unfold hA
  rw [h 0 (by decide) (by decide), h 1 (by decide) (by decide), h 2 (by decide) (by decide)]
theorem crO_t {T U : Int → Int} (h : Tq T U) (W : Int → Int) : crO T W = crO U W := by
  unfold crO
  rw [hA_t h, h 3 (by decide) (by decide), h 4 (by decide) (by decide)]
theorem lwA_t {T U : Int → Int} (h : Tq T U) (W : Int → Int) : lwA T W = lwA U W := by
  funext t
  unfold lwA
  rw [crO_t h, h 4 (by decide) (by decide)]
theorem coO_t {T U : Int → Int} (h : Tq T U) (W P : Int → Int) (np : Int) : coO T W P np = coO U W P np := by
  funext p
  unfold coO
  rw [hA_t h]
theorem enO_t {T U : Int → Int} (h : Tq T U) (W P : Int → Int) (np : Int) : enO T W P np = enO U W P np := by
  funext p
  unfold enO enC
  rw [coO_t h, hA_t h, lwA_t h, h 5 (by decide) (by decide)]
theorem wnO_t {T U : Int → Int} (h : Tq T U) (W P : Int → Int) (np : Int) : ∀ n : Nat, wnO T W P np n = wnO U W P np n
  | 0 => rfl
  | n + 1 => by rw [wnO, wnO, wnO_t h W P np n, enO_t h]
theorem wns_t {T U : Int → Int} (h : Tq T U) (W P : Int → Int) (np : Int) : wns T W P np = wns U W P np := wnO_t h W P np _
theorem lsO_t {T U : Int → Int} (h : Tq T U) (W P : Int → Int) (np : Int) : ∀ n : Nat, lsO T W P np n = lsO U W P np n
  | 0 => rfl
  | n + 1 => by rw [lsO, lsO, lsO_t h W P np n, enO_t h, coO_t h]
theorem riO_t {T U : Int → Int} (h : Tq T U) (W P : Int → Int) (np : Int) : riO T W P np = riO U W P np := by
  unfold riO
  rw [coO_t h, enO_t h]
theorem Flw_t {T U V P : Int → Int} {np : Int} {r5 r30 r31 r32 r33 r34 : Int → Int} (h : Tq T U) (F : Flw T V P np r5 r30 r31 r32 r33 r34) : Flw U V P np r5 r30 r31 r32 r33 r34 := by
  obtain ⟨a, b, c, d, e, f, g, i⟩ := F
  rw [hA_t h] at a
  rw [lwA_t h] at b
  rw [crO_t h] at f
  rw [wns_t h] at g
  rw [lsO_t h] at i
  refine ⟨a, b, fun p x y => ?_, fun p x y => ?_, fun p x y => ?_, f, g, i⟩
  · rw [c p x y]; unfold coX; rw [coO_t h]
  · rw [d p x y]; unfold enX; rw [enO_t h]
  · rw [e p x y]; unfold riX; rw [riO_t h]
abbrev scC : List Nat := [4, 5, 6, 29, 30, 31, 32, 33, 34, 35, 36]
/-- only what the class works out anew differs -/
def kc (M N : zW) : Prop := ∀ k, k ∉ scC → N k = M k
theorem kc_r (M : zW) : kc M M := fun _ _ => rfl
theorem kc_u {M N : zW} {k : Nat} {r : Int → Int} (hk : k ∈ scC) (h : kc M N) : kc M (upR N k r) := fun q h1 => by
  rw [upR_ne (fun z => h1 (by rw [z]; exact hk))]; exact h q h1
theorem Flw.rg {T c A G K H S : Int → Int} (hT : tOK T) (hc : wB c) {np : Int} (hP : (0 ≤ np ∧ np ≤ 8) ∧ pOK (tP A G K H S) np) {r5 r30 r31 r32 r33 r34 : Int → Int} (F : Flw T (cW c) (tP A G K H S) np r5 r30 r31 r32 r33 r34) : (∀ t, 0 ≤ t → t < 8 → (-1 ≤ r30 t ∧ r30 t ≤ 9999) ∧ (-1 ≤ r31 t ∧ r31 t ≤ 9999)) ∧ (∀ p, 0 ≤ p → p < 8 → (-1 ≤ r32 p ∧ r32 p ≤ 9999) ∧ (0 ≤ r33 p ∧ r33 p ≤ 3)) ∧ (-1 ≤ r5 8 ∧ r5 8 ≤ 9999) ∧ (0 ≤ r5 9 ∧ r5 9 ≤ 8) := by
  obtain ⟨a, b, c1, d, e, f, g, i⟩ := F
  refine ⟨fun t x y => ?_, fun p x y => ?_, ?_, ?_⟩
  · rw [a t x y, b t x y]
    have h1 := orN_rg (v := hA T (cW c) t) (hA_rg hT (cW_ok hc) (by omega))
    have h2 := orN_rg (v := lwA T (cW c) t) (lwA_rg hT (cW_ok hc) (by omega))
    omega
  · rw [c1 p x y, d p x y]
    have h1 := coX_rg hT hc hP.2 (p := p) x
    have h2 := enX_rg T (cW c) (tP A G K H S) np p
    omega
  · rw [f]
    have := orN_rg (crO_rg hT (cW_ok hc))
    omega
  · rw [g]; exact wns_rg T (cW c) (tP A G K H S) hP.1
theorem noA_l {T c : Int → Int} (hT : tOK T) (hc : wB c) {t : Int} (ht : 0 ≤ t ∧ t ≤ 7) : (if orN (hA T (cW c) t) = -1 then 0 else if orN (lwA T (cW c) t) = -1 then -1 else max 0 (orN (lwA T (cW c) t) - orN (hA T (cW c) t))) = noA T (cW c) t := by
  have h1 := hA_s hT hc ht
  have h2 := lw_s hT hc ht
  unfold noA
  have e : ∀ y : Int, sml y 3017 → (orN y = -1 ↔ y = 9999) := fun y hy => by unfold orN; split <;> omega
  have e1 := e _ (show sml (hA T (cW c) t) 3017 by omega)
  have e2 := e _ h2
  simp only [e1, e2]
  by_cases q1 : hA T (cW c) t = 9999
  · rw [if_pos q1, if_pos q1]
  · rw [if_neg q1, if_neg q1]
    by_cases q2 : lwA T (cW c) t = 9999
    · rw [if_pos q2, if_pos q2]
    · rw [if_neg q2, if_neg q2, orN_id (by omega), orN_id (by omega)]
      split <;> omega
set_option maxRecDepth 100000 in
theorem ct_X6_isPerson (en : zE) (M : zW) (O2 : Int → Int) (wO2 : M 2 = O2) (p : Int) (h0 : -2147483648 ≤ p ∧ p < 2147483648 ∧ 0 ≤ O2 4 ∧ O2 4 ≤ 8) : Ct en kA yX6_isPerson mX6_isPerson [rf en 0, vi p] M (pI (bi (0 ≤ p ∧ p ≤ O2 4 - 1)) M) := by
  refine Ct.of (by decide +kernel) rfl [(0, rf en 0), (1, vi p)] rfl (Nat.le_of_ble_eq_true rfl) (fun cx C => ?_)
  refine z_iload_n 1 dX6_isPerson_0 rfl ?_
  refine z_aload_n 0 dX6_isPerson_1 rfl ?_
  refine z_getR dX6_isPerson_2 fX6_19_5 i0_1 ka0 ?_
  refine z_getI (r := O2) 4 rfl dX6_isPerson_5 fX6_255_2 i2_4 ka2 (wO2) ?_
  refine z_iconst dX6_isPerson_8 ?_
  refine z_isub dX6_isPerson_9 ?_
  refine z_sI dX6_isPerson_10 lX6_68 (by decide) (ct_X6_within en M _ _ (by omega)) rfl rfl (by exact Nat.le_of_ble_eq_true rfl) ?_
  exact z_zret C dX6_isPerson_13 rfl (bi_01) ⟨congrArg (fun z => some (vi z)) (rfl), rfl⟩
set_option maxRecDepth 100000 in
theorem ct_X6_way (en : zE) (M : zW) (c : Int → Int) (wc : M 22 = c) (a : Int) (b : Int) (h0 : -2147483648 ≤ a ∧ a < 2147483648 ∧ -2147483648 ≤ b ∧ b < 2147483648) (hc : wB c) : Ct en kA yX6_way mX6_way [rf en 0, vi a, vi b] M (pX (fun x N => x = (if (0 ≤ a ∧ a ≤ 7) ∧ (0 ≤ b ∧ b ≤ 7) then orN (cW c (8 * a + b)) else -2) ∧ kc M N)) := by
  refine Ct.of (by decide +kernel) rfl [(0, rf en 0), (1, vi a), (2, vi b)] rfl (Nat.le_of_ble_eq_true rfl) (fun cx C => ?_)
  refine z_iload_n 1 dX6_way_0 rfl ?_
  refine z_sI dX6_way_1 lX6_119 (by decide) (ct_X6_isTown en M _ (by omega)) rfl rfl (by exact Nat.le_of_ble_eq_true rfl) ?_
  refine z_ifeq_b (tgt := 26) dX6_way_4 rfl (fun uc4 => ?_) (fun uc4 => ?_)
  ·
    refine z_bipush dX6_way_26 rfl ?_
    exact z_iret C dX6_way_28 rfl ⟨_, rfl, ⟨(if_neg (by omega)).symm, (kc_r M)⟩⟩
  ·
    refine z_iload_n 2 dX6_way_7 rfl ?_
    refine z_sI dX6_way_8 lX6_119 (by decide) (ct_X6_isTown en M _ (by omega)) rfl rfl (by exact Nat.le_of_ble_eq_true rfl) ?_
    refine z_ifeq_b (tgt := 26) dX6_way_11 rfl (fun uc11 => ?_) (fun uc11 => ?_)
    ·
      refine z_bipush dX6_way_26 rfl ?_
      exact z_iret C dX6_way_28 rfl ⟨_, rfl, ⟨(if_neg (by omega)).symm, (kc_r M)⟩⟩
    ·
      refine z_aload_n 0 dX6_way_14 rfl ?_
      refine z_getR dX6_way_15 fX6_10_5 i0_0 ka0 ?_
      refine z_iload_n 1 dX6_way_18 rfl ?_
      refine z_iload_n 2 dX6_way_19 rfl ?_
      refine z_vI dX6_way_20 lX6_122 (by decide) ka1 io1 rfl (ct_X3_between en M c wc _ _ (by omega) (by assumption)) rfl rfl (by exact Nat.le_of_ble_eq_true rfl) ?_
      refine z_goto (tgt := 28) dX6_way_23 rfl ?_
      exact z_iret C dX6_way_28 rfl ⟨_, rfl, ⟨(cW_b hc uc4 uc11).trans (if_pos ⟨uc4, uc11⟩).symm, (kc_r M)⟩⟩
set_option maxRecDepth 100000 in
theorem ct_X6_hears (en : zE) (M : zW) (O2 : Int → Int) (T : Int → Int) (O5 : Int → Int) (c : Int → Int) (A : Int → Int) (G : Int → Int) (K : Int → Int) (H : Int → Int) (S : Int → Int) (P0 : Int → Int) (Hd : Int → Int) (Lw : Int → Int) (C0 : Int → Int) (E0 : Int → Int) (R0 : Int → Int) (wO2 : M 2 = O2) (wT : M 3 = T) (wO5 : M 5 = O5) (wc : M 22 = c) (wA : M 24 = A) (wG : M 25 = G) (wK : M 26 = K) (wH : M 27 = H) (wS : M 28 = S) (wP0 : M 29 = P0) (wHd : M 30 = Hd) (wLw : M 31 = Lw) (wC0 : M 32 = C0) (wE0 : M 33 = E0) (wR0 : M 34 = R0) (t : Int) (wh : Int) (h0 : -2147483648 ≤ t ∧ t < 2147483648 ∧ -2147483648 ≤ wh ∧ wh < 2147483648) (hT : tOK T) (hc : wB c) (hP : (0 ≤ O2 4 ∧ O2 4 ≤ 8) ∧ pOK (tP A G K H S) (O2 4)) : Ct en kA yX6_hears mX6_hears [rf en 0, vi t, vi wh] M (pX (fun x N => x = (if (0 ≤ t ∧ t ≤ 7) ∧ (0 ≤ wh ∧ wh ≤ 2) then hBy T (cW c) t wh else -2) ∧ kc M N)) := by
  refine Ct.of (by decide +kernel) rfl [(0, rf en 0), (1, vi t), (2, vi wh)] rfl (Nat.le_of_ble_eq_true rfl) (fun cx C => ?_)
  refine z_iload_n 1 dX6_hears_0 rfl ?_
  refine z_sI dX6_hears_1 lX6_119 (by decide) (ct_X6_isTown en M _ (by omega)) rfl rfl (by exact Nat.le_of_ble_eq_true rfl) ?_
  refine z_ifeq_b (tgt := 15) dX6_hears_4 rfl (fun uc4 => ?_) (fun uc4 => ?_)
  ·
    refine z_bipush dX6_hears_15 rfl ?_
    exact z_iret C dX6_hears_17 rfl ⟨_, rfl, ⟨(if_neg (by omega)).symm, (kc_r M)⟩⟩
  ·
    refine z_iload_n 2 dX6_hears_7 rfl ?_
    refine z_iconst dX6_hears_8 ?_
    refine z_sI dX6_hears_9 lX6_68 (by decide) (ct_X6_within en M _ (2) (by omega)) rfl rfl (by exact Nat.le_of_ble_eq_true rfl) ?_
    refine z_ifne_b (tgt := 18) dX6_hears_12 rfl (fun uc12 => ?_) (fun uc12 => ?_)
    ·
      refine z_aload_n 0 dX6_hears_18 rfl ?_
      refine z_getR dX6_hears_19 fX6_38_5 i0_4 ka0 ?_
      refine z_aload_n 0 dX6_hears_22 rfl ?_
      refine z_getR dX6_hears_23 fX6_27_5 i0_2 ka0 ?_
      refine z_vN dX6_hears_26 lX6_126 (by decide) ka5 io5 rfl (ct_X1_follow_3 en M O2 T O5 c A G K H S P0 Hd Lw C0 E0 R0 wO2 wT wO5 wc wA wG wK wH wS wP0 wHd wLw wC0 wE0 wR0 (by assumption) (by assumption) (by assumption)) rfl rfl (by exact Nat.le_of_ble_eq_true rfl) (fun uN26 uh26 => ?_)
      obtain ⟨r5_26, r29_26, r30_26, r31_26, r32_26, r33_26, r34_26, uF, uF5, rfl⟩ := uh26
      have uFr := Flw.rg hT hc hP uF
      obtain ⟨uf1, uf2, uf3, uf4, uf5, uf6, uf7, uf8⟩ := id uF
      refine z_iload_n 2 dX6_hears_29 rfl ?_
      refine z_if_ne (tgt := 45) dX6_hears_30 rfl (by omega) (fun uc30 => ?_) (fun uc30 => ?_)
      ·
        refine z_iload_n 2 dX6_hears_45 rfl ?_
        refine z_iconst dX6_hears_46 ?_
        refine z_icmp_ne (tgt := 62) dX6_hears_47 rfl (by omega) (fun uc47 => ?_) (fun uc47 => ?_)
        ·
          refine z_aload_n 0 dX6_hears_62 rfl ?_
          refine z_getR dX6_hears_63 fX6_38_5 i0_4 ka0 ?_
          refine z_iload_n 1 dX6_hears_66 rfl ?_
          refine z_vI dX6_hears_67 lX6_136 (by decide) ka5 io5 rfl (ct_X1_lawless en (upR (upR (upR (upR (upR (upR (upR M 30 r30_26) 5 r5_26) 31 r31_26) 32 r32_26) 33 r33_26) 34 r34_26) 29 r29_26) r30_26 r31_26 rfl rfl _ (by omega) (uFr.1 t (by omega) (by omega))) rfl rfl (by exact Nat.le_of_ble_eq_true rfl) ?_
          exact z_iret C dX6_hears_70 rfl ⟨_, rfl, ⟨by refine Eq.trans ?_ (if_pos (show (0 ≤ t ∧ t ≤ 7) ∧ (0 ≤ wh ∧ wh ≤ 2) by omega)).symm; unfold hBy; rw [if_neg uc30, if_neg uc47, uf1 t (by omega) (by omega), uf2 t (by omega) (by omega)]; exact noA_l hT hc (by omega), (kc_u (by decide) (kc_u (by decide) (kc_u (by decide) (kc_u (by decide) (kc_u (by decide) (kc_u (by decide) (kc_u (by decide) (kc_r M))))))))⟩⟩
        ·
          refine z_aload_n 0 dX6_hears_50 rfl ?_
          refine z_getR dX6_hears_51 fX6_38_5 i0_4 ka0 ?_
          refine z_getR dX6_hears_54 fX6_133_1 i5_4 ka5 ?_
          refine z_iload_n 1 dX6_hears_57 rfl ?_
          refine z_iald (r := r31_26) dX6_hears_58 is31 ka31 (rfl) (by omega) ?_
          refine z_goto (tgt := 70) dX6_hears_59 rfl ?_
          exact z_iret C dX6_hears_70 rfl ⟨_, rfl, ⟨by refine Eq.trans ?_ (if_pos (show (0 ≤ t ∧ t ≤ 7) ∧ (0 ≤ wh ∧ wh ≤ 2) by omega)).symm; unfold hBy; rw [if_neg uc30, if_pos uc47]; exact uf2 t (by omega) (by omega), (kc_u (by decide) (kc_u (by decide) (kc_u (by decide) (kc_u (by decide) (kc_u (by decide) (kc_u (by decide) (kc_u (by decide) (kc_r M))))))))⟩⟩
      ·
        refine z_aload_n 0 dX6_hears_33 rfl ?_
        refine z_getR dX6_hears_34 fX6_38_5 i0_4 ka0 ?_
        refine z_getR dX6_hears_37 fX6_130_1 i5_3 ka5 ?_
        refine z_iload_n 1 dX6_hears_40 rfl ?_
        refine z_iald (r := r30_26) dX6_hears_41 is30 ka30 (rfl) (by omega) ?_
        refine z_goto (tgt := 70) dX6_hears_42 rfl ?_
        exact z_iret C dX6_hears_70 rfl ⟨_, rfl, ⟨by refine Eq.trans ?_ (if_pos (show (0 ≤ t ∧ t ≤ 7) ∧ (0 ≤ wh ∧ wh ≤ 2) by omega)).symm; unfold hBy; rw [if_pos uc30]; exact uf1 t (by omega) (by omega), (kc_u (by decide) (kc_u (by decide) (kc_u (by decide) (kc_u (by decide) (kc_u (by decide) (kc_u (by decide) (kc_u (by decide) (kc_r M))))))))⟩⟩
    ·
      refine z_bipush dX6_hears_15 rfl ?_
      exact z_iret C dX6_hears_17 rfl ⟨_, rfl, ⟨(if_neg (by omega)).symm, (kc_r M)⟩⟩
set_option maxRecDepth 100000 in
theorem ct_X6_crowned (en : zE) (M : zW) (O2 : Int → Int) (T : Int → Int) (O5 : Int → Int) (c : Int → Int) (A : Int → Int) (G : Int → Int) (K : Int → Int) (H : Int → Int) (S : Int → Int) (P0 : Int → Int) (Hd : Int → Int) (Lw : Int → Int) (C0 : Int → Int) (E0 : Int → Int) (R0 : Int → Int) (wO2 : M 2 = O2) (wT : M 3 = T) (wO5 : M 5 = O5) (wc : M 22 = c) (wA : M 24 = A) (wG : M 25 = G) (wK : M 26 = K) (wH : M 27 = H) (wS : M 28 = S) (wP0 : M 29 = P0) (wHd : M 30 = Hd) (wLw : M 31 = Lw) (wC0 : M 32 = C0) (wE0 : M 33 = E0) (wR0 : M 34 = R0) (hT : tOK T) (hc : wB c) (hP : (0 ≤ O2 4 ∧ O2 4 ≤ 8) ∧ pOK (tP A G K H S) (O2 4)) : Ct en kA yX6_crowned mX6_crowned [rf en 0] M (pX (fun x N => x = orN (crO T (cW c)) ∧ kc M N)) := by
  refine Ct.of (by decide +kernel) rfl [(0, rf en 0)] rfl (Nat.le_of_ble_eq_true rfl) (fun cx C => ?_)
  refine z_aload_n 0 dX6_crowned_0 rfl ?_
  refine z_getR dX6_crowned_1 fX6_38_5 i0_4 ka0 ?_
  refine z_aload_n 0 dX6_crowned_4 rfl ?_
  refine z_getR dX6_crowned_5 fX6_27_5 i0_2 ka0 ?_
  refine z_vN dX6_crowned_8 lX6_126 (by decide) ka5 io5 rfl (ct_X1_follow_3 en M O2 T O5 c A G K H S P0 Hd Lw C0 E0 R0 wO2 wT wO5 wc wA wG wK wH wS wP0 wHd wLw wC0 wE0 wR0 (by assumption) (by assumption) (by assumption)) rfl rfl (by exact Nat.le_of_ble_eq_true rfl) (fun uN8 uh8 => ?_)
  obtain ⟨r5_8, r29_8, r30_8, r31_8, r32_8, r33_8, r34_8, uF, uF5, rfl⟩ := uh8
  have uFr := Flw.rg hT hc hP uF
  obtain ⟨uf1, uf2, uf3, uf4, uf5, uf6, uf7, uf8⟩ := id uF
  refine z_aload_n 0 dX6_crowned_11 rfl ?_
  refine z_getR dX6_crowned_12 fX6_38_5 i0_4 ka0 ?_
  refine z_getI (r := r5_8) 8 rfl dX6_crowned_15 fX6_140_1 i5_8 ka5 (rfl) ?_
  exact z_iret C dX6_crowned_18 rfl ⟨_, rfl, ⟨uf6, (kc_u (by decide) (kc_u (by decide) (kc_u (by decide) (kc_u (by decide) (kc_u (by decide) (kc_u (by decide) (kc_u (by decide) (kc_r M))))))))⟩⟩
set_option maxRecDepth 100000 in
theorem ct_X6_knew (en : zE) (M : zW) (O2 : Int → Int) (T : Int → Int) (O5 : Int → Int) (c : Int → Int) (A : Int → Int) (G : Int → Int) (K : Int → Int) (H : Int → Int) (S : Int → Int) (P0 : Int → Int) (Hd : Int → Int) (Lw : Int → Int) (C0 : Int → Int) (E0 : Int → Int) (R0 : Int → Int) (wO2 : M 2 = O2) (wT : M 3 = T) (wO5 : M 5 = O5) (wc : M 22 = c) (wA : M 24 = A) (wG : M 25 = G) (wK : M 26 = K) (wH : M 27 = H) (wS : M 28 = S) (wP0 : M 29 = P0) (wHd : M 30 = Hd) (wLw : M 31 = Lw) (wC0 : M 32 = C0) (wE0 : M 33 = E0) (wR0 : M 34 = R0) (d : Int) (h0 : -2147483648 ≤ d ∧ d < 2147483648) (hT : tOK T) (hc : wB c) (hP : (0 ≤ O2 4 ∧ O2 4 ≤ 8) ∧ pOK (tP A G K H S) (O2 4)) : Ct en kA yX6_knew mX6_knew [rf en 0, vi d] M (pX (fun x N => x = (if 0 ≤ d ∧ d ≤ 99 then (knB T (cW c) d 8 : Int) else -2) ∧ kc M N)) := by
  refine Ct.of (by decide +kernel) rfl [(0, rf en 0), (1, vi d)] rfl (Nat.le_of_ble_eq_true rfl) (fun cx C => ?_)
  refine z_iload_n 1 dX6_knew_0 rfl ?_
  refine z_bipush dX6_knew_1 rfl ?_
  refine z_sI dX6_knew_3 lX6_68 (by decide) (ct_X6_within en M _ (99) (by omega)) rfl rfl (by exact Nat.le_of_ble_eq_true rfl) ?_
  refine z_ifne_b (tgt := 12) dX6_knew_6 rfl (fun uc6 => ?_) (fun uc6 => ?_)
  ·
    refine z_aload_n 0 dX6_knew_12 rfl ?_
    refine z_getR dX6_knew_13 fX6_38_5 i0_4 ka0 ?_
    refine z_aload_n 0 dX6_knew_16 rfl ?_
    refine z_getR dX6_knew_17 fX6_27_5 i0_2 ka0 ?_
    refine z_vN dX6_knew_20 lX6_126 (by decide) ka5 io5 rfl (ct_X1_follow_3 en M O2 T O5 c A G K H S P0 Hd Lw C0 E0 R0 wO2 wT wO5 wc wA wG wK wH wS wP0 wHd wLw wC0 wE0 wR0 (by assumption) (by assumption) (by assumption)) rfl rfl (by exact Nat.le_of_ble_eq_true rfl) (fun uN20 uh20 => ?_)
    obtain ⟨r5_20, r29_20, r30_20, r31_20, r32_20, r33_20, r34_20, uF, uF5, rfl⟩ := uh20
    have uFr := Flw.rg hT hc hP uF
    obtain ⟨uf1, uf2, uf3, uf4, uf5, uf6, uf7, uf8⟩ := id uF
    refine z_iconst dX6_knew_23 ?_
    refine z_istore_n (fun y => [(0, rf en 0), (1, vi d), (2, vi y)]) [1, 2, 0] dX6_knew_24 (by decide) (fun _ => rfl) (fun x2_24 e2_24 => ?_)
    refine z_iconst dX6_knew_25 ?_
    refine z_istore_n (fun y => [(0, rf en 0), (1, vi d), (2, vi x2_24), (3, vi y)]) [1, 2, 3, 0] dX6_knew_26 (by decide) (fun _ => rfl) (fun x3_26 e3_26 => ?_)
    have uL27 : ∀ (fu : Nat) (x2 : Int) (x3 : Int), (8 - x3).toNat < fu → (0 ≤ x3 ∧ x3 ≤ 8 ∧ x2 = (knB T (cW c) d x3.toNat : Int)) → Z en kA cx mX6_knew (upR (upR (upR (upR (upR (upR (upR M 30 r30_20) 5 r5_20) 31 r31_20) 32 r32_20) 33 r33_20) 34 r34_20) 29 r29_20) 27 [(0, rf en 0), (1, vi d), (2, vi x2), (3, vi x3)] [] := by
      intro fu
      induction fu with
      | zero => intro x2 x3 uhf; exact absurd uhf (Nat.not_lt_zero _)
      | succ fu uih27 =>
        intro x2 x3 uf27 uI27
        obtain ⟨uq1, uq2, uq3⟩ := uI27
        have uql := knB_256 T (cW c) d (n := x3.toNat) (by omega)
        refine z_iload_n 3 dX6_knew_27 rfl ?_
        refine z_bipush dX6_knew_28 rfl ?_
        refine z_icmp_ge (tgt := 61) dX6_knew_30 rfl (by omega) (fun uc30 => ?_) (fun uc30 => ?_)
        ·
          refine z_iload_n 2 dX6_knew_61 rfl ?_
          exact z_iret C dX6_knew_62 rfl ⟨_, rfl, ⟨by rw [if_pos (by omega), uq3, show x3 = 8 by omega]; rfl, (kc_u (by decide) (kc_u (by decide) (kc_u (by decide) (kc_u (by decide) (kc_u (by decide) (kc_u (by decide) (kc_u (by decide) (kc_r M))))))))⟩⟩
        ·
          have uhr := (uFr.1 x3 uq1 (by omega)).1
          refine z_aload_n 0 dX6_knew_33 rfl ?_
          refine z_getR dX6_knew_34 fX6_38_5 i0_4 ka0 ?_
          refine z_getR dX6_knew_37 fX6_130_1 i5_3 ka5 ?_
          refine z_iload_n 3 dX6_knew_40 rfl ?_
          refine z_iald (r := r30_20) dX6_knew_41 is30 ka30 (rfl) (by omega) ?_
          refine z_iload_n 1 dX6_knew_42 rfl ?_
          refine z_sI dX6_knew_43 lX6_143 (by decide) (ct_X6_isBy en (upR (upR (upR (upR (upR (upR (upR M 30 r30_20) 5 r5_20) 31 r31_20) 32 r32_20) 33 r33_20) 34 r34_20) 29 r29_20) _ _ (by omega)) rfl rfl (by exact Nat.le_of_ble_eq_true rfl) ?_
          have uby : (r30_20 x3 ≠ -1 ∧ r30_20 x3 ≤ d) ↔ hA T (cW c) x3 ≤ d := by rw [uf1 x3 uq1 (by omega)]; have uhs := hA_s hT hc (t := x3) (by omega); unfold orN; split <;> omega
          refine z_ifeq_b (tgt := 55) dX6_knew_46 rfl (fun uc46 => ?_) (fun uc46 => ?_)
          ·
            refine z_iinc (fun y => [(0, rf en 0), (1, vi d), (2, vi x2), (3, vi y)]) [1, 2, 3, 0] 3 dX6_knew_55 rfl (by decide) (fun _ => rfl) (fun x3_55 e3_55 => ?_)
            refine z_goto (tgt := 27) dX6_knew_58 rfl ?_
            exact uih27 x2 x3_55 (by omega) (⟨by omega, by omega, by rw [e3_55, tnS uq1, knB, tnC uq1, if_neg (fun uz => uc46 (uby.mpr uz)), Nat.or_zero]; exact uq3⟩)
          ·
            refine z_iload_n 2 dX6_knew_49 rfl ?_
            refine z_iconst dX6_knew_50 ?_
            refine z_iload_n 3 dX6_knew_51 rfl ?_
            refine z_ishl dX6_knew_52 (by omega) ?_
            have uz4 := p2_rg x3.toNat (by omega)
            refine z_ior dX6_knew_53 (by omega) ?_
            refine z_istore_n (fun y => [(0, rf en 0), (1, vi d), (2, vi y), (3, vi x3)]) [1, 2, 0, 3] dX6_knew_54 (by decide) (fun _ => rfl) (fun x2_54 e2_54 => ?_)
            refine z_iinc (fun y => [(0, rf en 0), (1, vi d), (2, vi x2_54), (3, vi y)]) [1, 2, 3, 0] 3 dX6_knew_55 rfl (by decide) (fun _ => rfl) (fun x3_55 e3_55 => ?_)
            refine z_goto (tgt := 27) dX6_knew_58 rfl ?_
            exact uih27 x2_54 x3_55 (by omega) (⟨by omega, by omega, by rw [e3_55, tnS uq1, knB, tnC uq1, if_pos (uby.mp uc46), e2_54, uq3, Int.toNat_natCast, Int.one_mul, p2_nat]⟩)
    exact uL27 _ x2_24 x3_26 (Nat.lt_succ_self _) (⟨by omega, by omega, by rw [e2_24, e3_26]; rfl⟩)
  ·
    refine z_bipush dX6_knew_9 rfl ?_
    exact z_iret C dX6_knew_11 rfl ⟨_, rfl, ⟨(if_neg (by omega)).symm, (kc_r M)⟩⟩
set_option maxRecDepth 100000 in
theorem ct_X6_rides (en : zE) (M : zW) (O2 : Int → Int) (T : Int → Int) (O5 : Int → Int) (c : Int → Int) (A : Int → Int) (G : Int → Int) (K : Int → Int) (H : Int → Int) (S : Int → Int) (P0 : Int → Int) (Hd : Int → Int) (Lw : Int → Int) (C0 : Int → Int) (E0 : Int → Int) (R0 : Int → Int) (wO2 : M 2 = O2) (wT : M 3 = T) (wO5 : M 5 = O5) (wc : M 22 = c) (wA : M 24 = A) (wG : M 25 = G) (wK : M 26 = K) (wH : M 27 = H) (wS : M 28 = S) (wP0 : M 29 = P0) (wHd : M 30 = Hd) (wLw : M 31 = Lw) (wC0 : M 32 = C0) (wE0 : M 33 = E0) (wR0 : M 34 = R0) (p : Int) (wh : Int) (h0 : -2147483648 ≤ p ∧ p < 2147483648 ∧ -2147483648 ≤ wh ∧ wh < 2147483648) (hT : tOK T) (hc : wB c) (hP : (0 ≤ O2 4 ∧ O2 4 ≤ 8) ∧ pOK (tP A G K H S) (O2 4)) : Ct en kA yX6_rides mX6_rides [rf en 0, vi p, vi wh] M (pX (fun x N => x = (if (0 ≤ p ∧ p ≤ O2 4 - 1) ∧ (0 ≤ wh ∧ wh ≤ 2) then (if wh = 0 then orN (coO T (cW c) (tP A G K H S) (O2 4) p) else if wh = 1 then enO T (cW c) (tP A G K H S) (O2 4) p else riO T (cW c) (tP A G K H S) (O2 4) p) else -2) ∧ kc M N)) := by
  refine Ct.of (by decide +kernel) rfl [(0, rf en 0), (1, vi p), (2, vi wh)] rfl (Nat.le_of_ble_eq_true rfl) (fun cx C => ?_)
  refine z_aload_n 0 dX6_rides_0 rfl ?_
  refine z_iload_n 1 dX6_rides_1 rfl ?_
  refine z_vI dX6_rides_2 lX6_100 (by decide) ka0 io0 rfl (ct_X6_isPerson en M O2 wO2 _ (by omega)) rfl rfl (by exact Nat.le_of_ble_eq_true rfl) ?_
  refine z_ifeq_b (tgt := 16) dX6_rides_5 rfl (fun uc5 => ?_) (fun uc5 => ?_)
  ·
    refine z_bipush dX6_rides_16 rfl ?_
    exact z_iret C dX6_rides_18 rfl ⟨_, rfl, ⟨(if_neg (by omega)).symm, (kc_r M)⟩⟩
  ·
    refine z_iload_n 2 dX6_rides_8 rfl ?_
    refine z_iconst dX6_rides_9 ?_
    refine z_sI dX6_rides_10 lX6_68 (by decide) (ct_X6_within en M _ (2) (by omega)) rfl rfl (by exact Nat.le_of_ble_eq_true rfl) ?_
    refine z_ifne_b (tgt := 19) dX6_rides_13 rfl (fun uc13 => ?_) (fun uc13 => ?_)
    ·
      refine z_aload_n 0 dX6_rides_19 rfl ?_
      refine z_getR dX6_rides_20 fX6_38_5 i0_4 ka0 ?_
      refine z_aload_n 0 dX6_rides_23 rfl ?_
      refine z_getR dX6_rides_24 fX6_27_5 i0_2 ka0 ?_
      refine z_vN dX6_rides_27 lX6_126 (by decide) ka5 io5 rfl (ct_X1_follow_3 en M O2 T O5 c A G K H S P0 Hd Lw C0 E0 R0 wO2 wT wO5 wc wA wG wK wH wS wP0 wHd wLw wC0 wE0 wR0 (by assumption) (by assumption) (by assumption)) rfl rfl (by exact Nat.le_of_ble_eq_true rfl) (fun uN27 uh27 => ?_)
      obtain ⟨r5_27, r29_27, r30_27, r31_27, r32_27, r33_27, r34_27, uF, uF5, rfl⟩ := uh27
      have uFr := Flw.rg hT hc hP uF
      obtain ⟨uf1, uf2, uf3, uf4, uf5, uf6, uf7, uf8⟩ := id uF
      refine z_iload_n 2 dX6_rides_30 rfl ?_
      refine z_if_ne (tgt := 46) dX6_rides_31 rfl (by omega) (fun uc31 => ?_) (fun uc31 => ?_)
      ·
        refine z_iload_n 2 dX6_rides_46 rfl ?_
        refine z_iconst dX6_rides_47 ?_
        refine z_icmp_ne (tgt := 63) dX6_rides_48 rfl (by omega) (fun uc48 => ?_) (fun uc48 => ?_)
        ·
          refine z_aload_n 0 dX6_rides_63 rfl ?_
          refine z_getR dX6_rides_64 fX6_38_5 i0_4 ka0 ?_
          refine z_getR dX6_rides_67 fX6_152_1 i5_7 ka5 ?_
          refine z_iload_n 1 dX6_rides_70 rfl ?_
          refine z_iald (r := r34_27) dX6_rides_71 is34 ka34 (rfl) (by omega) ?_
          exact z_iret C dX6_rides_72 rfl ⟨_, rfl, ⟨by rw [if_pos (by omega)]; rw [if_neg uc31, if_neg uc48, uf5 p (by omega) (by omega)]; unfold riX; rw [if_pos (by omega)], (kc_u (by decide) (kc_u (by decide) (kc_u (by decide) (kc_u (by decide) (kc_u (by decide) (kc_u (by decide) (kc_u (by decide) (kc_r M))))))))⟩⟩
        ·
          refine z_aload_n 0 dX6_rides_51 rfl ?_
          refine z_getR dX6_rides_52 fX6_38_5 i0_4 ka0 ?_
          refine z_getR dX6_rides_55 fX6_149_1 i5_6 ka5 ?_
          refine z_iload_n 1 dX6_rides_58 rfl ?_
          refine z_iald (r := r33_27) dX6_rides_59 is33 ka33 (rfl) (by omega) ?_
          refine z_goto (tgt := 72) dX6_rides_60 rfl ?_
          exact z_iret C dX6_rides_72 rfl ⟨_, rfl, ⟨by rw [if_pos (by omega)]; rw [if_neg uc31, if_pos uc48, uf4 p (by omega) (by omega)]; unfold enX; rw [if_pos (by omega)], (kc_u (by decide) (kc_u (by decide) (kc_u (by decide) (kc_u (by decide) (kc_u (by decide) (kc_u (by decide) (kc_u (by decide) (kc_r M))))))))⟩⟩
      ·
        refine z_aload_n 0 dX6_rides_34 rfl ?_
        refine z_getR dX6_rides_35 fX6_38_5 i0_4 ka0 ?_
        refine z_getR dX6_rides_38 fX6_146_1 i5_5 ka5 ?_
        refine z_iload_n 1 dX6_rides_41 rfl ?_
        refine z_iald (r := r32_27) dX6_rides_42 is32 ka32 (rfl) (by omega) ?_
        refine z_goto (tgt := 72) dX6_rides_43 rfl ?_
        exact z_iret C dX6_rides_72 rfl ⟨_, rfl, ⟨by rw [if_pos (by omega)]; rw [if_pos uc31, uf3 p (by omega) (by omega)]; unfold coX; rw [if_pos (by omega)], (kc_u (by decide) (kc_u (by decide) (kc_u (by decide) (kc_u (by decide) (kc_u (by decide) (kc_u (by decide) (kc_u (by decide) (kc_r M))))))))⟩⟩
    ·
      refine z_bipush dX6_rides_16 rfl ?_
      exact z_iret C dX6_rides_18 rfl ⟨_, rfl, ⟨(if_neg (by omega)).symm, (kc_r M)⟩⟩
set_option maxRecDepth 100000 in
theorem ct_X6_lost (en : zE) (M : zW) (O2 : Int → Int) (T : Int → Int) (O5 : Int → Int) (c : Int → Int) (A : Int → Int) (G : Int → Int) (K : Int → Int) (H : Int → Int) (S : Int → Int) (P0 : Int → Int) (Hd : Int → Int) (Lw : Int → Int) (C0 : Int → Int) (E0 : Int → Int) (R0 : Int → Int) (wO2 : M 2 = O2) (wT : M 3 = T) (wO5 : M 5 = O5) (wc : M 22 = c) (wA : M 24 = A) (wG : M 25 = G) (wK : M 26 = K) (wH : M 27 = H) (wS : M 28 = S) (wP0 : M 29 = P0) (wHd : M 30 = Hd) (wLw : M 31 = Lw) (wC0 : M 32 = C0) (wE0 : M 33 = E0) (wR0 : M 34 = R0) (wh : Int) (h0 : -2147483648 ≤ wh ∧ wh < 2147483648) (hT : tOK T) (hc : wB c) (hP : (0 ≤ O2 4 ∧ O2 4 ≤ 8) ∧ pOK (tP A G K H S) (O2 4)) : Ct en kA yX6_lost mX6_lost [rf en 0, vi wh] M (pX (fun x N => x = (if 0 ≤ wh ∧ wh ≤ 1 then (if wh = 0 then wns T (cW c) (tP A G K H S) (O2 4) else lsO T (cW c) (tP A G K H S) (O2 4) (O2 4).toNat) else -2) ∧ kc M N)) := by
  refine Ct.of (by decide +kernel) rfl [(0, rf en 0), (1, vi wh)] rfl (Nat.le_of_ble_eq_true rfl) (fun cx C => ?_)
  refine z_iload_n 1 dX6_lost_0 rfl ?_
  refine z_iconst dX6_lost_1 ?_
  refine z_sI dX6_lost_2 lX6_68 (by decide) (ct_X6_within en M _ (1) (by omega)) rfl rfl (by exact Nat.le_of_ble_eq_true rfl) ?_
  refine z_ifne_b (tgt := 11) dX6_lost_5 rfl (fun uc5 => ?_) (fun uc5 => ?_)
  ·
    refine z_aload_n 0 dX6_lost_11 rfl ?_
    refine z_getR dX6_lost_12 fX6_38_5 i0_4 ka0 ?_
    refine z_aload_n 0 dX6_lost_15 rfl ?_
    refine z_getR dX6_lost_16 fX6_27_5 i0_2 ka0 ?_
    refine z_vN dX6_lost_19 lX6_126 (by decide) ka5 io5 rfl (ct_X1_follow_3 en M O2 T O5 c A G K H S P0 Hd Lw C0 E0 R0 wO2 wT wO5 wc wA wG wK wH wS wP0 wHd wLw wC0 wE0 wR0 (by assumption) (by assumption) (by assumption)) rfl rfl (by exact Nat.le_of_ble_eq_true rfl) (fun uN19 uh19 => ?_)
    obtain ⟨r5_19, r29_19, r30_19, r31_19, r32_19, r33_19, r34_19, uF, uF5, rfl⟩ := uh19
    have uFr := Flw.rg hT hc hP uF
    obtain ⟨uf1, uf2, uf3, uf4, uf5, uf6, uf7, uf8⟩ := id uF
    refine z_iload_n 1 dX6_lost_22 rfl ?_
    refine z_if_ne (tgt := 36) dX6_lost_23 rfl (by omega) (fun uc23 => ?_) (fun uc23 => ?_)
    ·
      refine z_aload_n 0 dX6_lost_36 rfl ?_
      refine z_getR dX6_lost_37 fX6_38_5 i0_4 ka0 ?_
      refine z_getI (r := r5_19) 10 rfl dX6_lost_40 fX6_158_1 i5_10 ka5 (rfl) ?_
      exact z_iret C dX6_lost_43 rfl ⟨_, rfl, ⟨by rw [if_pos (by omega)]; rw [if_neg uc23]; exact uf8, (kc_u (by decide) (kc_u (by decide) (kc_u (by decide) (kc_u (by decide) (kc_u (by decide) (kc_u (by decide) (kc_u (by decide) (kc_r M))))))))⟩⟩
    ·
      refine z_aload_n 0 dX6_lost_26 rfl ?_
      refine z_getR dX6_lost_27 fX6_38_5 i0_4 ka0 ?_
      refine z_getI (r := r5_19) 9 rfl dX6_lost_30 fX6_155_1 i5_9 ka5 (rfl) ?_
      refine z_goto (tgt := 43) dX6_lost_33 rfl ?_
      exact z_iret C dX6_lost_43 rfl ⟨_, rfl, ⟨by rw [if_pos (by omega)]; rw [if_pos uc23]; exact uf7, (kc_u (by decide) (kc_u (by decide) (kc_u (by decide) (kc_u (by decide) (kc_u (by decide) (kc_u (by decide) (kc_u (by decide) (kc_r M))))))))⟩⟩
  ·
    refine z_bipush dX6_lost_8 rfl ?_
    exact z_iret C dX6_lost_10 rfl ⟨_, rfl, ⟨(if_neg (by omega)).symm, (kc_r M)⟩⟩
set_option maxRecDepth 100000 in
theorem ct_X6_followWith (en : zE) (M : zW) (O2 : Int → Int) (T : Int → Int) (T4 : Int → Int) (O5 : Int → Int) (c : Int → Int) (A : Int → Int) (G : Int → Int) (K : Int → Int) (H : Int → Int) (S : Int → Int) (P0 : Int → Int) (Hd : Int → Int) (Lw : Int → Int) (C0 : Int → Int) (E0 : Int → Int) (R0 : Int → Int) (wO2 : M 2 = O2) (wT : M 3 = T) (wT4 : M 4 = T4) (wO5 : M 5 = O5) (wc : M 22 = c) (wA : M 24 = A) (wG : M 25 = G) (wK : M 26 = K) (wH : M 27 = H) (wS : M 28 = S) (wP0 : M 29 = P0) (wHd : M 30 = Hd) (wLw : M 31 = Lw) (wC0 : M 32 = C0) (wE0 : M 33 = E0) (wR0 : M 34 = R0) (wh : Int) (v : Int) (h0 : 0 ≤ wh ∧ wh ≤ 5) (hU : tOK (up T wh v)) (hc : wB c) (hP : (0 ≤ O2 4 ∧ O2 4 ≤ 8) ∧ pOK (tP A G K H S) (O2 4)) : Ct en kA yX6_followWith mX6_followWith [rf en 0, vi wh, vi v] M (pN (fun N => ∃ r4 r5 r29 r30 r31 r32 r33 r34 : Int → Int, Flw (up T wh v) (cW c) (tP A G K H S) (O2 4) r5 r30 r31 r32 r33 r34 ∧ (upR (upR (upR (upR (upR (upR (upR (upR M 4 r4) 30 r30) 5 r5) 31 r31) 32 r32) 33 r33) 34 r34) 29 r29) = N)) := by
  refine Ct.of (by decide +kernel) rfl [(0, rf en 0), (1, vi wh), (2, vi v)] rfl (Nat.le_of_ble_eq_true rfl) (fun cx C => ?_)
  refine z_aload_n 0 dX6_followWith_0 rfl ?_
  refine z_getR dX6_followWith_1 fX6_27_5 i0_2 ka0 ?_
  refine z_iconst dX6_followWith_4 ?_
  refine z_aload_n 0 dX6_followWith_5 rfl ?_
  refine z_getR dX6_followWith_6 fX6_30_5 i0_3 ka0 ?_
  refine z_iconst dX6_followWith_9 ?_
  refine z_aload_n 0 dX6_followWith_10 rfl ?_
  refine z_getR dX6_followWith_11 fX6_27_5 i0_2 ka0 ?_
  refine z_alenI dX6_followWith_14 is3 ka3 ?_
  refine z_copy (f := T) (g := T4) rfl dX6_followWith_15 is3 is4 ka3 ka4 (wT) (wT4) (by omega) (Nat.le_of_ble_eq_true rfl) (Nat.le_of_ble_eq_true rfl) (fun r4_15 f4_15 => ?_)
  refine z_aload_n 0 dX6_followWith_18 rfl ?_
  refine z_getR dX6_followWith_19 fX6_30_5 i0_3 ka0 ?_
  refine z_iload_n 1 dX6_followWith_22 rfl ?_
  refine z_iload_n 2 dX6_followWith_23 rfl ?_
  refine z_iast' (r := r4_15) (fun r => (upR M 4 r)) dX6_followWith_24 is4 ka4 (rfl) (by omega) (fun _ => uu1) (fun r4_24 f4_24 => ?_)
  have utq : Tq r4_24 (up T wh v) := by rw [f4_24, f4_15]; exact Tq_up (cpy_q T T4) wh v
  refine z_aload_n 0 dX6_followWith_25 rfl ?_
  refine z_getR dX6_followWith_26 fX6_38_5 i0_4 ka0 ?_
  refine z_aload_n 0 dX6_followWith_29 rfl ?_
  refine z_getR dX6_followWith_30 fX6_30_5 i0_3 ka0 ?_
  refine z_vN dX6_followWith_33 lX6_126 (by decide) ka5 io5 rfl (ct_X1_follow_4 en (upR M 4 r4_24) O2 r4_24 O5 c A G K H S P0 Hd Lw C0 E0 R0 wO2 rfl wO5 wc wA wG wK wH wS wP0 wHd wLw wC0 wE0 wR0 (Tq_ok utq hU) hc hP) rfl rfl (by exact Nat.le_of_ble_eq_true rfl) (fun uN33 uh33 => ?_)
  obtain ⟨r5_33, r29_33, r30_33, r31_33, r32_33, r33_33, r34_33, uF, uF5, rfl⟩ := uh33
  exact z_vret C dX6_followWith_36 rfl ⟨rfl, ⟨r4_24, r5_33, r29_33, r30_33, r31_33, r32_33, r33_33, r34_33, Flw_t utq uF, rfl⟩⟩
