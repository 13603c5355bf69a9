/-! follow: all that comes of a death -/
theorem enX_win {T c A G K H S : Int → Int} (hT : tOK T) (hc : wB c) {np p : Int} (hP : pOK (tP A G K H S) np) (hp : 0 ≤ p ∧ p < 8) (h : enX T (cW c) (tP A G K H S) np p = 1) : p < np ∧ enO T (cW c) (tP A G K H S) np p = 1 ∧ (0 ≤ S p ∧ S p < np ∧ S p ≠ p) ∧ coX T (cW c) (tP A G K H S) np p = coO T (cW c) (tP A G K H S) np p ∧ 0 ≤ coO T (cW c) (tP A G K H S) np p ∧ coO T (cW c) (tP A G K H S) np p < 9999 := by
  unfold enX at h
  by_cases q : p < np
  · rw [if_pos q] at h
    have h1 := (enO_rg T (cW c) (tP A G K H S) np p).2.2 h
    have h2 := coO_rg hT (cW_ok hc) hP ⟨hp.1, q⟩
    have h3 := tP_np hP hp.1 q
    have h4 : ¬ (S p = -1 ∨ S p = p ∨ np ≤ S p) := fun z => h1 (co_no z)
    refine ⟨q, h, by omega, ?_, h2.1, by omega⟩
    unfold coX
    rw [if_pos q, orN_id (by omega)]
  · rw [if_neg q] at h
    exact absurd h (by decide)
theorem coX_rg {T c A G K H S : Int → Int} (hT : tOK T) (hc : wB c) {np p : Int} (hP : pOK (tP A G K H S) np) (hp : 0 ≤ p) : -1 ≤ coX T (cW c) (tP A G K H S) np p ∧ coX T (cW c) (tP A G K H S) np p ≤ 9998 := by
  unfold coX
  split
  · exact orN_rg (by have := coO_rg hT (cW_ok hc) hP ⟨hp, by assumption⟩; omega)
  · omega
theorem enX_rg (T V P : Int → Int) (np p : Int) : 0 ≤ enX T V P np p ∧ enX T V P np p ≤ 3 := by
  have := enO_rg T V P np p
  unfold enX; split <;> omega
def riX (T V P : Int → Int) (np p : Int) : Int := if p < np then riO T V P np p else 0
theorem rdW_in {E : Int → Int} {T V P : Int → Int} {np : Int} : ∀ n : Nat, (n : Int) ≤ np → (∀ q : Int, 0 ≤ q → q < n → E q = enX T V P np q) → rdW E n = wnO T V P np n
  | 0, _, _ => rfl
  | n + 1, hn, h => by
    rw [rdW, wnO, rdW_in n (by omega) (fun q a b => h q a (by omega)), h n (by omega) (by omega)]
    unfold enX
    rw [if_pos (show (n : Int) < np by omega)]
theorem rdW_out {E : Int → Int} {T V P : Int → Int} {np : Int} (h0 : 0 ≤ np) : ∀ n : Nat, np ≤ n → (∀ q : Int, 0 ≤ q → q < n → E q = enX T V P np q) → rdW E n = wns T V P np
  | 0, hn, h => by rw [wns, show np.toNat = 0 by omega]; rfl
  | n + 1, hn, h => by
    by_cases q : np ≤ n
    · rw [rdW, rdW_out h0 n q (fun q a b => h q a (by omega)), h n (by omega) (by omega)]
      unfold enX
      rw [if_neg (show ¬ (n : Int) < np by omega), if_neg (show ¬ (0 : Int) = 1 by decide)]
      omega
    · rw [rdW_in (n + 1) (by omega) h, wns, show np.toNat = n + 1 by omega]
theorem rdL_in {E D : Int → Int} {T c A G K H S : Int → Int} (hT : tOK T) (hc : wB c) {np : Int} (hP : pOK (tP A G K H S) np) (h8 : np ≤ 8) : ∀ n : Nat, (n : Int) ≤ np → (∀ q : Int, 0 ≤ q → q < n → E q = enX T (cW c) (tP A G K H S) np q ∧ D q = coX T (cW c) (tP A G K H S) np q) → rdL E D n = lsO T (cW c) (tP A G K H S) np n
  | 0, _, _ => rfl
  | n + 1, hn, h => by
    have h1 := h n (by omega) (by omega)
    rw [rdL, lsO, rdL_in hT hc hP h8 n (by omega) (fun q a b => h q a (by omega)), h1.1, h1.2]
    by_cases q : enX T (cW c) (tP A G K H S) np n = 1
    · obtain ⟨a1, a2, a3, a4, a5, a6⟩ := enX_win hT hc hP (by omega) q
      rw [if_pos q, a4, a2]
      simp only [true_and]
      split <;> omega
    · rw [if_neg q]
      have : ¬ enO T (cW c) (tP A G K H S) np n = 1 := fun z => q (by unfold enX; rw [if_pos (by omega)]; exact z)
      rw [if_neg (fun z => this z.1)]
theorem rdL_out {E D : Int → Int} {T c A G K H S : Int → Int} (hT : tOK T) (hc : wB c) {np : Int} (hP : pOK (tP A G K H S) np) (h8 : 0 ≤ np ∧ np ≤ 8) : ∀ n : Nat, np ≤ n → (∀ q : Int, 0 ≤ q → q < n → E q = enX T (cW c) (tP A G K H S) np q ∧ D q = coX T (cW c) (tP A G K H S) np q) → rdL E D n = lsO T (cW c) (tP A G K H S) np np.toNat
  | 0, hn, h => by rw [show np.toNat = 0 by omega]; rfl
  | n + 1, hn, h => by
    by_cases q : np ≤ n
    · rw [rdL, rdL_out hT hc hP h8 n q (fun q a b => h q a (by omega)), (h n (by omega) (by omega)).1]
      unfold enX
      rw [if_neg (show ¬ (n : Int) < np by omega), if_neg (show ¬ (0 : Int) = 1 by decide)]
    · rw [rdL_in hT hc hP h8.2 (n + 1) (by omega) h, show np.toNat = n + 1 by omega]
theorem rdL_rg {E D : Int → Int} (hD : ∀ q : Int, 0 ≤ q → q < 8 → -1 ≤ D q ∧ D q ≤ 9998) : ∀ n : Nat, n ≤ 8 → -1 ≤ rdL E D n ∧ rdL E D n ≤ 9999
  | 0, _ => by simp [rdL]
  | n + 1, hn => by
    have := rdL_rg (E := E) hD n (by omega)
    have := hD n (by omega) (by omega)
    rw [rdL]; split <;> omega
theorem rdW_s (E : Int → Int) {x : Int} (h : 0 ≤ x) : rdW E (x + 1).toNat = rdW E x.toNat + (if E x = 1 then 1 else 0) := by rw [tnS h, rdW, tnC h]
theorem rdL_s (E D : Int → Int) {x : Int} (h : 0 ≤ x) : rdL E D (x + 1).toNat = if E x = 1 then max (rdL E D x.toNat) (D x) else rdL E D x.toNat := by rw [tnS h, rdL, tnC h]
/-- what follow leaves -/
def Flw (T V P : Int → Int) (np : Int) (r5 r30 r31 r32 r33 r34 : Int → Int) : Prop := (∀ t, 0 ≤ t → t < 8 → r30 t = orN (hA T V t)) ∧ (∀ t, 0 ≤ t → t < 8 → r31 t = orN (lwA T V t)) ∧ (∀ p, 0 ≤ p → p < 8 → r32 p = coX T V P np p) ∧ (∀ p, 0 ≤ p → p < 8 → r33 p = enX T V P np p) ∧ (∀ p, 0 ≤ p → p < 8 → r34 p = riX T V P np p) ∧ r5 8 = orN (crO T V) ∧ r5 9 = wns T V P np ∧ r5 10 = lsO T V P np np.toNat
theorem pay_0 (E P : Int → Int) : ∀ j, 0 ≤ j → j < 8 → (0 ≤ fil (fun p => if E p = 1 then 0 else 1) P 0 8 j ∧ fil (fun p => if E p = 1 then 0 else 1) P 0 8 j ≤ 1) ∧ (fil (fun p => if E p = 1 then 0 else 1) P 0 8 j = 0 → E j = 1) := by
  intro j h1 h2
  rw [fil_in _ _ (by omega), show j - 0 = j by omega]
  by_cases q : E j = 1
  · rw [if_pos q]; exact ⟨by decide, fun _ => q⟩
  · rw [if_neg q]; exact ⟨by decide, fun z => absurd z (by decide)⟩
def twS (E A S : Int → Int) : Nat → Nat
  | 0 => 0
  | n + 1 => if E n = 1 then twS E A S n ||| 2 ^ (A (S n)).toNat else twS E A S n
theorem twS_s (E A S : Int → Int) {x : Int} (h : 0 ≤ x) : twS E A S (x + 1).toNat = if E x = 1 then twS E A S x.toNat ||| 2 ^ (A (S x)).toNat else twS E A S x.toNat := by rw [tnS h, twS, tnC h]
theorem twS_lt {E A S : Int → Int} (h : ∀ j, 0 ≤ j → j < 8 → E j = 1 → 0 ≤ A (S j) ∧ A (S j) ≤ 7) : ∀ n : Nat, n ≤ 8 → twS E A S n < 2 ^ 8
  | 0, _ => by show 0 < 2 ^ 8; decide
  | n + 1, hn => by
    have ih := twS_lt h n (by omega)
    rw [twS]
    split
    · exact Nat.or_lt_two_pow ih (Nat.pow_lt_pow_right (by decide) (by have := h n (by omega) (by omega) (by assumption); omega))
    · exact ih
set_option maxRecDepth 100000 in
theorem ct_X1_nextToPay (en : zE) (M : zW) (Pd : Int → Int) (Cm : Int → Int) (wPd : M 29 = Pd) (wCm : M 32 = Cm) (hZ : ∀ j, 0 ≤ j → j < 8 → 0 ≤ Pd j ∧ Pd j ≤ 1) (hC : ∀ j, 0 ≤ j → j < 8 → -1 ≤ Cm j ∧ Cm j ≤ 9999) : Ct en kA yX1_nextToPay mX1_nextToPay [rf en 5] M (pI (csel Cm Pd 8) M) := by
  refine Ct.of (by decide +kernel) rfl [(0, rf en 5)] rfl (Nat.le_of_ble_eq_true rfl) (fun cx C => ?_)
  refine z_iconst dX1_nextToPay_0 ?_
  refine z_istore_n (fun y => [(0, rf en 5), (1, vi y)]) [1, 0] dX1_nextToPay_1 (by decide) (fun _ => rfl) (fun x1_1 e1_1 => ?_)
  refine z_iconst dX1_nextToPay_2 ?_
  refine z_istore_n (fun y => [(0, rf en 5), (1, vi x1_1), (2, vi y)]) [1, 2, 0] dX1_nextToPay_3 (by decide) (fun _ => rfl) (fun x2_3 e2_3 => ?_)
  have uL4 : ∀ (fu : Nat) (x1 : Int) (x2 : Int), (8 - x2).toNat < fu → (0 ≤ x2 ∧ x2 ≤ 8 ∧ x1 = csel Cm Pd x2.toNat) → Z en kA cx mX1_nextToPay M 4 [(0, rf en 5), (1, vi x1), (2, vi x2)] [] := by
    intro fu
    induction fu with
    | zero => intro x1 x2 uhf; exact absurd uhf (Nat.not_lt_zero _)
    | succ fu uih4 =>
      intro x1 x2 uf4 uI4
      obtain ⟨uq1, uq2, uq3⟩ := uI4
      have uat : x1 = -1 ∨ (0 ≤ x1 ∧ x1 < x2) := by rw [uq3]; rcases csel_at Cm Pd x2.toNat with ⟨ua, ub⟩ | ⟨ua, ub⟩; exact Or.inl ua; exact Or.inr (by omega)
      refine z_iload_n 2 dX1_nextToPay_4 rfl ?_
      refine z_bipush dX1_nextToPay_5 rfl ?_
      refine z_icmp_ge (tgt := 47) dX1_nextToPay_7 rfl (by omega) (fun uc7 => ?_) (fun uc7 => ?_)
      ·
        refine z_iload_n 1 dX1_nextToPay_47 rfl ?_
        exact z_iret C dX1_nextToPay_48 rfl ⟨congrArg (fun z => some (vi z)) (by rw [uq3, show x2 = 8 by omega]; rfl), rfl⟩
      ·
        refine z_aload_n 0 dX1_nextToPay_10 rfl ?_
        refine z_getR dX1_nextToPay_11 fX1_9_1 i5_2 ka5 ?_
        refine z_iload_n 2 dX1_nextToPay_14 rfl ?_
        refine z_zald (r := Pd) dX1_nextToPay_15 is29 ka29 (wPd) (by omega) ?_
        have uz1 := hZ x2 (by omega) (by omega)
        have uz2 := hC x2 (by omega) (by omega)
        refine z_if_ne (tgt := 41) dX1_nextToPay_16 rfl (by omega) (fun uc16 => ?_) (fun uc16 => ?_)
        ·
          refine z_iinc (fun y => [(0, rf en 5), (1, vi x1), (2, vi y)]) [1, 2, 0] 2 dX1_nextToPay_41 rfl (by decide) (fun _ => rfl) (fun x2_41 e2_41 => ?_)
          refine z_goto (tgt := 4) dX1_nextToPay_44 rfl ?_
          exact uih4 x1 x2_41 (by omega) (⟨by omega, by omega, by rw [e2_41, csel_s _ _ uq1, ← uq3]; rw [if_neg (fun uz => uc16 uz.1)]⟩)
        ·
          refine z_iload_n 1 dX1_nextToPay_19 rfl ?_
          refine z_iconst dX1_nextToPay_20 ?_
          refine z_icmp_eq (tgt := 39) dX1_nextToPay_21 rfl (by omega) (fun uc21 => ?_) (fun uc21 => ?_)
          ·
            refine z_iload_n 2 dX1_nextToPay_39 rfl ?_
            refine z_istore_n (fun y => [(0, rf en 5), (1, vi y), (2, vi x2)]) [1, 0, 2] dX1_nextToPay_40 (by decide) (fun _ => rfl) (fun x1_40 e1_40 => ?_)
            refine z_iinc (fun y => [(0, rf en 5), (1, vi x1_40), (2, vi y)]) [1, 2, 0] 2 dX1_nextToPay_41 rfl (by decide) (fun _ => rfl) (fun x2_41 e2_41 => ?_)
            refine z_goto (tgt := 4) dX1_nextToPay_44 rfl ?_
            exact uih4 x1_40 x2_41 (by omega) (⟨by omega, by omega, by rw [e2_41, csel_s _ _ uq1, ← uq3]; rw [if_pos ⟨uc16, Or.inl uc21⟩]; exact e1_40⟩)
          ·
            refine z_aload_n 0 dX1_nextToPay_24 rfl ?_
            refine z_getR dX1_nextToPay_25 fX1_22_1 i5_5 ka5 ?_
            refine z_iload_n 2 dX1_nextToPay_28 rfl ?_
            refine z_iald (r := Cm) dX1_nextToPay_29 is32 ka32 (wCm) (by omega) ?_
            refine z_aload_n 0 dX1_nextToPay_30 rfl ?_
            refine z_getR dX1_nextToPay_31 fX1_22_1 i5_5 ka5 ?_
            refine z_iload_n 1 dX1_nextToPay_34 rfl ?_
            refine z_iald (r := Cm) dX1_nextToPay_35 is32 ka32 (wCm) (by omega) ?_
            have uz3 := hC x1 (by omega) (by omega)
            refine z_icmp_ge (tgt := 41) dX1_nextToPay_36 rfl (by omega) (fun uc36 => ?_) (fun uc36 => ?_)
            ·
              refine z_iinc (fun y => [(0, rf en 5), (1, vi x1), (2, vi y)]) [1, 2, 0] 2 dX1_nextToPay_41 rfl (by decide) (fun _ => rfl) (fun x2_41 e2_41 => ?_)
              refine z_goto (tgt := 4) dX1_nextToPay_44 rfl ?_
              exact uih4 x1 x2_41 (by omega) (⟨by omega, by omega, by rw [e2_41, csel_s _ _ uq1, ← uq3]; rw [if_neg (fun uz => by rcases uz.2 with ua | ua; exact uc21 ua; omega)]⟩)
            ·
              refine z_iload_n 2 dX1_nextToPay_39 rfl ?_
              refine z_istore_n (fun y => [(0, rf en 5), (1, vi y), (2, vi x2)]) [1, 0, 2] dX1_nextToPay_40 (by decide) (fun _ => rfl) (fun x1_40 e1_40 => ?_)
              refine z_iinc (fun y => [(0, rf en 5), (1, vi x1_40), (2, vi y)]) [1, 2, 0] 2 dX1_nextToPay_41 rfl (by decide) (fun _ => rfl) (fun x2_41 e2_41 => ?_)
              refine z_goto (tgt := 4) dX1_nextToPay_44 rfl ?_
              exact uih4 x1_40 x2_41 (by omega) (⟨by omega, by omega, by rw [e2_41, csel_s _ _ uq1, ← uq3]; rw [if_pos ⟨uc16, Or.inr uc36⟩]; exact e1_40⟩)
  exact uL4 _ x1_1 x2_3 (Nat.lt_succ_self _) (⟨by omega, by omega, by rw [e1_1, e2_3]; rfl⟩)
set_option maxRecDepth 100000 in
theorem ct_X1_payScores (en : zE) (M : zW) (O2 : Int → Int) (O5 : Int → Int) (A : Int → Int) (G : Int → Int) (K : Int → Int) (H : Int → Int) (S : Int → Int) (P0 : Int → Int) (C0 : Int → Int) (E0 : Int → Int) (R0 : Int → Int) (wO2 : M 2 = O2) (wO5 : M 5 = O5) (wA : M 24 = A) (wG : M 25 = G) (wK : M 26 = K) (wH : M 27 = H) (wS : M 28 = S) (wP0 : M 29 = P0) (wC0 : M 32 = C0) (wE0 : M 33 = E0) (wR0 : M 34 = R0) (hO : (0 ≤ O2 4 ∧ O2 4 ≤ 8) ∧ (0 ≤ O5 9 ∧ O5 9 ≤ 8)) (hC : ∀ j, 0 ≤ j → j < 8 → -1 ≤ C0 j ∧ C0 j ≤ 9999) (hE : ∀ j, 0 ≤ j → j < 8 → (0 ≤ E0 j ∧ E0 j ≤ 3) ∧ (E0 j = 1 → 0 ≤ S j ∧ S j ≤ 7 ∧ S j ≠ j)) : Ct en kA yX1_payScores mX1_payScores [rf en 5] M (pN (fun N => ∃ r29 : Int → Int, upR (upR M 34 (cPy C0 (tP A G K H S) (fil (fun p => if p < O2 4 then H p else 0) R0 0 8) (fil (fun p => if E0 p = 1 then 0 else 1) P0 0 8) (O5 9).toNat).1) 29 r29 = N)) := by
  refine Ct.of (by decide +kernel) rfl [(0, rf en 5)] rfl (Nat.le_of_ble_eq_true rfl) (fun cx C => ?_)
  refine z_iconst dX1_payScores_0 ?_
  refine z_istore_n (fun y => [(0, rf en 5), (1, vi y)]) [1, 0] dX1_payScores_1 (by decide) (fun _ => rfl) (fun x1_1 e1_1 => ?_)
  have uL2 : ∀ (fu : Nat) (x1 : Int) (r34 : Int → Int) (r29 : Int → Int), (8 - x1).toNat < fu → (0 ≤ x1 ∧ x1 ≤ 8 ∧ r34 = fil (fun p => if p < O2 4 then H p else 0) R0 0 x1 ∧ r29 = fil (fun p => if E0 p = 1 then 0 else 1) P0 0 x1) → Z en kA cx mX1_payScores (upR (upR M 34 r34) 29 r29) 2 [(0, rf en 5), (1, vi x1)] [] := by
    intro fu
    induction fu with
    | zero => intro x1 r34 r29 uhf; exact absurd uhf (Nat.not_lt_zero _)
    | succ fu uih2 =>
      intro x1 r34 r29 uf2 uI2
      obtain ⟨uq1, uq2, uq3, uq4⟩ := uI2
      refine z_iload_n 1 dX1_payScores_2 rfl ?_
      refine z_bipush dX1_payScores_3 rfl ?_
      refine z_icmp_ge (tgt := 65) dX1_payScores_5 rfl (by omega) (fun uc5 => ?_) (fun uc5 => ?_)
      ·
        refine z_iconst dX1_payScores_65 ?_
        refine z_istore_n (fun y => [(0, rf en 5), (1, vi y)]) [1, 0] dX1_payScores_66 (by decide) (fun _ => rfl) (fun x1_66 e1_66 => ?_)
        have uL67 : ∀ (fu : Nat) (x1 : Int) (r34 : Int → Int) (r29 : Int → Int), (O5 9 - x1).toNat < fu → (0 ≤ x1 ∧ x1 ≤ O5 9 ∧ (∀ j, 0 ≤ j → j < 8 → (0 ≤ r29 j ∧ r29 j ≤ 1) ∧ (r29 j = 0 → E0 j = 1)) ∧ (r34, r29) = (cPy C0 (tP A G K H S) (fil (fun p => if p < O2 4 then H p else 0) R0 0 8) (fil (fun p => if E0 p = 1 then 0 else 1) P0 0 8) x1.toNat)) → Z en kA cx mX1_payScores (upR (upR M 34 r34) 29 r29) 67 [(0, rf en 5), (1, vi x1)] [] := by
          intro fu
          induction fu with
          | zero => intro x1 r34 r29 uhf; exact absurd uhf (Nat.not_lt_zero _)
          | succ fu uih67 =>
            intro x1 r34 r29 uf67 uI67
            obtain ⟨uq1, uq2, uq7, uq8⟩ := uI67
            refine z_iload_n 1 dX1_payScores_67 rfl ?_
            refine z_aload_n 0 dX1_payScores_68 rfl ?_
            refine z_getI (r := O5) 9 rfl dX1_payScores_69 fX1_52_1 i5_9 ka5 (wO5) ?_
            refine z_icmp_ge (tgt := 130) dX1_payScores_72 rfl (by omega) (fun uc72 => ?_) (fun uc72 => ?_)
            ·
              exact z_vret C dX1_payScores_130 rfl ⟨rfl, ⟨r29, by rw [show r34 = (cPy C0 (tP A G K H S) (fil (fun p => if p < O2 4 then H p else 0) R0 0 8) (fil (fun p => if E0 p = 1 then 0 else 1) P0 0 8) (O5 9).toNat).1 by rw [show O5 9 = x1 by omega, ← uq8]]⟩⟩
            ·
              refine z_aload_n 0 dX1_payScores_75 rfl ?_
              refine z_vI dX1_payScores_76 lX1_101 (by decide) ka5 io5 rfl (ct_X1_nextToPay en (upR (upR M 34 r34) 29 r29) r29 C0 rfl wC0 (fun uj ua ub => (uq7 uj ua ub).1) hC) rfl rfl (by exact Nat.le_of_ble_eq_true rfl) ?_
              refine z_istore_n (fun y => [(0, rf en 5), (1, vi x1), (2, vi y)]) [1, 2, 0] dX1_payScores_79 (by decide) (fun _ => rfl) (fun x2_79 e2_79 => ?_)
              have uat : x2_79 = -1 ∨ (0 ≤ x2_79 ∧ x2_79 < 8 ∧ r29 x2_79 = 0) := by rw [e2_79]; rcases csel_at C0 r29 8 with ⟨ua, ub⟩ | ⟨ua, ub⟩; exact Or.inl ua; exact Or.inr ⟨ua.1, by omega, ub⟩
              refine z_iload_n 2 dX1_payScores_80 rfl ?_
              refine z_iconst dX1_payScores_81 ?_
              refine z_icmp_eq (tgt := 124) dX1_payScores_82 rfl (by omega) (fun uc82 => ?_) (fun uc82 => ?_)
              ·
                refine z_iinc (fun y => [(0, rf en 5), (1, vi y), (2, vi x2_79)]) [1, 0, 2] 1 dX1_payScores_124 rfl (by decide) (fun _ => rfl) (fun x1_124 e1_124 => ?_)
                refine z_goto (tgt := 67) dX1_payScores_127 rfl ?_
                refine z_lv [0, 1] [(0, rf en 5), (1, vi x1_124)] rfl ?_
                exact uih67 x1_124 r34 r29 (by omega) (⟨by omega, by omega, uq7, by rw [e1_124, cPy_s _ _ _ _ uq1, ← uq8, if_pos (e2_79 ▸ uc82)]⟩)
              ·
                have ux2 : 0 ≤ x2_79 ∧ x2_79 < 8 ∧ r29 x2_79 = 0 := by rcases uat with uz | uz; exact absurd uz uc82; exact uz
                have ue : E0 x2_79 = 1 ∧ 0 ≤ S x2_79 ∧ S x2_79 ≤ 7 ∧ S x2_79 ≠ x2_79 := ⟨(uq7 x2_79 ux2.1 ux2.2.1).2 ux2.2.2, (hE x2_79 ux2.1 ux2.2.1).2 ((uq7 x2_79 ux2.1 ux2.2.1).2 ux2.2.2)⟩
                obtain ⟨ux3, ux4, ux5⟩ := ux2
                refine z_aload_n 0 dX1_payScores_85 rfl ?_
                refine z_getR dX1_payScores_86 fX1_35_1 i5_1 ka5 ?_
                refine z_getR dX1_payScores_89 fX1_75_2 i2_9 ka2 ?_
                refine z_iload_n 2 dX1_payScores_92 rfl ?_
                refine z_iald (r := S) dX1_payScores_93 is28 ka28 (wS) (by omega) ?_
                refine z_istore_n (fun y => [(0, rf en 5), (1, vi x1), (2, vi x2_79), (3, vi y)]) [1, 2, 3, 0] dX1_payScores_94 (by decide) (fun _ => rfl) (fun x3_94 e3_94 => ?_)
                refine z_aload_n 0 dX1_payScores_95 rfl ?_
                refine z_getR dX1_payScores_96 fX1_28_1 i5_7 ka5 ?_
                refine z_iload_n 2 dX1_payScores_99 rfl ?_
                refine z_dup2_ia dX1_payScores_100 ?_
                refine z_iald (r := r34) dX1_payScores_101 is34 ka34 (rfl) (by omega) ?_
                refine z_aload_n 0 dX1_payScores_102 rfl ?_
                refine z_getR dX1_payScores_103 fX1_28_1 i5_7 ka5 ?_
                refine z_iload_n 3 dX1_payScores_106 rfl ?_
                refine z_iald (r := r34) dX1_payScores_107 is34 ka34 (rfl) (by omega) ?_
                refine z_iadd dX1_payScores_108 ?_
                refine z_iast' (r := r34) (fun r => (upR (upR M 34 r) 29 r29)) dX1_payScores_109 is34 ka34 (rfl) (by omega) (fun _ => uu2 (by decide)) (fun r34_109 f34_109 => ?_)
                refine z_aload_n 0 dX1_payScores_110 rfl ?_
                refine z_getR dX1_payScores_111 fX1_28_1 i5_7 ka5 ?_
                refine z_iload_n 3 dX1_payScores_114 rfl ?_
                refine z_iconst dX1_payScores_115 ?_
                refine z_iast' (r := r34_109) (fun r => (upR (upR M 34 r) 29 r29)) dX1_payScores_116 is34 ka34 (rfl) (by omega) (fun _ => uu2 (by decide)) (fun r34_116 f34_116 => ?_)
                refine z_aload_n 0 dX1_payScores_117 rfl ?_
                refine z_getR dX1_payScores_118 fX1_9_1 i5_2 ka5 ?_
                refine z_iload_n 2 dX1_payScores_121 rfl ?_
                refine z_iconst dX1_payScores_122 ?_
                refine z_zast' (r := r29) (fun r => (upR (upR M 34 r34_116) 29 r)) dX1_payScores_123 is29 ka29 (rfl) (by omega) (by omega) (fun _ => uu1) (fun r29_123 f29_123 => ?_)
                refine z_iinc (fun y => [(0, rf en 5), (1, vi y), (2, vi x2_79), (3, vi x3_94)]) [1, 0, 2, 3] 1 dX1_payScores_124 rfl (by decide) (fun _ => rfl) (fun x1_124 e1_124 => ?_)
                refine z_goto (tgt := 67) dX1_payScores_127 rfl ?_
                refine z_lv [0, 1] [(0, rf en 5), (1, vi x1_124)] rfl ?_
                exact uih67 x1_124 r34_116 r29_123 (by omega) (⟨by omega, by omega, fun uj ua ub => by rw [f29_123]; by_cases uz : uj = x2_79; (rw [uz, up_s]; exact ⟨by decide, fun ux => absurd ux (by decide)⟩); (rw [up_n _ _ uz]; exact uq7 uj ua ub), by rw [e1_124, cPy_s _ _ _ _ uq1, ← uq8, ← e2_79, if_neg uc82, f34_116, f34_109, f29_123, ← tk_class (P := (tP A G K H S)) (p := x2_79) (by rw [tP_4]; exact ue.2.2.2), tP_4, e3_94]⟩)
        exact uL67 _ x1_66 r34 r29 (Nat.lt_succ_self _) (⟨by omega, by omega, by rw [uq4, show x1 = 8 by omega]; exact pay_0 E0 P0, by rw [uq3, uq4, e1_66, show x1 = 8 by omega]; rfl⟩)
      ·
        refine z_aload_n 0 dX1_payScores_8 rfl ?_
        refine z_getR dX1_payScores_9 fX1_28_1 i5_7 ka5 ?_
        refine z_iload_n 1 dX1_payScores_12 rfl ?_
        refine z_iload_n 1 dX1_payScores_13 rfl ?_
        refine z_aload_n 0 dX1_payScores_14 rfl ?_
        refine z_getR dX1_payScores_15 fX1_35_1 i5_1 ka5 ?_
        refine z_getI (r := O2) 4 rfl dX1_payScores_18 fX1_78_2 i2_4 ka2 (wO2) ?_
        refine z_icmp_ge (tgt := 36) dX1_payScores_21 rfl (by omega) (fun uc21 => ?_) (fun uc21 => ?_)
        ·
          refine z_iconst dX1_payScores_36 ?_
          refine z_iast' (r := r34) (fun r => (upR (upR M 34 r) 29 r29)) dX1_payScores_37 is34 ka34 (rfl) (by omega) (fun _ => uu2 (by decide)) (fun r34_37 f34_37 => ?_)
          refine z_aload_n 0 dX1_payScores_38 rfl ?_
          refine z_getR dX1_payScores_39 fX1_9_1 i5_2 ka5 ?_
          refine z_iload_n 1 dX1_payScores_42 rfl ?_
          have ue1 := hE x1 (by omega) (by omega)
          refine z_aload_n 0 dX1_payScores_43 rfl ?_
          refine z_getR dX1_payScores_44 fX1_25_1 i5_6 ka5 ?_
          refine z_iload_n 1 dX1_payScores_47 rfl ?_
          refine z_iald (r := E0) dX1_payScores_48 is33 ka33 (wE0) (by omega) ?_
          refine z_iconst dX1_payScores_49 ?_
          refine z_icmp_eq (tgt := 57) dX1_payScores_50 rfl (by omega) (fun uc50 => ?_) (fun uc50 => ?_)
          ·
            refine z_iconst dX1_payScores_57 ?_
            refine z_zast' (r := r29) (fun r => (upR (upR M 34 r34_37) 29 r)) dX1_payScores_58 is29 ka29 (rfl) (by omega) (by omega) (fun _ => uu1) (fun r29_58 f29_58 => ?_)
            refine z_iinc (fun y => [(0, rf en 5), (1, vi y)]) [1, 0] 1 dX1_payScores_59 rfl (by decide) (fun _ => rfl) (fun x1_59 e1_59 => ?_)
            refine z_goto (tgt := 2) dX1_payScores_62 rfl ?_
            have uq5 := fil_s (fun p => if p < O2 4 then H p else 0) R0 0 x1 uq1 (show 0 = _ from (if_neg (by omega)).symm)
            have uq6 := fil_s (fun p => if E0 p = 1 then 0 else 1) P0 0 x1 uq1 (show 0 = _ from (if_pos uc50).symm)
            rw [Int.zero_add] at uq5 uq6
            exact uih2 x1_59 r34_37 r29_58 (by omega) (⟨by omega, by omega, by rw [f34_37, uq3, e1_59, uq5], by rw [f29_58, uq4, e1_59, uq6]⟩)
          ·
            refine z_iconst dX1_payScores_53 ?_
            refine z_goto (tgt := 58) dX1_payScores_54 rfl ?_
            refine z_zast' (r := r29) (fun r => (upR (upR M 34 r34_37) 29 r)) dX1_payScores_58 is29 ka29 (rfl) (by omega) (by omega) (fun _ => uu1) (fun r29_58 f29_58 => ?_)
            refine z_iinc (fun y => [(0, rf en 5), (1, vi y)]) [1, 0] 1 dX1_payScores_59 rfl (by decide) (fun _ => rfl) (fun x1_59 e1_59 => ?_)
            refine z_goto (tgt := 2) dX1_payScores_62 rfl ?_
            have uq5 := fil_s (fun p => if p < O2 4 then H p else 0) R0 0 x1 uq1 (show 0 = _ from (if_neg (by omega)).symm)
            have uq6 := fil_s (fun p => if E0 p = 1 then 0 else 1) P0 0 x1 uq1 (show 1 = _ from (if_neg uc50).symm)
            rw [Int.zero_add] at uq5 uq6
            exact uih2 x1_59 r34_37 r29_58 (by omega) (⟨by omega, by omega, by rw [f34_37, uq3, e1_59, uq5], by rw [f29_58, uq4, e1_59, uq6]⟩)
        ·
          refine z_aload_n 0 dX1_payScores_24 rfl ?_
          refine z_getR dX1_payScores_25 fX1_35_1 i5_1 ka5 ?_
          refine z_getR dX1_payScores_28 fX1_98_2 i2_8 ka2 ?_
          refine z_iload_n 1 dX1_payScores_31 rfl ?_
          refine z_iald (r := H) dX1_payScores_32 is27 ka27 (wH) (by omega) ?_
          refine z_goto (tgt := 37) dX1_payScores_33 rfl ?_
          refine z_iast' (r := r34) (fun r => (upR (upR M 34 r) 29 r29)) dX1_payScores_37 is34 ka34 (rfl) (by omega) (fun _ => uu2 (by decide)) (fun r34_37 f34_37 => ?_)
          refine z_aload_n 0 dX1_payScores_38 rfl ?_
          refine z_getR dX1_payScores_39 fX1_9_1 i5_2 ka5 ?_
          refine z_iload_n 1 dX1_payScores_42 rfl ?_
          have ue1 := hE x1 (by omega) (by omega)
          refine z_aload_n 0 dX1_payScores_43 rfl ?_
          refine z_getR dX1_payScores_44 fX1_25_1 i5_6 ka5 ?_
          refine z_iload_n 1 dX1_payScores_47 rfl ?_
          refine z_iald (r := E0) dX1_payScores_48 is33 ka33 (wE0) (by omega) ?_
          refine z_iconst dX1_payScores_49 ?_
          refine z_icmp_eq (tgt := 57) dX1_payScores_50 rfl (by omega) (fun uc50 => ?_) (fun uc50 => ?_)
          ·
            refine z_iconst dX1_payScores_57 ?_
            refine z_zast' (r := r29) (fun r => (upR (upR M 34 r34_37) 29 r)) dX1_payScores_58 is29 ka29 (rfl) (by omega) (by omega) (fun _ => uu1) (fun r29_58 f29_58 => ?_)
            refine z_iinc (fun y => [(0, rf en 5), (1, vi y)]) [1, 0] 1 dX1_payScores_59 rfl (by decide) (fun _ => rfl) (fun x1_59 e1_59 => ?_)
            refine z_goto (tgt := 2) dX1_payScores_62 rfl ?_
            have uq5 := fil_s (fun p => if p < O2 4 then H p else 0) R0 0 x1 uq1 (show H x1 = _ from (if_pos uc21).symm)
            have uq6 := fil_s (fun p => if E0 p = 1 then 0 else 1) P0 0 x1 uq1 (show 0 = _ from (if_pos uc50).symm)
            rw [Int.zero_add] at uq5 uq6
            exact uih2 x1_59 r34_37 r29_58 (by omega) (⟨by omega, by omega, by rw [f34_37, uq3, e1_59, uq5], by rw [f29_58, uq4, e1_59, uq6]⟩)
          ·
            refine z_iconst dX1_payScores_53 ?_
            refine z_goto (tgt := 58) dX1_payScores_54 rfl ?_
            refine z_zast' (r := r29) (fun r => (upR (upR M 34 r34_37) 29 r)) dX1_payScores_58 is29 ka29 (rfl) (by omega) (by omega) (fun _ => uu1) (fun r29_58 f29_58 => ?_)
            refine z_iinc (fun y => [(0, rf en 5), (1, vi y)]) [1, 0] 1 dX1_payScores_59 rfl (by decide) (fun _ => rfl) (fun x1_59 e1_59 => ?_)
            refine z_goto (tgt := 2) dX1_payScores_62 rfl ?_
            have uq5 := fil_s (fun p => if p < O2 4 then H p else 0) R0 0 x1 uq1 (show H x1 = _ from (if_pos uc21).symm)
            have uq6 := fil_s (fun p => if E0 p = 1 then 0 else 1) P0 0 x1 uq1 (show 1 = _ from (if_neg uc50).symm)
            rw [Int.zero_add] at uq5 uq6
            exact uih2 x1_59 r34_37 r29_58 (by omega) (⟨by omega, by omega, by rw [f34_37, uq3, e1_59, uq5], by rw [f29_58, uq4, e1_59, uq6]⟩)
  refine Z.eqM (upR_id (k := 34) wR0) ?_
  refine Z.eqM (upR_id (k := 29) wP0) ?_
  exact uL2 _ x1_1 R0 P0 (Nat.lt_succ_self _) (⟨by omega, by omega, by rw [e1_1, fil_0], by rw [e1_1, fil_0]⟩)
set_option maxRecDepth 100000 in
theorem ct_X1_lawless (en : zE) (M : zW) (Hd : Int → Int) (Lw : Int → Int) (wHd : M 30 = Hd) (wLw : M 31 = Lw) (t : Int) (h0 : 0 ≤ t ∧ t ≤ 7) (hH : (-1 ≤ Hd t ∧ Hd t ≤ 9999) ∧ (-1 ≤ Lw t ∧ Lw t ≤ 9999)) : Ct en kA yX1_lawless mX1_lawless [rf en 5, vi t] M (pI ((if Hd t = -1 then 0 else if Lw t = -1 then -1 else max 0 (Lw t - Hd t))) M) := by
  refine Ct.of (by decide +kernel) rfl [(0, rf en 5), (1, vi t)] rfl (Nat.le_of_ble_eq_true rfl) (fun cx C => ?_)
  refine z_aload_n 0 dX1_lawless_0 rfl ?_
  refine z_getR dX1_lawless_1 fX1_15_1 i5_3 ka5 ?_
  refine z_iload_n 1 dX1_lawless_4 rfl ?_
  refine z_iald (r := Hd) dX1_lawless_5 is30 ka30 (wHd) (by omega) ?_
  refine z_iconst dX1_lawless_6 ?_
  refine z_icmp_ne (tgt := 12) dX1_lawless_7 rfl (by omega) (fun uc7 => ?_) (fun uc7 => ?_)
  ·
    refine z_aload_n 0 dX1_lawless_12 rfl ?_
    refine z_getR dX1_lawless_13 fX1_19_1 i5_4 ka5 ?_
    refine z_iload_n 1 dX1_lawless_16 rfl ?_
    refine z_iald (r := Lw) dX1_lawless_17 is31 ka31 (wLw) (by omega) ?_
    refine z_iconst dX1_lawless_18 ?_
    refine z_icmp_ne (tgt := 26) dX1_lawless_19 rfl (by omega) (fun uc19 => ?_) (fun uc19 => ?_)
    ·
      refine z_iconst dX1_lawless_26 ?_
      refine z_aload_n 0 dX1_lawless_27 rfl ?_
      refine z_getR dX1_lawless_28 fX1_19_1 i5_4 ka5 ?_
      refine z_iload_n 1 dX1_lawless_31 rfl ?_
      refine z_iald (r := Lw) dX1_lawless_32 is31 ka31 (wLw) (by omega) ?_
      refine z_aload_n 0 dX1_lawless_33 rfl ?_
      refine z_getR dX1_lawless_34 fX1_15_1 i5_3 ka5 ?_
      refine z_iload_n 1 dX1_lawless_37 rfl ?_
      refine z_iald (r := Hd) dX1_lawless_38 is30 ka30 (wHd) (by omega) ?_
      refine z_isub dX1_lawless_39 ?_
      refine z_mmax dX1_lawless_40 lX1_65 (by omega) (by decide) (Nat.le_of_ble_eq_true rfl) ?_
      exact z_iret C dX1_lawless_43 rfl ⟨congrArg (fun z => some (vi z)) (by rw [if_neg uc7, if_neg uc19]), rfl⟩
    ·
      refine z_iconst dX1_lawless_22 ?_
      refine z_goto (tgt := 43) dX1_lawless_23 rfl ?_
      exact z_iret C dX1_lawless_43 rfl ⟨congrArg (fun z => some (vi z)) (by rw [if_neg uc7, if_pos uc19]), rfl⟩
  ·
    refine z_iconst dX1_lawless_10 ?_
    exact z_iret C dX1_lawless_11 rfl ⟨congrArg (fun z => some (vi z)) ((if_pos uc7).symm), rfl⟩
set_option maxRecDepth 100000 in
theorem ct_X1_coming (en : zE) (M : zW) (Cm : Int → Int) (wCm : M 32 = Cm) (hC : ∀ j, 0 ≤ j → j < 8 → -1 ≤ Cm j ∧ Cm j ≤ 9999) : Ct en kA yX1_coming mX1_coming [rf en 5] M (pI (rdW (fun p => if Cm p = -1 then 0 else 1) 8) M) := by
  refine Ct.of (by decide +kernel) rfl [(0, rf en 5)] rfl (Nat.le_of_ble_eq_true rfl) (fun cx C => ?_)
  refine z_iconst dX1_coming_0 ?_
  refine z_istore_n (fun y => [(0, rf en 5), (1, vi y)]) [1, 0] dX1_coming_1 (by decide) (fun _ => rfl) (fun x1_1 e1_1 => ?_)
  refine z_iconst dX1_coming_2 ?_
  refine z_istore_n (fun y => [(0, rf en 5), (1, vi x1_1), (2, vi y)]) [1, 2, 0] dX1_coming_3 (by decide) (fun _ => rfl) (fun x2_3 e2_3 => ?_)
  have uL4 : ∀ (fu : Nat) (x1 : Int) (x2 : Int), (8 - x2).toNat < fu → (0 ≤ x2 ∧ x2 ≤ 8 ∧ x1 = rdW (fun p => if Cm p = -1 then 0 else 1) x2.toNat) → Z en kA cx mX1_coming M 4 [(0, rf en 5), (1, vi x1), (2, vi x2)] [] := by
    intro fu
    induction fu with
    | zero => intro x1 x2 uhf; exact absurd uhf (Nat.not_lt_zero _)
    | succ fu uih4 =>
      intro x1 x2 uf4 uI4
      obtain ⟨uq1, uq2, uq3⟩ := uI4
      refine z_iload_n 2 dX1_coming_4 rfl ?_
      refine z_bipush dX1_coming_5 rfl ?_
      refine z_icmp_ge (tgt := 34) dX1_coming_7 rfl (by omega) (fun uc7 => ?_) (fun uc7 => ?_)
      ·
        refine z_iload_n 1 dX1_coming_34 rfl ?_
        exact z_iret C dX1_coming_35 rfl ⟨congrArg (fun z => some (vi z)) (by rw [uq3, show x2 = 8 by omega]; rfl), rfl⟩
      ·
        refine z_iload_n 1 dX1_coming_10 rfl ?_
        refine z_aload_n 0 dX1_coming_11 rfl ?_
        refine z_getR dX1_coming_12 fX1_22_1 i5_5 ka5 ?_
        refine z_iload_n 2 dX1_coming_15 rfl ?_
        refine z_iald (r := Cm) dX1_coming_16 is32 ka32 (wCm) (by omega) ?_
        have uz2 := hC x2 (by omega) (by omega)
        refine z_iconst dX1_coming_17 ?_
        refine z_icmp_ne (tgt := 25) dX1_coming_18 rfl (by omega) (fun uc18 => ?_) (fun uc18 => ?_)
        ·
          refine z_iconst dX1_coming_25 ?_
          refine z_iadd dX1_coming_26 ?_
          refine z_istore_n (fun y => [(0, rf en 5), (1, vi y), (2, vi x2)]) [1, 0, 2] dX1_coming_27 (by decide) (fun _ => rfl) (fun x1_27 e1_27 => ?_)
          refine z_iinc (fun y => [(0, rf en 5), (1, vi x1_27), (2, vi y)]) [1, 2, 0] 2 dX1_coming_28 rfl (by decide) (fun _ => rfl) (fun x2_28 e2_28 => ?_)
          refine z_goto (tgt := 4) dX1_coming_31 rfl ?_
          exact uih4 x1_27 x2_28 (by omega) (⟨by omega, by omega, by rw [e1_27, e2_28, rdW_s _ uq1, ← uq3]; congr 1; show _ = if (if Cm x2 = -1 then (0 : Int) else 1) = 1 then (1 : Int) else 0; rw [if_neg uc18]; rfl⟩)
        ·
          refine z_iconst dX1_coming_21 ?_
          refine z_goto (tgt := 26) dX1_coming_22 rfl ?_
          refine z_iadd dX1_coming_26 ?_
          refine z_istore_n (fun y => [(0, rf en 5), (1, vi y), (2, vi x2)]) [1, 0, 2] dX1_coming_27 (by decide) (fun _ => rfl) (fun x1_27 e1_27 => ?_)
          refine z_iinc (fun y => [(0, rf en 5), (1, vi x1_27), (2, vi y)]) [1, 2, 0] 2 dX1_coming_28 rfl (by decide) (fun _ => rfl) (fun x2_28 e2_28 => ?_)
          refine z_goto (tgt := 4) dX1_coming_31 rfl ?_
          exact uih4 x1_27 x2_28 (by omega) (⟨by omega, by omega, by rw [e1_27, e2_28, rdW_s _ uq1, ← uq3]; congr 1; show _ = if (if Cm x2 = -1 then (0 : Int) else 1) = 1 then (1 : Int) else 0; rw [if_pos uc18]; rfl⟩)
  exact uL4 _ x1_1 x2_3 (Nat.lt_succ_self _) (⟨by omega, by omega, by rw [e1_1, e2_3]; rfl⟩)
set_option maxRecDepth 100000 in
theorem ct_X1_townsOfWins (en : zE) (M : zW) (A : Int → Int) (S : Int → Int) (E0 : Int → Int) (wA : M 24 = A) (wS : M 28 = S) (wE0 : M 33 = E0) (hE : ∀ j, 0 ≤ j → j < 8 → (0 ≤ E0 j ∧ E0 j ≤ 3) ∧ (E0 j = 1 → (0 ≤ S j ∧ S j ≤ 7) ∧ (0 ≤ A (S j) ∧ A (S j) ≤ 7))) : Ct en kA yX1_townsOfWins mX1_townsOfWins [rf en 5] M (pI ((twS E0 A S 8 : Int)) M) := by
  refine Ct.of (by decide +kernel) rfl [(0, rf en 5)] rfl (Nat.le_of_ble_eq_true rfl) (fun cx C => ?_)
  refine z_iconst dX1_townsOfWins_0 ?_
  refine z_istore_n (fun y => [(0, rf en 5), (1, vi y)]) [1, 0] dX1_townsOfWins_1 (by decide) (fun _ => rfl) (fun x1_1 e1_1 => ?_)
  refine z_iconst dX1_townsOfWins_2 ?_
  refine z_istore_n (fun y => [(0, rf en 5), (1, vi x1_1), (2, vi y)]) [1, 2, 0] dX1_townsOfWins_3 (by decide) (fun _ => rfl) (fun x2_3 e2_3 => ?_)
  have uL4 : ∀ (fu : Nat) (x1 : Int) (x2 : Int), (8 - x2).toNat < fu → (0 ≤ x2 ∧ x2 ≤ 8 ∧ x1 = (twS E0 A S x2.toNat : Int)) → Z en kA cx mX1_townsOfWins M 4 [(0, rf en 5), (1, vi x1), (2, vi x2)] [] := by
    intro fu
    induction fu with
    | zero => intro x1 x2 uhf; exact absurd uhf (Nat.not_lt_zero _)
    | succ fu uih4 =>
      intro x1 x2 uf4 uI4
      obtain ⟨uq1, uq2, uq3⟩ := uI4
      have uql := twS_lt (E := E0) (A := A) (S := S) (fun uj ua ub uc => ((hE uj ua ub).2 uc).2) x2.toNat (by omega)
      refine z_iload_n 2 dX1_townsOfWins_4 rfl ?_
      refine z_bipush dX1_townsOfWins_5 rfl ?_
      refine z_icmp_ge (tgt := 48) dX1_townsOfWins_7 rfl (by omega) (fun uc7 => ?_) (fun uc7 => ?_)
      ·
        refine z_iload_n 1 dX1_townsOfWins_48 rfl ?_
        exact z_iret C dX1_townsOfWins_49 rfl ⟨congrArg (fun z => some (vi z)) (by rw [uq3, show x2 = 8 by omega]; rfl), rfl⟩
      ·
        refine z_aload_n 0 dX1_townsOfWins_10 rfl ?_
        refine z_getR dX1_townsOfWins_11 fX1_25_1 i5_6 ka5 ?_
        refine z_iload_n 2 dX1_townsOfWins_14 rfl ?_
        refine z_iald (r := E0) dX1_townsOfWins_15 is33 ka33 (wE0) (by omega) ?_
        have uz2 := hE x2 (by omega) (by omega)
        refine z_iconst dX1_townsOfWins_16 ?_
        refine z_icmp_ne (tgt := 42) dX1_townsOfWins_17 rfl (by omega) (fun uc17 => ?_) (fun uc17 => ?_)
        ·
          refine z_iinc (fun y => [(0, rf en 5), (1, vi x1), (2, vi y)]) [1, 2, 0] 2 dX1_townsOfWins_42 rfl (by decide) (fun _ => rfl) (fun x2_42 e2_42 => ?_)
          refine z_goto (tgt := 4) dX1_townsOfWins_45 rfl ?_
          exact uih4 x1 x2_42 (by omega) (⟨by omega, by omega, by rw [e2_42, twS_s _ _ _ uq1, if_neg uc17]; exact uq3⟩)
        ·
          have uz3 := uz2.2 uc17
          refine z_iload_n 1 dX1_townsOfWins_20 rfl ?_
          refine z_iconst dX1_townsOfWins_21 ?_
          refine z_aload_n 0 dX1_townsOfWins_22 rfl ?_
          refine z_getR dX1_townsOfWins_23 fX1_35_1 i5_1 ka5 ?_
          refine z_getR dX1_townsOfWins_26 fX1_70_2 i2_5 ka2 ?_
          refine z_aload_n 0 dX1_townsOfWins_29 rfl ?_
          refine z_getR dX1_townsOfWins_30 fX1_35_1 i5_1 ka5 ?_
          refine z_getR dX1_townsOfWins_33 fX1_75_2 i2_9 ka2 ?_
          refine z_iload_n 2 dX1_townsOfWins_36 rfl ?_
          refine z_iald (r := S) dX1_townsOfWins_37 is28 ka28 (wS) (by omega) ?_
          refine z_iald (r := A) dX1_townsOfWins_38 is24 ka24 (wA) (by omega) ?_
          refine z_ishl dX1_townsOfWins_39 (by omega) ?_
          have uz4 := p2_rg (A (S x2)).toNat (by omega)
          refine z_ior dX1_townsOfWins_40 (by omega) ?_
          refine z_istore_n (fun y => [(0, rf en 5), (1, vi y), (2, vi x2)]) [1, 0, 2] dX1_townsOfWins_41 (by decide) (fun _ => rfl) (fun x1_41 e1_41 => ?_)
          refine z_iinc (fun y => [(0, rf en 5), (1, vi x1_41), (2, vi y)]) [1, 2, 0] 2 dX1_townsOfWins_42 rfl (by decide) (fun _ => rfl) (fun x2_42 e2_42 => ?_)
          refine z_goto (tgt := 4) dX1_townsOfWins_45 rfl ?_
          exact uih4 x1_41 x2_42 (by omega) (⟨by omega, by omega, by rw [e1_41, e2_42, twS_s _ _ _ uq1, if_pos uc17, uq3, Int.toNat_natCast, Int.one_mul, p2_nat]⟩)
  exact uL4 _ x1_1 x2_3 (Nat.lt_succ_self _) (⟨by omega, by omega, by rw [e1_1, e2_3]; rfl⟩)
theorem flw_pay {T c A G K H S : Int → Int} (hT : tOK T) (hc : wB c) {np : Int} (hP : (0 ≤ np ∧ np ≤ 8) ∧ pOK (tP A G K H S) np) {r32 r33 R0 P0 : Int → Int} (uC : ∀ q, 0 ≤ q → q < 8 → r32 q = coX T (cW c) (tP A G K H S) np q) (uE : ∀ q, 0 ≤ q → q < 8 → r33 q = enX T (cW c) (tP A G K H S) np q) {w : Int} (hw : w = rdW (enX T (cW c) (tP A G K H S) np) 8) (p : Int) (h1 : 0 ≤ p) (h2 : p < 8) : (cPy r32 (tP A G K H S) (fil (fun p => if p < np then H p else 0) R0 0 8) (fil (fun p => if r33 p = 1 then 0 else 1) P0 0 8) w.toNat).1 p = riX T (cW c) (tP A G K H S) np p := by
  have hn : ((np.toNat : Nat) : Int) = np := by omega
  have hPd : ∀ p : Int, 0 ≤ p → p < 8 → (fil (fun p => if r33 p = 1 then 0 else 1) P0 0 8 p = 0 ↔ p < np ∧ enO T (cW c) (tP A G K H S) np p = 1) := fun p a b => by
    rw [fil_in _ _ (by omega), show p - 0 = p by omega, uE p a b]
    unfold enX
    by_cases q : p < np
    · rw [if_pos q]
      by_cases z : enO T (cW c) (tP A G K H S) np p = 1
      · rw [if_pos z]; exact ⟨fun _ => ⟨q, z⟩, fun _ => rfl⟩
      · rw [if_neg z]; exact ⟨fun y => absurd y (by decide), fun y => absurd y.2 z⟩
    · rw [if_neg q, if_neg (by decide)]
      exact ⟨fun y => absurd y (by decide), fun y => absurd y.1 q⟩
  have hz : zc (fil (fun p => if r33 p = 1 then 0 else 1) P0 0 8) 8 = rdW (enX T (cW c) (tP A G K H S) np) 8 := zc_W 8 (fun p a b => by
    rw [hPd p a b]
    unfold enX
    by_cases q : p < np
    · rw [if_pos q]; exact ⟨fun y => y.2, fun y => ⟨q, y⟩⟩
    · rw [if_neg q]; exact ⟨fun y => absurd y.1 q, fun y => absurd y (by decide)⟩)
  have win : ∀ p : Int, 0 ≤ p → p < np → enO T (cW c) (tP A G K H S) np p = 1 → enX T (cW c) (tP A G K H S) np p = 1 := fun p a b z => by unfold enX; rw [if_pos b]; exact z
  have := pay_ok (C := coO T (cW c) (tP A G K H S) np) (D := r32) (E := enO T (cW c) (tP A G K H S) np) (P := tP A G K H S) (R0 := fun p => tP A G K H S (5 * p + 3)) (R := fil (fun p => if p < np then H p else 0) R0 0 8) (n := np.toNat) (by omega)
    (fun p a b z => by rw [uC p a (by omega)]; exact (enX_win hT hc hP.2 ⟨a, by omega⟩ (win p a (by omega) z)).2.2.2.1)
    (fun p a b z => by have := (enX_win hT hc hP.2 ⟨a, by omega⟩ (win p a (by omega) z)).2.2.1; rw [tP_4]; omega)
    (fun p a b => by rw [fil_in _ _ (by omega), show p - 0 = p by omega, if_pos (by omega), tP_3])
    (fun p a b => by rw [fil_in _ _ (by omega), show p - 0 = p by omega, if_neg (by omega)])
    (fun p a b => by rw [hPd p a b, hn])
    (hw.trans hz.symm) p h1 h2
  rw [this, hn]
  rfl
set_option maxRecDepth 100000 in
theorem ct_X1_follow_3 (en : zE) (M : zW) (O2 : Int → Int) (T : Int → Int) (O5 : Int → Int) (c : Int → Int) (A : Int → Int) (G : Int → Int) (K : Int → Int) (H : Int → Int) (S : Int → Int) (P0 : Int → Int) (Hd : Int → Int) (Lw : Int → Int) (C0 : Int → Int) (E0 : Int → Int) (R0 : Int → Int) (wO2 : M 2 = O2) (wT : M 3 = T) (wO5 : M 5 = O5) (wc : M 22 = c) (wA : M 24 = A) (wG : M 25 = G) (wK : M 26 = K) (wH : M 27 = H) (wS : M 28 = S) (wP0 : M 29 = P0) (wHd : M 30 = Hd) (wLw : M 31 = Lw) (wC0 : M 32 = C0) (wE0 : M 33 = E0) (wR0 : M 34 = R0) (hT : tOK T) (hc : wB c) (hP : (0 ≤ O2 4 ∧ O2 4 ≤ 8) ∧ pOK (tP A G K H S) (O2 4)) : Ct en kA yX1_follow mX1_follow [rf en 5, rf en 3] M (pN (fun N => ∃ r5 r29 r30 r31 r32 r33 r34 : Int → Int, Flw T (cW c) (tP A G K H S) (O2 4) r5 r30 r31 r32 r33 r34 ∧ (∀ j, j ≠ 8 → j ≠ 9 → j ≠ 10 → r5 j = O5 j) ∧ (upR (upR (upR (upR (upR (upR (upR M 30 r30) 5 r5) 31 r31) 32 r32) 33 r33) 34 r34) 29 r29) = N)) := by
  refine Ct.of (by decide +kernel) rfl [(0, rf en 5), (1, rf en 3)] rfl (Nat.le_of_ble_eq_true rfl) (fun cx C => ?_)
  refine z_iconst dX1_follow_0 ?_
  refine z_istore_n (fun y => [(0, rf en 5), (1, rf en 3), (2, vi y)]) [1, 2, 0] dX1_follow_1 (by decide) (fun _ => rfl) (fun x2_1 e2_1 => ?_)
  have uL2 : ∀ (fu : Nat) (x2 : Int) (r30 : Int → Int), (8 - x2).toNat < fu → (0 ≤ x2 ∧ x2 ≤ 8 ∧ r30 = fil (fun t => orN (hA T (cW c) t)) Hd 0 x2) → Z en kA cx mX1_follow (upR M 30 r30) 2 [(0, rf en 5), (1, rf en 3), (2, vi x2)] [] := by
    intro fu
    induction fu with
    | zero => intro x2 r30 uhf; exact absurd uhf (Nat.not_lt_zero _)
    | succ fu uih2 =>
      intro x2 r30 uf2 uI2
      obtain ⟨uq1, uq2, uq3⟩ := uI2
      refine z_iload_n 2 dX1_follow_2 rfl ?_
      refine z_bipush dX1_follow_3 rfl ?_
      refine z_icmp_ge (tgt := 41) dX1_follow_5 rfl (by omega) (fun uc5 => ?_) (fun uc5 => ?_)
      ·
        have ue8 : x2 = 8 := by omega
        have uHd : ∀ t, 0 ≤ t → t < 8 → r30 t = orN (hA T (cW c) t) := fun ut ua ub => by rw [uq3, ue8, fil_in _ _ (by omega), show ut - 0 = ut by omega]
        have uw3 := hc (T 3 * 8 + T 4) (by omega) (by omega)
        have uh3 := uHd (T 3) (by omega) (by omega)
        have uhs3 := hA_s hT hc (t := T 3) (by omega)
        have uor3 := orN_rg (v := hA T (cW c) (T 3)) (by omega)
        refine z_aload_n 0 dX1_follow_41 rfl ?_
        refine z_getR dX1_follow_42 fX1_15_1 i5_3 ka5 ?_
        refine z_aload_n 1 dX1_follow_45 rfl ?_
        refine z_iconst dX1_follow_46 ?_
        refine z_iald (r := T) dX1_follow_47 is3 ka3 (wT) (by omega) ?_
        refine z_iald (r := r30) dX1_follow_48 is30 ka30 (rfl) (by omega) ?_
        refine z_aload_n 0 dX1_follow_49 rfl ?_
        refine z_getR dX1_follow_50 fX1_31_1 i5_0 ka5 ?_
        refine z_aload_n 1 dX1_follow_53 rfl ?_
        refine z_iconst dX1_follow_54 ?_
        refine z_iald (r := T) dX1_follow_55 is3 ka3 (wT) (by omega) ?_
        refine z_aload_n 1 dX1_follow_56 rfl ?_
        refine z_iconst dX1_follow_57 ?_
        refine z_iald (r := T) dX1_follow_58 is3 ka3 (wT) (by omega) ?_
        refine z_vI dX1_follow_59 lX1_39 (by decide) ka1 io1 rfl (ct_X3_between en (upR M 30 r30) c wc _ _ (by omega) (by assumption)) rfl rfl (by exact Nat.le_of_ble_eq_true rfl) ?_
        have uw4 : -1 ≤ (if 1000 ≤ c (T 3 * 8 + T 4) then -1 else c (T 3 * 8 + T 4)) ∧ (if 1000 ≤ c (T 3 * 8 + T 4) then -1 else c (T 3 * 8 + T 4)) ≤ 1000 := by split <;> omega
        refine z_nI dX1_follow_62 lX1_45 (by decide) (ct_X6_later en (upR M 30 r30) _ _ (by omega)) rfl rfl (by exact Nat.le_of_ble_eq_true rfl) ?_
        refine z_istore_n (fun y => [(0, rf en 5), (1, rf en 3), (2, vi y)]) [1, 2, 0] dX1_follow_65 (by decide) (fun _ => rfl) (fun x2_65 e2_65 => ?_)
        have ulr : -1 ≤ x2_65 ∧ x2_65 ≤ 20000 := by rw [e2_65]; unfold lat; split <;> omega
        refine z_aload_n 0 dX1_follow_66 rfl ?_
        refine z_iload_n 2 dX1_follow_67 rfl ?_
        refine z_iconst dX1_follow_68 ?_
        refine z_nI dX1_follow_69 lX1_45 (by decide) (ct_X6_later en (upR M 30 r30) _ (1) (by omega)) rfl rfl (by exact Nat.le_of_ble_eq_true rfl) ?_
        refine z_putI (r := O5) 8 rfl dX1_follow_72 pfX1_48_1 i5_8 ka5 (wO5) (fun r5_72 f5_72 => ?_)
        have uo8 : r5_72 8 = orN (crO T (cW c)) := by rw [f5_72, up_s, e2_65, uh3]; exact cr_l hT hc
        have ucs := cr_s hT hc
        have uor4 := orN_rg (v := crO T (cW c)) (by omega)
        refine z_iconst dX1_follow_75 ?_
        refine z_istore_n (fun y => [(0, rf en 5), (1, rf en 3), (2, vi x2_65), (3, vi y)]) [1, 2, 3, 0] dX1_follow_76 (by decide) (fun _ => rfl) (fun x3_76 e3_76 => ?_)
        refine z_lv [0, 1, 3] [(0, rf en 5), (1, rf en 3), (3, vi x3_76)] rfl ?_
        have uL77 : ∀ (fu : Nat) (x3 : Int) (r31 : Int → Int), (8 - x3).toNat < fu → (0 ≤ x3 ∧ x3 ≤ 8 ∧ r31 = fil (fun t => orN (lwA T (cW c) t)) Lw 0 x3) → Z en kA cx mX1_follow (upR (upR (upR M 30 r30) 5 r5_72) 31 r31) 77 [(0, rf en 5), (1, rf en 3), (3, vi x3)] [] := by
          intro fu
          induction fu with
          | zero => intro x3 r31 uhf; exact absurd uhf (Nat.not_lt_zero _)
          | succ fu uih77 =>
            intro x3 r31 uf77 uI77
            obtain ⟨uq5, uq6, uq7⟩ := uI77
            refine z_iload_n 2 dX1_follow_77 rfl ?_
            refine z_bipush dX1_follow_78 rfl ?_
            refine z_icmp_ge (tgt := 113) dX1_follow_80 rfl (by omega) (fun uc80 => ?_) (fun uc80 => ?_)
            ·
              have ue9 : x3 = 8 := by omega
              have uLw : ∀ t, 0 ≤ t → t < 8 → r31 t = orN (lwA T (cW c) t) := fun ut ua ub => by rw [uq7, ue9, fil_in _ _ (by omega), show ut - 0 = ut by omega]
              refine z_aload_n 0 dX1_follow_113 rfl ?_
              refine z_iconst dX1_follow_114 ?_
              refine z_putI' (r := r5_72) 9 rfl (fun r => (upR (upR (upR M 30 r30) 5 r) 31 r31)) dX1_follow_115 pfX1_52_1 i5_9 ka5 (rfl) (fun _ => uu2 (by decide)) (fun r5_115 f5_115 => ?_)
              refine z_aload_n 0 dX1_follow_118 rfl ?_
              refine z_iconst dX1_follow_119 ?_
              refine z_putI' (r := r5_115) 10 rfl (fun r => (upR (upR (upR M 30 r30) 5 r) 31 r31)) dX1_follow_120 pfX1_55_1 i5_10 ka5 (rfl) (fun _ => uu2 (by decide)) (fun r5_120 f5_120 => ?_)
              refine z_iconst dX1_follow_123 ?_
              refine z_istore_n (fun y => [(0, rf en 5), (1, rf en 3), (3, vi y)]) [1, 2, 0] dX1_follow_124 (by decide) (fun _ => rfl) (fun x3_124 e3_124 => ?_)
              have uL125 : ∀ (fu : Nat) (x3 : Int) (r5 : Int → Int) (r32 : Int → Int) (r33 : Int → Int), (8 - x3).toNat < fu → (0 ≤ x3 ∧ x3 ≤ 8 ∧ r5 9 = rdW (enX T (cW c) (tP A G K H S) (O2 4)) x3.toNat ∧ r5 10 = rdL (enX T (cW c) (tP A G K H S) (O2 4)) (coX T (cW c) (tP A G K H S) (O2 4)) x3.toNat ∧ (∀ j, j ≠ 9 → j ≠ 10 → r5 j = r5_72 j) ∧ r32 = fil (coX T (cW c) (tP A G K H S) (O2 4)) C0 0 x3 ∧ r33 = fil (enX T (cW c) (tP A G K H S) (O2 4)) E0 0 x3) → Z en kA cx mX1_follow (upR (upR (upR (upR (upR M 30 r30) 5 r5) 31 r31) 32 r32) 33 r33) 125 [(0, rf en 5), (1, rf en 3), (3, vi x3)] [] := by
                intro fu
                induction fu with
                | zero => intro x3 r5 r32 r33 uhf; exact absurd uhf (Nat.not_lt_zero _)
                | succ fu uih125 =>
                  intro x3 r5 r32 r33 uf125 uI125
                  obtain ⟨uqa, uqb, uqc, uqd, uqe, uqf, uqg⟩ := uI125
                  have uqw := rdW_rg (enX T (cW c) (tP A G K H S) (O2 4)) x3.toNat
                  have uql := rdL_rg (E := (enX T (cW c) (tP A G K H S) (O2 4))) (D := (coX T (cW c) (tP A G K H S) (O2 4))) (fun uq ua ub => coX_rg hT hc hP.2 ua) x3.toNat (by omega)
                  refine z_iload_n 2 dX1_follow_125 rfl ?_
                  refine z_bipush dX1_follow_126 rfl ?_
                  refine z_icmp_ge (tgt := 145) dX1_follow_128 rfl (by omega) (fun uc128 => ?_) (fun uc128 => ?_)
                  ·
                    have ue7 : x3 = 8 := by omega
                    have uC : ∀ q, 0 ≤ q → q < 8 → r32 q = (coX T (cW c) (tP A G K H S) (O2 4)) q := fun ut ua ub => by rw [uqf, ue7, fil_in _ _ (by omega), show ut - 0 = ut by omega]
                    have uE : ∀ q, 0 ≤ q → q < 8 → r33 q = (enX T (cW c) (tP A G K H S) (O2 4)) q := fun ut ua ub => by rw [uqg, ue7, fil_in _ _ (by omega), show ut - 0 = ut by omega]
                    refine z_aload_n 0 dX1_follow_145 rfl ?_
                    refine z_vN dX1_follow_146 lX1_62 (by decide) ka5 io5 rfl (ct_X1_payScores en (upR (upR (upR (upR (upR M 30 r30) 5 r5) 31 r31) 32 r32) 33 r33) O2 r5 A G K H S P0 r32 r33 R0 wO2 rfl wA wG wK wH wS wP0 rfl rfl wR0 (by omega) (fun uj ua ub => by rw [uC uj ua ub]; have uz := coX_rg hT hc hP.2 (p := uj) ua; omega) (fun uj ua ub => ⟨by rw [uE uj ua ub]; exact enX_rg _ _ _ _ _, fun uz => by rw [uE uj ua ub] at uz; have uz2 := enX_win hT hc hP.2 ⟨ua, ub⟩ uz; omega⟩)) rfl rfl (by exact Nat.le_of_ble_eq_true rfl) (fun uN146 uh146 => ?_)
                    obtain ⟨r29_146, rfl⟩ := uh146
                    exact z_vret C dX1_follow_149 rfl ⟨rfl, ⟨r5, r29_146, r30, r31, r32, r33, _, ⟨uHd, uLw, uC, uE, fun up_ ua ub => flw_pay hT hc hP uC uE (by rw [uqc, ue7]; rfl) up_ ua ub, by rw [uqe 8 (by decide) (by decide)]; exact uo8, by rw [uqc, ue7]; exact rdW_out hP.1.1 8 (by omega) (fun _ _ _ => rfl), by rw [uqd, ue7]; exact rdL_out hT hc hP.2 hP.1 8 (by omega) (fun _ _ _ => ⟨rfl, rfl⟩)⟩, fun uj ua ub uc => by rw [uqe uj ub uc, f5_72, up_n _ _ ua], rfl⟩⟩
                  ·
                    refine z_aload_n 0 dX1_follow_131 rfl ?_
                    refine z_iload_n 2 dX1_follow_132 rfl ?_
                    refine z_aload_n 1 dX1_follow_133 rfl ?_
                    refine z_iconst dX1_follow_134 ?_
                    refine z_iald (r := T) dX1_follow_135 is3 ka3 (wT) (by omega) ?_
                    refine z_vN dX1_follow_136 lX1_58 (by decide) ka5 io5 rfl (ct_X1_ride en (upR (upR (upR (upR (upR M 30 r30) 5 r5) 31 r31) 32 r32) 33 r33) T O2 r5 c A G K H S r30 r31 r32 r33 wO2 rfl wc wA wG wK wH wS rfl rfl rfl rfl _ _ (by omega) hT rfl hc hP uHd uLw (by rw [uqc, uqd]; omega)) rfl rfl (by exact Nat.le_of_ble_eq_true rfl) (fun uN136 uh136 => ?_)
                    obtain ⟨r5_136, r32_136, r33_136, ug1, ug2, ug3, ug4, ug5, rfl⟩ := uh136
                    rw [uu2 (a := 32) (b0 := 33) (by decide)]
                    rw [uu1 (a := 33)]
                    rw [uu4 (a := 5) (b0 := 31) (b1 := 32) (b2 := 33) (by decide) (by decide) (by decide)]
                    refine z_iinc (fun y => [(0, rf en 5), (1, rf en 3), (3, vi y)]) [1, 2, 0] 2 dX1_follow_139 rfl (by decide) (fun _ => rfl) (fun x3_139 e3_139 => ?_)
                    refine z_goto (tgt := 125) dX1_follow_142 rfl ?_
                    have uqh := fil_s (coX T (cW c) (tP A G K H S) (O2 4)) C0 0 x3 uqa rfl
                    have uqi := fil_s (enX T (cW c) (tP A G K H S) (O2 4)) E0 0 x3 uqa rfl
                    rw [Int.zero_add] at uqh uqi
                    exact uih125 x3_139 r5_136 r32_136 r33_136 (by omega) (⟨by omega, by omega, by rw [ug3, uqc, e3_139, rdW_s _ uqa], by rw [ug4, uqd, e3_139, rdL_s _ _ uqa], fun uj ua ub => by rw [ug5 uj ua ub]; exact uqe uj ua ub, by rw [ug1, uqf, e3_139, uqh], by rw [ug2, uqg, e3_139, uqi]⟩)
              refine Z.eqM (upR_id (k := 32) wC0) ?_
              refine Z.eqM (upR_id (k := 33) wE0) ?_
              exact uL125 _ x3_124 r5_120 C0 E0 (Nat.lt_succ_self _) (⟨by omega, by omega, by rw [f5_120, up_n _ _ (by decide), f5_115, up_s, e3_124]; rfl, by rw [f5_120, up_s, e3_124]; rfl, fun uj ua ub => by rw [f5_120, up_n _ _ ub, f5_115, up_n _ _ ua], by rw [e3_124, fil_0], by rw [e3_124, fil_0]⟩)
            ·
              have uw1 := hc (T 4 * 8 + x3) (by omega) (by omega)
              refine z_aload_n 0 dX1_follow_83 rfl ?_
              refine z_getR dX1_follow_84 fX1_19_1 i5_4 ka5 ?_
              refine z_iload_n 2 dX1_follow_87 rfl ?_
              refine z_aload_n 0 dX1_follow_88 rfl ?_
              refine z_getI (r := r5_72) 8 rfl dX1_follow_89 fX1_48_1 i5_8 ka5 (rfl) ?_
              refine z_aload_n 0 dX1_follow_92 rfl ?_
              refine z_getR dX1_follow_93 fX1_31_1 i5_0 ka5 ?_
              refine z_aload_n 1 dX1_follow_96 rfl ?_
              refine z_iconst dX1_follow_97 ?_
              refine z_iald (r := T) dX1_follow_98 is3 ka3 (wT) (by omega) ?_
              refine z_iload_n 2 dX1_follow_99 rfl ?_
              refine z_vI dX1_follow_100 lX1_39 (by decide) ka1 io1 rfl (ct_X3_between en (upR (upR (upR M 30 r30) 5 r5_72) 31 r31) c wc _ _ (by omega) (by assumption)) rfl rfl (by exact Nat.le_of_ble_eq_true rfl) ?_
              have uw2 : -1 ≤ (if 1000 ≤ c (T 4 * 8 + x3) then -1 else c (T 4 * 8 + x3)) ∧ (if 1000 ≤ c (T 4 * 8 + x3) then -1 else c (T 4 * 8 + x3)) ≤ 1000 := by split <;> omega
              refine z_nI dX1_follow_103 lX1_45 (by decide) (ct_X6_later en (upR (upR (upR M 30 r30) 5 r5_72) 31 r31) _ _ (by omega)) rfl rfl (by exact Nat.le_of_ble_eq_true rfl) ?_
              refine z_iast' (r := r31) (fun r => (upR (upR (upR M 30 r30) 5 r5_72) 31 r)) dX1_follow_106 is31 ka31 (rfl) (by omega) (fun _ => uu1) (fun r31_106 f31_106 => ?_)
              refine z_iinc (fun y => [(0, rf en 5), (1, rf en 3), (3, vi y)]) [1, 2, 0] 2 dX1_follow_107 rfl (by decide) (fun _ => rfl) (fun x3_107 e3_107 => ?_)
              refine z_goto (tgt := 77) dX1_follow_110 rfl ?_
              have uq8 := fil_s (fun t => orN (lwA T (cW c) t)) Lw 0 x3 uq5 (lw_l hT hc (t := x3) (by omega))
              rw [Int.zero_add] at uq8
              exact uih77 x3_107 r31_106 (by omega) (⟨by omega, by omega, by rw [f31_106, uq7, e3_107, uo8, uq8]⟩)
        refine Z.eqM (upR_id (k := 31) wLw) ?_
        exact uL77 _ x3_76 Lw (Nat.lt_succ_self _) (⟨by omega, by omega, by rw [e3_76, fil_0]⟩)
      ·
        have uw1 := hc (T 0 * 8 + x2) (by omega) (by omega)
        refine z_aload_n 0 dX1_follow_8 rfl ?_
        refine z_getR dX1_follow_9 fX1_15_1 i5_3 ka5 ?_
        refine z_iload_n 2 dX1_follow_12 rfl ?_
        refine z_aload_n 1 dX1_follow_13 rfl ?_
        refine z_iconst dX1_follow_14 ?_
        refine z_iald (r := T) dX1_follow_15 is3 ka3 (wT) (by omega) ?_
        refine z_aload_n 1 dX1_follow_16 rfl ?_
        refine z_iconst dX1_follow_17 ?_
        refine z_iald (r := T) dX1_follow_18 is3 ka3 (wT) (by omega) ?_
        refine z_iadd dX1_follow_19 ?_
        refine z_aload_n 0 dX1_follow_20 rfl ?_
        refine z_getR dX1_follow_21 fX1_31_1 i5_0 ka5 ?_
        refine z_aload_n 1 dX1_follow_24 rfl ?_
        refine z_iconst dX1_follow_25 ?_
        refine z_iald (r := T) dX1_follow_26 is3 ka3 (wT) (by omega) ?_
        refine z_iload_n 2 dX1_follow_27 rfl ?_
        refine z_vI dX1_follow_28 lX1_39 (by decide) ka1 io1 rfl (ct_X3_between en (upR M 30 r30) c wc _ _ (by omega) (by assumption)) rfl rfl (by exact Nat.le_of_ble_eq_true rfl) ?_
        have uw2 : -1 ≤ (if 1000 ≤ c (T 0 * 8 + x2) then -1 else c (T 0 * 8 + x2)) ∧ (if 1000 ≤ c (T 0 * 8 + x2) then -1 else c (T 0 * 8 + x2)) ≤ 1000 := by split <;> omega
        refine z_nI dX1_follow_31 lX1_45 (by decide) (ct_X6_later en (upR M 30 r30) _ _ (by omega)) rfl rfl (by exact Nat.le_of_ble_eq_true rfl) ?_
        refine z_iast' (r := r30) (fun r => (upR M 30 r)) dX1_follow_34 is30 ka30 (rfl) (by omega) (fun _ => uu1) (fun r30_34 f30_34 => ?_)
        refine z_iinc (fun y => [(0, rf en 5), (1, rf en 3), (2, vi y)]) [1, 2, 0] 2 dX1_follow_35 rfl (by decide) (fun _ => rfl) (fun x2_35 e2_35 => ?_)
        refine z_goto (tgt := 2) dX1_follow_38 rfl ?_
        have uq4 := fil_s (fun t => orN (hA T (cW c) t)) Hd 0 x2 uq1 (hA_l hT hc (t := x2) (by omega))
        rw [Int.zero_add] at uq4
        exact uih2 x2_35 r30_34 (by omega) (⟨by omega, by omega, by rw [f30_34, uq3, e2_35, uq4]⟩)
  refine Z.eqM (upR_id (k := 30) wHd) ?_
  exact uL2 _ x2_1 Hd (Nat.lt_succ_self _) (⟨by omega, by omega, by rw [e2_1, fil_0]⟩)
set_option maxRecDepth 100000 in
theorem ct_X1_follow_4 (en : zE) (M : zW) (O2 : Int → Int) (T : Int → Int) (O5 : Int → Int) (c : Int → Int) (A : Int → Int) (G : Int → Int) (K : Int → Int) (H : Int → Int) (S : Int → Int) (P0 : Int → Int) (Hd : Int → Int) (Lw : Int → Int) (C0 : Int → Int) (E0 : Int → Int) (R0 : Int → Int) (wO2 : M 2 = O2) (wT : M 4 = T) (wO5 : M 5 = O5) (wc : M 22 = c) (wA : M 24 = A) (wG : M 25 = G) (wK : M 26 = K) (wH : M 27 = H) (wS : M 28 = S) (wP0 : M 29 = P0) (wHd : M 30 = Hd) (wLw : M 31 = Lw) (wC0 : M 32 = C0) (wE0 : M 33 = E0) (wR0 : M 34 = R0) (hT : tOK T) (hc : wB c) (hP : (0 ≤ O2 4 ∧ O2 4 ≤ 8) ∧ pOK (tP A G K H S) (O2 4)) : Ct en kA yX1_follow mX1_follow [rf en 5, rf en 4] M (pN (fun N => ∃ r5 r29 r30 r31 r32 r33 r34 : Int → Int, Flw T (cW c) (tP A G K H S) (O2 4) r5 r30 r31 r32 r33 r34 ∧ (∀ j, j ≠ 8 → j ≠ 9 → j ≠ 10 → r5 j = O5 j) ∧ (upR (upR (upR (upR (upR (upR (upR M 30 r30) 5 r5) 31 r31) 32 r32) 33 r33) 34 r34) 29 r29) = N)) := by
  refine Ct.of (by decide +kernel) rfl [(0, rf en 5), (1, rf en 4)] rfl (Nat.le_of_ble_eq_true rfl) (fun cx C => ?_)
  refine z_iconst dX1_follow_0 ?_
  refine z_istore_n (fun y => [(0, rf en 5), (1, rf en 4), (2, vi y)]) [1, 2, 0] dX1_follow_1 (by decide) (fun _ => rfl) (fun x2_1 e2_1 => ?_)
  have uL2 : ∀ (fu : Nat) (x2 : Int) (r30 : Int → Int), (8 - x2).toNat < fu → (0 ≤ x2 ∧ x2 ≤ 8 ∧ r30 = fil (fun t => orN (hA T (cW c) t)) Hd 0 x2) → Z en kA cx mX1_follow (upR M 30 r30) 2 [(0, rf en 5), (1, rf en 4), (2, vi x2)] [] := by
    intro fu
    induction fu with
    | zero => intro x2 r30 uhf; exact absurd uhf (Nat.not_lt_zero _)
    | succ fu uih2 =>
      intro x2 r30 uf2 uI2
      obtain ⟨uq1, uq2, uq3⟩ := uI2
      refine z_iload_n 2 dX1_follow_2 rfl ?_
      refine z_bipush dX1_follow_3 rfl ?_
      refine z_icmp_ge (tgt := 41) dX1_follow_5 rfl (by omega) (fun uc5 => ?_) (fun uc5 => ?_)
      ·
        have ue8 : x2 = 8 := by omega
        have uHd : ∀ t, 0 ≤ t → t < 8 → r30 t = orN (hA T (cW c) t) := fun ut ua ub => by rw [uq3, ue8, fil_in _ _ (by omega), show ut - 0 = ut by omega]
        have uw3 := hc (T 3 * 8 + T 4) (by omega) (by omega)
        have uh3 := uHd (T 3) (by omega) (by omega)
        have uhs3 := hA_s hT hc (t := T 3) (by omega)
        have uor3 := orN_rg (v := hA T (cW c) (T 3)) (by omega)
        refine z_aload_n 0 dX1_follow_41 rfl ?_
        refine z_getR dX1_follow_42 fX1_15_1 i5_3 ka5 ?_
        refine z_aload_n 1 dX1_follow_45 rfl ?_
        refine z_iconst dX1_follow_46 ?_
        refine z_iald (r := T) dX1_follow_47 is4 ka4 (wT) (by omega) ?_
        refine z_iald (r := r30) dX1_follow_48 is30 ka30 (rfl) (by omega) ?_
        refine z_aload_n 0 dX1_follow_49 rfl ?_
        refine z_getR dX1_follow_50 fX1_31_1 i5_0 ka5 ?_
        refine z_aload_n 1 dX1_follow_53 rfl ?_
        refine z_iconst dX1_follow_54 ?_
        refine z_iald (r := T) dX1_follow_55 is4 ka4 (wT) (by omega) ?_
        refine z_aload_n 1 dX1_follow_56 rfl ?_
        refine z_iconst dX1_follow_57 ?_
        refine z_iald (r := T) dX1_follow_58 is4 ka4 (wT) (by omega) ?_
        refine z_vI dX1_follow_59 lX1_39 (by decide) ka1 io1 rfl (ct_X3_between en (upR M 30 r30) c wc _ _ (by omega) (by assumption)) rfl rfl (by exact Nat.le_of_ble_eq_true rfl) ?_
        have uw4 : -1 ≤ (if 1000 ≤ c (T 3 * 8 + T 4) then -1 else c (T 3 * 8 + T 4)) ∧ (if 1000 ≤ c (T 3 * 8 + T 4) then -1 else c (T 3 * 8 + T 4)) ≤ 1000 := by split <;> omega
        refine z_nI dX1_follow_62 lX1_45 (by decide) (ct_X6_later en (upR M 30 r30) _ _ (by omega)) rfl rfl (by exact Nat.le_of_ble_eq_true rfl) ?_
        refine z_istore_n (fun y => [(0, rf en 5), (1, rf en 4), (2, vi y)]) [1, 2, 0] dX1_follow_65 (by decide) (fun _ => rfl) (fun x2_65 e2_65 => ?_)
        have ulr : -1 ≤ x2_65 ∧ x2_65 ≤ 20000 := by rw [e2_65]; unfold lat; split <;> omega
        refine z_aload_n 0 dX1_follow_66 rfl ?_
        refine z_iload_n 2 dX1_follow_67 rfl ?_
        refine z_iconst dX1_follow_68 ?_
        refine z_nI dX1_follow_69 lX1_45 (by decide) (ct_X6_later en (upR M 30 r30) _ (1) (by omega)) rfl rfl (by exact Nat.le_of_ble_eq_true rfl) ?_
        refine z_putI (r := O5) 8 rfl dX1_follow_72 pfX1_48_1 i5_8 ka5 (wO5) (fun r5_72 f5_72 => ?_)
        have uo8 : r5_72 8 = orN (crO T (cW c)) := by rw [f5_72, up_s, e2_65, uh3]; exact cr_l hT hc
        have ucs := cr_s hT hc
        have uor4 := orN_rg (v := crO T (cW c)) (by omega)
        refine z_iconst dX1_follow_75 ?_
        refine z_istore_n (fun y => [(0, rf en 5), (1, rf en 4), (2, vi x2_65), (3, vi y)]) [1, 2, 3, 0] dX1_follow_76 (by decide) (fun _ => rfl) (fun x3_76 e3_76 => ?_)
        refine z_lv [0, 1, 3] [(0, rf en 5), (1, rf en 4), (3, vi x3_76)] rfl ?_
        have uL77 : ∀ (fu : Nat) (x3 : Int) (r31 : Int → Int), (8 - x3).toNat < fu → (0 ≤ x3 ∧ x3 ≤ 8 ∧ r31 = fil (fun t => orN (lwA T (cW c) t)) Lw 0 x3) → Z en kA cx mX1_follow (upR (upR (upR M 30 r30) 5 r5_72) 31 r31) 77 [(0, rf en 5), (1, rf en 4), (3, vi x3)] [] := by
          intro fu
          induction fu with
          | zero => intro x3 r31 uhf; exact absurd uhf (Nat.not_lt_zero _)
          | succ fu uih77 =>
            intro x3 r31 uf77 uI77
            obtain ⟨uq5, uq6, uq7⟩ := uI77
            refine z_iload_n 2 dX1_follow_77 rfl ?_
            refine z_bipush dX1_follow_78 rfl ?_
            refine z_icmp_ge (tgt := 113) dX1_follow_80 rfl (by omega) (fun uc80 => ?_) (fun uc80 => ?_)
            ·
              have ue9 : x3 = 8 := by omega
              have uLw : ∀ t, 0 ≤ t → t < 8 → r31 t = orN (lwA T (cW c) t) := fun ut ua ub => by rw [uq7, ue9, fil_in _ _ (by omega), show ut - 0 = ut by omega]
              refine z_aload_n 0 dX1_follow_113 rfl ?_
              refine z_iconst dX1_follow_114 ?_
              refine z_putI' (r := r5_72) 9 rfl (fun r => (upR (upR (upR M 30 r30) 5 r) 31 r31)) dX1_follow_115 pfX1_52_1 i5_9 ka5 (rfl) (fun _ => uu2 (by decide)) (fun r5_115 f5_115 => ?_)
              refine z_aload_n 0 dX1_follow_118 rfl ?_
              refine z_iconst dX1_follow_119 ?_
              refine z_putI' (r := r5_115) 10 rfl (fun r => (upR (upR (upR M 30 r30) 5 r) 31 r31)) dX1_follow_120 pfX1_55_1 i5_10 ka5 (rfl) (fun _ => uu2 (by decide)) (fun r5_120 f5_120 => ?_)
              refine z_iconst dX1_follow_123 ?_
              refine z_istore_n (fun y => [(0, rf en 5), (1, rf en 4), (3, vi y)]) [1, 2, 0] dX1_follow_124 (by decide) (fun _ => rfl) (fun x3_124 e3_124 => ?_)
              have uL125 : ∀ (fu : Nat) (x3 : Int) (r5 : Int → Int) (r32 : Int → Int) (r33 : Int → Int), (8 - x3).toNat < fu → (0 ≤ x3 ∧ x3 ≤ 8 ∧ r5 9 = rdW (enX T (cW c) (tP A G K H S) (O2 4)) x3.toNat ∧ r5 10 = rdL (enX T (cW c) (tP A G K H S) (O2 4)) (coX T (cW c) (tP A G K H S) (O2 4)) x3.toNat ∧ (∀ j, j ≠ 9 → j ≠ 10 → r5 j = r5_72 j) ∧ r32 = fil (coX T (cW c) (tP A G K H S) (O2 4)) C0 0 x3 ∧ r33 = fil (enX T (cW c) (tP A G K H S) (O2 4)) E0 0 x3) → Z en kA cx mX1_follow (upR (upR (upR (upR (upR M 30 r30) 5 r5) 31 r31) 32 r32) 33 r33) 125 [(0, rf en 5), (1, rf en 4), (3, vi x3)] [] := by
                intro fu
                induction fu with
                | zero => intro x3 r5 r32 r33 uhf; exact absurd uhf (Nat.not_lt_zero _)
                | succ fu uih125 =>
                  intro x3 r5 r32 r33 uf125 uI125
                  obtain ⟨uqa, uqb, uqc, uqd, uqe, uqf, uqg⟩ := uI125
                  have uqw := rdW_rg (enX T (cW c) (tP A G K H S) (O2 4)) x3.toNat
                  have uql := rdL_rg (E := (enX T (cW c) (tP A G K H S) (O2 4))) (D := (coX T (cW c) (tP A G K H S) (O2 4))) (fun uq ua ub => coX_rg hT hc hP.2 ua) x3.toNat (by omega)
                  refine z_iload_n 2 dX1_follow_125 rfl ?_
                  refine z_bipush dX1_follow_126 rfl ?_
                  refine z_icmp_ge (tgt := 145) dX1_follow_128 rfl (by omega) (fun uc128 => ?_) (fun uc128 => ?_)
                  ·
                    have ue7 : x3 = 8 := by omega
                    have uC : ∀ q, 0 ≤ q → q < 8 → r32 q = (coX T (cW c) (tP A G K H S) (O2 4)) q := fun ut ua ub => by rw [uqf, ue7, fil_in _ _ (by omega), show ut - 0 = ut by omega]
                    have uE : ∀ q, 0 ≤ q → q < 8 → r33 q = (enX T (cW c) (tP A G K H S) (O2 4)) q := fun ut ua ub => by rw [uqg, ue7, fil_in _ _ (by omega), show ut - 0 = ut by omega]
                    refine z_aload_n 0 dX1_follow_145 rfl ?_
                    refine z_vN dX1_follow_146 lX1_62 (by decide) ka5 io5 rfl (ct_X1_payScores en (upR (upR (upR (upR (upR M 30 r30) 5 r5) 31 r31) 32 r32) 33 r33) O2 r5 A G K H S P0 r32 r33 R0 wO2 rfl wA wG wK wH wS wP0 rfl rfl wR0 (by omega) (fun uj ua ub => by rw [uC uj ua ub]; have uz := coX_rg hT hc hP.2 (p := uj) ua; omega) (fun uj ua ub => ⟨by rw [uE uj ua ub]; exact enX_rg _ _ _ _ _, fun uz => by rw [uE uj ua ub] at uz; have uz2 := enX_win hT hc hP.2 ⟨ua, ub⟩ uz; omega⟩)) rfl rfl (by exact Nat.le_of_ble_eq_true rfl) (fun uN146 uh146 => ?_)
                    obtain ⟨r29_146, rfl⟩ := uh146
                    exact z_vret C dX1_follow_149 rfl ⟨rfl, ⟨r5, r29_146, r30, r31, r32, r33, _, ⟨uHd, uLw, uC, uE, fun up_ ua ub => flw_pay hT hc hP uC uE (by rw [uqc, ue7]; rfl) up_ ua ub, by rw [uqe 8 (by decide) (by decide)]; exact uo8, by rw [uqc, ue7]; exact rdW_out hP.1.1 8 (by omega) (fun _ _ _ => rfl), by rw [uqd, ue7]; exact rdL_out hT hc hP.2 hP.1 8 (by omega) (fun _ _ _ => ⟨rfl, rfl⟩)⟩, fun uj ua ub uc => by rw [uqe uj ub uc, f5_72, up_n _ _ ua], rfl⟩⟩
                  ·
                    refine z_aload_n 0 dX1_follow_131 rfl ?_
                    refine z_iload_n 2 dX1_follow_132 rfl ?_
                    refine z_aload_n 1 dX1_follow_133 rfl ?_
                    refine z_iconst dX1_follow_134 ?_
                    refine z_iald (r := T) dX1_follow_135 is4 ka4 (wT) (by omega) ?_
                    refine z_vN dX1_follow_136 lX1_58 (by decide) ka5 io5 rfl (ct_X1_ride en (upR (upR (upR (upR (upR M 30 r30) 5 r5) 31 r31) 32 r32) 33 r33) T O2 r5 c A G K H S r30 r31 r32 r33 wO2 rfl wc wA wG wK wH wS rfl rfl rfl rfl _ _ (by omega) hT rfl hc hP uHd uLw (by rw [uqc, uqd]; omega)) rfl rfl (by exact Nat.le_of_ble_eq_true rfl) (fun uN136 uh136 => ?_)
                    obtain ⟨r5_136, r32_136, r33_136, ug1, ug2, ug3, ug4, ug5, rfl⟩ := uh136
                    rw [uu2 (a := 32) (b0 := 33) (by decide)]
                    rw [uu1 (a := 33)]
                    rw [uu4 (a := 5) (b0 := 31) (b1 := 32) (b2 := 33) (by decide) (by decide) (by decide)]
                    refine z_iinc (fun y => [(0, rf en 5), (1, rf en 4), (3, vi y)]) [1, 2, 0] 2 dX1_follow_139 rfl (by decide) (fun _ => rfl) (fun x3_139 e3_139 => ?_)
                    refine z_goto (tgt := 125) dX1_follow_142 rfl ?_
                    have uqh := fil_s (coX T (cW c) (tP A G K H S) (O2 4)) C0 0 x3 uqa rfl
                    have uqi := fil_s (enX T (cW c) (tP A G K H S) (O2 4)) E0 0 x3 uqa rfl
                    rw [Int.zero_add] at uqh uqi
                    exact uih125 x3_139 r5_136 r32_136 r33_136 (by omega) (⟨by omega, by omega, by rw [ug3, uqc, e3_139, rdW_s _ uqa], by rw [ug4, uqd, e3_139, rdL_s _ _ uqa], fun uj ua ub => by rw [ug5 uj ua ub]; exact uqe uj ua ub, by rw [ug1, uqf, e3_139, uqh], by rw [ug2, uqg, e3_139, uqi]⟩)
              refine Z.eqM (upR_id (k := 32) wC0) ?_
              refine Z.eqM (upR_id (k := 33) wE0) ?_
              exact uL125 _ x3_124 r5_120 C0 E0 (Nat.lt_succ_self _) (⟨by omega, by omega, by rw [f5_120, up_n _ _ (by decide), f5_115, up_s, e3_124]; rfl, by rw [f5_120, up_s, e3_124]; rfl, fun uj ua ub => by rw [f5_120, up_n _ _ ub, f5_115, up_n _ _ ua], by rw [e3_124, fil_0], by rw [e3_124, fil_0]⟩)
            ·
              have uw1 := hc (T 4 * 8 + x3) (by omega) (by omega)
              refine z_aload_n 0 dX1_follow_83 rfl ?_
              refine z_getR dX1_follow_84 fX1_19_1 i5_4 ka5 ?_
              refine z_iload_n 2 dX1_follow_87 rfl ?_
              refine z_aload_n 0 dX1_follow_88 rfl ?_
              refine z_getI (r := r5_72) 8 rfl dX1_follow_89 fX1_48_1 i5_8 ka5 (rfl) ?_
              refine z_aload_n 0 dX1_follow_92 rfl ?_
              refine z_getR dX1_follow_93 fX1_31_1 i5_0 ka5 ?_
              refine z_aload_n 1 dX1_follow_96 rfl ?_
              refine z_iconst dX1_follow_97 ?_
              refine z_iald (r := T) dX1_follow_98 is4 ka4 (wT) (by omega) ?_
              refine z_iload_n 2 dX1_follow_99 rfl ?_
              refine z_vI dX1_follow_100 lX1_39 (by decide) ka1 io1 rfl (ct_X3_between en (upR (upR (upR M 30 r30) 5 r5_72) 31 r31) c wc _ _ (by omega) (by assumption)) rfl rfl (by exact Nat.le_of_ble_eq_true rfl) ?_
              have uw2 : -1 ≤ (if 1000 ≤ c (T 4 * 8 + x3) then -1 else c (T 4 * 8 + x3)) ∧ (if 1000 ≤ c (T 4 * 8 + x3) then -1 else c (T 4 * 8 + x3)) ≤ 1000 := by split <;> omega
              refine z_nI dX1_follow_103 lX1_45 (by decide) (ct_X6_later en (upR (upR (upR M 30 r30) 5 r5_72) 31 r31) _ _ (by omega)) rfl rfl (by exact Nat.le_of_ble_eq_true rfl) ?_
              refine z_iast' (r := r31) (fun r => (upR (upR (upR M 30 r30) 5 r5_72) 31 r)) dX1_follow_106 is31 ka31 (rfl) (by omega) (fun _ => uu1) (fun r31_106 f31_106 => ?_)
              refine z_iinc (fun y => [(0, rf en 5), (1, rf en 4), (3, vi y)]) [1, 2, 0] 2 dX1_follow_107 rfl (by decide) (fun _ => rfl) (fun x3_107 e3_107 => ?_)
              refine z_goto (tgt := 77) dX1_follow_110 rfl ?_
              have uq8 := fil_s (fun t => orN (lwA T (cW c) t)) Lw 0 x3 uq5 (lw_l hT hc (t := x3) (by omega))
              rw [Int.zero_add] at uq8
              exact uih77 x3_107 r31_106 (by omega) (⟨by omega, by omega, by rw [f31_106, uq7, e3_107, uo8, uq8]⟩)
        refine Z.eqM (upR_id (k := 31) wLw) ?_
        exact uL77 _ x3_76 Lw (Nat.lt_succ_self _) (⟨by omega, by omega, by rw [e3_76, fil_0]⟩)
      ·
        have uw1 := hc (T 0 * 8 + x2) (by omega) (by omega)
        refine z_aload_n 0 dX1_follow_8 rfl ?_
        refine z_getR dX1_follow_9 fX1_15_1 i5_3 ka5 ?_
        refine z_iload_n 2 dX1_follow_12 rfl ?_
        refine z_aload_n 1 dX1_follow_13 rfl ?_
        refine z_iconst dX1_follow_14 ?_
        refine z_iald (r := T) dX1_follow_15 is4 ka4 (wT) (by omega) ?_
        refine z_aload_n 1 dX1_follow_16 rfl ?_
        refine z_iconst dX1_follow_17 ?_
        refine z_iald (r := T) dX1_follow_18 is4 ka4 (wT) (by omega) ?_
        refine z_iadd dX1_follow_19 ?_
        refine z_aload_n 0 dX1_follow_20 rfl ?_
        refine z_getR dX1_follow_21 fX1_31_1 i5_0 ka5 ?_
        refine z_aload_n 1 dX1_follow_24 rfl ?_
        refine z_iconst dX1_follow_25 ?_
        refine z_iald (r := T) dX1_follow_26 is4 ka4 (wT) (by omega) ?_
        refine z_iload_n 2 dX1_follow_27 rfl ?_
        refine z_vI dX1_follow_28 lX1_39 (by decide) ka1 io1 rfl (ct_X3_between en (upR M 30 r30) c wc _ _ (by omega) (by assumption)) rfl rfl (by exact Nat.le_of_ble_eq_true rfl) ?_
        have uw2 : -1 ≤ (if 1000 ≤ c (T 0 * 8 + x2) then -1 else c (T 0 * 8 + x2)) ∧ (if 1000 ≤ c (T 0 * 8 + x2) then -1 else c (T 0 * 8 + x2)) ≤ 1000 := by split <;> omega
        refine z_nI dX1_follow_31 lX1_45 (by decide) (ct_X6_later en (upR M 30 r30) _ _ (by omega)) rfl rfl (by exact Nat.le_of_ble_eq_true rfl) ?_
        refine z_iast' (r := r30) (fun r => (upR M 30 r)) dX1_follow_34 is30 ka30 (rfl) (by omega) (fun _ => uu1) (fun r30_34 f30_34 => ?_)
        refine z_iinc (fun y => [(0, rf en 5), (1, rf en 4), (2, vi y)]) [1, 2, 0] 2 dX1_follow_35 rfl (by decide) (fun _ => rfl) (fun x2_35 e2_35 => ?_)
        refine z_goto (tgt := 2) dX1_follow_38 rfl ?_
        have uq4 := fil_s (fun t => orN (hA T (cW c) t)) Hd 0 x2 uq1 (hA_l hT hc (t := x2) (by omega))
        rw [Int.zero_add] at uq4
        exact uih2 x2_35 r30_34 (by omega) (⟨by omega, by omega, by rw [f30_34, uq3, e2_35, uq4]⟩)
  refine Z.eqM (upR_id (k := 30) wHd) ?_
  exact uL2 _ x2_1 Hd (Nat.lt_succ_self _) (⟨by omega, by omega, by rw [e2_1, fil_0]⟩)
