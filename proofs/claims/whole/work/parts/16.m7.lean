/-! wins, and the plans that count them -/
theorem wns_rg (T W P : Int → Int) {np : Int} (h : 0 ≤ np ∧ np ≤ 8) : 0 ≤ wns T W P np ∧ wns T W P np ≤ 8 := by
  have := wnO_rg T W P np np.toNat
  unfold wns; omega
theorem enO_rg (T W P : Int → Int) (np p : Int) : 0 ≤ enO T W P np p ∧ enO T W P np p ≤ 3 ∧ (enO T W P np p = 1 → coO T W P np p ≠ 9999) := enC_rg T W P (coO T W P np p) p
theorem lsO_rg {T W P : Int → Int} (hT : tOK T) (hW : wOK W) {np : Int} (hP : pOK P np) : ∀ n : Nat, (n : Int) ≤ np → -1 ≤ lsO T W P np n ∧ lsO T W P np n ≤ 9999
  | 0, _ => by simp [lsO]
  | n + 1, h => by
    have ih := lsO_rg hT hW hP n (by omega)
    have := coO_rg hT hW hP (p := n) (by omega)
    unfold lsO; split <;> omega
theorem tOK_0 {T : Int → Int} (h : tOK T) {v : Int} (hv : 0 ≤ v ∧ v ≤ 7) : tOK (up T 0 v) := ⟨by rw [up_s]; omega, by rw [up_n _ _ (by decide)]; omega, by rw [up_n _ _ (by decide)]; omega, by rw [up_n _ _ (by decide)]; omega, by rw [up_n _ _ (by decide)]; omega, by rw [up_n _ _ (by decide)]; omega⟩
theorem tOK_2 {T : Int → Int} (h : tOK T) {v : Int} (hv : 0 ≤ v ∧ v ≤ 9) : tOK (up T 2 v) := ⟨by rw [up_n _ _ (by decide)]; omega, by rw [up_n _ _ (by decide)]; omega, by rw [up_s]; omega, by rw [up_n _ _ (by decide)]; omega, by rw [up_n _ _ (by decide)]; omega, by rw [up_n _ _ (by decide)]; omega⟩
theorem tOK_3 {T : Int → Int} (h : tOK T) {v : Int} (hv : 0 ≤ v ∧ v ≤ 7) : tOK (up T 3 v) := ⟨by rw [up_n _ _ (by decide)]; omega, by rw [up_n _ _ (by decide)]; omega, by rw [up_n _ _ (by decide)]; omega, by rw [up_s]; omega, by rw [up_n _ _ (by decide)]; omega, by rw [up_n _ _ (by decide)]; omega⟩
theorem tOK_4 {T : Int → Int} (h : tOK T) {v : Int} (hv : 0 ≤ v ∧ v ≤ 7) : tOK (up T 4 v) := ⟨by rw [up_n _ _ (by decide)]; omega, by rw [up_n _ _ (by decide)]; omega, by rw [up_n _ _ (by decide)]; omega, by rw [up_n _ _ (by decide)]; omega, by rw [up_s]; omega, by rw [up_n _ _ (by decide)]; omega⟩
theorem tOK_5 {T : Int → Int} (h : tOK T) {v : Int} (hv : 0 ≤ v ∧ v ≤ 255) : tOK (up T 5 v) := ⟨by rw [up_n _ _ (by decide)]; omega, by rw [up_n _ _ (by decide)]; omega, by rw [up_n _ _ (by decide)]; omega, by rw [up_n _ _ (by decide)]; omega, by rw [up_n _ _ (by decide)]; omega, by rw [up_s]; omega⟩
theorem up_back {T r : Int → Int} {i : Int} (h : ∀ v, up r i v = up T i v) : up r i (T i) = T := by rw [h, up_id]
def swS (T W P : Int → Int) (np : Int) : Nat → Int
  | 0 => 255
  | k + 1 => if pcn (254 - (k : Int)).toNat ≤ pcn (swS T W P np k).toNat ∧ wns (up T 5 (254 - (k : Int))) W P np = 0 then 254 - (k : Int) else swS T W P np k
theorem swS_rg (T W P : Int → Int) (np : Int) : ∀ k : Nat, k ≤ 255 → 0 ≤ swS T W P np k ∧ swS T W P np k ≤ 255
  | 0, _ => by simp [swS]
  | k + 1, h => by
    have := swS_rg T W P np k (by omega)
    unfold swS; split <;> omega
def plS (T W P : Int → Int) (np : Int) : Nat → Int × Int × Int
  | 0 => (-1, 0, 0)
  | n + 1 => if (plS T W P np n).1 = -1 ∨ wns (up T 4 n) W P np < (plS T W P np n).2.1 ∨ (wns (up T 4 n) W P np = (plS T W P np n).2.1 ∧ crO (up T 4 n) W < (plS T W P np n).2.2) then ((n : Int), wns (up T 4 n) W P np, crO (up T 4 n) W) else plS T W P np n
def ltS (T W P : Int → Int) (np : Int) : Nat → Int × Int
  | 0 => (-1, 0)
  | n + 1 => if (ltS T W P np n).1 = -1 ∨ wns (up T 2 n) W P np < (ltS T W P np n).2 then ((n : Int), wns (up T 2 n) W P np) else ltS T W P np n
def snO (T W P : Int → Int) (np : Int) (Sg : Int → Int) : Nat → Int
  | 0 => 1
  | k + 1 => if snO T W P np Sg k = 1 ∧ (if (0 ≤ Sg (2 * (k : Int)) ∧ Sg (2 * (k : Int)) ≤ np - 1) ∧ enO T W P np (Sg (2 * (k : Int))) = 1 then 1 else 0) = Sg (2 * (k : Int) + 1) then 1 else 0
theorem ite01 (c : Prop) [Decidable c] : (if c then (1 : Int) else 0) = 0 ∨ (if c then (1 : Int) else 0) = 1 := by
  by_cases h : c
  · rw [if_pos h]; exact Or.inr rfl
  · rw [if_neg h]; exact Or.inl rfl
theorem snO_01 (T W P : Int → Int) (np : Int) (Sg : Int → Int) : ∀ k, snO T W P np Sg k = 0 ∨ snO T W P np Sg k = 1
  | 0 => Or.inr rfl
  | k + 1 => by
    unfold snO
    exact ite01 _
def fiS (T W P : Int → Int) (np : Int) (Sg : Int → Int) (ns : Nat) (kx : Int) : Nat → Nat
  | 0 => 0
  | v + 1 => fiS T W P np Sg ns kx v ||| (if snO (up T kx v) W P np Sg ns = 1 then 2 ^ v else 0)
theorem fiS_lt (T W P : Int → Int) (np : Int) (Sg : Int → Int) (ns : Nat) (kx : Int) : ∀ n : Nat, fiS T W P np Sg ns kx n < 2 ^ n
  | 0 => by simp [fiS]
  | n + 1 => by
    have ih := fiS_lt T W P np Sg ns kx n
    have h2 : (2 : Nat) ^ n < 2 ^ (n + 1) := Nat.pow_lt_pow_right (by decide) (by omega)
    unfold fiS
    refine or_lt (by omega) ?_
    split
    · exact h2
    · exact Nat.pow_pos (by decide)
theorem fiS_k (T W P : Int → Int) (np : Int) (Sg : Int → Int) (ns : Nat) (kx : Int) {n : Nat} (h : n ≤ 10) : fiS T W P np Sg ns kx n < 1024 := Nat.lt_of_lt_of_le (fiS_lt T W P np Sg ns kx n) (by have := Nat.pow_le_pow_right (n := 2) (by decide) h; omega)
set_option maxRecDepth 100000 in
theorem ct_X7_wins (en : zE) (M : zW) (O : Int → Int) (P : Int → Int) (T : Int → Int) (W : Int → Int) (C0 : Int → Int) (E0 : Int → Int) (G0 : Int → Int) (wO : M 37 = O) (wP : M 45 = P) (wT : M 46 = T) (wW : M 47 = W) (wC0 : M 48 = C0) (wE0 : M 49 = E0) (wG0 : M 50 = G0) (hT : tOK T) (hW : wOK W) (hP : pOK P (O 9)) (hn : 0 ≤ O 9 ∧ O 9 ≤ 8) : Ct en kA yX7_wins mX7_wins [rf en 37] M (pX (fun x N => ∃ r48 r49 r50 : Int → Int, (∀ q, 0 ≤ q → q < O 9 → r48 q = coO T W P (O 9) q) ∧ (∀ q, 0 ≤ q → q < O 9 → r49 q = enO T W P (O 9) q) ∧ (∀ q, 0 ≤ q → q < O 9 → r50 q = riO T W P (O 9) q) ∧ x = wns T W P (O 9) ∧ upR (upR (upR M 48 r48) 49 r49) 50 r50 = N)) := by
  refine Ct.of (by decide +kernel) rfl [(0, rf en 37)] rfl (Nat.le_of_ble_eq_true rfl) (fun cx C => ?_)
  refine z_aload_n 0 dX7_wins_0 rfl ?_
  refine z_vN dX7_wins_1 lX7_170 (by decide) ka37 io37 rfl (ct_X7_lives en M O P T W C0 E0 G0 wO wP wT wW wC0 wE0 wG0 (by assumption) (by assumption) (by assumption) (by omega)) rfl rfl (by exact Nat.le_of_ble_eq_true rfl) (fun uN1 uh1 => ?_)
  obtain ⟨r48_1, r49_1, r50_1, ul1_1, ul2_1, ul3_1, rfl⟩ := uh1
  refine z_iconst dX7_wins_4 ?_
  refine z_istore_n (fun y => [(0, rf en 37), (1, vi y)]) [1, 0] dX7_wins_5 (by decide) (fun _ => rfl) (fun x1_5 e1_5 => ?_)
  refine z_iconst dX7_wins_6 ?_
  refine z_istore_n (fun y => [(0, rf en 37), (1, vi x1_5), (2, vi y)]) [1, 2, 0] dX7_wins_7 (by decide) (fun _ => rfl) (fun x2_7 e2_7 => ?_)
  have uL8 : ∀ (fu : Nat) (x1 : Int) (x2 : Int), (O 9 - x2).toNat < fu → (0 ≤ x2 ∧ x2 ≤ O 9 ∧ x1 = wnO T W P (O 9) x2.toNat) → Z en kA cx mX7_wins (upR (upR (upR M 48 r48_1) 49 r49_1) 50 r50_1) 8 [(0, rf en 37), (1, vi x1), (2, vi x2)] [] := by
    intro fu
    induction fu with
    | zero => intro x1 x2 uhf; exact absurd uhf (Nat.not_lt_zero _)
    | succ fu uih8 =>
      intro x1 x2 uf8 uI8
      obtain ⟨uq1, uq2, uq3⟩ := uI8
      refine z_iload_n 2 dX7_wins_8 rfl ?_
      refine z_aload_n 0 dX7_wins_9 rfl ?_
      refine z_getI (r := O) 9 rfl dX7_wins_10 fX7_97_6 i37_9 ka37 (wO) ?_
      refine z_icmp_ge (tgt := 40) dX7_wins_13 rfl (by omega) (fun uc13 => ?_) (fun uc13 => ?_)
      ·
        refine z_iload_n 1 dX7_wins_40 rfl ?_
        exact z_iret C dX7_wins_41 rfl ⟨_, rfl, ⟨r48_1, r49_1, r50_1, ul1_1, ul2_1, ul3_1, by rw [uq3, show x2 = O 9 by omega]; rfl, rfl⟩⟩
      ·
        have ud1 := ul2_1 x2 (by omega) (by omega)
        have ud2 := enO_rg T W P (O 9) x2
        refine z_iload_n 1 dX7_wins_16 rfl ?_
        refine z_aload_n 0 dX7_wins_17 rfl ?_
        refine z_getR dX7_wins_18 fX7_43_6 i37_14 ka37 ?_
        refine z_iload_n 2 dX7_wins_21 rfl ?_
        refine z_iald (r := r49_1) dX7_wins_22 is49 ka49 (rfl) (by omega) ?_
        refine z_iconst dX7_wins_23 ?_
        refine z_icmp_ne (tgt := 31) dX7_wins_24 rfl (by omega) (fun uc24 => ?_) (fun uc24 => ?_)
        ·
          refine z_iconst dX7_wins_31 ?_
          refine z_iadd dX7_wins_32 ?_
          refine z_istore_n (fun y => [(0, rf en 37), (1, vi y), (2, vi x2)]) [1, 0, 2] dX7_wins_33 (by decide) (fun _ => rfl) (fun x1_33 e1_33 => ?_)
          refine z_iinc (fun y => [(0, rf en 37), (1, vi x1_33), (2, vi y)]) [1, 2, 0] 2 dX7_wins_34 rfl (by decide) (fun _ => rfl) (fun x2_34 e2_34 => ?_)
          refine z_goto (tgt := 8) dX7_wins_37 rfl ?_
          exact uih8 x1_33 x2_34 (by omega) (⟨by omega, by omega, by rw [e2_34, tnS uq1, wnO, tnC uq1, ← uq3, e1_33, ← ud1]; rw [if_neg uc24]⟩)
        ·
          refine z_iconst dX7_wins_27 ?_
          refine z_goto (tgt := 32) dX7_wins_28 rfl ?_
          refine z_iadd dX7_wins_32 ?_
          refine z_istore_n (fun y => [(0, rf en 37), (1, vi y), (2, vi x2)]) [1, 0, 2] dX7_wins_33 (by decide) (fun _ => rfl) (fun x1_33 e1_33 => ?_)
          refine z_iinc (fun y => [(0, rf en 37), (1, vi x1_33), (2, vi y)]) [1, 2, 0] 2 dX7_wins_34 rfl (by decide) (fun _ => rfl) (fun x2_34 e2_34 => ?_)
          refine z_goto (tgt := 8) dX7_wins_37 rfl ?_
          exact uih8 x1_33 x2_34 (by omega) (⟨by omega, by omega, by rw [e2_34, tnS uq1, wnO, tnC uq1, ← uq3, e1_33, ← ud1]; rw [if_pos uc24]⟩)
  exact uL8 _ x1_5 x2_7 (Nat.lt_succ_self _) (⟨by omega, by omega, by rw [e1_5, e2_7]; rfl⟩)
set_option maxRecDepth 100000 in
theorem ct_X7_lostBy (en : zE) (M : zW) (O : Int → Int) (P : Int → Int) (T : Int → Int) (W : Int → Int) (C0 : Int → Int) (E0 : Int → Int) (G0 : Int → Int) (wO : M 37 = O) (wP : M 45 = P) (wT : M 46 = T) (wW : M 47 = W) (wC0 : M 48 = C0) (wE0 : M 49 = E0) (wG0 : M 50 = G0) (wh : Int) (hT : tOK T) (hW : wOK W) (hP : pOK P (O 9)) (hn : 0 ≤ O 9 ∧ O 9 ≤ 8) (h0 : -2147483648 ≤ wh ∧ wh < 2147483648) : Ct en kA yX7_lostBy mX7_lostBy [rf en 37, vi wh] M (pX (fun x N => ∃ r48 r49 r50 : Int → Int, (∀ q, 0 ≤ q → q < O 9 → r48 q = coO T W P (O 9) q) ∧ (∀ q, 0 ≤ q → q < O 9 → r49 q = enO T W P (O 9) q) ∧ (∀ q, 0 ≤ q → q < O 9 → r50 q = riO T W P (O 9) q) ∧ x = (if wh = 0 then wns T W P (O 9) else lsO T W P (O 9) (O 9).toNat) ∧ upR (upR (upR M 48 r48) 49 r49) 50 r50 = N)) := by
  refine Ct.of (by decide +kernel) rfl [(0, rf en 37), (1, vi wh)] rfl (Nat.le_of_ble_eq_true rfl) (fun cx C => ?_)
  refine z_aload_n 0 dX7_lostBy_0 rfl ?_
  refine z_vX dX7_lostBy_1 lX7_176 (by decide) ka37 io37 rfl (ct_X7_wins en M O P T W C0 E0 G0 wO wP wT wW wC0 wE0 wG0 (by assumption) (by assumption) (by assumption) (by omega)) rfl rfl (by exact Nat.le_of_ble_eq_true rfl) (fun uv1 uN1 uh1 => ?_)
  obtain ⟨r48_1, r49_1, r50_1, ul1_1, ul2_1, ul3_1, uw_1, rfl⟩ := uh1
  have uwr_1 := wns_rg T W P (np := O 9) (by omega)
  refine z_istore_n (fun y => [(0, rf en 37), (1, vi wh), (2, vi y)]) [1, 2, 0] dX7_lostBy_4 (by decide) (fun _ => rfl) (fun x2_4 e2_4 => ?_)
  refine z_iconst dX7_lostBy_5 ?_
  refine z_istore_n (fun y => [(0, rf en 37), (1, vi wh), (2, vi x2_4), (3, vi y)]) [1, 2, 3, 0] dX7_lostBy_6 (by decide) (fun _ => rfl) (fun x3_6 e3_6 => ?_)
  refine z_iconst dX7_lostBy_7 ?_
  refine z_istore (fun y => [(0, rf en 37), (1, vi wh), (2, vi x2_4), (3, vi x3_6), (4, vi y)]) [1, 2, 3, 4, 0] dX7_lostBy_8 (by decide) (fun _ => rfl) (fun x4_8 e4_8 => ?_)
  have uL10 : ∀ (fu : Nat) (x3 : Int) (x4 : Int), (O 9 - x4).toNat < fu → (0 ≤ x4 ∧ x4 ≤ O 9 ∧ x3 = lsO T W P (O 9) x4.toNat) → Z en kA cx mX7_lostBy (upR (upR (upR M 48 r48_1) 49 r49_1) 50 r50_1) 10 [(0, rf en 37), (1, vi wh), (2, vi x2_4), (3, vi x3), (4, vi x4)] [] := by
    intro fu
    induction fu with
    | zero => intro x3 x4 uhf; exact absurd uhf (Nat.not_lt_zero _)
    | succ fu uih10 =>
      intro x3 x4 uf10 uI10
      obtain ⟨uq1, uq2, uq3⟩ := uI10
      have uq4 := lsO_rg hT hW hP x4.toNat (by omega)
      refine z_iload 4 dX7_lostBy_10 rfl ?_
      refine z_aload_n 0 dX7_lostBy_12 rfl ?_
      refine z_getI (r := O) 9 rfl dX7_lostBy_13 fX7_97_6 i37_9 ka37 (wO) ?_
      refine z_icmp_ge (tgt := 59) dX7_lostBy_16 rfl (by omega) (fun uc16 => ?_) (fun uc16 => ?_)
      ·
        refine z_iload_n 1 dX7_lostBy_59 rfl ?_
        refine z_if_ne (tgt := 67) dX7_lostBy_60 rfl (by omega) (fun uc60 => ?_) (fun uc60 => ?_)
        ·
          refine z_iload_n 3 dX7_lostBy_67 rfl ?_
          exact z_iret C dX7_lostBy_68 rfl ⟨_, rfl, ⟨r48_1, r49_1, r50_1, ul1_1, ul2_1, ul3_1, by rw [if_neg uc60, uq3, show x4 = O 9 by omega], rfl⟩⟩
        ·
          refine z_iload_n 2 dX7_lostBy_63 rfl ?_
          refine z_goto (tgt := 68) dX7_lostBy_64 rfl ?_
          exact z_iret C dX7_lostBy_68 rfl ⟨_, rfl, ⟨r48_1, r49_1, r50_1, ul1_1, ul2_1, ul3_1, by rw [if_pos uc60, e2_4]; exact uw_1, rfl⟩⟩
      ·
        have ud1 := ul2_1 x4 (by omega) (by omega)
        have ud2 := enO_rg T W P (O 9) x4
        have ud3 := ul1_1 x4 (by omega) (by omega)
        have ud4 := coO_rg hT hW hP (p := x4) (by omega)
        refine z_aload_n 0 dX7_lostBy_19 rfl ?_
        refine z_getR dX7_lostBy_20 fX7_43_6 i37_14 ka37 ?_
        refine z_iload 4 dX7_lostBy_23 rfl ?_
        refine z_iald (r := r49_1) dX7_lostBy_25 is49 ka49 (rfl) (by omega) ?_
        refine z_iconst dX7_lostBy_26 ?_
        refine z_icmp_ne (tgt := 51) dX7_lostBy_27 rfl (by omega) (fun uc27 => ?_) (fun uc27 => ?_)
        ·
          refine z_iload_n 3 dX7_lostBy_51 rfl ?_
          refine z_istore_n (fun y => [(0, rf en 37), (1, vi wh), (2, vi x2_4), (3, vi y), (4, vi x4)]) [1, 2, 3, 0, 4] dX7_lostBy_52 (by decide) (fun _ => rfl) (fun x3_52 e3_52 => ?_)
          refine z_iinc (fun y => [(0, rf en 37), (1, vi wh), (2, vi x2_4), (3, vi x3_52), (4, vi y)]) [1, 2, 3, 4, 0] 4 dX7_lostBy_53 rfl (by decide) (fun _ => rfl) (fun x4_53 e4_53 => ?_)
          refine z_goto (tgt := 10) dX7_lostBy_56 rfl ?_
          exact uih10 x3_52 x4_53 (by omega) (⟨by omega, by omega, by rw [e4_53, tnS uq1, lsO, tnC uq1, ← uq3, e3_52]; rw [if_neg (fun uz => uc27 (by rw [ud1]; exact uz.1))]⟩)
        ·
          refine z_aload_n 0 dX7_lostBy_30 rfl ?_
          refine z_getR dX7_lostBy_31 fX7_40_6 i37_13 ka37 ?_
          refine z_iload 4 dX7_lostBy_34 rfl ?_
          refine z_iald (r := r48_1) dX7_lostBy_36 is48 ka48 (rfl) (by omega) ?_
          refine z_iload_n 3 dX7_lostBy_37 rfl ?_
          refine z_icmp_le (tgt := 51) dX7_lostBy_38 rfl (by omega) (fun uc38 => ?_) (fun uc38 => ?_)
          ·
            refine z_iload_n 3 dX7_lostBy_51 rfl ?_
            refine z_istore_n (fun y => [(0, rf en 37), (1, vi wh), (2, vi x2_4), (3, vi y), (4, vi x4)]) [1, 2, 3, 0, 4] dX7_lostBy_52 (by decide) (fun _ => rfl) (fun x3_52 e3_52 => ?_)
            refine z_iinc (fun y => [(0, rf en 37), (1, vi wh), (2, vi x2_4), (3, vi x3_52), (4, vi y)]) [1, 2, 3, 4, 0] 4 dX7_lostBy_53 rfl (by decide) (fun _ => rfl) (fun x4_53 e4_53 => ?_)
            refine z_goto (tgt := 10) dX7_lostBy_56 rfl ?_
            exact uih10 x3_52 x4_53 (by omega) (⟨by omega, by omega, by rw [e4_53, tnS uq1, lsO, tnC uq1, ← uq3, e3_52]; rw [if_neg (fun uz => absurd uz.2 (by omega))]⟩)
          ·
            refine z_aload_n 0 dX7_lostBy_41 rfl ?_
            refine z_getR dX7_lostBy_42 fX7_40_6 i37_13 ka37 ?_
            refine z_iload 4 dX7_lostBy_45 rfl ?_
            refine z_iald (r := r48_1) dX7_lostBy_47 is48 ka48 (rfl) (by omega) ?_
            refine z_goto (tgt := 52) dX7_lostBy_48 rfl ?_
            refine z_istore_n (fun y => [(0, rf en 37), (1, vi wh), (2, vi x2_4), (3, vi y), (4, vi x4)]) [1, 2, 3, 0, 4] dX7_lostBy_52 (by decide) (fun _ => rfl) (fun x3_52 e3_52 => ?_)
            refine z_iinc (fun y => [(0, rf en 37), (1, vi wh), (2, vi x2_4), (3, vi x3_52), (4, vi y)]) [1, 2, 3, 4, 0] 4 dX7_lostBy_53 rfl (by decide) (fun _ => rfl) (fun x4_53 e4_53 => ?_)
            refine z_goto (tgt := 10) dX7_lostBy_56 rfl ?_
            exact uih10 x3_52 x4_53 (by omega) (⟨by omega, by omega, by rw [e4_53, tnS uq1, lsO, tnC uq1, ← uq3, e3_52]; rw [if_pos ⟨by omega, by omega⟩, ud3]⟩)
  exact uL10 _ x3_6 x4_8 (Nat.lt_succ_self _) (⟨by omega, by omega, by rw [e3_6, e4_8]; rfl⟩)
set_option maxRecDepth 100000 in
theorem ct_X7_ridesOf (en : zE) (M : zW) (C0 : Int → Int) (E0 : Int → Int) (G0 : Int → Int) (wC0 : M 48 = C0) (wE0 : M 49 = E0) (wG0 : M 50 = G0) (p : Int) (wh : Int) (h0 : -2147483648 ≤ wh ∧ wh < 2147483648 ∧ 0 ≤ p ∧ p < 8 ∧ 0 ≤ C0 p ∧ C0 p ≤ 9999) : Ct en kA yX7_ridesOf mX7_ridesOf [rf en 37, vi p, vi wh] M (pI ((if wh = 0 then orN (C0 p) else if wh = 1 then E0 p else G0 p)) M) := by
  refine Ct.of (by decide +kernel) rfl [(0, rf en 37), (1, vi p), (2, vi wh)] rfl (Nat.le_of_ble_eq_true rfl) (fun cx C => ?_)
  refine z_iload_n 2 dX7_ridesOf_0 rfl ?_
  refine z_if_ne (tgt := 16) dX7_ridesOf_1 rfl (by omega) (fun uc1 => ?_) (fun uc1 => ?_)
  ·
    refine z_iload_n 2 dX7_ridesOf_16 rfl ?_
    refine z_iconst dX7_ridesOf_17 ?_
    refine z_icmp_ne (tgt := 30) dX7_ridesOf_18 rfl (by omega) (fun uc18 => ?_) (fun uc18 => ?_)
    ·
      refine z_aload_n 0 dX7_ridesOf_30 rfl ?_
      refine z_getR dX7_ridesOf_31 fX7_46_6 i37_15 ka37 ?_
      refine z_iload_n 1 dX7_ridesOf_34 rfl ?_
      refine z_iald (r := G0) dX7_ridesOf_35 is50 ka50 (wG0) (by omega) ?_
      exact z_iret C dX7_ridesOf_36 rfl ⟨congrArg (fun z => some (vi z)) (by (repeat' split) <;> first | rfl | omega), rfl⟩
    ·
      refine z_aload_n 0 dX7_ridesOf_21 rfl ?_
      refine z_getR dX7_ridesOf_22 fX7_43_6 i37_14 ka37 ?_
      refine z_iload_n 1 dX7_ridesOf_25 rfl ?_
      refine z_iald (r := E0) dX7_ridesOf_26 is49 ka49 (wE0) (by omega) ?_
      refine z_goto (tgt := 36) dX7_ridesOf_27 rfl ?_
      exact z_iret C dX7_ridesOf_36 rfl ⟨congrArg (fun z => some (vi z)) (by (repeat' split) <;> first | rfl | omega), rfl⟩
  ·
    refine z_aload_n 0 dX7_ridesOf_4 rfl ?_
    refine z_getR dX7_ridesOf_5 fX7_40_6 i37_13 ka37 ?_
    refine z_iload_n 1 dX7_ridesOf_8 rfl ?_
    refine z_iald (r := C0) dX7_ridesOf_9 is48 ka48 (wC0) (by omega) ?_
    refine z_sI dX7_ridesOf_10 lX7_138 (by decide) (ct_X7_orNone en M _ (by omega)) rfl rfl (by exact Nat.le_of_ble_eq_true rfl) ?_
    refine z_goto (tgt := 36) dX7_ridesOf_13 rfl ?_
    exact z_iret C dX7_ridesOf_36 rfl ⟨congrArg (fun z => some (vi z)) (by (repeat' split) <;> first | rfl | omega), rfl⟩
set_option maxRecDepth 100000 in
theorem ct_X7_swearBy (en : zE) (M : zW) (O : Int → Int) (P : Int → Int) (T : Int → Int) (W : Int → Int) (C0 : Int → Int) (E0 : Int → Int) (G0 : Int → Int) (wO : M 37 = O) (wP : M 45 = P) (wT : M 46 = T) (wW : M 47 = W) (wC0 : M 48 = C0) (wE0 : M 49 = E0) (wG0 : M 50 = G0) (wh : Int) (hT : tOK T) (hW : wOK W) (hP : pOK P (O 9)) (hn : 0 ≤ O 9 ∧ O 9 ≤ 8) (h0 : -2147483648 ≤ wh ∧ wh < 2147483648) : Ct en kA yX7_swearBy mX7_swearBy [rf en 37, vi wh] M (pX (fun x N => ∃ r48 r49 r50 : Int → Int, x = (if wh = 0 then (pcn (swS T W P (O 9) 255).toNat : Int) else swS T W P (O 9) 255) ∧ upR (upR (upR M 48 r48) 49 r49) 50 r50 = N)) := by
  refine Ct.of (by decide +kernel) rfl [(0, rf en 37), (1, vi wh)] rfl (Nat.le_of_ble_eq_true rfl) (fun cx C => ?_)
  refine z_aload_n 0 dX7_swearBy_0 rfl ?_
  refine z_getR dX7_swearBy_1 fX7_34_6 i37_11 ka37 ?_
  refine z_iconst dX7_swearBy_4 ?_
  refine z_iald (r := T) dX7_swearBy_5 is46 ka46 (wT) (by omega) ?_
  refine z_istore_n (fun y => [(0, rf en 37), (1, vi wh), (2, vi y)]) [1, 2, 0] dX7_swearBy_6 (by decide) (fun _ => rfl) (fun x2_6 e2_6 => ?_)
  refine z_sipush dX7_swearBy_7 rfl ?_
  refine z_istore_n (fun y => [(0, rf en 37), (1, vi wh), (2, vi x2_6), (3, vi y)]) [1, 2, 3, 0] dX7_swearBy_10 (by decide) (fun _ => rfl) (fun x3_10 e3_10 => ?_)
  refine z_sipush dX7_swearBy_11 rfl ?_
  refine z_istore (fun y => [(0, rf en 37), (1, vi wh), (2, vi x2_6), (3, vi x3_10), (4, vi y)]) [1, 2, 3, 4, 0] dX7_swearBy_14 (by decide) (fun _ => rfl) (fun x4_14 e4_14 => ?_)
  have uL16 : ∀ (fu : Nat) (x3 : Int) (x4 : Int) (r46 : Int → Int) (r48 : Int → Int) (r49 : Int → Int) (r50 : Int → Int), (x4 + 1).toNat < fu → (-1 ≤ x4 ∧ x4 ≤ 254 ∧ x3 = swS T W P (O 9) (254 - x4).toNat ∧ ∀ v, up r46 5 v = up T 5 v) → Z en kA cx mX7_swearBy (upR (upR (upR (upR M 46 r46) 48 r48) 49 r49) 50 r50) 16 [(0, rf en 37), (1, vi wh), (2, vi x2_6), (3, vi x3), (4, vi x4)] [] := by
    intro fu
    induction fu with
    | zero => intro x3 x4 r46 r48 r49 r50 uhf; exact absurd uhf (Nat.not_lt_zero _)
    | succ fu uih16 =>
      intro x3 x4 r46 r48 r49 r50 uf16 uI16
      obtain ⟨uq1, uq2, uq3, uqr⟩ := uI16
      have uq4 := swS_rg T W P (O 9) (254 - x4).toNat (by omega)
      have uq5 := pcn_le x3.toNat (by omega)
      refine z_iload 4 dX7_swearBy_16 rfl ?_
      refine z_if_lt (tgt := 61) dX7_swearBy_18 rfl (by omega) (fun uc18 => ?_) (fun uc18 => ?_)
      ·
        refine z_aload_n 0 dX7_swearBy_61 rfl ?_
        refine z_getR dX7_swearBy_62 fX7_34_6 i37_11 ka37 ?_
        refine z_iconst dX7_swearBy_65 ?_
        refine z_iload_n 2 dX7_swearBy_66 rfl ?_
        refine z_iast' (r := r46) (fun r => (upR (upR (upR (upR M 46 r) 48 r48) 49 r49) 50 r50)) dX7_swearBy_67 is46 ka46 (rfl) (by omega) (fun _ => uu4 (by decide) (by decide) (by decide)) (fun r46_67 f46_67 => ?_)
        refine z_iload_n 1 dX7_swearBy_68 rfl ?_
        refine z_if_ne (tgt := 79) dX7_swearBy_69 rfl (by omega) (fun uc69 => ?_) (fun uc69 => ?_)
        ·
          refine z_iload_n 3 dX7_swearBy_79 rfl ?_
          exact z_iret C dX7_swearBy_80 rfl ⟨_, rfl, ⟨r48, r49, r50, by rw [if_neg uc69, uq3, show x4 = -1 by omega]; rfl, by rw [f46_67, e2_6, up_back uqr, upR_id wT]⟩⟩
        ·
          refine z_iload_n 3 dX7_swearBy_72 rfl ?_
          refine z_sI dX7_swearBy_73 lX7_182 (by decide) (ct_X7_ones en (upR (upR (upR (upR M 46 r46_67) 48 r48) 49 r49) 50 r50) _ (by omega)) rfl rfl (by exact Nat.le_of_ble_eq_true rfl) ?_
          refine z_goto (tgt := 80) dX7_swearBy_76 rfl ?_
          exact z_iret C dX7_swearBy_80 rfl ⟨_, rfl, ⟨r48, r49, r50, by rw [if_pos uc69, uq3, show x4 = -1 by omega]; rfl, by rw [f46_67, e2_6, up_back uqr, upR_id wT]⟩⟩
      ·
        refine z_aload_n 0 dX7_swearBy_21 rfl ?_
        refine z_getR dX7_swearBy_22 fX7_34_6 i37_11 ka37 ?_
        refine z_iconst dX7_swearBy_25 ?_
        refine z_iload 4 dX7_swearBy_26 rfl ?_
        refine z_iast' (r := r46) (fun r => (upR (upR (upR (upR M 46 r) 48 r48) 49 r49) 50 r50)) dX7_swearBy_28 is46 ka46 (rfl) (by omega) (fun _ => uu4 (by decide) (by decide) (by decide)) (fun r46_28 f46_28 => ?_)
        have ut : r46_28 = up T 5 x4 := by rw [f46_28]; exact uqr x4
        have uT : tOK r46_28 := by rw [ut]; exact tOK_5 hT (by omega)
        have uq6 := pcn_le x4.toNat (by omega)
        refine z_iload 4 dX7_swearBy_29 rfl ?_
        refine z_sI dX7_swearBy_31 lX7_182 (by decide) (ct_X7_ones en (upR (upR (upR (upR M 46 r46_28) 48 r48) 49 r49) 50 r50) _ (by omega)) rfl rfl (by exact Nat.le_of_ble_eq_true rfl) ?_
        refine z_iload_n 3 dX7_swearBy_34 rfl ?_
        refine z_sI dX7_swearBy_35 lX7_182 (by decide) (ct_X7_ones en (upR (upR (upR (upR M 46 r46_28) 48 r48) 49 r49) 50 r50) _ (by omega)) rfl rfl (by exact Nat.le_of_ble_eq_true rfl) ?_
        refine z_icmp_gt (tgt := 55) dX7_swearBy_38 rfl (by omega) (fun uc38 => ?_) (fun uc38 => ?_)
        ·
          refine z_iinc (fun y => [(0, rf en 37), (1, vi wh), (2, vi x2_6), (3, vi x3), (4, vi y)]) [1, 2, 3, 4, 0] 4 dX7_swearBy_55 rfl (by decide) (fun _ => rfl) (fun x4_55 e4_55 => ?_)
          refine z_goto (tgt := 16) dX7_swearBy_58 rfl ?_
          have uqs : (254 - x4_55).toNat = (254 - x4).toNat + 1 := by omega
          have uqt : (254 - (((254 - x4).toNat : Nat) : Int)) = x4 := by omega
          have uqv : ∀ uv, up r46_28 5 uv = up T 5 uv := fun uv => by rw [ut, up_up]
          exact uih16 x3 x4_55 r46_28 r48 r49 r50 (by omega) (⟨by omega, by omega, by rw [uqs, swS, uqt, ← uq3]; rw [if_neg (fun uz => absurd uz.1 (by omega))], uqv⟩)
        ·
          refine z_aload_n 0 dX7_swearBy_41 rfl ?_
          refine z_vX dX7_swearBy_42 lX7_176 (by decide) ka37 io37 rfl (ct_X7_wins en (upR (upR (upR (upR M 46 r46_28) 48 r48) 49 r49) 50 r50) O P r46_28 W r48 r49 r50 wO wP rfl wW rfl rfl rfl (by assumption) (by assumption) (by assumption) (by omega)) rfl rfl (by exact Nat.le_of_ble_eq_true rfl) (fun uv42 uN42 uh42 => ?_)
          obtain ⟨r48_42, r49_42, r50_42, ul1_42, ul2_42, ul3_42, uw_42, rfl⟩ := uh42
          have uwr_42 := wns_rg r46_28 W P (np := O 9) (by omega)
          rw [uu3 (a := 48) (b0 := 49) (b1 := 50) (by decide) (by decide)]
          rw [uu2 (a := 49) (b0 := 50) (by decide)]
          rw [uu1 (a := 50)]
          refine z_if_ne (tgt := 53) dX7_swearBy_45 rfl (by omega) (fun uc45 => ?_) (fun uc45 => ?_)
          ·
            refine z_iload_n 3 dX7_swearBy_53 rfl ?_
            refine z_istore_n (fun y => [(0, rf en 37), (1, vi wh), (2, vi x2_6), (3, vi y), (4, vi x4)]) [1, 2, 3, 0, 4] dX7_swearBy_54 (by decide) (fun _ => rfl) (fun x3_54 e3_54 => ?_)
            refine z_iinc (fun y => [(0, rf en 37), (1, vi wh), (2, vi x2_6), (3, vi x3_54), (4, vi y)]) [1, 2, 3, 4, 0] 4 dX7_swearBy_55 rfl (by decide) (fun _ => rfl) (fun x4_55 e4_55 => ?_)
            refine z_goto (tgt := 16) dX7_swearBy_58 rfl ?_
            have uqs : (254 - x4_55).toNat = (254 - x4).toNat + 1 := by omega
            have uqt : (254 - (((254 - x4).toNat : Nat) : Int)) = x4 := by omega
            have uqv : ∀ uv, up r46_28 5 uv = up T 5 uv := fun uv => by rw [ut, up_up]
            exact uih16 x3_54 x4_55 r46_28 r48_42 r49_42 r50_42 (by omega) (⟨by omega, by omega, by rw [uqs, swS, uqt, ← uq3]; rw [e3_54, if_neg (fun uz => uc45 (by rw [uw_42, ut]; exact uz.2))], uqv⟩)
          ·
            refine z_iload 4 dX7_swearBy_48 rfl ?_
            refine z_goto (tgt := 54) dX7_swearBy_50 rfl ?_
            refine z_istore_n (fun y => [(0, rf en 37), (1, vi wh), (2, vi x2_6), (3, vi y), (4, vi x4)]) [1, 2, 3, 0, 4] dX7_swearBy_54 (by decide) (fun _ => rfl) (fun x3_54 e3_54 => ?_)
            refine z_iinc (fun y => [(0, rf en 37), (1, vi wh), (2, vi x2_6), (3, vi x3_54), (4, vi y)]) [1, 2, 3, 4, 0] 4 dX7_swearBy_55 rfl (by decide) (fun _ => rfl) (fun x4_55 e4_55 => ?_)
            refine z_goto (tgt := 16) dX7_swearBy_58 rfl ?_
            have uqs : (254 - x4_55).toNat = (254 - x4).toNat + 1 := by omega
            have uqt : (254 - (((254 - x4).toNat : Nat) : Int)) = x4 := by omega
            have uqv : ∀ uv, up r46_28 5 uv = up T 5 uv := fun uv => by rw [ut, up_up]
            exact uih16 x3_54 x4_55 r46_28 r48_42 r49_42 r50_42 (by omega) (⟨by omega, by omega, by rw [uqs, swS, uqt, ← uq3]; rw [e3_54, if_pos ⟨by omega, by rw [← ut, ← uw_42]; exact uc45⟩], uqv⟩)
  refine Z.eqM (upR_id (k := 46) wT) ?_
  refine Z.eqM (upR_id (k := 48) wC0) ?_
  refine Z.eqM (upR_id (k := 49) wE0) ?_
  refine Z.eqM (upR_id (k := 50) wG0) ?_
  exact uL16 _ x3_10 x4_14 T C0 E0 G0 (Nat.lt_succ_self _) (⟨by omega, by omega, by rw [e3_10, e4_14]; rfl, fun uv => rfl⟩)
set_option maxRecDepth 100000 in
theorem ct_X7_placeBy (en : zE) (M : zW) (O : Int → Int) (P : Int → Int) (T : Int → Int) (W : Int → Int) (C0 : Int → Int) (E0 : Int → Int) (G0 : Int → Int) (wO : M 37 = O) (wP : M 45 = P) (wT : M 46 = T) (wW : M 47 = W) (wC0 : M 48 = C0) (wE0 : M 49 = E0) (wG0 : M 50 = G0) (wh : Int) (hT : tOK T) (hW : wOK W) (hP : pOK P (O 9)) (hn : 0 ≤ O 9 ∧ O 9 ≤ 8) (h0 : -2147483648 ≤ wh ∧ wh < 2147483648) : Ct en kA yX7_placeBy mX7_placeBy [rf en 37, vi wh] M (pX (fun x N => ∃ r48 r49 r50 : Int → Int, x = (if wh = 0 then (plS T W P (O 9) 8).1 else (plS T W P (O 9) 8).2.1) ∧ upR (upR (upR M 48 r48) 49 r49) 50 r50 = N)) := by
  refine Ct.of (by decide +kernel) rfl [(0, rf en 37), (1, vi wh)] rfl (Nat.le_of_ble_eq_true rfl) (fun cx C => ?_)
  refine z_aload_n 0 dX7_placeBy_0 rfl ?_
  refine z_getR dX7_placeBy_1 fX7_34_6 i37_11 ka37 ?_
  refine z_iconst dX7_placeBy_4 ?_
  refine z_iald (r := T) dX7_placeBy_5 is46 ka46 (wT) (by omega) ?_
  refine z_istore_n (fun y => [(0, rf en 37), (1, vi wh), (2, vi y)]) [1, 2, 0] dX7_placeBy_6 (by decide) (fun _ => rfl) (fun x2_6 e2_6 => ?_)
  refine z_iconst dX7_placeBy_7 ?_
  refine z_istore_n (fun y => [(0, rf en 37), (1, vi wh), (2, vi x2_6), (3, vi y)]) [1, 2, 3, 0] dX7_placeBy_8 (by decide) (fun _ => rfl) (fun uy uhy => ?_)
  subst uhy
  refine z_iconst dX7_placeBy_9 ?_
  refine z_istore (fun y => [(0, rf en 37), (1, vi wh), (2, vi x2_6), (3, vi (-1)), (4, vi y)]) [1, 2, 3, 4, 0] dX7_placeBy_10 (by decide) (fun _ => rfl) (fun uy uhy => ?_)
  subst uhy
  refine z_iconst dX7_placeBy_12 ?_
  refine z_istore (fun y => [(0, rf en 37), (1, vi wh), (2, vi x2_6), (3, vi (-1)), (4, vi (0)), (5, vi y)]) [1, 2, 3, 4, 5, 0] dX7_placeBy_13 (by decide) (fun _ => rfl) (fun uy uhy => ?_)
  subst uhy
  refine z_iconst dX7_placeBy_15 ?_
  refine z_istore (fun y => [(0, rf en 37), (1, vi wh), (2, vi x2_6), (3, vi (-1)), (4, vi (0)), (5, vi (0)), (6, vi y)]) [1, 2, 3, 4, 5, 6, 0] dX7_placeBy_16 (by decide) (fun _ => rfl) (fun uy uhy => ?_)
  subst uhy
  have uL18 : ∀ (fu : Nat) (x3 : Int) (x4 : Int) (x5 : Int) (x6 : Int) (r46 : Int → Int) (r48 : Int → Int) (r49 : Int → Int) (r50 : Int → Int), (8 - x6).toNat < fu → ((0 ≤ x6 ∧ x6 ≤ 8 ∧ -1 ≤ x3 ∧ x3 ≤ 7 ∧ 0 ≤ x4 ∧ x4 ≤ 8 ∧ 0 ≤ x5 ∧ x5 ≤ 9999) ∧ plS T W P (O 9) x6.toNat = (x3, x4, x5) ∧ ∀ v, up r46 4 v = up T 4 v) → Z en kA cx mX7_placeBy (upR (upR (upR (upR M 46 r46) 48 r48) 49 r49) 50 r50) 18 [(0, rf en 37), (1, vi wh), (2, vi x2_6), (3, vi x3), (4, vi x4), (5, vi x5), (6, vi x6)] [] := by
    intro fu
    induction fu with
    | zero => intro x3 x4 x5 x6 r46 r48 r49 r50 uhf; exact absurd uhf (Nat.not_lt_zero _)
    | succ fu uih18 =>
      intro x3 x4 x5 x6 r46 r48 r49 r50 uf18 uI18
      obtain ⟨uq1, uq3, uqr⟩ := uI18
      refine z_iload 6 dX7_placeBy_18 rfl ?_
      refine z_bipush dX7_placeBy_20 rfl ?_
      refine z_icmp_ge (tgt := 124) dX7_placeBy_22 rfl (by omega) (fun uc22 => ?_) (fun uc22 => ?_)
      ·
        refine z_aload_n 0 dX7_placeBy_124 rfl ?_
        refine z_getR dX7_placeBy_125 fX7_34_6 i37_11 ka37 ?_
        refine z_iconst dX7_placeBy_128 ?_
        refine z_iload_n 2 dX7_placeBy_129 rfl ?_
        refine z_iast' (r := r46) (fun r => (upR (upR (upR (upR M 46 r) 48 r48) 49 r49) 50 r50)) dX7_placeBy_130 is46 ka46 (rfl) (by omega) (fun _ => uu4 (by decide) (by decide) (by decide)) (fun r46_130 f46_130 => ?_)
        refine z_iload_n 1 dX7_placeBy_131 rfl ?_
        refine z_if_ne (tgt := 139) dX7_placeBy_132 rfl (by omega) (fun uc132 => ?_) (fun uc132 => ?_)
        ·
          refine z_iload 4 dX7_placeBy_139 rfl ?_
          exact z_iret C dX7_placeBy_141 rfl ⟨_, rfl, ⟨r48, r49, r50, by rw [show x6 = 8 by omega] at uq3; rw [if_neg uc132, show plS T W P (O 9) 8 = (x3, x4, x5) from uq3], by rw [f46_130, e2_6, up_back uqr, upR_id wT]⟩⟩
        ·
          refine z_iload_n 3 dX7_placeBy_135 rfl ?_
          refine z_goto (tgt := 141) dX7_placeBy_136 rfl ?_
          exact z_iret C dX7_placeBy_141 rfl ⟨_, rfl, ⟨r48, r49, r50, by rw [show x6 = 8 by omega] at uq3; rw [if_pos uc132, show plS T W P (O 9) 8 = (x3, x4, x5) from uq3], by rw [f46_130, e2_6, up_back uqr, upR_id wT]⟩⟩
      ·
        refine z_aload_n 0 dX7_placeBy_25 rfl ?_
        refine z_getR dX7_placeBy_26 fX7_34_6 i37_11 ka37 ?_
        refine z_iconst dX7_placeBy_29 ?_
        refine z_iload 6 dX7_placeBy_30 rfl ?_
        refine z_iast' (r := r46) (fun r => (upR (upR (upR (upR M 46 r) 48 r48) 49 r49) 50 r50)) dX7_placeBy_32 is46 ka46 (rfl) (by omega) (fun _ => uu4 (by decide) (by decide) (by decide)) (fun r46_32 f46_32 => ?_)
        have ut : r46_32 = up T 4 x6 := by rw [f46_32]; exact uqr x6
        have uT : tOK r46_32 := by rw [ut]; exact tOK_4 hT (by omega)
        refine z_aload_n 0 dX7_placeBy_33 rfl ?_
        refine z_vX dX7_placeBy_34 lX7_176 (by decide) ka37 io37 rfl (ct_X7_wins en (upR (upR (upR (upR M 46 r46_32) 48 r48) 49 r49) 50 r50) O P r46_32 W r48 r49 r50 wO wP rfl wW rfl rfl rfl (by assumption) (by assumption) (by assumption) (by omega)) rfl rfl (by exact Nat.le_of_ble_eq_true rfl) (fun uv34 uN34 uh34 => ?_)
        obtain ⟨r48_34, r49_34, r50_34, ul1_34, ul2_34, ul3_34, uw_34, rfl⟩ := uh34
        have uwr_34 := wns_rg r46_32 W P (np := O 9) (by omega)
        rw [uu3 (a := 48) (b0 := 49) (b1 := 50) (by decide) (by decide)]
        rw [uu2 (a := 49) (b0 := 50) (by decide)]
        rw [uu1 (a := 50)]
        refine z_istore (fun y => [(0, rf en 37), (1, vi wh), (2, vi x2_6), (3, vi x3), (4, vi x4), (5, vi x5), (6, vi x6), (7, vi y)]) [1, 2, 3, 4, 5, 6, 7, 0] dX7_placeBy_37 (by decide) (fun _ => rfl) (fun x7_37 e7_37 => ?_)
        refine z_aload_n 0 dX7_placeBy_39 rfl ?_
        refine z_vI dX7_placeBy_40 lX7_144 (by decide) ka37 io37 rfl (ct_X7_crownedOn en (upR (upR (upR (upR M 46 r46_32) 48 r48_34) 49 r49_34) 50 r50_34) r46_32 W rfl wW (by assumption) (by assumption)) rfl rfl (by exact Nat.le_of_ble_eq_true rfl) ?_
        refine z_istore (fun y => [(0, rf en 37), (1, vi wh), (2, vi x2_6), (3, vi x3), (4, vi x4), (5, vi x5), (6, vi x6), (7, vi x7_37), (8, vi y)]) [1, 2, 3, 4, 5, 6, 7, 8, 0] dX7_placeBy_43 (by decide) (fun _ => rfl) (fun x8_43 e8_43 => ?_)
        have ew : x7_37 = wns r46_32 W P (O 9) := by rw [e7_37]; exact uw_34
        have ec : x8_43 = crO r46_32 W := e8_43
        have ucr := crO_rg uT hW
        refine z_iload_n 3 dX7_placeBy_45 rfl ?_
        refine z_iconst dX7_placeBy_46 ?_
        refine z_icmp_eq (tgt := 71) dX7_placeBy_47 rfl (by omega) (fun uc47 => ?_) (fun uc47 => ?_)
        ·
          refine z_iconst dX7_placeBy_71 ?_
          refine z_goto (tgt := 76) dX7_placeBy_72 rfl ?_
          refine z_istore (fun y => [(0, rf en 37), (1, vi wh), (2, vi x2_6), (3, vi x3), (4, vi x4), (5, vi x5), (6, vi x6), (7, vi x7_37), (8, vi x8_43), (9, vi y)]) [1, 2, 3, 4, 5, 6, 7, 8, 9, 0] dX7_placeBy_76 (by decide) (fun _ => rfl) (fun uy uhy => ?_)
          subst uhy
          refine z_iload 9 dX7_placeBy_78 rfl ?_
          refine z_if_eq (tgt := 88) dX7_placeBy_80 rfl (by omega) (fun z => absurd z (by decide)) (fun _ => ?_)
          refine z_iload 6 dX7_placeBy_83 rfl ?_
          refine z_goto (tgt := 89) dX7_placeBy_85 rfl ?_
          refine z_istore_n (fun y => [(0, rf en 37), (1, vi wh), (2, vi x2_6), (3, vi y), (4, vi x4), (5, vi x5), (6, vi x6), (7, vi x7_37), (8, vi x8_43), (9, vi (1))]) [1, 2, 3, 0, 4, 5, 6, 7, 8, 9] dX7_placeBy_89 (by decide) (fun _ => rfl) (fun x3_89 e3_89 => ?_)
          refine z_iload 9 dX7_placeBy_90 rfl ?_
          refine z_if_eq (tgt := 100) dX7_placeBy_92 rfl (by omega) (fun z => absurd z (by decide)) (fun _ => ?_)
          refine z_iload 7 dX7_placeBy_95 rfl ?_
          refine z_goto (tgt := 102) dX7_placeBy_97 rfl ?_
          refine z_istore (fun y => [(0, rf en 37), (1, vi wh), (2, vi x2_6), (3, vi x3_89), (4, vi y), (5, vi x5), (6, vi x6), (7, vi x7_37), (8, vi x8_43), (9, vi (1))]) [1, 2, 3, 4, 0, 5, 6, 7, 8, 9] dX7_placeBy_102 (by decide) (fun _ => rfl) (fun x4_102 e4_102 => ?_)
          refine z_iload 9 dX7_placeBy_104 rfl ?_
          refine z_if_eq (tgt := 114) dX7_placeBy_106 rfl (by omega) (fun z => absurd z (by decide)) (fun _ => ?_)
          refine z_iload 8 dX7_placeBy_109 rfl ?_
          refine z_goto (tgt := 116) dX7_placeBy_111 rfl ?_
          refine z_istore (fun y => [(0, rf en 37), (1, vi wh), (2, vi x2_6), (3, vi x3_89), (4, vi x4_102), (5, vi y), (6, vi x6), (7, vi x7_37), (8, vi x8_43), (9, vi (1))]) [1, 2, 3, 4, 5, 0, 6, 7, 8, 9] dX7_placeBy_116 (by decide) (fun _ => rfl) (fun x5_116 e5_116 => ?_)
          refine z_iinc (fun y => [(0, rf en 37), (1, vi wh), (2, vi x2_6), (3, vi x3_89), (4, vi x4_102), (5, vi x5_116), (6, vi y), (7, vi x7_37), (8, vi x8_43), (9, vi (1))]) [1, 2, 3, 4, 5, 6, 0, 7, 8, 9] 6 dX7_placeBy_118 rfl (by decide) (fun _ => rfl) (fun x6_118 e6_118 => ?_)
          refine z_goto (tgt := 18) dX7_placeBy_121 rfl ?_
          refine z_lv [0, 1, 2, 3, 4, 5, 6] [(0, rf en 37), (1, vi wh), (2, vi x2_6), (3, vi x3_89), (4, vi x4_102), (5, vi x5_116), (6, vi x6_118)] rfl ?_
          have uqv : ∀ uv, up r46_32 4 uv = up T 4 uv := fun uv => by rw [ut, up_up]
          exact uih18 x3_89 x4_102 x5_116 x6_118 r46_32 r48_34 r49_34 r50_34 (by omega) (⟨by omega, by rw [e6_118, tnS (by omega), plS, uq3, tnC (by omega), ← ut, ← ew, ← ec]; rw [if_pos (Or.inl uc47), e3_89, e4_102, e5_116], uqv⟩)
        ·
          refine z_iload 7 dX7_placeBy_50 rfl ?_
          refine z_iload 4 dX7_placeBy_52 rfl ?_
          refine z_icmp_lt (tgt := 71) dX7_placeBy_54 rfl (by omega) (fun uc54 => ?_) (fun uc54 => ?_)
          ·
            refine z_iconst dX7_placeBy_71 ?_
            refine z_goto (tgt := 76) dX7_placeBy_72 rfl ?_
            refine z_istore (fun y => [(0, rf en 37), (1, vi wh), (2, vi x2_6), (3, vi x3), (4, vi x4), (5, vi x5), (6, vi x6), (7, vi x7_37), (8, vi x8_43), (9, vi y)]) [1, 2, 3, 4, 5, 6, 7, 8, 9, 0] dX7_placeBy_76 (by decide) (fun _ => rfl) (fun uy uhy => ?_)
            subst uhy
            refine z_iload 9 dX7_placeBy_78 rfl ?_
            refine z_if_eq (tgt := 88) dX7_placeBy_80 rfl (by omega) (fun z => absurd z (by decide)) (fun _ => ?_)
            refine z_iload 6 dX7_placeBy_83 rfl ?_
            refine z_goto (tgt := 89) dX7_placeBy_85 rfl ?_
            refine z_istore_n (fun y => [(0, rf en 37), (1, vi wh), (2, vi x2_6), (3, vi y), (4, vi x4), (5, vi x5), (6, vi x6), (7, vi x7_37), (8, vi x8_43), (9, vi (1))]) [1, 2, 3, 0, 4, 5, 6, 7, 8, 9] dX7_placeBy_89 (by decide) (fun _ => rfl) (fun x3_89 e3_89 => ?_)
            refine z_iload 9 dX7_placeBy_90 rfl ?_
            refine z_if_eq (tgt := 100) dX7_placeBy_92 rfl (by omega) (fun z => absurd z (by decide)) (fun _ => ?_)
            refine z_iload 7 dX7_placeBy_95 rfl ?_
            refine z_goto (tgt := 102) dX7_placeBy_97 rfl ?_
            refine z_istore (fun y => [(0, rf en 37), (1, vi wh), (2, vi x2_6), (3, vi x3_89), (4, vi y), (5, vi x5), (6, vi x6), (7, vi x7_37), (8, vi x8_43), (9, vi (1))]) [1, 2, 3, 4, 0, 5, 6, 7, 8, 9] dX7_placeBy_102 (by decide) (fun _ => rfl) (fun x4_102 e4_102 => ?_)
            refine z_iload 9 dX7_placeBy_104 rfl ?_
            refine z_if_eq (tgt := 114) dX7_placeBy_106 rfl (by omega) (fun z => absurd z (by decide)) (fun _ => ?_)
            refine z_iload 8 dX7_placeBy_109 rfl ?_
            refine z_goto (tgt := 116) dX7_placeBy_111 rfl ?_
            refine z_istore (fun y => [(0, rf en 37), (1, vi wh), (2, vi x2_6), (3, vi x3_89), (4, vi x4_102), (5, vi y), (6, vi x6), (7, vi x7_37), (8, vi x8_43), (9, vi (1))]) [1, 2, 3, 4, 5, 0, 6, 7, 8, 9] dX7_placeBy_116 (by decide) (fun _ => rfl) (fun x5_116 e5_116 => ?_)
            refine z_iinc (fun y => [(0, rf en 37), (1, vi wh), (2, vi x2_6), (3, vi x3_89), (4, vi x4_102), (5, vi x5_116), (6, vi y), (7, vi x7_37), (8, vi x8_43), (9, vi (1))]) [1, 2, 3, 4, 5, 6, 0, 7, 8, 9] 6 dX7_placeBy_118 rfl (by decide) (fun _ => rfl) (fun x6_118 e6_118 => ?_)
            refine z_goto (tgt := 18) dX7_placeBy_121 rfl ?_
            refine z_lv [0, 1, 2, 3, 4, 5, 6] [(0, rf en 37), (1, vi wh), (2, vi x2_6), (3, vi x3_89), (4, vi x4_102), (5, vi x5_116), (6, vi x6_118)] rfl ?_
            have uqv : ∀ uv, up r46_32 4 uv = up T 4 uv := fun uv => by rw [ut, up_up]
            exact uih18 x3_89 x4_102 x5_116 x6_118 r46_32 r48_34 r49_34 r50_34 (by omega) (⟨by omega, by rw [e6_118, tnS (by omega), plS, uq3, tnC (by omega), ← ut, ← ew, ← ec]; rw [if_pos (Or.inr (Or.inl uc54)), e3_89, e4_102, e5_116], uqv⟩)
          ·
            refine z_iload 7 dX7_placeBy_57 rfl ?_
            refine z_iload 4 dX7_placeBy_59 rfl ?_
            refine z_icmp_ne (tgt := 75) dX7_placeBy_61 rfl (by omega) (fun uc61 => ?_) (fun uc61 => ?_)
            ·
              refine z_iconst dX7_placeBy_75 ?_
              refine z_istore (fun y => [(0, rf en 37), (1, vi wh), (2, vi x2_6), (3, vi x3), (4, vi x4), (5, vi x5), (6, vi x6), (7, vi x7_37), (8, vi x8_43), (9, vi y)]) [1, 2, 3, 4, 5, 6, 7, 8, 9, 0] dX7_placeBy_76 (by decide) (fun _ => rfl) (fun uy uhy => ?_)
              subst uhy
              refine z_iload 9 dX7_placeBy_78 rfl ?_
              refine z_if_eq (tgt := 88) dX7_placeBy_80 rfl (by omega) (fun _ => ?_) (fun z => absurd z (by decide))
              refine z_iload_n 3 dX7_placeBy_88 rfl ?_
              refine z_istore_n (fun y => [(0, rf en 37), (1, vi wh), (2, vi x2_6), (3, vi y), (4, vi x4), (5, vi x5), (6, vi x6), (7, vi x7_37), (8, vi x8_43), (9, vi (0))]) [1, 2, 3, 0, 4, 5, 6, 7, 8, 9] dX7_placeBy_89 (by decide) (fun _ => rfl) (fun x3_89 e3_89 => ?_)
              refine z_iload 9 dX7_placeBy_90 rfl ?_
              refine z_if_eq (tgt := 100) dX7_placeBy_92 rfl (by omega) (fun _ => ?_) (fun z => absurd z (by decide))
              refine z_iload 4 dX7_placeBy_100 rfl ?_
              refine z_istore (fun y => [(0, rf en 37), (1, vi wh), (2, vi x2_6), (3, vi x3_89), (4, vi y), (5, vi x5), (6, vi x6), (7, vi x7_37), (8, vi x8_43), (9, vi (0))]) [1, 2, 3, 4, 0, 5, 6, 7, 8, 9] dX7_placeBy_102 (by decide) (fun _ => rfl) (fun x4_102 e4_102 => ?_)
              refine z_iload 9 dX7_placeBy_104 rfl ?_
              refine z_if_eq (tgt := 114) dX7_placeBy_106 rfl (by omega) (fun _ => ?_) (fun z => absurd z (by decide))
              refine z_iload 5 dX7_placeBy_114 rfl ?_
              refine z_istore (fun y => [(0, rf en 37), (1, vi wh), (2, vi x2_6), (3, vi x3_89), (4, vi x4_102), (5, vi y), (6, vi x6), (7, vi x7_37), (8, vi x8_43), (9, vi (0))]) [1, 2, 3, 4, 5, 0, 6, 7, 8, 9] dX7_placeBy_116 (by decide) (fun _ => rfl) (fun x5_116 e5_116 => ?_)
              refine z_iinc (fun y => [(0, rf en 37), (1, vi wh), (2, vi x2_6), (3, vi x3_89), (4, vi x4_102), (5, vi x5_116), (6, vi y), (7, vi x7_37), (8, vi x8_43), (9, vi (0))]) [1, 2, 3, 4, 5, 6, 0, 7, 8, 9] 6 dX7_placeBy_118 rfl (by decide) (fun _ => rfl) (fun x6_118 e6_118 => ?_)
              refine z_goto (tgt := 18) dX7_placeBy_121 rfl ?_
              refine z_lv [0, 1, 2, 3, 4, 5, 6] [(0, rf en 37), (1, vi wh), (2, vi x2_6), (3, vi x3_89), (4, vi x4_102), (5, vi x5_116), (6, vi x6_118)] rfl ?_
              have uqv : ∀ uv, up r46_32 4 uv = up T 4 uv := fun uv => by rw [ut, up_up]
              exact uih18 x3_89 x4_102 x5_116 x6_118 r46_32 r48_34 r49_34 r50_34 (by omega) (⟨by omega, by rw [e6_118, tnS (by omega), plS, uq3, tnC (by omega), ← ut, ← ew, ← ec]; rw [if_neg (fun uz => uz.elim (fun uy => absurd (show x3 = -1 from uy) uc47) (fun uy => uy.elim (fun uy => absurd (show x7_37 < x4 from uy) (by omega)) (fun uy => absurd (show x7_37 = x4 ∧ x8_43 < x5 from uy) (by omega)))), e3_89, e4_102, e5_116], uqv⟩)
            ·
              refine z_iload 8 dX7_placeBy_64 rfl ?_
              refine z_iload 5 dX7_placeBy_66 rfl ?_
              refine z_icmp_ge (tgt := 75) dX7_placeBy_68 rfl (by omega) (fun uc68 => ?_) (fun uc68 => ?_)
              ·
                refine z_iconst dX7_placeBy_75 ?_
                refine z_istore (fun y => [(0, rf en 37), (1, vi wh), (2, vi x2_6), (3, vi x3), (4, vi x4), (5, vi x5), (6, vi x6), (7, vi x7_37), (8, vi x8_43), (9, vi y)]) [1, 2, 3, 4, 5, 6, 7, 8, 9, 0] dX7_placeBy_76 (by decide) (fun _ => rfl) (fun uy uhy => ?_)
                subst uhy
                refine z_iload 9 dX7_placeBy_78 rfl ?_
                refine z_if_eq (tgt := 88) dX7_placeBy_80 rfl (by omega) (fun _ => ?_) (fun z => absurd z (by decide))
                refine z_iload_n 3 dX7_placeBy_88 rfl ?_
                refine z_istore_n (fun y => [(0, rf en 37), (1, vi wh), (2, vi x2_6), (3, vi y), (4, vi x4), (5, vi x5), (6, vi x6), (7, vi x7_37), (8, vi x8_43), (9, vi (0))]) [1, 2, 3, 0, 4, 5, 6, 7, 8, 9] dX7_placeBy_89 (by decide) (fun _ => rfl) (fun x3_89 e3_89 => ?_)
                refine z_iload 9 dX7_placeBy_90 rfl ?_
                refine z_if_eq (tgt := 100) dX7_placeBy_92 rfl (by omega) (fun _ => ?_) (fun z => absurd z (by decide))
                refine z_iload 4 dX7_placeBy_100 rfl ?_
                refine z_istore (fun y => [(0, rf en 37), (1, vi wh), (2, vi x2_6), (3, vi x3_89), (4, vi y), (5, vi x5), (6, vi x6), (7, vi x7_37), (8, vi x8_43), (9, vi (0))]) [1, 2, 3, 4, 0, 5, 6, 7, 8, 9] dX7_placeBy_102 (by decide) (fun _ => rfl) (fun x4_102 e4_102 => ?_)
                refine z_iload 9 dX7_placeBy_104 rfl ?_
                refine z_if_eq (tgt := 114) dX7_placeBy_106 rfl (by omega) (fun _ => ?_) (fun z => absurd z (by decide))
                refine z_iload 5 dX7_placeBy_114 rfl ?_
                refine z_istore (fun y => [(0, rf en 37), (1, vi wh), (2, vi x2_6), (3, vi x3_89), (4, vi x4_102), (5, vi y), (6, vi x6), (7, vi x7_37), (8, vi x8_43), (9, vi (0))]) [1, 2, 3, 4, 5, 0, 6, 7, 8, 9] dX7_placeBy_116 (by decide) (fun _ => rfl) (fun x5_116 e5_116 => ?_)
                refine z_iinc (fun y => [(0, rf en 37), (1, vi wh), (2, vi x2_6), (3, vi x3_89), (4, vi x4_102), (5, vi x5_116), (6, vi y), (7, vi x7_37), (8, vi x8_43), (9, vi (0))]) [1, 2, 3, 4, 5, 6, 0, 7, 8, 9] 6 dX7_placeBy_118 rfl (by decide) (fun _ => rfl) (fun x6_118 e6_118 => ?_)
                refine z_goto (tgt := 18) dX7_placeBy_121 rfl ?_
                refine z_lv [0, 1, 2, 3, 4, 5, 6] [(0, rf en 37), (1, vi wh), (2, vi x2_6), (3, vi x3_89), (4, vi x4_102), (5, vi x5_116), (6, vi x6_118)] rfl ?_
                have uqv : ∀ uv, up r46_32 4 uv = up T 4 uv := fun uv => by rw [ut, up_up]
                exact uih18 x3_89 x4_102 x5_116 x6_118 r46_32 r48_34 r49_34 r50_34 (by omega) (⟨by omega, by rw [e6_118, tnS (by omega), plS, uq3, tnC (by omega), ← ut, ← ew, ← ec]; rw [if_neg (fun uz => uz.elim (fun uy => absurd (show x3 = -1 from uy) uc47) (fun uy => uy.elim (fun uy => absurd (show x7_37 < x4 from uy) (by omega)) (fun uy => absurd (show x7_37 = x4 ∧ x8_43 < x5 from uy) (by omega)))), e3_89, e4_102, e5_116], uqv⟩)
              ·
                refine z_iconst dX7_placeBy_71 ?_
                refine z_goto (tgt := 76) dX7_placeBy_72 rfl ?_
                refine z_istore (fun y => [(0, rf en 37), (1, vi wh), (2, vi x2_6), (3, vi x3), (4, vi x4), (5, vi x5), (6, vi x6), (7, vi x7_37), (8, vi x8_43), (9, vi y)]) [1, 2, 3, 4, 5, 6, 7, 8, 9, 0] dX7_placeBy_76 (by decide) (fun _ => rfl) (fun uy uhy => ?_)
                subst uhy
                refine z_iload 9 dX7_placeBy_78 rfl ?_
                refine z_if_eq (tgt := 88) dX7_placeBy_80 rfl (by omega) (fun z => absurd z (by decide)) (fun _ => ?_)
                refine z_iload 6 dX7_placeBy_83 rfl ?_
                refine z_goto (tgt := 89) dX7_placeBy_85 rfl ?_
                refine z_istore_n (fun y => [(0, rf en 37), (1, vi wh), (2, vi x2_6), (3, vi y), (4, vi x4), (5, vi x5), (6, vi x6), (7, vi x7_37), (8, vi x8_43), (9, vi (1))]) [1, 2, 3, 0, 4, 5, 6, 7, 8, 9] dX7_placeBy_89 (by decide) (fun _ => rfl) (fun x3_89 e3_89 => ?_)
                refine z_iload 9 dX7_placeBy_90 rfl ?_
                refine z_if_eq (tgt := 100) dX7_placeBy_92 rfl (by omega) (fun z => absurd z (by decide)) (fun _ => ?_)
                refine z_iload 7 dX7_placeBy_95 rfl ?_
                refine z_goto (tgt := 102) dX7_placeBy_97 rfl ?_
                refine z_istore (fun y => [(0, rf en 37), (1, vi wh), (2, vi x2_6), (3, vi x3_89), (4, vi y), (5, vi x5), (6, vi x6), (7, vi x7_37), (8, vi x8_43), (9, vi (1))]) [1, 2, 3, 4, 0, 5, 6, 7, 8, 9] dX7_placeBy_102 (by decide) (fun _ => rfl) (fun x4_102 e4_102 => ?_)
                refine z_iload 9 dX7_placeBy_104 rfl ?_
                refine z_if_eq (tgt := 114) dX7_placeBy_106 rfl (by omega) (fun z => absurd z (by decide)) (fun _ => ?_)
                refine z_iload 8 dX7_placeBy_109 rfl ?_
                refine z_goto (tgt := 116) dX7_placeBy_111 rfl ?_
                refine z_istore (fun y => [(0, rf en 37), (1, vi wh), (2, vi x2_6), (3, vi x3_89), (4, vi x4_102), (5, vi y), (6, vi x6), (7, vi x7_37), (8, vi x8_43), (9, vi (1))]) [1, 2, 3, 4, 5, 0, 6, 7, 8, 9] dX7_placeBy_116 (by decide) (fun _ => rfl) (fun x5_116 e5_116 => ?_)
                refine z_iinc (fun y => [(0, rf en 37), (1, vi wh), (2, vi x2_6), (3, vi x3_89), (4, vi x4_102), (5, vi x5_116), (6, vi y), (7, vi x7_37), (8, vi x8_43), (9, vi (1))]) [1, 2, 3, 4, 5, 6, 0, 7, 8, 9] 6 dX7_placeBy_118 rfl (by decide) (fun _ => rfl) (fun x6_118 e6_118 => ?_)
                refine z_goto (tgt := 18) dX7_placeBy_121 rfl ?_
                refine z_lv [0, 1, 2, 3, 4, 5, 6] [(0, rf en 37), (1, vi wh), (2, vi x2_6), (3, vi x3_89), (4, vi x4_102), (5, vi x5_116), (6, vi x6_118)] rfl ?_
                have uqv : ∀ uv, up r46_32 4 uv = up T 4 uv := fun uv => by rw [ut, up_up]
                exact uih18 x3_89 x4_102 x5_116 x6_118 r46_32 r48_34 r49_34 r50_34 (by omega) (⟨by omega, by rw [e6_118, tnS (by omega), plS, uq3, tnC (by omega), ← ut, ← ew, ← ec]; rw [if_pos (Or.inr (Or.inr ⟨uc61, uc68⟩)), e3_89, e4_102, e5_116], uqv⟩)
  refine Z.eqM (upR_id (k := 46) wT) ?_
  refine Z.eqM (upR_id (k := 48) wC0) ?_
  refine Z.eqM (upR_id (k := 49) wE0) ?_
  refine Z.eqM (upR_id (k := 50) wG0) ?_
  exact uL18 _ (-1) 0 0 0 T C0 E0 G0 (Nat.lt_succ_self _) (⟨by omega, rfl, fun uv => rfl⟩)
set_option maxRecDepth 100000 in
theorem ct_X7_litterBy (en : zE) (M : zW) (O : Int → Int) (P : Int → Int) (T : Int → Int) (W : Int → Int) (C0 : Int → Int) (E0 : Int → Int) (G0 : Int → Int) (wO : M 37 = O) (wP : M 45 = P) (wT : M 46 = T) (wW : M 47 = W) (wC0 : M 48 = C0) (wE0 : M 49 = E0) (wG0 : M 50 = G0) (wh : Int) (hT : tOK T) (hW : wOK W) (hP : pOK P (O 9)) (hn : 0 ≤ O 9 ∧ O 9 ≤ 8) (h0 : -2147483648 ≤ wh ∧ wh < 2147483648) : Ct en kA yX7_litterBy mX7_litterBy [rf en 37, vi wh] M (pX (fun x N => ∃ r48 r49 r50 : Int → Int, x = (if wh = 0 then (ltS T W P (O 9) 10).1 else (ltS T W P (O 9) 10).2) ∧ upR (upR (upR M 48 r48) 49 r49) 50 r50 = N)) := by
  refine Ct.of (by decide +kernel) rfl [(0, rf en 37), (1, vi wh)] rfl (Nat.le_of_ble_eq_true rfl) (fun cx C => ?_)
  refine z_aload_n 0 dX7_litterBy_0 rfl ?_
  refine z_getR dX7_litterBy_1 fX7_34_6 i37_11 ka37 ?_
  refine z_iconst dX7_litterBy_4 ?_
  refine z_iald (r := T) dX7_litterBy_5 is46 ka46 (wT) (by omega) ?_
  refine z_istore_n (fun y => [(0, rf en 37), (1, vi wh), (2, vi y)]) [1, 2, 0] dX7_litterBy_6 (by decide) (fun _ => rfl) (fun x2_6 e2_6 => ?_)
  refine z_iconst dX7_litterBy_7 ?_
  refine z_istore_n (fun y => [(0, rf en 37), (1, vi wh), (2, vi x2_6), (3, vi y)]) [1, 2, 3, 0] dX7_litterBy_8 (by decide) (fun _ => rfl) (fun uy uhy => ?_)
  subst uhy
  refine z_iconst dX7_litterBy_9 ?_
  refine z_istore (fun y => [(0, rf en 37), (1, vi wh), (2, vi x2_6), (3, vi (-1)), (4, vi y)]) [1, 2, 3, 4, 0] dX7_litterBy_10 (by decide) (fun _ => rfl) (fun uy uhy => ?_)
  subst uhy
  refine z_iconst dX7_litterBy_12 ?_
  refine z_istore (fun y => [(0, rf en 37), (1, vi wh), (2, vi x2_6), (3, vi (-1)), (4, vi (0)), (5, vi y)]) [1, 2, 3, 4, 5, 0] dX7_litterBy_13 (by decide) (fun _ => rfl) (fun uy uhy => ?_)
  subst uhy
  have uL15 : ∀ (fu : Nat) (x3 : Int) (x4 : Int) (x5 : Int) (r46 : Int → Int) (r48 : Int → Int) (r49 : Int → Int) (r50 : Int → Int), (10 - x5).toNat < fu → ((0 ≤ x5 ∧ x5 ≤ 10 ∧ -1 ≤ x3 ∧ x3 ≤ 9 ∧ 0 ≤ x4 ∧ x4 ≤ 8) ∧ ltS T W P (O 9) x5.toNat = (x3, x4) ∧ ∀ v, up r46 2 v = up T 2 v) → Z en kA cx mX7_litterBy (upR (upR (upR (upR M 46 r46) 48 r48) 49 r49) 50 r50) 15 [(0, rf en 37), (1, vi wh), (2, vi x2_6), (3, vi x3), (4, vi x4), (5, vi x5)] [] := by
    intro fu
    induction fu with
    | zero => intro x3 x4 x5 r46 r48 r49 r50 uhf; exact absurd uhf (Nat.not_lt_zero _)
    | succ fu uih15 =>
      intro x3 x4 x5 r46 r48 r49 r50 uf15 uI15
      obtain ⟨uq1, uq3, uqr⟩ := uI15
      refine z_iload 5 dX7_litterBy_15 rfl ?_
      refine z_bipush dX7_litterBy_17 rfl ?_
      refine z_icmp_ge (tgt := 87) dX7_litterBy_19 rfl (by omega) (fun uc19 => ?_) (fun uc19 => ?_)
      ·
        refine z_aload_n 0 dX7_litterBy_87 rfl ?_
        refine z_getR dX7_litterBy_88 fX7_34_6 i37_11 ka37 ?_
        refine z_iconst dX7_litterBy_91 ?_
        refine z_iload_n 2 dX7_litterBy_92 rfl ?_
        refine z_iast' (r := r46) (fun r => (upR (upR (upR (upR M 46 r) 48 r48) 49 r49) 50 r50)) dX7_litterBy_93 is46 ka46 (rfl) (by omega) (fun _ => uu4 (by decide) (by decide) (by decide)) (fun r46_93 f46_93 => ?_)
        refine z_iload_n 1 dX7_litterBy_94 rfl ?_
        refine z_if_ne (tgt := 102) dX7_litterBy_95 rfl (by omega) (fun uc95 => ?_) (fun uc95 => ?_)
        ·
          refine z_iload 4 dX7_litterBy_102 rfl ?_
          exact z_iret C dX7_litterBy_104 rfl ⟨_, rfl, ⟨r48, r49, r50, by rw [show x5 = 10 by omega] at uq3; rw [if_neg uc95, show ltS T W P (O 9) 10 = (x3, x4) from uq3], by rw [f46_93, e2_6, up_back uqr, upR_id wT]⟩⟩
        ·
          refine z_iload_n 3 dX7_litterBy_98 rfl ?_
          refine z_goto (tgt := 104) dX7_litterBy_99 rfl ?_
          exact z_iret C dX7_litterBy_104 rfl ⟨_, rfl, ⟨r48, r49, r50, by rw [show x5 = 10 by omega] at uq3; rw [if_pos uc95, show ltS T W P (O 9) 10 = (x3, x4) from uq3], by rw [f46_93, e2_6, up_back uqr, upR_id wT]⟩⟩
      ·
        refine z_aload_n 0 dX7_litterBy_22 rfl ?_
        refine z_getR dX7_litterBy_23 fX7_34_6 i37_11 ka37 ?_
        refine z_iconst dX7_litterBy_26 ?_
        refine z_iload 5 dX7_litterBy_27 rfl ?_
        refine z_iast' (r := r46) (fun r => (upR (upR (upR (upR M 46 r) 48 r48) 49 r49) 50 r50)) dX7_litterBy_29 is46 ka46 (rfl) (by omega) (fun _ => uu4 (by decide) (by decide) (by decide)) (fun r46_29 f46_29 => ?_)
        have ut : r46_29 = up T 2 x5 := by rw [f46_29]; exact uqr x5
        have uT : tOK r46_29 := by rw [ut]; exact tOK_2 hT (by omega)
        refine z_aload_n 0 dX7_litterBy_30 rfl ?_
        refine z_vX dX7_litterBy_31 lX7_176 (by decide) ka37 io37 rfl (ct_X7_wins en (upR (upR (upR (upR M 46 r46_29) 48 r48) 49 r49) 50 r50) O P r46_29 W r48 r49 r50 wO wP rfl wW rfl rfl rfl (by assumption) (by assumption) (by assumption) (by omega)) rfl rfl (by exact Nat.le_of_ble_eq_true rfl) (fun uv31 uN31 uh31 => ?_)
        obtain ⟨r48_31, r49_31, r50_31, ul1_31, ul2_31, ul3_31, uw_31, rfl⟩ := uh31
        have uwr_31 := wns_rg r46_29 W P (np := O 9) (by omega)
        rw [uu3 (a := 48) (b0 := 49) (b1 := 50) (by decide) (by decide)]
        rw [uu2 (a := 49) (b0 := 50) (by decide)]
        rw [uu1 (a := 50)]
        refine z_istore (fun y => [(0, rf en 37), (1, vi wh), (2, vi x2_6), (3, vi x3), (4, vi x4), (5, vi x5), (6, vi y)]) [1, 2, 3, 4, 5, 6, 0] dX7_litterBy_34 (by decide) (fun _ => rfl) (fun x6_34 e6_34 => ?_)
        have ew : x6_34 = wns r46_29 W P (O 9) := by rw [e6_34]; exact uw_31
        refine z_iload_n 3 dX7_litterBy_36 rfl ?_
        refine z_iconst dX7_litterBy_37 ?_
        refine z_icmp_eq (tgt := 48) dX7_litterBy_38 rfl (by omega) (fun uc38 => ?_) (fun uc38 => ?_)
        ·
          refine z_iconst dX7_litterBy_48 ?_
          refine z_goto (tgt := 53) dX7_litterBy_49 rfl ?_
          refine z_istore (fun y => [(0, rf en 37), (1, vi wh), (2, vi x2_6), (3, vi x3), (4, vi x4), (5, vi x5), (6, vi x6_34), (7, vi y)]) [1, 2, 3, 4, 5, 6, 7, 0] dX7_litterBy_53 (by decide) (fun _ => rfl) (fun uy uhy => ?_)
          subst uhy
          refine z_iload 7 dX7_litterBy_55 rfl ?_
          refine z_if_eq (tgt := 65) dX7_litterBy_57 rfl (by omega) (fun z => absurd z (by decide)) (fun _ => ?_)
          refine z_iload 5 dX7_litterBy_60 rfl ?_
          refine z_goto (tgt := 66) dX7_litterBy_62 rfl ?_
          refine z_istore_n (fun y => [(0, rf en 37), (1, vi wh), (2, vi x2_6), (3, vi y), (4, vi x4), (5, vi x5), (6, vi x6_34), (7, vi (1))]) [1, 2, 3, 0, 4, 5, 6, 7] dX7_litterBy_66 (by decide) (fun _ => rfl) (fun x3_66 e3_66 => ?_)
          refine z_iload 7 dX7_litterBy_67 rfl ?_
          refine z_if_eq (tgt := 77) dX7_litterBy_69 rfl (by omega) (fun z => absurd z (by decide)) (fun _ => ?_)
          refine z_iload 6 dX7_litterBy_72 rfl ?_
          refine z_goto (tgt := 79) dX7_litterBy_74 rfl ?_
          refine z_istore (fun y => [(0, rf en 37), (1, vi wh), (2, vi x2_6), (3, vi x3_66), (4, vi y), (5, vi x5), (6, vi x6_34), (7, vi (1))]) [1, 2, 3, 4, 0, 5, 6, 7] dX7_litterBy_79 (by decide) (fun _ => rfl) (fun x4_79 e4_79 => ?_)
          refine z_iinc (fun y => [(0, rf en 37), (1, vi wh), (2, vi x2_6), (3, vi x3_66), (4, vi x4_79), (5, vi y), (6, vi x6_34), (7, vi (1))]) [1, 2, 3, 4, 5, 0, 6, 7] 5 dX7_litterBy_81 rfl (by decide) (fun _ => rfl) (fun x5_81 e5_81 => ?_)
          refine z_goto (tgt := 15) dX7_litterBy_84 rfl ?_
          refine z_lv [0, 1, 2, 3, 4, 5] [(0, rf en 37), (1, vi wh), (2, vi x2_6), (3, vi x3_66), (4, vi x4_79), (5, vi x5_81)] rfl ?_
          have uqv : ∀ uv, up r46_29 2 uv = up T 2 uv := fun uv => by rw [ut, up_up]
          exact uih15 x3_66 x4_79 x5_81 r46_29 r48_31 r49_31 r50_31 (by omega) (⟨by omega, by rw [e5_81, tnS (by omega), ltS, uq3, tnC (by omega), ← ut, ← ew]; rw [if_pos (Or.inl uc38), e3_66, e4_79], uqv⟩)
        ·
          refine z_iload 6 dX7_litterBy_41 rfl ?_
          refine z_iload 4 dX7_litterBy_43 rfl ?_
          refine z_icmp_ge (tgt := 52) dX7_litterBy_45 rfl (by omega) (fun uc45 => ?_) (fun uc45 => ?_)
          ·
            refine z_iconst dX7_litterBy_52 ?_
            refine z_istore (fun y => [(0, rf en 37), (1, vi wh), (2, vi x2_6), (3, vi x3), (4, vi x4), (5, vi x5), (6, vi x6_34), (7, vi y)]) [1, 2, 3, 4, 5, 6, 7, 0] dX7_litterBy_53 (by decide) (fun _ => rfl) (fun uy uhy => ?_)
            subst uhy
            refine z_iload 7 dX7_litterBy_55 rfl ?_
            refine z_if_eq (tgt := 65) dX7_litterBy_57 rfl (by omega) (fun _ => ?_) (fun z => absurd z (by decide))
            refine z_iload_n 3 dX7_litterBy_65 rfl ?_
            refine z_istore_n (fun y => [(0, rf en 37), (1, vi wh), (2, vi x2_6), (3, vi y), (4, vi x4), (5, vi x5), (6, vi x6_34), (7, vi (0))]) [1, 2, 3, 0, 4, 5, 6, 7] dX7_litterBy_66 (by decide) (fun _ => rfl) (fun x3_66 e3_66 => ?_)
            refine z_iload 7 dX7_litterBy_67 rfl ?_
            refine z_if_eq (tgt := 77) dX7_litterBy_69 rfl (by omega) (fun _ => ?_) (fun z => absurd z (by decide))
            refine z_iload 4 dX7_litterBy_77 rfl ?_
            refine z_istore (fun y => [(0, rf en 37), (1, vi wh), (2, vi x2_6), (3, vi x3_66), (4, vi y), (5, vi x5), (6, vi x6_34), (7, vi (0))]) [1, 2, 3, 4, 0, 5, 6, 7] dX7_litterBy_79 (by decide) (fun _ => rfl) (fun x4_79 e4_79 => ?_)
            refine z_iinc (fun y => [(0, rf en 37), (1, vi wh), (2, vi x2_6), (3, vi x3_66), (4, vi x4_79), (5, vi y), (6, vi x6_34), (7, vi (0))]) [1, 2, 3, 4, 5, 0, 6, 7] 5 dX7_litterBy_81 rfl (by decide) (fun _ => rfl) (fun x5_81 e5_81 => ?_)
            refine z_goto (tgt := 15) dX7_litterBy_84 rfl ?_
            refine z_lv [0, 1, 2, 3, 4, 5] [(0, rf en 37), (1, vi wh), (2, vi x2_6), (3, vi x3_66), (4, vi x4_79), (5, vi x5_81)] rfl ?_
            have uqv : ∀ uv, up r46_29 2 uv = up T 2 uv := fun uv => by rw [ut, up_up]
            exact uih15 x3_66 x4_79 x5_81 r46_29 r48_31 r49_31 r50_31 (by omega) (⟨by omega, by rw [e5_81, tnS (by omega), ltS, uq3, tnC (by omega), ← ut, ← ew]; rw [if_neg (fun uz => uz.elim (fun uy => by omega) (fun uy => by omega)), e3_66, e4_79], uqv⟩)
          ·
            refine z_iconst dX7_litterBy_48 ?_
            refine z_goto (tgt := 53) dX7_litterBy_49 rfl ?_
            refine z_istore (fun y => [(0, rf en 37), (1, vi wh), (2, vi x2_6), (3, vi x3), (4, vi x4), (5, vi x5), (6, vi x6_34), (7, vi y)]) [1, 2, 3, 4, 5, 6, 7, 0] dX7_litterBy_53 (by decide) (fun _ => rfl) (fun uy uhy => ?_)
            subst uhy
            refine z_iload 7 dX7_litterBy_55 rfl ?_
            refine z_if_eq (tgt := 65) dX7_litterBy_57 rfl (by omega) (fun z => absurd z (by decide)) (fun _ => ?_)
            refine z_iload 5 dX7_litterBy_60 rfl ?_
            refine z_goto (tgt := 66) dX7_litterBy_62 rfl ?_
            refine z_istore_n (fun y => [(0, rf en 37), (1, vi wh), (2, vi x2_6), (3, vi y), (4, vi x4), (5, vi x5), (6, vi x6_34), (7, vi (1))]) [1, 2, 3, 0, 4, 5, 6, 7] dX7_litterBy_66 (by decide) (fun _ => rfl) (fun x3_66 e3_66 => ?_)
            refine z_iload 7 dX7_litterBy_67 rfl ?_
            refine z_if_eq (tgt := 77) dX7_litterBy_69 rfl (by omega) (fun z => absurd z (by decide)) (fun _ => ?_)
            refine z_iload 6 dX7_litterBy_72 rfl ?_
            refine z_goto (tgt := 79) dX7_litterBy_74 rfl ?_
            refine z_istore (fun y => [(0, rf en 37), (1, vi wh), (2, vi x2_6), (3, vi x3_66), (4, vi y), (5, vi x5), (6, vi x6_34), (7, vi (1))]) [1, 2, 3, 4, 0, 5, 6, 7] dX7_litterBy_79 (by decide) (fun _ => rfl) (fun x4_79 e4_79 => ?_)
            refine z_iinc (fun y => [(0, rf en 37), (1, vi wh), (2, vi x2_6), (3, vi x3_66), (4, vi x4_79), (5, vi y), (6, vi x6_34), (7, vi (1))]) [1, 2, 3, 4, 5, 0, 6, 7] 5 dX7_litterBy_81 rfl (by decide) (fun _ => rfl) (fun x5_81 e5_81 => ?_)
            refine z_goto (tgt := 15) dX7_litterBy_84 rfl ?_
            refine z_lv [0, 1, 2, 3, 4, 5] [(0, rf en 37), (1, vi wh), (2, vi x2_6), (3, vi x3_66), (4, vi x4_79), (5, vi x5_81)] rfl ?_
            have uqv : ∀ uv, up r46_29 2 uv = up T 2 uv := fun uv => by rw [ut, up_up]
            exact uih15 x3_66 x4_79 x5_81 r46_29 r48_31 r49_31 r50_31 (by omega) (⟨by omega, by rw [e5_81, tnS (by omega), ltS, uq3, tnC (by omega), ← ut, ← ew]; rw [if_pos (Or.inr uc45), e3_66, e4_79], uqv⟩)
  refine Z.eqM (upR_id (k := 46) wT) ?_
  refine Z.eqM (upR_id (k := 48) wC0) ?_
  refine Z.eqM (upR_id (k := 49) wE0) ?_
  refine Z.eqM (upR_id (k := 50) wG0) ?_
  exact uL15 _ (-1) 0 0 T C0 E0 G0 (Nat.lt_succ_self _) (⟨by omega, rfl, fun uv => rfl⟩)
