/-! digests: each number in turn -/
def w32 (x : Int) : Int := (Int32.ofInt x).toInt
theorem n_i2lW (x : Int) : (Int32.ofInt x).toInt64 = Int64.ofInt (w32 x) := by
  have h1 := Int32.le_toInt (Int32.ofInt x)
  have h2 := Int32.toInt_lt (Int32.ofInt x)
  have h := n_i2l (x := w32 x) ⟨by unfold w32; omega, by unfold w32; omega⟩
  unfold w32 at h ⊢
  rw [Int32.ofInt_toInt] at h
  exact h
section ZR3
variable {en : zE} {ks : List Nat} {cx : zX} {md : zMD} {M : zW} {pc pc' tgt : Nat} {lv : List (Nat × Value)} {st : List Value}
theorem z_i2lW {x : Int} (hd : Dc md pc .i2l 1 pc') (k : Z en ks cx md M pc' lv (vl (w32 x) :: st)) : Z en ks cx md M pc lv (vi x :: st) := by
  obtain ⟨A, p, e, R, s, m, args, below, meth, c, cells, slots, Q⟩ := cx
  intro F H locs ls hP hS hl
  obtain ⟨hd, rfl⟩ := hd
  exact lv_i2l F.1 F.2.1 hd (n_i2lW x) (k F H locs ls hP hS hl)
end ZR3
def itN (f : Int → Int → Int) (h : Int) : Nat → Int
  | 0 => h
  | k + 1 => f (itN f h k) k
theorem itN_s (f : Int → Int → Int) (h : Int) {x y : Int} (hx : 0 ≤ x) (hy : y = x + 1) : itN f h y.toNat = f (itN f h x.toNat) x := by rw [hy, tnS hx, itN, tnC hx]
def dT (T W P : Int → Int) (np h t : Int) : Int := 31 * itN (fun h k => 31 * h + w32 (hBy T W t k)) (31 * h + w32 (orN (W t))) 3 + w32 (rgS T W P np 7 t 5)
def dR (Rd : Int → Int) (h r : Int) : Int := itN (fun h k => 31 * h + w32 (Rd (3 * r + k))) h 3
def riV (T W P : Int → Int) (np p k : Int) : Int := if k = 0 then orN (coO T W P np p) else if k = 1 then enO T W P np p else riO T W P np p
def dP (T W P : Int → Int) (np h p : Int) : Int := itN (fun h k => 31 * h + w32 (riV T W P np p k)) (itN (fun h k => 31 * h + w32 (P (5 * p + k))) h 5) 3
def dgF (h : Int) : List Int → Int
  | [] => h
  | v :: l => dgF (31 * h + v) l
def dgV (cf : Int → Int) (f0 f1 : Int) (T W P : Int → Int) (np : Int) (Rd : Int → Int) (nr : Int) (l : List Int) : Int := dgF (itN (dP T W P np) (itN (dR Rd) (itN (dT T W P np) (31 * (31 * itN (fun h k => 31 * h + w32 (cf k)) 17 8 + w32 f0) + w32 f1) 8) nr.toNat) np.toNat) l
def cnC (O0 O1 O2 T W P : Int → Int) (k : Int) : Int := if k = 0 then O1 4 else if k = 1 then O2 4 else if k = 2 then O1 2 else if k = 3 then O2 2 else if k = 4 then rcS P (O2 4).toNat else if k = 5 then rdn T W P (O2 4) (O2 4).toNat else if k = 6 then T 5 else if k = 7 then O0 8 else if k = 8 then O0 10 else -2
theorem kc_t {M N L : zW} (h1 : kc M N) (h2 : kc N L) : kc M L := fun k hk => (h2 k hk).trans (h1 k hk)
set_option maxRecDepth 100000 in
theorem ct_X6_digestOfTowns (en : zE) (M : zW) (O0 : Int → Int) (O1 : Int → Int) (O2 : Int → Int) (T : Int → Int) (T4 : Int → Int) (O5 : Int → Int) (O6 : Int → Int) (Q7 : Int → Int) (Q8 : Int → Int) (F : Int → Int) (Gt : Int → Int) (D : Int → Int) (c : Int → Int) (A : Int → Int) (G : Int → Int) (K : Int → Int) (H : Int → Int) (S : Int → Int) (P0 : Int → Int) (Hd : Int → Int) (Lw : Int → Int) (C0 : Int → Int) (E0 : Int → Int) (R0 : Int → Int) (g : Int → Int) (wt : Int → Int) (wO0 : M 0 = O0) (wO1 : M 1 = O1) (wO2 : M 2 = O2) (wT : M 3 = T) (wT4 : M 4 = T4) (wO5 : M 5 = O5) (wO6 : M 6 = O6) (wQ7 : M 7 = Q7) (wQ8 : M 8 = Q8) (wF : M 19 = F) (wGt : M 20 = Gt) (wD : M 21 = D) (wc : M 22 = c) (wA : M 24 = A) (wG : M 25 = G) (wK : M 26 = K) (wH : M 27 = H) (wS : M 28 = S) (wP0 : M 29 = P0) (wHd : M 30 = Hd) (wLw : M 31 = Lw) (wC0 : M 32 = C0) (wE0 : M 33 = E0) (wR0 : M 34 = R0) (wg : M 35 = g) (wwt : M 36 = wt) (h : Int) (hT : tOK T) (hc : wB c) (hP : (0 ≤ O2 4 ∧ O2 4 ≤ 8) ∧ pOK (tP A G K H S) (O2 4)) (hs : (0 ≤ O0 8 ∧ O0 8 ≤ 8) ∧ ∀ j, 0 ≤ j → j < O0 8 → (0 ≤ Q7 j ∧ Q7 j ≤ 7) ∧ (0 ≤ Q8 j ∧ Q8 j ≤ 1)) (hO : 0 ≤ O1 4 ∧ O1 4 ≤ 12) (hR : rdOK (tR F Gt D) (O1 4)) (h6 : w63 c) : Ct en kA yX6_digestOfTowns mX6_digestOfTowns [rf en 0, vl h] M (pY (fun x N => x = itN (dT T (cW c) (tP A G K H S) (O2 4)) h 8 ∧ kc M N)) := by
  refine Ct.of (by decide +kernel) rfl [(0, rf en 0), (1, vl h)] rfl (Nat.le_of_ble_eq_true rfl) (fun cx C => ?_)
  refine z_lload_n 1 dX6_digestOfTowns_0 rfl ?_
  refine z_lstore_n (fun y => [(0, rf en 0), (1, vl h), (3, vl y)]) [1, 2, 0] dX6_digestOfTowns_1 (by decide) (fun _ => rfl) (fun x3_1 e3_1 => ?_)
  refine z_iconst dX6_digestOfTowns_2 ?_
  refine z_istore (fun y => [(0, rf en 0), (1, vl h), (3, vl x3_1), (5, vi y)]) [1, 2, 3, 0] dX6_digestOfTowns_3 (by decide) (fun _ => rfl) (fun x5_3 e5_3 => ?_)
  have uL5 : ∀ (fu : Nat) (x3 : Int) (x5 : Int) (N5 : zW), (8 - x5).toNat < fu → (0 ≤ x5 ∧ x5 ≤ 8 ∧ kc M N5 ∧ x3 = itN (dT T (cW c) (tP A G K H S) (O2 4)) h x5.toNat) → Z en kA cx mX6_digestOfTowns N5 5 [(0, rf en 0), (1, vl h), (3, vl x3), (5, vi x5)] [] := by
    intro fu
    induction fu with
    | zero => intro x3 x5 N5 uhf; exact absurd uhf (Nat.not_lt_zero _)
    | succ fu uih5 =>
      intro x3 x5 N5 uf5 uI5
      obtain ⟨uq1, uq2, ukN5, uq3⟩ := uI5
      refine z_iload 3 dX6_digestOfTowns_5 rfl ?_
      refine z_bipush dX6_digestOfTowns_7 rfl ?_
      refine z_icmp_ge (tgt := 81) dX6_digestOfTowns_9 rfl (by omega) (fun uc9 => ?_) (fun uc9 => ?_)
      ·
        refine z_lload_n 2 dX6_digestOfTowns_81 rfl ?_
        exact z_lret C dX6_digestOfTowns_82 rfl ⟨_, rfl, ⟨by rw [uq3, show x5 = 8 by omega]; rfl, ukN5⟩⟩
      ·
        refine z_ldc2 (n := 31) dX6_digestOfTowns_12 kX6_269 rfl ?_
        refine z_lload_n 2 dX6_digestOfTowns_15 rfl ?_
        refine z_lmul dX6_digestOfTowns_16 ?_
        refine z_aload_n 0 dX6_digestOfTowns_17 rfl ?_
        refine z_iconst dX6_digestOfTowns_18 ?_
        refine z_iload 3 dX6_digestOfTowns_19 rfl ?_
        refine z_vX dX6_digestOfTowns_21 lX6_318 (by decide) ka0 io0 rfl (ct_X6_way en N5 c (((ukN5 22 (by decide)).trans wc)) (0) _ (by omega) (hc)) rfl rfl (by exact Nat.le_of_ble_eq_true rfl) (fun uv21 uN21 uh21 => ?_)
        obtain ⟨uv21_e, uk21⟩ := uh21
        have ukM21 := kc_t ukN5 uk21
        have ue21 : uv21 = orN (cW c x5) := uv21_e.trans ((if_pos (by omega)).trans (by rw [show 8 * 0 + x5 = x5 by omega]))
        subst ue21
        refine z_i2lW dX6_digestOfTowns_24 ?_
        refine z_ladd dX6_digestOfTowns_25 ?_
        refine z_lstore_n (fun y => [(0, rf en 0), (1, vl h), (3, vl y), (5, vi x5)]) [1, 2, 0, 3] dX6_digestOfTowns_26 (by decide) (fun _ => rfl) (fun x3_26 e3_26 => ?_)
        refine z_iconst dX6_digestOfTowns_27 ?_
        refine z_istore (fun y => [(0, rf en 0), (1, vl h), (3, vl x3_26), (5, vi x5), (6, vi y)]) [1, 2, 3, 4, 0] dX6_digestOfTowns_28 (by decide) (fun _ => rfl) (fun x6_28 e6_28 => ?_)
        have uL30 : ∀ (fu : Nat) (y3 : Int) (x6 : Int) (N30 : zW), (3 - x6).toNat < fu → (0 ≤ x6 ∧ x6 ≤ 3 ∧ kc M N30 ∧ y3 = itN (fun h k => 31 * h + w32 (hBy T (cW c) x5 k)) (31 * x3 + w32 (orN (cW c x5))) x6.toNat) → Z en kA cx mX6_digestOfTowns N30 30 [(0, rf en 0), (1, vl h), (3, vl y3), (5, vi x5), (6, vi x6)] [] := by
          intro fu
          induction fu with
          | zero => intro y3 x6 N30 uhf; exact absurd uhf (Nat.not_lt_zero _)
          | succ fu uih30 =>
            intro y3 x6 N30 uf30 uI30
            obtain ⟨uq4, uq5, ukN30, uq6⟩ := uI30
            refine z_iload 4 dX6_digestOfTowns_30 rfl ?_
            refine z_iconst dX6_digestOfTowns_32 ?_
            refine z_icmp_gt (tgt := 58) dX6_digestOfTowns_33 rfl (by omega) (fun uc33 => ?_) (fun uc33 => ?_)
            ·
              refine z_ldc2 (n := 31) dX6_digestOfTowns_58 kX6_269 rfl ?_
              refine z_lload_n 2 dX6_digestOfTowns_61 rfl ?_
              refine z_lmul dX6_digestOfTowns_62 ?_
              refine z_aload_n 0 dX6_digestOfTowns_63 rfl ?_
              refine z_bipush dX6_digestOfTowns_64 rfl ?_
              refine z_iconst dX6_digestOfTowns_66 ?_
              refine z_iload 3 dX6_digestOfTowns_67 rfl ?_
              refine z_vX dX6_digestOfTowns_69 lX6_315 (by decide) ka0 io0 rfl (ct_X6_reigns en N30 O2 T (N30 4) (N30 5) c A G K H S (N30 29) (N30 30) (N30 31) (N30 32) (N30 33) (N30 34) (((ukN30 2 (by decide)).trans wO2)) (((ukN30 3 (by decide)).trans wT)) rfl rfl (((ukN30 22 (by decide)).trans wc)) (((ukN30 24 (by decide)).trans wA)) (((ukN30 25 (by decide)).trans wG)) (((ukN30 26 (by decide)).trans wK)) (((ukN30 27 (by decide)).trans wH)) (((ukN30 28 (by decide)).trans wS)) rfl rfl rfl rfl rfl rfl (7) (5) _ (by omega) (hT) (hc) (hP)) rfl rfl (by exact Nat.le_of_ble_eq_true rfl) (fun uv69 uN69 uh69 => ?_)
              obtain ⟨uv69_e, uk69⟩ := uh69
              have ukM69 := kc_t ukN30 uk69
              have ue69 : uv69 = rgS T (cW c) (tP A G K H S) (O2 4) 7 x5 5 := uv69_e.trans ((if_pos (by omega)).trans rfl)
              subst ue69
              refine z_i2lW dX6_digestOfTowns_72 ?_
              refine z_ladd dX6_digestOfTowns_73 ?_
              refine z_lstore_n (fun y => [(0, rf en 0), (1, vl h), (3, vl y), (5, vi x5), (6, vi x6)]) [1, 2, 0, 3, 4] dX6_digestOfTowns_74 (by decide) (fun _ => rfl) (fun x3_74 e3_74 => ?_)
              refine z_iinc (fun y => [(0, rf en 0), (1, vl h), (3, vl x3_74), (5, vi y), (6, vi x6)]) [1, 2, 3, 0, 4] 3 dX6_digestOfTowns_75 rfl (by decide) (fun _ => rfl) (fun x5_75 e5_75 => ?_)
              refine z_goto (tgt := 5) dX6_digestOfTowns_78 rfl ?_
              refine z_lv [0, 1, 2, 3] [(0, rf en 0), (1, vl h), (3, vl x3_74), (5, vi x5_75)] rfl ?_
              exact uih5 x3_74 x5_75 uN69 (by omega) (⟨by omega, by omega, ukM69, by rw [itN_s _ _ uq1 e5_75, ← uq3, e3_74, uq6, show x6 = 3 by omega]; rfl⟩)
            ·
              refine z_ldc2 (n := 31) dX6_digestOfTowns_36 kX6_269 rfl ?_
              refine z_lload_n 2 dX6_digestOfTowns_39 rfl ?_
              refine z_lmul dX6_digestOfTowns_40 ?_
              refine z_aload_n 0 dX6_digestOfTowns_41 rfl ?_
              refine z_iload 3 dX6_digestOfTowns_42 rfl ?_
              refine z_iload 4 dX6_digestOfTowns_44 rfl ?_
              refine z_vX dX6_digestOfTowns_46 lX6_321 (by decide) ka0 io0 rfl (ct_X6_hears en N30 O2 T (N30 5) c A G K H S (N30 29) (N30 30) (N30 31) (N30 32) (N30 33) (N30 34) (((ukN30 2 (by decide)).trans wO2)) (((ukN30 3 (by decide)).trans wT)) rfl (((ukN30 22 (by decide)).trans wc)) (((ukN30 24 (by decide)).trans wA)) (((ukN30 25 (by decide)).trans wG)) (((ukN30 26 (by decide)).trans wK)) (((ukN30 27 (by decide)).trans wH)) (((ukN30 28 (by decide)).trans wS)) rfl rfl rfl rfl rfl rfl _ _ (by omega) (hT) (hc) (hP)) rfl rfl (by exact Nat.le_of_ble_eq_true rfl) (fun uv46 uN46 uh46 => ?_)
              obtain ⟨uv46_e, uk46⟩ := uh46
              have ukM46 := kc_t ukN30 uk46
              have ue46 : uv46 = hBy T (cW c) x5 x6 := uv46_e.trans (if_pos (by omega))
              subst ue46
              refine z_i2lW dX6_digestOfTowns_49 ?_
              refine z_ladd dX6_digestOfTowns_50 ?_
              refine z_lstore_n (fun y => [(0, rf en 0), (1, vl h), (3, vl y), (5, vi x5), (6, vi x6)]) [1, 2, 0, 3, 4] dX6_digestOfTowns_51 (by decide) (fun _ => rfl) (fun x3_51 e3_51 => ?_)
              refine z_iinc (fun y => [(0, rf en 0), (1, vl h), (3, vl x3_51), (5, vi x5), (6, vi y)]) [1, 2, 3, 4, 0] 4 dX6_digestOfTowns_52 rfl (by decide) (fun _ => rfl) (fun x6_52 e6_52 => ?_)
              refine z_goto (tgt := 30) dX6_digestOfTowns_55 rfl ?_
              exact uih30 x3_51 x6_52 uN46 (by omega) (⟨by omega, by omega, ukM46, by rw [itN_s _ _ uq4 e6_52, ← uq6, e3_51]⟩)
        exact uL30 _ x3_26 x6_28 uN21 (Nat.lt_succ_self _) (⟨by omega, by omega, ukM21, by rw [e3_26, e6_28]; rfl⟩)
  exact uL5 _ x3_1 x5_3 M (Nat.lt_succ_self _) (⟨by omega, by omega, kc_r M, by rw [e3_1, e5_3]; rfl⟩)
set_option maxRecDepth 100000 in
theorem ct_X6_digestOfRoads (en : zE) (M : zW) (O0 : Int → Int) (O1 : Int → Int) (O2 : Int → Int) (T : Int → Int) (T4 : Int → Int) (O5 : Int → Int) (O6 : Int → Int) (Q7 : Int → Int) (Q8 : Int → Int) (F : Int → Int) (Gt : Int → Int) (D : Int → Int) (c : Int → Int) (A : Int → Int) (G : Int → Int) (K : Int → Int) (H : Int → Int) (S : Int → Int) (P0 : Int → Int) (Hd : Int → Int) (Lw : Int → Int) (C0 : Int → Int) (E0 : Int → Int) (R0 : Int → Int) (g : Int → Int) (wt : Int → Int) (wO0 : M 0 = O0) (wO1 : M 1 = O1) (wO2 : M 2 = O2) (wT : M 3 = T) (wT4 : M 4 = T4) (wO5 : M 5 = O5) (wO6 : M 6 = O6) (wQ7 : M 7 = Q7) (wQ8 : M 8 = Q8) (wF : M 19 = F) (wGt : M 20 = Gt) (wD : M 21 = D) (wc : M 22 = c) (wA : M 24 = A) (wG : M 25 = G) (wK : M 26 = K) (wH : M 27 = H) (wS : M 28 = S) (wP0 : M 29 = P0) (wHd : M 30 = Hd) (wLw : M 31 = Lw) (wC0 : M 32 = C0) (wE0 : M 33 = E0) (wR0 : M 34 = R0) (wg : M 35 = g) (wwt : M 36 = wt) (h : Int) (hT : tOK T) (hc : wB c) (hP : (0 ≤ O2 4 ∧ O2 4 ≤ 8) ∧ pOK (tP A G K H S) (O2 4)) (hs : (0 ≤ O0 8 ∧ O0 8 ≤ 8) ∧ ∀ j, 0 ≤ j → j < O0 8 → (0 ≤ Q7 j ∧ Q7 j ≤ 7) ∧ (0 ≤ Q8 j ∧ Q8 j ≤ 1)) (hO : 0 ≤ O1 4 ∧ O1 4 ≤ 12) (hR : rdOK (tR F Gt D) (O1 4)) (h6 : w63 c) : Ct en kA yX6_digestOfRoads mX6_digestOfRoads [rf en 0, vl h] M (pJ (itN (dR (tR F Gt D)) h (O1 4).toNat) M) := by
  refine Ct.of (by decide +kernel) rfl [(0, rf en 0), (1, vl h)] rfl (Nat.le_of_ble_eq_true rfl) (fun cx C => ?_)
  refine z_lload_n 1 dX6_digestOfRoads_0 rfl ?_
  refine z_lstore_n (fun y => [(0, rf en 0), (1, vl h), (3, vl y)]) [1, 2, 0] dX6_digestOfRoads_1 (by decide) (fun _ => rfl) (fun x3_1 e3_1 => ?_)
  refine z_iconst dX6_digestOfRoads_2 ?_
  refine z_istore (fun y => [(0, rf en 0), (1, vl h), (3, vl x3_1), (5, vi y)]) [1, 2, 3, 0] dX6_digestOfRoads_3 (by decide) (fun _ => rfl) (fun x5_3 e5_3 => ?_)
  have uL5 : ∀ (fu : Nat) (x3 : Int) (x5 : Int), (12 - x5).toNat < fu → (0 ≤ x5 ∧ x5 ≤ O1 4 ∧ x3 = itN (dR (tR F Gt D)) h x5.toNat) → Z en kA cx mX6_digestOfRoads M 5 [(0, rf en 0), (1, vl h), (3, vl x3), (5, vi x5)] [] := by
    intro fu
    induction fu with
    | zero => intro x3 x5 uhf; exact absurd uhf (Nat.not_lt_zero _)
    | succ fu uih5 =>
      intro x3 x5 uf5 uI5
      obtain ⟨uq1, uq2, uq3⟩ := uI5
      refine z_iload 3 dX6_digestOfRoads_5 rfl ?_
      refine z_aload_n 0 dX6_digestOfRoads_7 rfl ?_
      refine z_getR dX6_digestOfRoads_8 fX6_10_5 i0_0 ka0 ?_
      refine z_getI (r := O1) 4 rfl dX6_digestOfRoads_11 fX6_88_3 i1_4 ka1 (wO1) ?_
      refine z_icmp_ge (tgt := 54) dX6_digestOfRoads_14 rfl (by omega) (fun uc14 => ?_) (fun uc14 => ?_)
      ·
        refine z_lload_n 2 dX6_digestOfRoads_54 rfl ?_
        exact z_lret C dX6_digestOfRoads_55 rfl ⟨congrArg (fun z => some (vl z)) (by rw [uq3, show x5 = O1 4 by omega]), rfl⟩
      ·
        refine z_iconst dX6_digestOfRoads_17 ?_
        refine z_istore (fun y => [(0, rf en 0), (1, vl h), (3, vl x3), (5, vi x5), (6, vi y)]) [1, 2, 3, 4, 0] dX6_digestOfRoads_18 (by decide) (fun _ => rfl) (fun x6_18 e6_18 => ?_)
        have uL20 : ∀ (fu : Nat) (y3 : Int) (x6 : Int), (3 - x6).toNat < fu → (0 ≤ x6 ∧ x6 ≤ 3 ∧ y3 = itN (fun h k => 31 * h + w32 (tR F Gt D (3 * x5 + k))) x3 x6.toNat) → Z en kA cx mX6_digestOfRoads M 20 [(0, rf en 0), (1, vl h), (3, vl y3), (5, vi x5), (6, vi x6)] [] := by
          intro fu
          induction fu with
          | zero => intro y3 x6 uhf; exact absurd uhf (Nat.not_lt_zero _)
          | succ fu uih20 =>
            intro y3 x6 uf20 uI20
            obtain ⟨uq4, uq5, uq6⟩ := uI20
            refine z_iload 4 dX6_digestOfRoads_20 rfl ?_
            refine z_iconst dX6_digestOfRoads_22 ?_
            refine z_icmp_gt (tgt := 48) dX6_digestOfRoads_23 rfl (by omega) (fun uc23 => ?_) (fun uc23 => ?_)
            ·
              refine z_iinc (fun y => [(0, rf en 0), (1, vl h), (3, vl y3), (5, vi y), (6, vi x6)]) [1, 2, 3, 0, 4] 3 dX6_digestOfRoads_48 rfl (by decide) (fun _ => rfl) (fun x5_48 e5_48 => ?_)
              refine z_goto (tgt := 5) dX6_digestOfRoads_51 rfl ?_
              refine z_lv [0, 1, 2, 3] [(0, rf en 0), (1, vl h), (3, vl y3), (5, vi x5_48)] rfl ?_
              exact uih5 y3 x5_48 (by omega) (⟨by omega, by omega, by rw [itN_s _ _ uq1 e5_48, ← uq3, uq6, show x6 = 3 by omega]; rfl⟩)
            ·
              refine z_ldc2 (n := 31) dX6_digestOfRoads_26 kX6_269 rfl ?_
              refine z_lload_n 2 dX6_digestOfRoads_29 rfl ?_
              refine z_lmul dX6_digestOfRoads_30 ?_
              refine z_aload_n 0 dX6_digestOfRoads_31 rfl ?_
              refine z_iload 3 dX6_digestOfRoads_32 rfl ?_
              refine z_iload 4 dX6_digestOfRoads_34 rfl ?_
              refine z_vI dX6_digestOfRoads_36 lX6_324 (by decide) ka0 io0 rfl (ct_X6_road en M O1 F Gt D wO1 wF wGt wD _ _ (by omega) (hO)) rfl rfl (by exact Nat.le_of_ble_eq_true rfl) ?_
              refine z_i2lW dX6_digestOfRoads_39 ?_
              refine z_ladd dX6_digestOfRoads_40 ?_
              refine z_lstore_n (fun y => [(0, rf en 0), (1, vl h), (3, vl y), (5, vi x5), (6, vi x6)]) [1, 2, 0, 3, 4] dX6_digestOfRoads_41 (by decide) (fun _ => rfl) (fun x3_41 e3_41 => ?_)
              refine z_iinc (fun y => [(0, rf en 0), (1, vl h), (3, vl x3_41), (5, vi x5), (6, vi y)]) [1, 2, 3, 4, 0] 4 dX6_digestOfRoads_42 rfl (by decide) (fun _ => rfl) (fun x6_42 e6_42 => ?_)
              refine z_goto (tgt := 20) dX6_digestOfRoads_45 rfl ?_
              exact uih20 x3_41 x6_42 (by omega) (⟨by omega, by omega, by rw [itN_s _ _ uq4 e6_42, ← uq6, e3_41, if_pos (by omega)]⟩)
        exact uL20 _ x3 x6_18 (Nat.lt_succ_self _) (⟨by omega, by omega, by rw [e6_18]; rfl⟩)
  exact uL5 _ x3_1 x5_3 (Nat.lt_succ_self _) (⟨by omega, by omega, by rw [e3_1, e5_3]; rfl⟩)
set_option maxRecDepth 100000 in
theorem ct_X6_digestOfPersons (en : zE) (M : zW) (O0 : Int → Int) (O1 : Int → Int) (O2 : Int → Int) (T : Int → Int) (T4 : Int → Int) (O5 : Int → Int) (O6 : Int → Int) (Q7 : Int → Int) (Q8 : Int → Int) (F : Int → Int) (Gt : Int → Int) (D : Int → Int) (c : Int → Int) (A : Int → Int) (G : Int → Int) (K : Int → Int) (H : Int → Int) (S : Int → Int) (P0 : Int → Int) (Hd : Int → Int) (Lw : Int → Int) (C0 : Int → Int) (E0 : Int → Int) (R0 : Int → Int) (g : Int → Int) (wt : Int → Int) (wO0 : M 0 = O0) (wO1 : M 1 = O1) (wO2 : M 2 = O2) (wT : M 3 = T) (wT4 : M 4 = T4) (wO5 : M 5 = O5) (wO6 : M 6 = O6) (wQ7 : M 7 = Q7) (wQ8 : M 8 = Q8) (wF : M 19 = F) (wGt : M 20 = Gt) (wD : M 21 = D) (wc : M 22 = c) (wA : M 24 = A) (wG : M 25 = G) (wK : M 26 = K) (wH : M 27 = H) (wS : M 28 = S) (wP0 : M 29 = P0) (wHd : M 30 = Hd) (wLw : M 31 = Lw) (wC0 : M 32 = C0) (wE0 : M 33 = E0) (wR0 : M 34 = R0) (wg : M 35 = g) (wwt : M 36 = wt) (h : Int) (hT : tOK T) (hc : wB c) (hP : (0 ≤ O2 4 ∧ O2 4 ≤ 8) ∧ pOK (tP A G K H S) (O2 4)) (hs : (0 ≤ O0 8 ∧ O0 8 ≤ 8) ∧ ∀ j, 0 ≤ j → j < O0 8 → (0 ≤ Q7 j ∧ Q7 j ≤ 7) ∧ (0 ≤ Q8 j ∧ Q8 j ≤ 1)) (hO : 0 ≤ O1 4 ∧ O1 4 ≤ 12) (hR : rdOK (tR F Gt D) (O1 4)) (h6 : w63 c) : Ct en kA yX6_digestOfPersons mX6_digestOfPersons [rf en 0, vl h] M (pY (fun x N => x = itN (dP T (cW c) (tP A G K H S) (O2 4)) h (O2 4).toNat ∧ kc M N)) := by
  refine Ct.of (by decide +kernel) rfl [(0, rf en 0), (1, vl h)] rfl (Nat.le_of_ble_eq_true rfl) (fun cx C => ?_)
  refine z_lload_n 1 dX6_digestOfPersons_0 rfl ?_
  refine z_lstore_n (fun y => [(0, rf en 0), (1, vl h), (3, vl y)]) [1, 2, 0] dX6_digestOfPersons_1 (by decide) (fun _ => rfl) (fun x3_1 e3_1 => ?_)
  refine z_iconst dX6_digestOfPersons_2 ?_
  refine z_istore (fun y => [(0, rf en 0), (1, vl h), (3, vl x3_1), (5, vi y)]) [1, 2, 3, 0] dX6_digestOfPersons_3 (by decide) (fun _ => rfl) (fun x5_3 e5_3 => ?_)
  have uL5 : ∀ (fu : Nat) (x3 : Int) (x5 : Int) (N5 : zW), (8 - x5).toNat < fu → (0 ≤ x5 ∧ x5 ≤ O2 4 ∧ kc M N5 ∧ x3 = itN (dP T (cW c) (tP A G K H S) (O2 4)) h x5.toNat) → Z en kA cx mX6_digestOfPersons N5 5 [(0, rf en 0), (1, vl h), (3, vl x3), (5, vi x5)] [] := by
    intro fu
    induction fu with
    | zero => intro x3 x5 N5 uhf; exact absurd uhf (Nat.not_lt_zero _)
    | succ fu uih5 =>
      intro x3 x5 N5 uf5 uI5
      obtain ⟨uq1, uq2, ukN5, uq3⟩ := uI5
      refine z_iload 3 dX6_digestOfPersons_5 rfl ?_
      refine z_aload_n 0 dX6_digestOfPersons_7 rfl ?_
      refine z_getR dX6_digestOfPersons_8 fX6_19_5 i0_1 ka0 ?_
      refine z_getI (r := O2) 4 rfl dX6_digestOfPersons_11 fX6_255_2 i2_4 ka2 (((ukN5 2 (by decide)).trans wO2)) ?_
      refine z_icmp_ge (tgt := 85) dX6_digestOfPersons_14 rfl (by omega) (fun uc14 => ?_) (fun uc14 => ?_)
      ·
        refine z_lload_n 2 dX6_digestOfPersons_85 rfl ?_
        exact z_lret C dX6_digestOfPersons_86 rfl ⟨_, rfl, ⟨by rw [uq3, show x5 = O2 4 by omega], ukN5⟩⟩
      ·
        refine z_iconst dX6_digestOfPersons_17 ?_
        refine z_istore (fun y => [(0, rf en 0), (1, vl h), (3, vl x3), (5, vi x5), (6, vi y)]) [1, 2, 3, 4, 0] dX6_digestOfPersons_18 (by decide) (fun _ => rfl) (fun x6_18 e6_18 => ?_)
        have uL20 : ∀ (fu : Nat) (y3 : Int) (x6 : Int), (5 - x6).toNat < fu → (0 ≤ x6 ∧ x6 ≤ 5 ∧ y3 = itN (fun h k => 31 * h + w32 (tP A G K H S (5 * x5 + k))) x3 x6.toNat) → Z en kA cx mX6_digestOfPersons N5 20 [(0, rf en 0), (1, vl h), (3, vl y3), (5, vi x5), (6, vi x6)] [] := by
          intro fu
          induction fu with
          | zero => intro y3 x6 uhf; exact absurd uhf (Nat.not_lt_zero _)
          | succ fu uih20 =>
            intro y3 x6 uf20 uI20
            obtain ⟨uq4, uq5, uq6⟩ := uI20
            refine z_iload 4 dX6_digestOfPersons_20 rfl ?_
            refine z_iconst dX6_digestOfPersons_22 ?_
            refine z_icmp_gt (tgt := 48) dX6_digestOfPersons_23 rfl (by omega) (fun uc23 => ?_) (fun uc23 => ?_)
            ·
              refine z_iconst dX6_digestOfPersons_48 ?_
              refine z_istore (fun y => [(0, rf en 0), (1, vl h), (3, vl y3), (5, vi x5), (6, vi y)]) [1, 2, 3, 4, 0] dX6_digestOfPersons_49 (by decide) (fun _ => rfl) (fun x6_49 e6_49 => ?_)
              have uL51 : ∀ (fu : Nat) (z3 : Int) (y6 : Int) (N51 : zW), (3 - y6).toNat < fu → (0 ≤ y6 ∧ y6 ≤ 3 ∧ kc M N51 ∧ z3 = itN (fun h k => 31 * h + w32 (riV T (cW c) (tP A G K H S) (O2 4) x5 k)) y3 y6.toNat) → Z en kA cx mX6_digestOfPersons N51 51 [(0, rf en 0), (1, vl h), (3, vl z3), (5, vi x5), (6, vi y6)] [] := by
                intro fu
                induction fu with
                | zero => intro z3 y6 N51 uhf; exact absurd uhf (Nat.not_lt_zero _)
                | succ fu uih51 =>
                  intro z3 y6 N51 uf51 uI51
                  obtain ⟨uq7, uq8, ukN51, uq9⟩ := uI51
                  refine z_iload 4 dX6_digestOfPersons_51 rfl ?_
                  refine z_iconst dX6_digestOfPersons_53 ?_
                  refine z_icmp_gt (tgt := 79) dX6_digestOfPersons_54 rfl (by omega) (fun uc54 => ?_) (fun uc54 => ?_)
                  ·
                    refine z_iinc (fun y => [(0, rf en 0), (1, vl h), (3, vl z3), (5, vi y), (6, vi y6)]) [1, 2, 3, 0, 4] 3 dX6_digestOfPersons_79 rfl (by decide) (fun _ => rfl) (fun x5_79 e5_79 => ?_)
                    refine z_goto (tgt := 5) dX6_digestOfPersons_82 rfl ?_
                    refine z_lv [0, 1, 2, 3] [(0, rf en 0), (1, vl h), (3, vl z3), (5, vi x5_79)] rfl ?_
                    exact uih5 z3 x5_79 N51 (by omega) (⟨by omega, by omega, ukN51, by rw [itN_s _ _ uq1 e5_79, ← uq3, uq9, show y6 = 3 by omega, uq6, show x6 = 5 by omega]; rfl⟩)
                  ·
                    refine z_ldc2 (n := 31) dX6_digestOfPersons_57 kX6_269 rfl ?_
                    refine z_lload_n 2 dX6_digestOfPersons_60 rfl ?_
                    refine z_lmul dX6_digestOfPersons_61 ?_
                    refine z_aload_n 0 dX6_digestOfPersons_62 rfl ?_
                    refine z_iload 3 dX6_digestOfPersons_63 rfl ?_
                    refine z_iload 4 dX6_digestOfPersons_65 rfl ?_
                    refine z_vX dX6_digestOfPersons_67 lX6_330 (by decide) ka0 io0 rfl (ct_X6_rides en N51 O2 T (N51 5) c A G K H S (N51 29) (N51 30) (N51 31) (N51 32) (N51 33) (N51 34) (((ukN51 2 (by decide)).trans wO2)) (((ukN51 3 (by decide)).trans wT)) rfl (((ukN51 22 (by decide)).trans wc)) (((ukN51 24 (by decide)).trans wA)) (((ukN51 25 (by decide)).trans wG)) (((ukN51 26 (by decide)).trans wK)) (((ukN51 27 (by decide)).trans wH)) (((ukN51 28 (by decide)).trans wS)) rfl rfl rfl rfl rfl rfl _ _ (by omega) (hT) (hc) (hP)) rfl rfl (by exact Nat.le_of_ble_eq_true rfl) (fun uv67 uN67 uh67 => ?_)
                    obtain ⟨uv67_e, uk67⟩ := uh67
                    have ukM67 := kc_t ukN51 uk67
                    have ue67 : uv67 = riV T (cW c) (tP A G K H S) (O2 4) x5 y6 := uv67_e.trans ((if_pos (by omega)).trans rfl)
                    subst ue67
                    refine z_i2lW dX6_digestOfPersons_70 ?_
                    refine z_ladd dX6_digestOfPersons_71 ?_
                    refine z_lstore_n (fun y => [(0, rf en 0), (1, vl h), (3, vl y), (5, vi x5), (6, vi y6)]) [1, 2, 0, 3, 4] dX6_digestOfPersons_72 (by decide) (fun _ => rfl) (fun x3_72 e3_72 => ?_)
                    refine z_iinc (fun y => [(0, rf en 0), (1, vl h), (3, vl x3_72), (5, vi x5), (6, vi y)]) [1, 2, 3, 4, 0] 4 dX6_digestOfPersons_73 rfl (by decide) (fun _ => rfl) (fun x6_73 e6_73 => ?_)
                    refine z_goto (tgt := 51) dX6_digestOfPersons_76 rfl ?_
                    exact uih51 x3_72 x6_73 uN67 (by omega) (⟨by omega, by omega, ukM67, by rw [itN_s _ _ uq7 e6_73, ← uq9, e3_72]⟩)
              exact uL51 _ y3 x6_49 N5 (Nat.lt_succ_self _) (⟨by omega, by omega, ukN5, by rw [e6_49]; rfl⟩)
            ·
              refine z_ldc2 (n := 31) dX6_digestOfPersons_26 kX6_269 rfl ?_
              refine z_lload_n 2 dX6_digestOfPersons_29 rfl ?_
              refine z_lmul dX6_digestOfPersons_30 ?_
              refine z_aload_n 0 dX6_digestOfPersons_31 rfl ?_
              refine z_iload 3 dX6_digestOfPersons_32 rfl ?_
              refine z_iload 4 dX6_digestOfPersons_34 rfl ?_
              refine z_vI dX6_digestOfPersons_36 lX6_327 (by decide) ka0 io0 rfl (ct_X6_person en N5 O2 A G K H S (((ukN5 2 (by decide)).trans wO2)) (((ukN5 24 (by decide)).trans wA)) (((ukN5 25 (by decide)).trans wG)) (((ukN5 26 (by decide)).trans wK)) (((ukN5 27 (by decide)).trans wH)) (((ukN5 28 (by decide)).trans wS)) _ _ (by omega) (hP.1)) rfl rfl (by exact Nat.le_of_ble_eq_true rfl) ?_
              refine z_i2lW dX6_digestOfPersons_39 ?_
              refine z_ladd dX6_digestOfPersons_40 ?_
              refine z_lstore_n (fun y => [(0, rf en 0), (1, vl h), (3, vl y), (5, vi x5), (6, vi x6)]) [1, 2, 0, 3, 4] dX6_digestOfPersons_41 (by decide) (fun _ => rfl) (fun x3_41 e3_41 => ?_)
              refine z_iinc (fun y => [(0, rf en 0), (1, vl h), (3, vl x3_41), (5, vi x5), (6, vi y)]) [1, 2, 3, 4, 0] 4 dX6_digestOfPersons_42 rfl (by decide) (fun _ => rfl) (fun x6_42 e6_42 => ?_)
              refine z_goto (tgt := 20) dX6_digestOfPersons_45 rfl ?_
              exact uih20 x3_41 x6_42 (by omega) (⟨by omega, by omega, by rw [itN_s _ _ uq4 e6_42, ← uq6, e3_41, if_pos (by omega)]⟩)
        exact uL20 _ x3 x6_18 (Nat.lt_succ_self _) (⟨by omega, by omega, by rw [e6_18]; rfl⟩)
  exact uL5 _ x3_1 x5_3 M (Nat.lt_succ_self _) (⟨by omega, by omega, kc_r M, by rw [e3_1, e5_3]; rfl⟩)
set_option maxRecDepth 100000 in
set_option maxHeartbeats 1000000 in
theorem ct_X6_digest (en : zE) (M : zW) (O0 : Int → Int) (O1 : Int → Int) (O2 : Int → Int) (T : Int → Int) (T4 : Int → Int) (O5 : Int → Int) (O6 : Int → Int) (Q7 : Int → Int) (Q8 : Int → Int) (F : Int → Int) (Gt : Int → Int) (D : Int → Int) (c : Int → Int) (A : Int → Int) (G : Int → Int) (K : Int → Int) (H : Int → Int) (S : Int → Int) (P0 : Int → Int) (Hd : Int → Int) (Lw : Int → Int) (C0 : Int → Int) (E0 : Int → Int) (R0 : Int → Int) (g : Int → Int) (wt : Int → Int) (wO0 : M 0 = O0) (wO1 : M 1 = O1) (wO2 : M 2 = O2) (wT : M 3 = T) (wT4 : M 4 = T4) (wO5 : M 5 = O5) (wO6 : M 6 = O6) (wQ7 : M 7 = Q7) (wQ8 : M 8 = Q8) (wF : M 19 = F) (wGt : M 20 = Gt) (wD : M 21 = D) (wc : M 22 = c) (wA : M 24 = A) (wG : M 25 = G) (wK : M 26 = K) (wH : M 27 = H) (wS : M 28 = S) (wP0 : M 29 = P0) (wHd : M 30 = Hd) (wLw : M 31 = Lw) (wC0 : M 32 = C0) (wE0 : M 33 = E0) (wR0 : M 34 = R0) (wg : M 35 = g) (wwt : M 36 = wt) (hT : tOK T) (hc : wB c) (hP : (0 ≤ O2 4 ∧ O2 4 ≤ 8) ∧ pOK (tP A G K H S) (O2 4)) (hs : (0 ≤ O0 8 ∧ O0 8 ≤ 8) ∧ ∀ j, 0 ≤ j → j < O0 8 → (0 ≤ Q7 j ∧ Q7 j ≤ 7) ∧ (0 ≤ Q8 j ∧ Q8 j ≤ 1)) (hO : 0 ≤ O1 4 ∧ O1 4 ≤ 12) (hR : rdOK (tR F Gt D) (O1 4)) (h6 : w63 c) : Ct en kA yX6_digest mX6_digest [rf en 0] M (pY (fun x N => x = dgV (cnC O0 O1 O2 T (cW c) (tP A G K H S)) (O1 3) (O2 3) T (cW c) (tP A G K H S) (O2 4) (tR F Gt D) (O1 4) [w32 (orN (crO T (cW c))), w32 ((knB T (cW c) 5 8 : Int)), w32 (wns T (cW c) (tP A G K H S) (O2 4)), w32 (lsO T (cW c) (tP A G K H S) (O2 4) (O2 4).toNat), w32 ((pcw (twS (enX (up T 5 0) (cW c) (tP A G K H S) (O2 4)) A S 8) : Int)), w32 ((twS (enX (up T 5 0) (cW c) (tP A G K H S) (O2 4)) A S 8 : Int)), w32 ((plS T (cW c) (tP A G K H S) (O2 4) 8).1), w32 ((plS T (cW c) (tP A G K H S) (O2 4) 8).2.1), w32 ((ltS T (cW c) (tP A G K H S) (O2 4) 10).1), w32 ((ltS T (cW c) (tP A G K H S) (O2 4) 10).2), w32 ((fiS T (cW c) (tP A G K H S) (O2 4) (sgC Q7 Q8) (O0 8).toNat 2 10 : Int)), w32 ((fiS T (cW c) (tP A G K H S) (O2 4) (sgC Q7 Q8) (O0 8).toNat 0 8 : Int)), w32 ((akM (fun t => mCx (kyC c t) (fiS T (cW c) (tP A G K H S) (O2 4) (sgC Q7 Q8) (O0 8).toNat 0 8 : Int) 8) 7).1), otV T (tR F Gt D) (O1 4).toNat 5 3 9 0, otV T (tR F Gt D) (O1 4).toNat 5 3 9 1, w32 (rgS T (cW c) (tP A G K H S) (O2 4) 7 (-1) 5)] ∧ kc M N)) := by
  refine Ct.of (by decide +kernel) rfl [(0, rf en 0)] rfl (Nat.le_of_ble_eq_true rfl) (fun cx C => ?_)
  refine z_ldc2 (n := 17) dX6_digest_0 kX6_267 rfl ?_
  refine z_lstore_n (fun y => [(0, rf en 0), (1, vl y)]) [1, 0] dX6_digest_3 (by decide) (fun _ => rfl) (fun x1_3 e1_3 => ?_)
  refine z_iconst dX6_digest_4 ?_
  refine z_istore_n (fun y => [(0, rf en 0), (1, vl x1_3), (3, vi y)]) [1, 2, 0] dX6_digest_5 (by decide) (fun _ => rfl) (fun x3_5 e3_5 => ?_)
  have uL6 : ∀ (fu : Nat) (x1 : Int) (x3 : Int) (N6 : zW), (8 - x3).toNat < fu → (0 ≤ x3 ∧ x3 ≤ 8 ∧ kc M N6 ∧ x1 = itN (fun h k => 31 * h + w32 ((cnC O0 O1 O2 T (cW c) (tP A G K H S)) k)) 17 x3.toNat) → Z en kA cx mX6_digest N6 6 [(0, rf en 0), (1, vl x1), (3, vi x3)] [] := by
    intro fu
    induction fu with
    | zero => intro x1 x3 N6 uhf; exact absurd uhf (Nat.not_lt_zero _)
    | succ fu uih6 =>
      intro x1 x3 N6 uf6 uI6
      obtain ⟨uq1, uq2, ukN6, uq3⟩ := uI6
      refine z_iload_n 2 dX6_digest_6 rfl ?_
      refine z_bipush dX6_digest_7 rfl ?_
      refine z_icmp_gt (tgt := 31) dX6_digest_9 rfl (by omega) (fun uc9 => ?_) (fun uc9 => ?_)
      ·
        have uq4 : x1 = itN (fun h k => 31 * h + w32 ((cnC O0 O1 O2 T (cW c) (tP A G K H S)) k)) 17 8 := by rw [uq3, show x3 = 8 by omega]; rfl
        refine z_ldc2 (n := 31) dX6_digest_31 kX6_269 rfl ?_
        refine z_lload_n 1 dX6_digest_34 rfl ?_
        refine z_lmul dX6_digest_35 ?_
        refine z_aload_n 0 dX6_digest_36 rfl ?_
        refine z_iconst dX6_digest_37 ?_
        refine z_vI dX6_digest_38 lX6_274 (by decide) ka0 io0 rfl (ct_X6_fault en N6 O1 O2 (((ukN6 1 (by decide)).trans wO1)) (((ukN6 2 (by decide)).trans wO2)) (0) (by omega)) rfl rfl (by exact Nat.le_of_ble_eq_true rfl) ?_
        refine z_i2lW dX6_digest_41 ?_
        refine z_ladd dX6_digest_42 ?_
        refine z_lstore_n (fun y => [(0, rf en 0), (1, vl y), (3, vi x3)]) [1, 0, 2] dX6_digest_43 (by decide) (fun _ => rfl) (fun x1_43 e1_43 => ?_)
        refine z_ldc2 (n := 31) dX6_digest_44 kX6_269 rfl ?_
        refine z_lload_n 1 dX6_digest_47 rfl ?_
        refine z_lmul dX6_digest_48 ?_
        refine z_aload_n 0 dX6_digest_49 rfl ?_
        refine z_iconst dX6_digest_50 ?_
        refine z_vI dX6_digest_51 lX6_274 (by decide) ka0 io0 rfl (ct_X6_fault en N6 O1 O2 (((ukN6 1 (by decide)).trans wO1)) (((ukN6 2 (by decide)).trans wO2)) (1) (by omega)) rfl rfl (by exact Nat.le_of_ble_eq_true rfl) ?_
        refine z_i2lW dX6_digest_54 ?_
        refine z_ladd dX6_digest_55 ?_
        refine z_lstore_n (fun y => [(0, rf en 0), (1, vl y), (3, vi x3)]) [1, 0, 2] dX6_digest_56 (by decide) (fun _ => rfl) (fun x1_56 e1_56 => ?_)
        refine z_aload_n 0 dX6_digest_57 rfl ?_
        refine z_lload_n 1 dX6_digest_58 rfl ?_
        refine z_vY dX6_digest_59 lX6_277 (by decide) ka0 io0 rfl (ct_X6_digestOfTowns en N6 O0 O1 O2 T (N6 4) (N6 5) (N6 6) Q7 Q8 F Gt D c A G K H S (N6 29) (N6 30) (N6 31) (N6 32) (N6 33) (N6 34) (N6 35) (N6 36) (((ukN6 0 (by decide)).trans wO0)) (((ukN6 1 (by decide)).trans wO1)) (((ukN6 2 (by decide)).trans wO2)) (((ukN6 3 (by decide)).trans wT)) rfl rfl rfl (((ukN6 7 (by decide)).trans wQ7)) (((ukN6 8 (by decide)).trans wQ8)) (((ukN6 19 (by decide)).trans wF)) (((ukN6 20 (by decide)).trans wGt)) (((ukN6 21 (by decide)).trans wD)) (((ukN6 22 (by decide)).trans wc)) (((ukN6 24 (by decide)).trans wA)) (((ukN6 25 (by decide)).trans wG)) (((ukN6 26 (by decide)).trans wK)) (((ukN6 27 (by decide)).trans wH)) (((ukN6 28 (by decide)).trans wS)) rfl rfl rfl rfl rfl rfl rfl rfl _ (hT) (hc) (hP) (hs) (hO) (hR) (h6)) rfl rfl (by exact Nat.le_of_ble_eq_true rfl) (fun uv59 uN59 uh59 => ?_)
        obtain ⟨uv59_e, uk59⟩ := uh59
        have ukM59 := kc_t ukN6 uk59
        have ue59 : uv59 = itN (dT T (cW c) (tP A G K H S) (O2 4)) (31 * (31 * itN (fun h k => 31 * h + w32 ((cnC O0 O1 O2 T (cW c) (tP A G K H S)) k)) 17 8 + w32 (O1 3)) + w32 (O2 3)) 8 := uv59_e.trans (by rw [e1_56, e1_43, uq4]; rfl)
        subst ue59
        refine z_lstore_n (fun y => [(0, rf en 0), (1, vl y), (3, vi x3)]) [1, 0, 2] dX6_digest_62 (by decide) (fun _ => rfl) (fun x1_62 e1_62 => ?_)
        refine z_aload_n 0 dX6_digest_63 rfl ?_
        refine z_lload_n 1 dX6_digest_64 rfl ?_
        refine z_vJ dX6_digest_65 lX6_281 (by decide) ka0 io0 rfl (ct_X6_digestOfRoads en uN59 O0 O1 O2 T (uN59 4) (uN59 5) (uN59 6) Q7 Q8 F Gt D c A G K H S (uN59 29) (uN59 30) (uN59 31) (uN59 32) (uN59 33) (uN59 34) (uN59 35) (uN59 36) (((ukM59 0 (by decide)).trans wO0)) (((ukM59 1 (by decide)).trans wO1)) (((ukM59 2 (by decide)).trans wO2)) (((ukM59 3 (by decide)).trans wT)) rfl rfl rfl (((ukM59 7 (by decide)).trans wQ7)) (((ukM59 8 (by decide)).trans wQ8)) (((ukM59 19 (by decide)).trans wF)) (((ukM59 20 (by decide)).trans wGt)) (((ukM59 21 (by decide)).trans wD)) (((ukM59 22 (by decide)).trans wc)) (((ukM59 24 (by decide)).trans wA)) (((ukM59 25 (by decide)).trans wG)) (((ukM59 26 (by decide)).trans wK)) (((ukM59 27 (by decide)).trans wH)) (((ukM59 28 (by decide)).trans wS)) rfl rfl rfl rfl rfl rfl rfl rfl _ (hT) (hc) (hP) (hs) (hO) (hR) (h6)) rfl rfl (by exact Nat.le_of_ble_eq_true rfl) ?_
        refine z_lstore_n (fun y => [(0, rf en 0), (1, vl y), (3, vi x3)]) [1, 0, 2] dX6_digest_68 (by decide) (fun _ => rfl) (fun x1_68 e1_68 => ?_)
        refine z_aload_n 0 dX6_digest_69 rfl ?_
        refine z_lload_n 1 dX6_digest_70 rfl ?_
        refine z_vY dX6_digest_71 lX6_284 (by decide) ka0 io0 rfl (ct_X6_digestOfPersons en uN59 O0 O1 O2 T (uN59 4) (uN59 5) (uN59 6) Q7 Q8 F Gt D c A G K H S (uN59 29) (uN59 30) (uN59 31) (uN59 32) (uN59 33) (uN59 34) (uN59 35) (uN59 36) (((ukM59 0 (by decide)).trans wO0)) (((ukM59 1 (by decide)).trans wO1)) (((ukM59 2 (by decide)).trans wO2)) (((ukM59 3 (by decide)).trans wT)) rfl rfl rfl (((ukM59 7 (by decide)).trans wQ7)) (((ukM59 8 (by decide)).trans wQ8)) (((ukM59 19 (by decide)).trans wF)) (((ukM59 20 (by decide)).trans wGt)) (((ukM59 21 (by decide)).trans wD)) (((ukM59 22 (by decide)).trans wc)) (((ukM59 24 (by decide)).trans wA)) (((ukM59 25 (by decide)).trans wG)) (((ukM59 26 (by decide)).trans wK)) (((ukM59 27 (by decide)).trans wH)) (((ukM59 28 (by decide)).trans wS)) rfl rfl rfl rfl rfl rfl rfl rfl _ (hT) (hc) (hP) (hs) (hO) (hR) (h6)) rfl rfl (by exact Nat.le_of_ble_eq_true rfl) (fun uv71 uN71 uh71 => ?_)
        obtain ⟨uv71_e, uk71⟩ := uh71
        have ukM71 := kc_t ukM59 uk71
        have ue71 : uv71 = itN (dP T (cW c) (tP A G K H S) (O2 4)) (itN (dR (tR F Gt D)) (itN (dT T (cW c) (tP A G K H S) (O2 4)) (31 * (31 * itN (fun h k => 31 * h + w32 ((cnC O0 O1 O2 T (cW c) (tP A G K H S)) k)) 17 8 + w32 (O1 3)) + w32 (O2 3)) 8) (O1 4).toNat) (O2 4).toNat := uv71_e.trans (by rw [e1_68, e1_62])
        subst ue71
        refine z_lstore_n (fun y => [(0, rf en 0), (1, vl y), (3, vi x3)]) [1, 0, 2] dX6_digest_74 (by decide) (fun _ => rfl) (fun x1_74 e1_74 => ?_)
        refine z_ldc2 (n := 31) dX6_digest_75 kX6_269 rfl ?_
        refine z_lload_n 1 dX6_digest_78 rfl ?_
        refine z_lmul dX6_digest_79 ?_
        refine z_aload_n 0 dX6_digest_80 rfl ?_
        refine z_vX dX6_digest_81 lX6_287 (by decide) ka0 io0 rfl (ct_X6_crowned en uN71 O2 T (uN71 5) c A G K H S (uN71 29) (uN71 30) (uN71 31) (uN71 32) (uN71 33) (uN71 34) (((ukM71 2 (by decide)).trans wO2)) (((ukM71 3 (by decide)).trans wT)) rfl (((ukM71 22 (by decide)).trans wc)) (((ukM71 24 (by decide)).trans wA)) (((ukM71 25 (by decide)).trans wG)) (((ukM71 26 (by decide)).trans wK)) (((ukM71 27 (by decide)).trans wH)) (((ukM71 28 (by decide)).trans wS)) rfl rfl rfl rfl rfl rfl (hT) (hc) (hP)) rfl rfl (by exact Nat.le_of_ble_eq_true rfl) (fun uv81 uN81 uh81 => ?_)
        obtain ⟨uv81_e, uk81⟩ := uh81
        have ukM81 := kc_t ukM71 uk81
        have ue81 : uv81 = orN (crO T (cW c)) := uv81_e.trans (rfl)
        subst ue81
        refine z_i2lW dX6_digest_84 ?_
        refine z_ladd dX6_digest_85 ?_
        refine z_lstore_n (fun y => [(0, rf en 0), (1, vl y), (3, vi x3)]) [1, 0, 2] dX6_digest_86 (by decide) (fun _ => rfl) (fun x1_86 e1_86 => ?_)
        refine z_ldc2 (n := 31) dX6_digest_87 kX6_269 rfl ?_
        refine z_lload_n 1 dX6_digest_90 rfl ?_
        refine z_lmul dX6_digest_91 ?_
        refine z_aload_n 0 dX6_digest_92 rfl ?_
        refine z_iconst dX6_digest_93 ?_
        refine z_vX dX6_digest_94 lX6_290 (by decide) ka0 io0 rfl (ct_X6_knew en uN81 O2 T (uN81 5) c A G K H S (uN81 29) (uN81 30) (uN81 31) (uN81 32) (uN81 33) (uN81 34) (((ukM81 2 (by decide)).trans wO2)) (((ukM81 3 (by decide)).trans wT)) rfl (((ukM81 22 (by decide)).trans wc)) (((ukM81 24 (by decide)).trans wA)) (((ukM81 25 (by decide)).trans wG)) (((ukM81 26 (by decide)).trans wK)) (((ukM81 27 (by decide)).trans wH)) (((ukM81 28 (by decide)).trans wS)) rfl rfl rfl rfl rfl rfl (5) (by omega) (hT) (hc) (hP)) rfl rfl (by exact Nat.le_of_ble_eq_true rfl) (fun uv94 uN94 uh94 => ?_)
        obtain ⟨uv94_e, uk94⟩ := uh94
        have ukM94 := kc_t ukM81 uk94
        have ue94 : uv94 = (knB T (cW c) 5 8 : Int) := uv94_e.trans (if_pos (by decide))
        subst ue94
        refine z_i2lW dX6_digest_97 ?_
        refine z_ladd dX6_digest_98 ?_
        refine z_lstore_n (fun y => [(0, rf en 0), (1, vl y), (3, vi x3)]) [1, 0, 2] dX6_digest_99 (by decide) (fun _ => rfl) (fun x1_99 e1_99 => ?_)
        refine z_ldc2 (n := 31) dX6_digest_100 kX6_269 rfl ?_
        refine z_ldc2 (n := 31) dX6_digest_103 kX6_269 rfl ?_
        refine z_lload_n 1 dX6_digest_106 rfl ?_
        refine z_lmul dX6_digest_107 ?_
        refine z_aload_n 0 dX6_digest_108 rfl ?_
        refine z_iconst dX6_digest_109 ?_
        refine z_vX dX6_digest_110 lX6_293 (by decide) ka0 io0 rfl (ct_X6_lost en uN94 O2 T (uN94 5) c A G K H S (uN94 29) (uN94 30) (uN94 31) (uN94 32) (uN94 33) (uN94 34) (((ukM94 2 (by decide)).trans wO2)) (((ukM94 3 (by decide)).trans wT)) rfl (((ukM94 22 (by decide)).trans wc)) (((ukM94 24 (by decide)).trans wA)) (((ukM94 25 (by decide)).trans wG)) (((ukM94 26 (by decide)).trans wK)) (((ukM94 27 (by decide)).trans wH)) (((ukM94 28 (by decide)).trans wS)) rfl rfl rfl rfl rfl rfl (0) (by omega) (hT) (hc) (hP)) rfl rfl (by exact Nat.le_of_ble_eq_true rfl) (fun uv110 uN110 uh110 => ?_)
        obtain ⟨uv110_e, uk110⟩ := uh110
        have ukM110 := kc_t ukM94 uk110
        have ue110 : uv110 = wns T (cW c) (tP A G K H S) (O2 4) := uv110_e.trans ((if_pos (by decide)).trans (if_pos rfl))
        subst ue110
        refine z_i2lW dX6_digest_113 ?_
        refine z_ladd dX6_digest_114 ?_
        refine z_lmul dX6_digest_115 ?_
        refine z_aload_n 0 dX6_digest_116 rfl ?_
        refine z_iconst dX6_digest_117 ?_
        refine z_vX dX6_digest_118 lX6_293 (by decide) ka0 io0 rfl (ct_X6_lost en uN110 O2 T (uN110 5) c A G K H S (uN110 29) (uN110 30) (uN110 31) (uN110 32) (uN110 33) (uN110 34) (((ukM110 2 (by decide)).trans wO2)) (((ukM110 3 (by decide)).trans wT)) rfl (((ukM110 22 (by decide)).trans wc)) (((ukM110 24 (by decide)).trans wA)) (((ukM110 25 (by decide)).trans wG)) (((ukM110 26 (by decide)).trans wK)) (((ukM110 27 (by decide)).trans wH)) (((ukM110 28 (by decide)).trans wS)) rfl rfl rfl rfl rfl rfl (1) (by omega) (hT) (hc) (hP)) rfl rfl (by exact Nat.le_of_ble_eq_true rfl) (fun uv118 uN118 uh118 => ?_)
        obtain ⟨uv118_e, uk118⟩ := uh118
        have ukM118 := kc_t ukM110 uk118
        have ue118 : uv118 = lsO T (cW c) (tP A G K H S) (O2 4) (O2 4).toNat := uv118_e.trans ((if_pos (by decide)).trans (if_neg (by decide)))
        subst ue118
        refine z_i2lW dX6_digest_121 ?_
        refine z_ladd dX6_digest_122 ?_
        refine z_lstore_n (fun y => [(0, rf en 0), (1, vl y), (3, vi x3)]) [1, 0, 2] dX6_digest_123 (by decide) (fun _ => rfl) (fun x1_123 e1_123 => ?_)
        refine z_ldc2 (n := 31) dX6_digest_124 kX6_269 rfl ?_
        refine z_ldc2 (n := 31) dX6_digest_127 kX6_269 rfl ?_
        refine z_lload_n 1 dX6_digest_130 rfl ?_
        refine z_lmul dX6_digest_131 ?_
        refine z_aload_n 0 dX6_digest_132 rfl ?_
        refine z_iconst dX6_digest_133 ?_
        refine z_vX dX6_digest_134 lX6_296 (by decide) ka0 io0 rfl (ct_X6_swear en uN118 O2 T (uN118 4) (uN118 5) c A G K H S (uN118 29) (uN118 30) (uN118 31) (uN118 32) (uN118 33) (uN118 34) (((ukM118 2 (by decide)).trans wO2)) (((ukM118 3 (by decide)).trans wT)) rfl rfl (((ukM118 22 (by decide)).trans wc)) (((ukM118 24 (by decide)).trans wA)) (((ukM118 25 (by decide)).trans wG)) (((ukM118 26 (by decide)).trans wK)) (((ukM118 27 (by decide)).trans wH)) (((ukM118 28 (by decide)).trans wS)) rfl rfl rfl rfl rfl rfl (0) (by omega) (hT) (hc) (hP)) rfl rfl (by exact Nat.le_of_ble_eq_true rfl) (fun uv134 uN134 uh134 => ?_)
        obtain ⟨uv134_e, uk134⟩ := uh134
        have ukM134 := kc_t ukM118 uk134
        have ue134 : uv134 = (pcw (twS (enX (up T 5 0) (cW c) (tP A G K H S) (O2 4)) A S 8) : Int) := uv134_e.trans ((if_pos (by decide)).trans (if_pos rfl))
        subst ue134
        refine z_i2lW dX6_digest_137 ?_
        refine z_ladd dX6_digest_138 ?_
        refine z_lmul dX6_digest_139 ?_
        refine z_aload_n 0 dX6_digest_140 rfl ?_
        refine z_iconst dX6_digest_141 ?_
        refine z_vX dX6_digest_142 lX6_296 (by decide) ka0 io0 rfl (ct_X6_swear en uN134 O2 T (uN134 4) (uN134 5) c A G K H S (uN134 29) (uN134 30) (uN134 31) (uN134 32) (uN134 33) (uN134 34) (((ukM134 2 (by decide)).trans wO2)) (((ukM134 3 (by decide)).trans wT)) rfl rfl (((ukM134 22 (by decide)).trans wc)) (((ukM134 24 (by decide)).trans wA)) (((ukM134 25 (by decide)).trans wG)) (((ukM134 26 (by decide)).trans wK)) (((ukM134 27 (by decide)).trans wH)) (((ukM134 28 (by decide)).trans wS)) rfl rfl rfl rfl rfl rfl (1) (by omega) (hT) (hc) (hP)) rfl rfl (by exact Nat.le_of_ble_eq_true rfl) (fun uv142 uN142 uh142 => ?_)
        obtain ⟨uv142_e, uk142⟩ := uh142
        have ukM142 := kc_t ukM134 uk142
        have ue142 : uv142 = (twS (enX (up T 5 0) (cW c) (tP A G K H S) (O2 4)) A S 8 : Int) := uv142_e.trans ((if_pos (by decide)).trans (if_neg (by decide)))
        subst ue142
        refine z_i2lW dX6_digest_145 ?_
        refine z_ladd dX6_digest_146 ?_
        refine z_lstore_n (fun y => [(0, rf en 0), (1, vl y), (3, vi x3)]) [1, 0, 2] dX6_digest_147 (by decide) (fun _ => rfl) (fun x1_147 e1_147 => ?_)
        refine z_ldc2 (n := 31) dX6_digest_148 kX6_269 rfl ?_
        refine z_ldc2 (n := 31) dX6_digest_151 kX6_269 rfl ?_
        refine z_lload_n 1 dX6_digest_154 rfl ?_
        refine z_lmul dX6_digest_155 ?_
        refine z_aload_n 0 dX6_digest_156 rfl ?_
        refine z_iconst dX6_digest_157 ?_
        refine z_vX dX6_digest_158 lX6_299 (by decide) ka0 io0 rfl (ct_X6_place en uN142 O2 T (uN142 4) (uN142 5) c A G K H S (uN142 29) (uN142 30) (uN142 31) (uN142 32) (uN142 33) (uN142 34) (((ukM142 2 (by decide)).trans wO2)) (((ukM142 3 (by decide)).trans wT)) rfl rfl (((ukM142 22 (by decide)).trans wc)) (((ukM142 24 (by decide)).trans wA)) (((ukM142 25 (by decide)).trans wG)) (((ukM142 26 (by decide)).trans wK)) (((ukM142 27 (by decide)).trans wH)) (((ukM142 28 (by decide)).trans wS)) rfl rfl rfl rfl rfl rfl (0) (by omega) (hT) (hc) (hP) (h6)) rfl rfl (by exact Nat.le_of_ble_eq_true rfl) (fun uv158 uN158 uh158 => ?_)
        obtain ⟨uv158_e, uk158⟩ := uh158
        have ukM158 := kc_t ukM142 uk158
        have ue158 : uv158 = (plS T (cW c) (tP A G K H S) (O2 4) 8).1 := uv158_e.trans ((if_pos (by decide)).trans (if_pos rfl))
        subst ue158
        refine z_i2lW dX6_digest_161 ?_
        refine z_ladd dX6_digest_162 ?_
        refine z_lmul dX6_digest_163 ?_
        refine z_aload_n 0 dX6_digest_164 rfl ?_
        refine z_iconst dX6_digest_165 ?_
        refine z_vX dX6_digest_166 lX6_299 (by decide) ka0 io0 rfl (ct_X6_place en uN158 O2 T (uN158 4) (uN158 5) c A G K H S (uN158 29) (uN158 30) (uN158 31) (uN158 32) (uN158 33) (uN158 34) (((ukM158 2 (by decide)).trans wO2)) (((ukM158 3 (by decide)).trans wT)) rfl rfl (((ukM158 22 (by decide)).trans wc)) (((ukM158 24 (by decide)).trans wA)) (((ukM158 25 (by decide)).trans wG)) (((ukM158 26 (by decide)).trans wK)) (((ukM158 27 (by decide)).trans wH)) (((ukM158 28 (by decide)).trans wS)) rfl rfl rfl rfl rfl rfl (1) (by omega) (hT) (hc) (hP) (h6)) rfl rfl (by exact Nat.le_of_ble_eq_true rfl) (fun uv166 uN166 uh166 => ?_)
        obtain ⟨uv166_e, uk166⟩ := uh166
        have ukM166 := kc_t ukM158 uk166
        have ue166 : uv166 = (plS T (cW c) (tP A G K H S) (O2 4) 8).2.1 := uv166_e.trans ((if_pos (by decide)).trans (if_neg (by decide)))
        subst ue166
        refine z_i2lW dX6_digest_169 ?_
        refine z_ladd dX6_digest_170 ?_
        refine z_lstore_n (fun y => [(0, rf en 0), (1, vl y), (3, vi x3)]) [1, 0, 2] dX6_digest_171 (by decide) (fun _ => rfl) (fun x1_171 e1_171 => ?_)
        refine z_ldc2 (n := 31) dX6_digest_172 kX6_269 rfl ?_
        refine z_ldc2 (n := 31) dX6_digest_175 kX6_269 rfl ?_
        refine z_lload_n 1 dX6_digest_178 rfl ?_
        refine z_lmul dX6_digest_179 ?_
        refine z_aload_n 0 dX6_digest_180 rfl ?_
        refine z_iconst dX6_digest_181 ?_
        refine z_vX dX6_digest_182 lX6_302 (by decide) ka0 io0 rfl (ct_X6_litter en uN166 O2 T (uN166 4) (uN166 5) c A G K H S (uN166 29) (uN166 30) (uN166 31) (uN166 32) (uN166 33) (uN166 34) (((ukM166 2 (by decide)).trans wO2)) (((ukM166 3 (by decide)).trans wT)) rfl rfl (((ukM166 22 (by decide)).trans wc)) (((ukM166 24 (by decide)).trans wA)) (((ukM166 25 (by decide)).trans wG)) (((ukM166 26 (by decide)).trans wK)) (((ukM166 27 (by decide)).trans wH)) (((ukM166 28 (by decide)).trans wS)) rfl rfl rfl rfl rfl rfl (0) (by omega) (hT) (hc) (hP)) rfl rfl (by exact Nat.le_of_ble_eq_true rfl) (fun uv182 uN182 uh182 => ?_)
        obtain ⟨uv182_e, uk182⟩ := uh182
        have ukM182 := kc_t ukM166 uk182
        have ue182 : uv182 = (ltS T (cW c) (tP A G K H S) (O2 4) 10).1 := uv182_e.trans ((if_pos (by decide)).trans (if_pos rfl))
        subst ue182
        refine z_i2lW dX6_digest_185 ?_
        refine z_ladd dX6_digest_186 ?_
        refine z_lmul dX6_digest_187 ?_
        refine z_aload_n 0 dX6_digest_188 rfl ?_
        refine z_iconst dX6_digest_189 ?_
        refine z_vX dX6_digest_190 lX6_302 (by decide) ka0 io0 rfl (ct_X6_litter en uN182 O2 T (uN182 4) (uN182 5) c A G K H S (uN182 29) (uN182 30) (uN182 31) (uN182 32) (uN182 33) (uN182 34) (((ukM182 2 (by decide)).trans wO2)) (((ukM182 3 (by decide)).trans wT)) rfl rfl (((ukM182 22 (by decide)).trans wc)) (((ukM182 24 (by decide)).trans wA)) (((ukM182 25 (by decide)).trans wG)) (((ukM182 26 (by decide)).trans wK)) (((ukM182 27 (by decide)).trans wH)) (((ukM182 28 (by decide)).trans wS)) rfl rfl rfl rfl rfl rfl (1) (by omega) (hT) (hc) (hP)) rfl rfl (by exact Nat.le_of_ble_eq_true rfl) (fun uv190 uN190 uh190 => ?_)
        obtain ⟨uv190_e, uk190⟩ := uh190
        have ukM190 := kc_t ukM182 uk190
        have ue190 : uv190 = (ltS T (cW c) (tP A G K H S) (O2 4) 10).2 := uv190_e.trans ((if_pos (by decide)).trans (if_neg (by decide)))
        subst ue190
        refine z_i2lW dX6_digest_193 ?_
        refine z_ladd dX6_digest_194 ?_
        refine z_lstore_n (fun y => [(0, rf en 0), (1, vl y), (3, vi x3)]) [1, 0, 2] dX6_digest_195 (by decide) (fun _ => rfl) (fun x1_195 e1_195 => ?_)
        refine z_ldc2 (n := 31) dX6_digest_196 kX6_269 rfl ?_
        refine z_ldc2 (n := 31) dX6_digest_199 kX6_269 rfl ?_
        refine z_lload_n 1 dX6_digest_202 rfl ?_
        refine z_lmul dX6_digest_203 ?_
        refine z_aload_n 0 dX6_digest_204 rfl ?_
        refine z_iconst dX6_digest_205 ?_
        refine z_vX dX6_digest_206 lX6_305 (by decide) ka0 io0 rfl (ct_X6_fits en uN190 O0 O2 T (uN190 4) (uN190 5) Q7 Q8 c A G K H S (uN190 29) (uN190 30) (uN190 31) (uN190 32) (uN190 33) (uN190 34) (((ukM190 0 (by decide)).trans wO0)) (((ukM190 2 (by decide)).trans wO2)) (((ukM190 3 (by decide)).trans wT)) rfl rfl (((ukM190 7 (by decide)).trans wQ7)) (((ukM190 8 (by decide)).trans wQ8)) (((ukM190 22 (by decide)).trans wc)) (((ukM190 24 (by decide)).trans wA)) (((ukM190 25 (by decide)).trans wG)) (((ukM190 26 (by decide)).trans wK)) (((ukM190 27 (by decide)).trans wH)) (((ukM190 28 (by decide)).trans wS)) rfl rfl rfl rfl rfl rfl (0) (by omega) (hT) (hc) (hP) (hs)) rfl rfl (by exact Nat.le_of_ble_eq_true rfl) (fun uv206 uN206 uh206 => ?_)
        obtain ⟨uv206_e, uk206⟩ := uh206
        have ukM206 := kc_t ukM190 uk206
        have ue206 : uv206 = (fiS T (cW c) (tP A G K H S) (O2 4) (sgC Q7 Q8) (O0 8).toNat 2 10 : Int) := uv206_e.trans ((if_pos (by decide)).trans (if_pos rfl))
        subst ue206
        refine z_i2lW dX6_digest_209 ?_
        refine z_ladd dX6_digest_210 ?_
        refine z_lmul dX6_digest_211 ?_
        refine z_aload_n 0 dX6_digest_212 rfl ?_
        refine z_iconst dX6_digest_213 ?_
        refine z_vX dX6_digest_214 lX6_305 (by decide) ka0 io0 rfl (ct_X6_fits en uN206 O0 O2 T (uN206 4) (uN206 5) Q7 Q8 c A G K H S (uN206 29) (uN206 30) (uN206 31) (uN206 32) (uN206 33) (uN206 34) (((ukM206 0 (by decide)).trans wO0)) (((ukM206 2 (by decide)).trans wO2)) (((ukM206 3 (by decide)).trans wT)) rfl rfl (((ukM206 7 (by decide)).trans wQ7)) (((ukM206 8 (by decide)).trans wQ8)) (((ukM206 22 (by decide)).trans wc)) (((ukM206 24 (by decide)).trans wA)) (((ukM206 25 (by decide)).trans wG)) (((ukM206 26 (by decide)).trans wK)) (((ukM206 27 (by decide)).trans wH)) (((ukM206 28 (by decide)).trans wS)) rfl rfl rfl rfl rfl rfl (1) (by omega) (hT) (hc) (hP) (hs)) rfl rfl (by exact Nat.le_of_ble_eq_true rfl) (fun uv214 uN214 uh214 => ?_)
        obtain ⟨uv214_e, uk214⟩ := uh214
        have ukM214 := kc_t ukM206 uk214
        have ue214 : uv214 = (fiS T (cW c) (tP A G K H S) (O2 4) (sgC Q7 Q8) (O0 8).toNat 0 8 : Int) := uv214_e.trans ((if_pos (by decide)).trans (if_neg (by decide)))
        subst ue214
        refine z_i2lW dX6_digest_217 ?_
        refine z_ladd dX6_digest_218 ?_
        refine z_lstore_n (fun y => [(0, rf en 0), (1, vl y), (3, vi x3)]) [1, 0, 2] dX6_digest_219 (by decide) (fun _ => rfl) (fun x1_219 e1_219 => ?_)
        refine z_ldc2 (n := 31) dX6_digest_220 kX6_269 rfl ?_
        refine z_lload_n 1 dX6_digest_223 rfl ?_
        refine z_lmul dX6_digest_224 ?_
        refine z_aload_n 0 dX6_digest_225 rfl ?_
        refine z_vX dX6_digest_226 lX6_308 (by decide) ka0 io0 rfl (ct_X6_ask en uN214 O0 O2 T (uN214 4) (uN214 5) Q7 Q8 c A G K H S (uN214 29) (uN214 30) (uN214 31) (uN214 32) (uN214 33) (uN214 34) (((ukM214 0 (by decide)).trans wO0)) (((ukM214 2 (by decide)).trans wO2)) (((ukM214 3 (by decide)).trans wT)) rfl rfl (((ukM214 7 (by decide)).trans wQ7)) (((ukM214 8 (by decide)).trans wQ8)) (((ukM214 22 (by decide)).trans wc)) (((ukM214 24 (by decide)).trans wA)) (((ukM214 25 (by decide)).trans wG)) (((ukM214 26 (by decide)).trans wK)) (((ukM214 27 (by decide)).trans wH)) (((ukM214 28 (by decide)).trans wS)) rfl rfl rfl rfl rfl rfl (hT) (hc) (hP) (hs)) rfl rfl (by exact Nat.le_of_ble_eq_true rfl) (fun uv226 uN226 uh226 => ?_)
        obtain ⟨uv226_e, uk226⟩ := uh226
        have ukM226 := kc_t ukM214 uk226
        have ue226 : uv226 = (akM (fun t => mCx (kyC c t) (fiS T (cW c) (tP A G K H S) (O2 4) (sgC Q7 Q8) (O0 8).toNat 0 8 : Int) 8) 7).1 := uv226_e.trans (rfl)
        subst ue226
        refine z_i2lW dX6_digest_229 ?_
        refine z_ladd dX6_digest_230 ?_
        refine z_lstore_n (fun y => [(0, rf en 0), (1, vl y), (3, vi x3)]) [1, 0, 2] dX6_digest_231 (by decide) (fun _ => rfl) (fun x1_231 e1_231 => ?_)
        refine z_ldc2 (n := 31) dX6_digest_232 kX6_269 rfl ?_
        refine z_ldc2 (n := 31) dX6_digest_235 kX6_269 rfl ?_
        refine z_lload_n 1 dX6_digest_238 rfl ?_
        refine z_lmul dX6_digest_239 ?_
        refine z_aload_n 0 dX6_digest_240 rfl ?_
        refine z_iconst dX6_digest_241 ?_
        refine z_iconst dX6_digest_242 ?_
        refine z_bipush dX6_digest_243 rfl ?_
        refine z_iconst dX6_digest_245 ?_
        refine z_vY dX6_digest_246 lX6_311 (by decide) ka0 io0 rfl (ct_X6_out en uN226 O1 T (uN226 6) F Gt D (uN226 35) (uN226 36) (((ukM226 1 (by decide)).trans wO1)) (((ukM226 3 (by decide)).trans wT)) rfl (((ukM226 19 (by decide)).trans wF)) (((ukM226 20 (by decide)).trans wGt)) (((ukM226 21 (by decide)).trans wD)) rfl rfl (5) (3) (9) (0) (by omega) (hO) (hR) (hT)) rfl rfl (by exact Nat.le_of_ble_eq_true rfl) (fun uv246 uN246 uh246 => ?_)
        obtain ⟨uv246_e, uk246⟩ := uh246
        have ukM246 := kc_t ukM226 uk246
        have ue246 : uv246 = otV T (tR F Gt D) (O1 4).toNat 5 3 9 0 := uv246_e.trans (if_pos (by decide))
        subst ue246
        refine z_ladd dX6_digest_249 ?_
        refine z_lmul dX6_digest_250 ?_
        refine z_aload_n 0 dX6_digest_251 rfl ?_
        refine z_iconst dX6_digest_252 ?_
        refine z_iconst dX6_digest_253 ?_
        refine z_bipush dX6_digest_254 rfl ?_
        refine z_iconst dX6_digest_256 ?_
        refine z_vY dX6_digest_257 lX6_311 (by decide) ka0 io0 rfl (ct_X6_out en uN246 O1 T (uN246 6) F Gt D (uN246 35) (uN246 36) (((ukM246 1 (by decide)).trans wO1)) (((ukM246 3 (by decide)).trans wT)) rfl (((ukM246 19 (by decide)).trans wF)) (((ukM246 20 (by decide)).trans wGt)) (((ukM246 21 (by decide)).trans wD)) rfl rfl (5) (3) (9) (1) (by omega) (hO) (hR) (hT)) rfl rfl (by exact Nat.le_of_ble_eq_true rfl) (fun uv257 uN257 uh257 => ?_)
        obtain ⟨uv257_e, uk257⟩ := uh257
        have ukM257 := kc_t ukM246 uk257
        have ue257 : uv257 = otV T (tR F Gt D) (O1 4).toNat 5 3 9 1 := uv257_e.trans (if_pos (by decide))
        subst ue257
        refine z_ladd dX6_digest_260 ?_
        refine z_lstore_n (fun y => [(0, rf en 0), (1, vl y), (3, vi x3)]) [1, 0, 2] dX6_digest_261 (by decide) (fun _ => rfl) (fun x1_261 e1_261 => ?_)
        refine z_ldc2 (n := 31) dX6_digest_262 kX6_269 rfl ?_
        refine z_lload_n 1 dX6_digest_265 rfl ?_
        refine z_lmul dX6_digest_266 ?_
        refine z_aload_n 0 dX6_digest_267 rfl ?_
        refine z_bipush dX6_digest_268 rfl ?_
        refine z_iconst dX6_digest_270 ?_
        refine z_iconst dX6_digest_271 ?_
        refine z_vX dX6_digest_272 lX6_315 (by decide) ka0 io0 rfl (ct_X6_reigns en uN257 O2 T (uN257 4) (uN257 5) c A G K H S (uN257 29) (uN257 30) (uN257 31) (uN257 32) (uN257 33) (uN257 34) (((ukM257 2 (by decide)).trans wO2)) (((ukM257 3 (by decide)).trans wT)) rfl rfl (((ukM257 22 (by decide)).trans wc)) (((ukM257 24 (by decide)).trans wA)) (((ukM257 25 (by decide)).trans wG)) (((ukM257 26 (by decide)).trans wK)) (((ukM257 27 (by decide)).trans wH)) (((ukM257 28 (by decide)).trans wS)) rfl rfl rfl rfl rfl rfl (7) (5) (-1) (by omega) (hT) (hc) (hP)) rfl rfl (by exact Nat.le_of_ble_eq_true rfl) (fun uv272 uN272 uh272 => ?_)
        obtain ⟨uv272_e, uk272⟩ := uh272
        have ukM272 := kc_t ukM257 uk272
        have ue272 : uv272 = rgS T (cW c) (tP A G K H S) (O2 4) 7 (-1) 5 := uv272_e.trans ((if_pos (by decide)).trans rfl)
        subst ue272
        refine z_i2lW dX6_digest_275 ?_
        refine z_ladd dX6_digest_276 ?_
        exact z_lret C dX6_digest_277 rfl ⟨_, rfl, ⟨by rw [e1_261, e1_231, e1_219, e1_195, e1_171, e1_147, e1_123, e1_99, e1_86, e1_74]; rfl, ukM272⟩⟩
      ·
        refine z_ldc2 (n := 31) dX6_digest_12 kX6_269 rfl ?_
        refine z_lload_n 1 dX6_digest_15 rfl ?_
        refine z_lmul dX6_digest_16 ?_
        refine z_aload_n 0 dX6_digest_17 rfl ?_
        refine z_iload_n 2 dX6_digest_18 rfl ?_
        refine z_vX dX6_digest_19 lX6_271 (by decide) ka0 io0 rfl (ct_X6_count en N6 O0 O1 O2 T (N6 5) c A G K H S (N6 29) (N6 30) (N6 31) (N6 32) (N6 33) (N6 34) (((ukN6 0 (by decide)).trans wO0)) (((ukN6 1 (by decide)).trans wO1)) (((ukN6 2 (by decide)).trans wO2)) (((ukN6 3 (by decide)).trans wT)) rfl (((ukN6 22 (by decide)).trans wc)) (((ukN6 24 (by decide)).trans wA)) (((ukN6 25 (by decide)).trans wG)) (((ukN6 26 (by decide)).trans wK)) (((ukN6 27 (by decide)).trans wH)) (((ukN6 28 (by decide)).trans wS)) rfl rfl rfl rfl rfl rfl _ (by omega) (hT) (hc) (hP)) rfl rfl (by exact Nat.le_of_ble_eq_true rfl) (fun uv19 uN19 uh19 => ?_)
        obtain ⟨uv19_e, uk19⟩ := uh19
        have ukM19 := kc_t ukN6 uk19
        have ue19 : uv19 = cnC O0 O1 O2 T (cW c) (tP A G K H S) x3 := uv19_e.trans (rfl)
        subst ue19
        refine z_i2lW dX6_digest_22 ?_
        refine z_ladd dX6_digest_23 ?_
        refine z_lstore_n (fun y => [(0, rf en 0), (1, vl y), (3, vi x3)]) [1, 0, 2] dX6_digest_24 (by decide) (fun _ => rfl) (fun x1_24 e1_24 => ?_)
        refine z_iinc (fun y => [(0, rf en 0), (1, vl x1_24), (3, vi y)]) [1, 2, 0] 2 dX6_digest_25 rfl (by decide) (fun _ => rfl) (fun x3_25 e3_25 => ?_)
        refine z_goto (tgt := 6) dX6_digest_28 rfl ?_
        exact uih6 x1_24 x3_25 uN19 (by omega) (⟨by omega, by omega, ukM19, by rw [itN_s _ _ uq1 e3_25, ← uq3, e1_24]⟩)
  exact uL6 _ x1_3 x3_5 M (Nat.lt_succ_self _) (⟨by omega, by omega, kc_r M, by rw [e1_3, e3_5]; rfl⟩)
