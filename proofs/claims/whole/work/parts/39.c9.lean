/-! texts, told, seen, counts -/
theorem rdN_1 {M N : zW} {O B W : Int → Int} (h : rdN M O B W N) {j : Int} (h3 : j ≠ 3) (h4 : j ≠ 4) : N 1 j = O j := by
  obtain ⟨a, b, c, v, -, -, rfl⟩ := h
  show up (up O 3 v) 4 _ j = O j
  rw [up_n _ _ h4, up_n _ _ h3]
theorem pdN_2 {M N : zW} {O B : Int → Int} (h : pdN M O B N) {j : Int} (h3 : j ≠ 3) (h4 : j ≠ 4) : N 2 j = O j := by
  obtain ⟨a, b, c, d, e, v, -, -, rfl⟩ := h
  show up (up O 3 v) 4 _ j = O j
  rw [up_n _ _ h4, up_n _ _ h3]
theorem tMost_rg (j : Int) : 7 ≤ tMost j ∧ tMost j ≤ 255 := by
  unfold tMost
  repeat' split
  all_goals omega
theorem rc_s (P : Int → Int) {x : Int} (h : 0 ≤ x) : rcS P (x + 1).toNat = rcS P x.toNat + P (5 * x + 3) := by rw [tnS h, rcS, tnC h]
theorem rdn_in {D : Int → Int} {T V P : Int → Int} {np : Int} : ∀ n : Nat, (n : Int) ≤ np → (∀ q : Int, 0 ≤ q → q < n → D q = coX T V P np q ∧ 0 ≤ coO T V P np q ∧ coO T V P np q ≤ 9999) → rdW (fun p => if D p = -1 then 0 else 1) n = rdn T V P np n
  | 0, _, _ => rfl
  | n + 1, hn, h => by
    have h1 := h n (by omega) (by omega)
    rw [rdW, rdn, rdn_in n (by omega) (fun q a b => h q a (by omega))]
    congr 1
    show (if (if D n = -1 then (0 : Int) else 1) = 1 then (1 : Int) else 0) = _
    rw [h1.1]
    unfold coX
    rw [if_pos (show (n : Int) < np by omega)]
    by_cases q : coO T V P np n = 9999
    · rw [q]; rfl
    · rw [orN_id (by omega), if_neg (show ¬ coO T V P np n = -1 by omega), if_neg q]; rfl
theorem rdn_out {D : Int → Int} {T V P : Int → Int} {np : Int} (h0 : 0 ≤ np) (hr : ∀ q : Int, 0 ≤ q → q < np → 0 ≤ coO T V P np q ∧ coO T V P np q ≤ 9999) : ∀ n : Nat, np ≤ n → (∀ q : Int, 0 ≤ q → q < n → D q = coX T V P np q) → rdW (fun p => if D p = -1 then 0 else 1) n = rdn T V P np np.toNat
  | 0, hn, h => by rw [show np.toNat = 0 by omega]; rfl
  | n + 1, hn, h => by
    by_cases q : np ≤ n
    · rw [rdW, rdn_out h0 hr n q (fun q a b => h q a (by omega))]
      show _ + (if (if D n = -1 then (0 : Int) else 1) = 1 then (1 : Int) else 0) = _
      rw [h n (by omega) (by omega)]
      unfold coX
      rw [if_neg (show ¬ (n : Int) < np by omega), if_pos rfl, if_neg (by decide), Int.add_zero]
    · rw [rdn_in (n + 1) (by omega) (fun q a b => ⟨h q a b, hr q a (by omega)⟩), show np.toNat = n + 1 by omega]
set_option maxRecDepth 100000 in
theorem ct_X6_textOf (en : zE) (M : zW) (t : Int) (h0 : -2147483648 ≤ t ∧ t < 2147483648) : Ct en kA yX6_textOf mX6_textOf [rf en 0, vi t] M (fun r N => M = N ∧ ((t = 0 ∧ r = some (rf en 1)) ∨ (t = 1 ∧ r = some (rf en 2)) ∨ (¬ (t = 0 ∨ t = 1) ∧ r = some .null))) := by
  refine Ct.of (by decide +kernel) rfl [(0, rf en 0), (1, vi t)] rfl (Nat.le_of_ble_eq_true rfl) (fun cx C => ?_)
  refine z_iload_n 1 dX6_textOf_0 rfl ?_
  refine z_if_ne (tgt := 11) dX6_textOf_1 rfl (by omega) (fun uc1 => ?_) (fun uc1 => ?_)
  ·
    refine z_iload_n 1 dX6_textOf_11 rfl ?_
    refine z_iconst dX6_textOf_12 ?_
    refine z_icmp_ne (tgt := 23) dX6_textOf_13 rfl (by omega) (fun uc13 => ?_) (fun uc13 => ?_)
    ·
      refine z_null dX6_textOf_23 ?_
      exact z_aret C dX6_textOf_24 rfl (Or.inl ⟨_, rfl⟩) (Or.inl rfl) ⟨rfl, Or.inr (Or.inr ⟨by omega, rfl⟩)⟩
    ·
      refine z_aload_n 0 dX6_textOf_16 rfl ?_
      refine z_getR dX6_textOf_17 fX6_19_5 i0_1 ka0 ?_
      refine z_goto (tgt := 24) dX6_textOf_20 rfl ?_
      exact z_aret C dX6_textOf_24 rfl (Or.inl ⟨_, rfl⟩) (Or.inr ⟨_, rfl⟩) ⟨rfl, Or.inr (Or.inl ⟨by omega, rfl⟩)⟩
  ·
    refine z_aload_n 0 dX6_textOf_4 rfl ?_
    refine z_getR dX6_textOf_5 fX6_10_5 i0_0 ka0 ?_
    refine z_goto (tgt := 24) dX6_textOf_8 rfl ?_
    exact z_aret C dX6_textOf_24 rfl (Or.inl ⟨_, rfl⟩) (Or.inr ⟨_, rfl⟩) ⟨rfl, Or.inl ⟨by omega, rfl⟩⟩
set_option maxRecDepth 100000 in
theorem ct_X6_type (en : zE) (M : zW) (O1 : Int → Int) (Br : Int → Int) (F : Int → Int) (Gt : Int → Int) (D : Int → Int) (c : Int → Int) (O2 : Int → Int) (Bp : Int → Int) (A : Int → Int) (G : Int → Int) (K : Int → Int) (H : Int → Int) (S : Int → Int) (wO1 : M 1 = O1) (wBr : M 18 = Br) (wF : M 19 = F) (wGt : M 20 = Gt) (wD : M 21 = D) (wc : M 22 = c) (wO2 : M 2 = O2) (wBp : M 23 = Bp) (wA : M 24 = A) (wG : M 25 = G) (wK : M 26 = K) (wH : M 27 = H) (wS : M 28 = S) (t : Int) (b : Int) (h0 : -2147483648 ≤ t ∧ t < 2147483648 ∧ -2147483648 ≤ b ∧ b < 2147483648) (hX : (O1 0 = 3 ∧ 0 ≤ O1 2 ∧ O1 2 ≤ 47) ∧ (∀ j, 0 ≤ j → j < O1 2 → 0 ≤ Br j ∧ Br j ≤ 255) ∧ (O2 0 = 5 ∧ 0 ≤ O2 2 ∧ O2 2 ≤ 47) ∧ (∀ j, 0 ≤ j → j < O2 2 → 0 ≤ Bp j ∧ Bp j ≤ 255)) : Ct en kA yX6_type mX6_type [rf en 0, vi t, vi b] M (pX (fun x N => ((¬ ((t = 0 ∨ t = 1) ∧ (0 ≤ b ∧ b ≤ 255))) ∧ x = -2 ∧ M = N) ∨ (t = 0 ∧ (0 ≤ b ∧ b ≤ 255) ∧ 47 ≤ O1 2 ∧ x = -4 ∧ M = N) ∨ (t = 1 ∧ (0 ≤ b ∧ b ≤ 255) ∧ 47 ≤ O2 2 ∧ x = -4 ∧ M = N) ∨ (t = 0 ∧ (0 ≤ b ∧ b ≤ 255) ∧ O1 2 < 47 ∧ x = O1 2 + 1 ∧ rdN (upR (upR M 18 (up Br (O1 2) b)) 1 (up O1 2 (O1 2 + 1))) (up O1 2 (O1 2 + 1)) (up Br (O1 2) b) c N) ∨ (t = 1 ∧ (0 ≤ b ∧ b ≤ 255) ∧ O2 2 < 47 ∧ x = O2 2 + 1 ∧ pdN (upR (upR M 23 (up Bp (O2 2) b)) 2 (up O2 2 (O2 2 + 1))) (up O2 2 (O2 2 + 1)) (up Bp (O2 2) b) N))) := by
  refine Ct.of (by decide +kernel) rfl [(0, rf en 0), (1, vi t), (2, vi b)] rfl (Nat.le_of_ble_eq_true rfl) (fun cx C => ?_)
  refine z_aload_n 0 dX6_type_0 rfl ?_
  refine z_iload_n 1 dX6_type_1 rfl ?_
  refine z_callV dX6_type_2 lX6_64 (by decide) ka0 io0 rfl (ct_X6_textOf en M _ (by omega)) rfl rfl (by exact Nat.le_of_ble_eq_true rfl) (fun uv2 uN2 uh2 => ?_)
  rcases uh2 with ⟨rfl, ⟨uk2, rfl⟩ | ⟨uk2, rfl⟩ | ⟨uk2, rfl⟩⟩
  ·
    refine z_astore_n [(0, rf en 0), (1, vi t), (2, vi b), (3, rf en 1)] [1, 2, 3, 0] dX6_type_5 (by decide) rfl ?_
    refine z_aload_n 3 dX6_type_6 rfl ?_
    refine z_ifnull dX6_type_7 ?_
    refine z_iload_n 2 dX6_type_10 rfl ?_
    refine z_sipush dX6_type_11 rfl ?_
    refine z_sI dX6_type_14 lX6_68 (by decide) (ct_X6_within en M _ (255) (by omega)) rfl rfl (by exact Nat.le_of_ble_eq_true rfl) ?_
    refine z_ifne_b (tgt := 23) dX6_type_17 rfl (fun uc17 => ?_) (fun uc17 => ?_)
    ·
      refine z_aload_n 3 dX6_type_23 rfl ?_
      refine z_getI (r := O1) 2 rfl dX6_type_24 fX6_72_3 i1_2 ka1 (wO1) ?_
      refine z_bipush dX6_type_27 rfl ?_
      refine z_icmp_lt (tgt := 35) dX6_type_29 rfl (by omega) (fun uc29 => ?_) (fun uc29 => ?_)
      ·
        refine z_aload_n 3 dX6_type_35 rfl ?_
        refine z_iload_n 2 dX6_type_36 rfl ?_
        refine z_uN dX6_type_37 lX6_78_1 (by decide) ka1 io1 rfl (ct_X5_append_1 en M O1 Br F Gt D c wO1 wBr wF wGt wD wc _ (hX.1) (hX.2.1) (by omega) (by omega)) rfl rfl (by exact Nat.le_of_ble_eq_true rfl) (fun uN37 uh37 => ?_)
        refine z_aload_n 3 dX6_type_40 rfl ?_
        refine z_getI (r := (uN37 1)) 2 rfl dX6_type_41 fX6_72_3 i1_2 ka1 (rfl) ?_
        exact z_iret C dX6_type_44 rfl ⟨_, rfl, Or.inr (Or.inr (Or.inr (Or.inl ⟨uk2, by omega, by omega, (rdN_1 uh37 (by decide) (by decide)).trans (up_s _ _ _), uh37⟩)))⟩
      ·
        refine z_bipush dX6_type_32 rfl ?_
        exact z_iret C dX6_type_34 rfl ⟨_, rfl, Or.inr (Or.inl ⟨uk2, by omega, by omega, rfl, rfl⟩)⟩
    ·
      refine z_bipush dX6_type_20 rfl ?_
      exact z_iret C dX6_type_22 rfl ⟨_, rfl, Or.inl ⟨by omega, rfl, rfl⟩⟩
  ·
    refine z_astore_n [(0, rf en 0), (1, vi t), (2, vi b), (3, rf en 2)] [1, 2, 3, 0] dX6_type_5 (by decide) rfl ?_
    refine z_aload_n 3 dX6_type_6 rfl ?_
    refine z_ifnull dX6_type_7 ?_
    refine z_iload_n 2 dX6_type_10 rfl ?_
    refine z_sipush dX6_type_11 rfl ?_
    refine z_sI dX6_type_14 lX6_68 (by decide) (ct_X6_within en M _ (255) (by omega)) rfl rfl (by exact Nat.le_of_ble_eq_true rfl) ?_
    refine z_ifne_b (tgt := 23) dX6_type_17 rfl (fun uc17 => ?_) (fun uc17 => ?_)
    ·
      refine z_aload_n 3 dX6_type_23 rfl ?_
      refine z_getI (r := O2) 2 rfl dX6_type_24 fX6_72_2 i2_2 ka2 (wO2) ?_
      refine z_bipush dX6_type_27 rfl ?_
      refine z_icmp_lt (tgt := 35) dX6_type_29 rfl (by omega) (fun uc29 => ?_) (fun uc29 => ?_)
      ·
        refine z_aload_n 3 dX6_type_35 rfl ?_
        refine z_iload_n 2 dX6_type_36 rfl ?_
        refine z_uN dX6_type_37 lX6_78_2 (by decide) ka2 io2 rfl (ct_X5_append_2 en M O2 Bp A G K H S wO2 wBp wA wG wK wH wS _ (hX.2.2.1) (hX.2.2.2) (by omega) (by omega)) rfl rfl (by exact Nat.le_of_ble_eq_true rfl) (fun uN37 uh37 => ?_)
        refine z_aload_n 3 dX6_type_40 rfl ?_
        refine z_getI (r := (uN37 2)) 2 rfl dX6_type_41 fX6_72_2 i2_2 ka2 (rfl) ?_
        exact z_iret C dX6_type_44 rfl ⟨_, rfl, Or.inr (Or.inr (Or.inr (Or.inr ⟨uk2, by omega, by omega, (pdN_2 uh37 (by decide) (by decide)).trans (up_s _ _ _), uh37⟩)))⟩
      ·
        refine z_bipush dX6_type_32 rfl ?_
        exact z_iret C dX6_type_34 rfl ⟨_, rfl, Or.inr (Or.inr (Or.inl ⟨uk2, by omega, by omega, rfl, rfl⟩))⟩
    ·
      refine z_bipush dX6_type_20 rfl ?_
      exact z_iret C dX6_type_22 rfl ⟨_, rfl, Or.inl ⟨by omega, rfl, rfl⟩⟩
  ·
    refine z_astoreN [(0, rf en 0), (1, vi t), (2, vi b), (3, .null)] [1, 2, 3, 0] dX6_type_5 (by decide) rfl ?_
    refine z_aloadN 3 dX6_type_6 rfl ?_
    refine z_ifnullN (tgt := 20) dX6_type_7 rfl ?_
    refine z_bipush dX6_type_20 rfl ?_
    exact z_iret C dX6_type_22 rfl ⟨_, rfl, Or.inl ⟨by omega, rfl, rfl⟩⟩
set_option maxRecDepth 100000 in
theorem ct_X6_wipe (en : zE) (M : zW) (O1 : Int → Int) (Br : Int → Int) (F : Int → Int) (Gt : Int → Int) (D : Int → Int) (c : Int → Int) (O2 : Int → Int) (Bp : Int → Int) (A : Int → Int) (G : Int → Int) (K : Int → Int) (H : Int → Int) (S : Int → Int) (wO1 : M 1 = O1) (wBr : M 18 = Br) (wF : M 19 = F) (wGt : M 20 = Gt) (wD : M 21 = D) (wc : M 22 = c) (wO2 : M 2 = O2) (wBp : M 23 = Bp) (wA : M 24 = A) (wG : M 25 = G) (wK : M 26 = K) (wH : M 27 = H) (wS : M 28 = S) (t : Int) (h0 : -2147483648 ≤ t ∧ t < 2147483648) (hX : (O1 0 = 3 ∧ 0 ≤ O1 2 ∧ O1 2 ≤ 47) ∧ (∀ j, 0 ≤ j → j < O1 2 → 0 ≤ Br j ∧ Br j ≤ 255) ∧ (O2 0 = 5 ∧ 0 ≤ O2 2 ∧ O2 2 ≤ 47) ∧ (∀ j, 0 ≤ j → j < O2 2 → 0 ≤ Bp j ∧ Bp j ≤ 255)) : Ct en kA yX6_wipe mX6_wipe [rf en 0, vi t] M (pX (fun x N => ((¬ (t = 0 ∨ t = 1)) ∧ x = -2 ∧ M = N) ∨ (t = 0 ∧ x = O1 2 ∧ rdN (upR M 1 (up O1 2 (max 0 (min 0 (O1 2))))) (up O1 2 (max 0 (min 0 (O1 2)))) Br c N) ∨ (t = 1 ∧ x = O2 2 ∧ pdN (upR M 2 (up O2 2 (max 0 (min 0 (O2 2))))) (up O2 2 (max 0 (min 0 (O2 2)))) Bp N))) := by
  refine Ct.of (by decide +kernel) rfl [(0, rf en 0), (1, vi t)] rfl (Nat.le_of_ble_eq_true rfl) (fun cx C => ?_)
  refine z_aload_n 0 dX6_wipe_0 rfl ?_
  refine z_iload_n 1 dX6_wipe_1 rfl ?_
  refine z_callV dX6_wipe_2 lX6_64 (by decide) ka0 io0 rfl (ct_X6_textOf en M _ (by omega)) rfl rfl (by exact Nat.le_of_ble_eq_true rfl) (fun uv2 uN2 uh2 => ?_)
  rcases uh2 with ⟨rfl, ⟨uk2, rfl⟩ | ⟨uk2, rfl⟩ | ⟨uk2, rfl⟩⟩
  ·
    refine z_astore_n [(0, rf en 0), (1, vi t), (2, rf en 1)] [1, 2, 0] dX6_wipe_5 (by decide) rfl ?_
    refine z_aload_n 2 dX6_wipe_6 rfl ?_
    refine z_ifnonnull (tgt := 13) dX6_wipe_7 rfl ?_
    refine z_aload_n 2 dX6_wipe_13 rfl ?_
    refine z_getI (r := O1) 2 rfl dX6_wipe_14 fX6_72_3 i1_2 ka1 (wO1) ?_
    refine z_istore_n (fun y => [(0, rf en 0), (1, vi t), (2, rf en 1), (3, vi y)]) [1, 2, 3, 0] dX6_wipe_17 (by decide) (fun _ => rfl) (fun x3_17 e3_17 => ?_)
    refine z_aload_n 2 dX6_wipe_18 rfl ?_
    refine z_iconst dX6_wipe_19 ?_
    refine z_uN dX6_wipe_20 lX6_82_1 (by decide) ka1 io1 rfl (ct_X5_cutTo_1 en M O1 Br F Gt D c wO1 wBr wF wGt wD wc (0) (hX.1) (hX.2.1) (by omega)) rfl rfl (by exact Nat.le_of_ble_eq_true rfl) (fun uN20 uh20 => ?_)
    refine z_iload_n 3 dX6_wipe_23 rfl ?_
    exact z_iret C dX6_wipe_24 rfl ⟨_, rfl, Or.inr (Or.inl ⟨uk2, e3_17, uh20⟩)⟩
  ·
    refine z_astore_n [(0, rf en 0), (1, vi t), (2, rf en 2)] [1, 2, 0] dX6_wipe_5 (by decide) rfl ?_
    refine z_aload_n 2 dX6_wipe_6 rfl ?_
    refine z_ifnonnull (tgt := 13) dX6_wipe_7 rfl ?_
    refine z_aload_n 2 dX6_wipe_13 rfl ?_
    refine z_getI (r := O2) 2 rfl dX6_wipe_14 fX6_72_2 i2_2 ka2 (wO2) ?_
    refine z_istore_n (fun y => [(0, rf en 0), (1, vi t), (2, rf en 2), (3, vi y)]) [1, 2, 3, 0] dX6_wipe_17 (by decide) (fun _ => rfl) (fun x3_17 e3_17 => ?_)
    refine z_aload_n 2 dX6_wipe_18 rfl ?_
    refine z_iconst dX6_wipe_19 ?_
    refine z_uN dX6_wipe_20 lX6_82_2 (by decide) ka2 io2 rfl (ct_X5_cutTo_2 en M O2 Bp A G K H S wO2 wBp wA wG wK wH wS (0) (hX.2.2.1) (hX.2.2.2) (by omega)) rfl rfl (by exact Nat.le_of_ble_eq_true rfl) (fun uN20 uh20 => ?_)
    refine z_iload_n 3 dX6_wipe_23 rfl ?_
    exact z_iret C dX6_wipe_24 rfl ⟨_, rfl, Or.inr (Or.inr ⟨uk2, e3_17, uh20⟩)⟩
  ·
    refine z_astoreN [(0, rf en 0), (1, vi t), (2, .null)] [1, 2, 0] dX6_wipe_5 (by decide) rfl ?_
    refine z_aloadN 2 dX6_wipe_6 rfl ?_
    refine z_ifnonnullN dX6_wipe_7 ?_
    refine z_bipush dX6_wipe_10 rfl ?_
    exact z_iret C dX6_wipe_12 rfl ⟨_, rfl, Or.inl ⟨uk2, rfl, rfl⟩⟩
set_option maxRecDepth 100000 in
theorem ct_X6_undo (en : zE) (M : zW) (O1 : Int → Int) (Br : Int → Int) (F : Int → Int) (Gt : Int → Int) (D : Int → Int) (c : Int → Int) (O2 : Int → Int) (Bp : Int → Int) (A : Int → Int) (G : Int → Int) (K : Int → Int) (H : Int → Int) (S : Int → Int) (wO1 : M 1 = O1) (wBr : M 18 = Br) (wF : M 19 = F) (wGt : M 20 = Gt) (wD : M 21 = D) (wc : M 22 = c) (wO2 : M 2 = O2) (wBp : M 23 = Bp) (wA : M 24 = A) (wG : M 25 = G) (wK : M 26 = K) (wH : M 27 = H) (wS : M 28 = S) (t : Int) (h0 : -2147483648 ≤ t ∧ t < 2147483648) (hX : (O1 0 = 3 ∧ 0 ≤ O1 2 ∧ O1 2 ≤ 47) ∧ (∀ j, 0 ≤ j → j < O1 2 → 0 ≤ Br j ∧ Br j ≤ 255) ∧ (O2 0 = 5 ∧ 0 ≤ O2 2 ∧ O2 2 ≤ 47) ∧ (∀ j, 0 ≤ j → j < O2 2 → 0 ≤ Bp j ∧ Bp j ≤ 255)) : Ct en kA yX6_undo mX6_undo [rf en 0, vi t] M (pX (fun x N => ((¬ (t = 0 ∨ t = 1)) ∧ x = -2 ∧ M = N) ∨ (t = 0 ∧ O1 2 = 0 ∧ x = -3 ∧ M = N) ∨ (t = 1 ∧ O2 2 = 0 ∧ x = -3 ∧ M = N) ∨ (t = 0 ∧ O1 2 ≠ 0 ∧ x = O1 2 - 1 ∧ rdN (upR M 1 (up O1 2 (max 0 (min (O1 2 - 1) (O1 2))))) (up O1 2 (max 0 (min (O1 2 - 1) (O1 2)))) Br c N) ∨ (t = 1 ∧ O2 2 ≠ 0 ∧ x = O2 2 - 1 ∧ pdN (upR M 2 (up O2 2 (max 0 (min (O2 2 - 1) (O2 2))))) (up O2 2 (max 0 (min (O2 2 - 1) (O2 2)))) Bp N))) := by
  refine Ct.of (by decide +kernel) rfl [(0, rf en 0), (1, vi t)] rfl (Nat.le_of_ble_eq_true rfl) (fun cx C => ?_)
  refine z_aload_n 0 dX6_undo_0 rfl ?_
  refine z_iload_n 1 dX6_undo_1 rfl ?_
  refine z_callV dX6_undo_2 lX6_64 (by decide) ka0 io0 rfl (ct_X6_textOf en M _ (by omega)) rfl rfl (by exact Nat.le_of_ble_eq_true rfl) (fun uv2 uN2 uh2 => ?_)
  rcases uh2 with ⟨rfl, ⟨uk2, rfl⟩ | ⟨uk2, rfl⟩ | ⟨uk2, rfl⟩⟩
  ·
    refine z_astore_n [(0, rf en 0), (1, vi t), (2, rf en 1)] [1, 2, 0] dX6_undo_5 (by decide) rfl ?_
    refine z_aload_n 2 dX6_undo_6 rfl ?_
    refine z_ifnonnull (tgt := 13) dX6_undo_7 rfl ?_
    refine z_aload_n 2 dX6_undo_13 rfl ?_
    refine z_getI (r := O1) 2 rfl dX6_undo_14 fX6_72_3 i1_2 ka1 (wO1) ?_
    refine z_if_ne (tgt := 23) dX6_undo_17 rfl (by omega) (fun uc17 => ?_) (fun uc17 => ?_)
    ·
      refine z_aload_n 2 dX6_undo_23 rfl ?_
      refine z_aload_n 2 dX6_undo_24 rfl ?_
      refine z_getI (r := O1) 2 rfl dX6_undo_25 fX6_72_3 i1_2 ka1 (wO1) ?_
      refine z_iconst dX6_undo_28 ?_
      refine z_isub dX6_undo_29 ?_
      refine z_uN dX6_undo_30 lX6_82_1 (by decide) ka1 io1 rfl (ct_X5_cutTo_1 en M O1 Br F Gt D c wO1 wBr wF wGt wD wc _ (hX.1) (hX.2.1) (by omega)) rfl rfl (by exact Nat.le_of_ble_eq_true rfl) (fun uN30 uh30 => ?_)
      refine z_aload_n 2 dX6_undo_33 rfl ?_
      refine z_getI (r := (uN30 1)) 2 rfl dX6_undo_34 fX6_72_3 i1_2 ka1 (rfl) ?_
      exact z_iret C dX6_undo_37 rfl ⟨_, rfl, Or.inr (Or.inr (Or.inr (Or.inl ⟨uk2, uc17, (rdN_1 uh30 (by decide) (by decide)).trans ((up_s _ _ _).trans (by omega)), uh30⟩)))⟩
    ·
      refine z_bipush dX6_undo_20 rfl ?_
      exact z_iret C dX6_undo_22 rfl ⟨_, rfl, Or.inr (Or.inl ⟨uk2, uc17, rfl, rfl⟩)⟩
  ·
    refine z_astore_n [(0, rf en 0), (1, vi t), (2, rf en 2)] [1, 2, 0] dX6_undo_5 (by decide) rfl ?_
    refine z_aload_n 2 dX6_undo_6 rfl ?_
    refine z_ifnonnull (tgt := 13) dX6_undo_7 rfl ?_
    refine z_aload_n 2 dX6_undo_13 rfl ?_
    refine z_getI (r := O2) 2 rfl dX6_undo_14 fX6_72_2 i2_2 ka2 (wO2) ?_
    refine z_if_ne (tgt := 23) dX6_undo_17 rfl (by omega) (fun uc17 => ?_) (fun uc17 => ?_)
    ·
      refine z_aload_n 2 dX6_undo_23 rfl ?_
      refine z_aload_n 2 dX6_undo_24 rfl ?_
      refine z_getI (r := O2) 2 rfl dX6_undo_25 fX6_72_2 i2_2 ka2 (wO2) ?_
      refine z_iconst dX6_undo_28 ?_
      refine z_isub dX6_undo_29 ?_
      refine z_uN dX6_undo_30 lX6_82_2 (by decide) ka2 io2 rfl (ct_X5_cutTo_2 en M O2 Bp A G K H S wO2 wBp wA wG wK wH wS _ (hX.2.2.1) (hX.2.2.2) (by omega)) rfl rfl (by exact Nat.le_of_ble_eq_true rfl) (fun uN30 uh30 => ?_)
      refine z_aload_n 2 dX6_undo_33 rfl ?_
      refine z_getI (r := (uN30 2)) 2 rfl dX6_undo_34 fX6_72_2 i2_2 ka2 (rfl) ?_
      exact z_iret C dX6_undo_37 rfl ⟨_, rfl, Or.inr (Or.inr (Or.inr (Or.inr ⟨uk2, uc17, (pdN_2 uh30 (by decide) (by decide)).trans ((up_s _ _ _).trans (by omega)), uh30⟩)))⟩
    ·
      refine z_bipush dX6_undo_20 rfl ?_
      exact z_iret C dX6_undo_22 rfl ⟨_, rfl, Or.inr (Or.inr (Or.inl ⟨uk2, uc17, rfl, rfl⟩))⟩
  ·
    refine z_astoreN [(0, rf en 0), (1, vi t), (2, .null)] [1, 2, 0] dX6_undo_5 (by decide) rfl ?_
    refine z_aloadN 2 dX6_undo_6 rfl ?_
    refine z_ifnonnullN dX6_undo_7 ?_
    refine z_bipush dX6_undo_10 rfl ?_
    exact z_iret C dX6_undo_12 rfl ⟨_, rfl, Or.inl ⟨uk2, rfl, rfl⟩⟩
set_option maxRecDepth 100000 in
theorem ct_X6_fault (en : zE) (M : zW) (O1 : Int → Int) (O2 : Int → Int) (wO1 : M 1 = O1) (wO2 : M 2 = O2) (t : Int) (h0 : -2147483648 ≤ t ∧ t < 2147483648) : Ct en kA yX6_fault mX6_fault [rf en 0, vi t] M (pI ((if t = 0 then O1 3 else if t = 1 then O2 3 else -2)) M) := by
  refine Ct.of (by decide +kernel) rfl [(0, rf en 0), (1, vi t)] rfl (Nat.le_of_ble_eq_true rfl) (fun cx C => ?_)
  refine z_aload_n 0 dX6_fault_0 rfl ?_
  refine z_iload_n 1 dX6_fault_1 rfl ?_
  refine z_callV dX6_fault_2 lX6_64 (by decide) ka0 io0 rfl (ct_X6_textOf en M _ (by omega)) rfl rfl (by exact Nat.le_of_ble_eq_true rfl) (fun uv2 uN2 uh2 => ?_)
  rcases uh2 with ⟨rfl, ⟨uk2, rfl⟩ | ⟨uk2, rfl⟩ | ⟨uk2, rfl⟩⟩
  ·
    refine z_astore_n [(0, rf en 0), (1, vi t), (2, rf en 1)] [1, 2, 0] dX6_fault_5 (by decide) rfl ?_
    refine z_aload_n 2 dX6_fault_6 rfl ?_
    refine z_ifnonnull (tgt := 15) dX6_fault_7 rfl ?_
    refine z_aload_n 2 dX6_fault_15 rfl ?_
    refine z_getI (r := O1) 3 rfl dX6_fault_16 fX6_85_3 i1_3 ka1 (wO1) ?_
    exact z_iret C dX6_fault_19 rfl ⟨congrArg (fun z => some (vi z)) ((if_pos uk2).symm), rfl⟩
  ·
    refine z_astore_n [(0, rf en 0), (1, vi t), (2, rf en 2)] [1, 2, 0] dX6_fault_5 (by decide) rfl ?_
    refine z_aload_n 2 dX6_fault_6 rfl ?_
    refine z_ifnonnull (tgt := 15) dX6_fault_7 rfl ?_
    refine z_aload_n 2 dX6_fault_15 rfl ?_
    refine z_getI (r := O2) 3 rfl dX6_fault_16 fX6_85_2 i2_3 ka2 (wO2) ?_
    exact z_iret C dX6_fault_19 rfl ⟨congrArg (fun z => some (vi z)) (by rw [if_neg (by omega), if_pos uk2]), rfl⟩
  ·
    refine z_astoreN [(0, rf en 0), (1, vi t), (2, .null)] [1, 2, 0] dX6_fault_5 (by decide) rfl ?_
    refine z_aloadN 2 dX6_fault_6 rfl ?_
    refine z_ifnonnullN dX6_fault_7 ?_
    refine z_bipush dX6_fault_10 rfl ?_
    refine z_goto (tgt := 19) dX6_fault_12 rfl ?_
    exact z_iret C dX6_fault_19 rfl ⟨congrArg (fun z => some (vi z)) (by rw [if_neg (by omega), if_neg (by omega)]), rfl⟩
set_option maxRecDepth 100000 in
theorem ct_X6_road (en : zE) (M : zW) (O1 : Int → Int) (F : Int → Int) (Gt : Int → Int) (D : Int → Int) (wO1 : M 1 = O1) (wF : M 19 = F) (wGt : M 20 = Gt) (wD : M 21 = D) (r : Int) (wh : Int) (h0 : -2147483648 ≤ r ∧ r < 2147483648 ∧ -2147483648 ≤ wh ∧ wh < 2147483648) (hO : 0 ≤ O1 4 ∧ O1 4 ≤ 12) : Ct en kA yX6_road mX6_road [rf en 0, vi r, vi wh] M (pI ((if (0 ≤ r ∧ r ≤ O1 4 - 1) ∧ (0 ≤ wh ∧ wh ≤ 2) then tR F Gt D (3 * r + wh) else -2)) M) := by
  refine Ct.of (by decide +kernel) rfl [(0, rf en 0), (1, vi r), (2, vi wh)] rfl (Nat.le_of_ble_eq_true rfl) (fun cx C => ?_)
  refine z_iload_n 1 dX6_road_0 rfl ?_
  refine z_aload_n 0 dX6_road_1 rfl ?_
  refine z_getR dX6_road_2 fX6_10_5 i0_0 ka0 ?_
  refine z_getI (r := O1) 4 rfl dX6_road_5 fX6_88_3 i1_4 ka1 (wO1) ?_
  refine z_iconst dX6_road_8 ?_
  refine z_isub dX6_road_9 ?_
  refine z_sI dX6_road_10 lX6_68 (by decide) (ct_X6_within en M _ _ (by omega)) rfl rfl (by exact Nat.le_of_ble_eq_true rfl) ?_
  refine z_ifeq_b (tgt := 24) dX6_road_13 rfl (fun uc13 => ?_) (fun uc13 => ?_)
  ·
    refine z_bipush dX6_road_24 rfl ?_
    exact z_iret C dX6_road_26 rfl ⟨congrArg (fun z => some (vi z)) ((if_neg (by omega)).symm), rfl⟩
  ·
    refine z_iload_n 2 dX6_road_16 rfl ?_
    refine z_iconst dX6_road_17 ?_
    refine z_sI dX6_road_18 lX6_68 (by decide) (ct_X6_within en M _ (2) (by omega)) rfl rfl (by exact Nat.le_of_ble_eq_true rfl) ?_
    refine z_ifne_b (tgt := 27) dX6_road_21 rfl (fun uc21 => ?_) (fun uc21 => ?_)
    ·
      refine z_iload_n 2 dX6_road_27 rfl ?_
      refine z_if_ne (tgt := 43) dX6_road_28 rfl (by omega) (fun uc28 => ?_) (fun uc28 => ?_)
      ·
        refine z_iload_n 2 dX6_road_43 rfl ?_
        refine z_iconst dX6_road_44 ?_
        refine z_icmp_ne (tgt := 60) dX6_road_45 rfl (by omega) (fun uc45 => ?_) (fun uc45 => ?_)
        ·
          refine z_aload_n 0 dX6_road_60 rfl ?_
          refine z_getR dX6_road_61 fX6_10_5 i0_0 ka0 ?_
          refine z_getR dX6_road_64 fX6_97_3 i1_7 ka1 ?_
          refine z_iload_n 1 dX6_road_67 rfl ?_
          refine z_iald (r := D) dX6_road_68 is21 ka21 (wD) (by omega) ?_
          exact z_iret C dX6_road_69 rfl ⟨congrArg (fun z => some (vi z)) (by rw [if_pos (by omega)]; rw [show wh = 2 by omega, tR_2]), rfl⟩
        ·
          refine z_aload_n 0 dX6_road_48 rfl ?_
          refine z_getR dX6_road_49 fX6_10_5 i0_0 ka0 ?_
          refine z_getR dX6_road_52 fX6_94_3 i1_6 ka1 ?_
          refine z_iload_n 1 dX6_road_55 rfl ?_
          refine z_iald (r := Gt) dX6_road_56 is20 ka20 (wGt) (by omega) ?_
          refine z_goto (tgt := 69) dX6_road_57 rfl ?_
          exact z_iret C dX6_road_69 rfl ⟨congrArg (fun z => some (vi z)) (by rw [if_pos (by omega)]; rw [uc45, tR_1]), rfl⟩
      ·
        refine z_aload_n 0 dX6_road_31 rfl ?_
        refine z_getR dX6_road_32 fX6_10_5 i0_0 ka0 ?_
        refine z_getR dX6_road_35 fX6_91_3 i1_5 ka1 ?_
        refine z_iload_n 1 dX6_road_38 rfl ?_
        refine z_iald (r := F) dX6_road_39 is19 ka19 (wF) (by omega) ?_
        refine z_goto (tgt := 69) dX6_road_40 rfl ?_
        exact z_iret C dX6_road_69 rfl ⟨congrArg (fun z => some (vi z)) (by rw [if_pos (by omega)]; rw [uc28, Int.add_zero, tR_0]), rfl⟩
    ·
      refine z_bipush dX6_road_24 rfl ?_
      exact z_iret C dX6_road_26 rfl ⟨congrArg (fun z => some (vi z)) ((if_neg (by omega)).symm), rfl⟩
set_option maxRecDepth 100000 in
theorem ct_X6_person (en : zE) (M : zW) (O2 : Int → Int) (A : Int → Int) (G : Int → Int) (K : Int → Int) (H : Int → Int) (S : Int → Int) (wO2 : M 2 = O2) (wA : M 24 = A) (wG : M 25 = G) (wK : M 26 = K) (wH : M 27 = H) (wS : M 28 = S) (p : Int) (wh : Int) (h0 : -2147483648 ≤ p ∧ p < 2147483648 ∧ -2147483648 ≤ wh ∧ wh < 2147483648) (hO : 0 ≤ O2 4 ∧ O2 4 ≤ 8) : Ct en kA yX6_person mX6_person [rf en 0, vi p, vi wh] M (pI ((if (0 ≤ p ∧ p ≤ O2 4 - 1) ∧ (0 ≤ wh ∧ wh ≤ 4) then tP A G K H S (5 * p + wh) else -2)) M) := by
  refine Ct.of (by decide +kernel) rfl [(0, rf en 0), (1, vi p), (2, vi wh)] rfl (Nat.le_of_ble_eq_true rfl) (fun cx C => ?_)
  refine z_aload_n 0 dX6_person_0 rfl ?_
  refine z_iload_n 1 dX6_person_1 rfl ?_
  refine z_vI dX6_person_2 lX6_100 (by decide) ka0 io0 rfl (ct_X6_isPerson en M O2 wO2 _ (by omega)) rfl rfl (by exact Nat.le_of_ble_eq_true rfl) ?_
  refine z_ifne_b (tgt := 11) dX6_person_5 rfl (fun uc5 => ?_) (fun uc5 => ?_)
  ·
    refine z_iload_n 2 dX6_person_11 rfl ?_
    refine z_top (fun usw12 eusw12 => ?_)
    by_cases uk12_0 : usw12 = 0
    ·
      refine z_tsw (tgt := 48) (0) uk12_0 dX6_person_12 (by decide) rfl rfl ?_
      refine z_aload_n 0 dX6_person_48 rfl ?_
      refine z_getR dX6_person_49 fX6_19_5 i0_1 ka0 ?_
      refine z_getR dX6_person_52 fX6_104_2 i2_5 ka2 ?_
      refine z_iload_n 1 dX6_person_55 rfl ?_
      refine z_iald (r := A) dX6_person_56 is24 ka24 (wA) (by omega) ?_
      exact z_iret C dX6_person_57 rfl ⟨congrArg (fun z => some (vi z)) (by rw [if_pos (by omega), show wh = 0 by omega, Int.add_zero, tP_0]), rfl⟩
    by_cases uk12_1 : usw12 = 1
    ·
      refine z_tsw (tgt := 58) (1) uk12_1 dX6_person_12 (by decide) rfl rfl ?_
      refine z_aload_n 0 dX6_person_58 rfl ?_
      refine z_getR dX6_person_59 fX6_19_5 i0_1 ka0 ?_
      refine z_getR dX6_person_62 fX6_107_2 i2_6 ka2 ?_
      refine z_iload_n 1 dX6_person_65 rfl ?_
      refine z_iald (r := G) dX6_person_66 is25 ka25 (wG) (by omega) ?_
      exact z_iret C dX6_person_67 rfl ⟨congrArg (fun z => some (vi z)) (by rw [if_pos (by omega), show wh = 1 by omega, tP_1]), rfl⟩
    by_cases uk12_2 : usw12 = 2
    ·
      refine z_tsw (tgt := 68) (2) uk12_2 dX6_person_12 (by decide) rfl rfl ?_
      refine z_aload_n 0 dX6_person_68 rfl ?_
      refine z_getR dX6_person_69 fX6_19_5 i0_1 ka0 ?_
      refine z_getR dX6_person_72 fX6_110_2 i2_7 ka2 ?_
      refine z_iload_n 1 dX6_person_75 rfl ?_
      refine z_iald (r := K) dX6_person_76 is26 ka26 (wK) (by omega) ?_
      exact z_iret C dX6_person_77 rfl ⟨congrArg (fun z => some (vi z)) (by rw [if_pos (by omega), show wh = 2 by omega, tP_2]), rfl⟩
    by_cases uk12_3 : usw12 = 3
    ·
      refine z_tsw (tgt := 78) (3) uk12_3 dX6_person_12 (by decide) rfl rfl ?_
      refine z_aload_n 0 dX6_person_78 rfl ?_
      refine z_getR dX6_person_79 fX6_19_5 i0_1 ka0 ?_
      refine z_getR dX6_person_82 fX6_113_2 i2_8 ka2 ?_
      refine z_iload_n 1 dX6_person_85 rfl ?_
      refine z_iald (r := H) dX6_person_86 is27 ka27 (wH) (by omega) ?_
      exact z_iret C dX6_person_87 rfl ⟨congrArg (fun z => some (vi z)) (by rw [if_pos (by omega), show wh = 3 by omega, tP_3]), rfl⟩
    by_cases uk12_4 : usw12 = 4
    ·
      refine z_tsw (tgt := 88) (4) uk12_4 dX6_person_12 (by decide) rfl rfl ?_
      refine z_aload_n 0 dX6_person_88 rfl ?_
      refine z_getR dX6_person_89 fX6_19_5 i0_1 ka0 ?_
      refine z_getR dX6_person_92 fX6_116_2 i2_9 ka2 ?_
      refine z_iload_n 1 dX6_person_95 rfl ?_
      refine z_iald (r := S) dX6_person_96 is28 ka28 (wS) (by omega) ?_
      exact z_iret C dX6_person_97 rfl ⟨congrArg (fun z => some (vi z)) (by rw [if_pos (by omega), show wh = 4 by omega, tP_4]), rfl⟩
    refine z_tswD (tgt := 98) dX6_person_12 (by omega) rfl ?_
    refine z_bipush dX6_person_98 rfl ?_
    exact z_iret C dX6_person_100 rfl ⟨congrArg (fun z => some (vi z)) ((if_neg (by omega)).symm), rfl⟩
  ·
    refine z_bipush dX6_person_8 rfl ?_
    exact z_iret C dX6_person_10 rfl ⟨congrArg (fun z => some (vi z)) ((if_neg (by omega)).symm), rfl⟩
set_option maxRecDepth 100000 in
theorem ct_X6_set (en : zE) (M : zW) (T : Int → Int) (wT : M 3 = T) (wh : Int) (v : Int) (h0 : -2147483648 ≤ wh ∧ wh < 2147483648 ∧ -2147483648 ≤ v ∧ v < 2147483648) : Ct en kA yX6_set mX6_set [rf en 0, vi wh, vi v] M (pX (fun x N => ((¬ ((0 ≤ wh ∧ wh ≤ 5) ∧ (0 ≤ v ∧ v ≤ tMost wh))) ∧ x = -2 ∧ M = N) ∨ (((0 ≤ wh ∧ wh ≤ 5) ∧ (0 ≤ v ∧ v ≤ tMost wh)) ∧ x = T wh ∧ upR M 3 (up T wh v) = N))) := by
  refine Ct.of (by decide +kernel) rfl [(0, rf en 0), (1, vi wh), (2, vi v)] rfl (Nat.le_of_ble_eq_true rfl) (fun cx C => ?_)
  refine z_iload_n 1 dX6_set_0 rfl ?_
  refine z_iconst dX6_set_1 ?_
  refine z_sI dX6_set_2 lX6_68 (by decide) (ct_X6_within en M _ (5) (by omega)) rfl rfl (by exact Nat.le_of_ble_eq_true rfl) ?_
  refine z_ifeq_b (tgt := 20) dX6_set_5 rfl (fun uc5 => ?_) (fun uc5 => ?_)
  ·
    refine z_bipush dX6_set_20 rfl ?_
    exact z_iret C dX6_set_22 rfl ⟨_, rfl, Or.inl ⟨by omega, rfl, rfl⟩⟩
  ·
    refine z_iload_n 2 dX6_set_8 rfl ?_
    refine z_tabA dX6_set_9 rfl ?_
    refine z_iload_n 1 dX6_set_12 rfl ?_
    refine z_tabI dX6_set_13 (by omega) ?_
    have utm := tMost_rg wh
    refine z_sI dX6_set_14 lX6_68 (by decide) (ct_X6_within en M _ _ (by omega)) rfl rfl (by exact Nat.le_of_ble_eq_true rfl) ?_
    refine z_ifne_b (tgt := 23) dX6_set_17 rfl (fun uc17 => ?_) (fun uc17 => ?_)
    ·
      refine z_aload_n 0 dX6_set_23 rfl ?_
      refine z_getR dX6_set_24 fX6_27_5 i0_2 ka0 ?_
      refine z_iload_n 1 dX6_set_27 rfl ?_
      refine z_iald (r := T) dX6_set_28 is3 ka3 (wT) (by omega) ?_
      refine z_istore_n (fun y => [(0, rf en 0), (1, vi wh), (2, vi v), (3, vi y)]) [1, 2, 3, 0] dX6_set_29 (by decide) (fun _ => rfl) (fun x3_29 e3_29 => ?_)
      refine z_aload_n 0 dX6_set_30 rfl ?_
      refine z_getR dX6_set_31 fX6_27_5 i0_2 ka0 ?_
      refine z_iload_n 1 dX6_set_34 rfl ?_
      refine z_iload_n 2 dX6_set_35 rfl ?_
      refine z_iast (r := T) dX6_set_36 is3 ka3 (wT) (by omega) (fun r3_36 f3_36 => ?_)
      refine z_iload_n 3 dX6_set_37 rfl ?_
      exact z_iret C dX6_set_38 rfl ⟨_, rfl, Or.inr ⟨by omega, e3_29, by rw [f3_36]⟩⟩
    ·
      refine z_bipush dX6_set_20 rfl ?_
      exact z_iret C dX6_set_22 rfl ⟨_, rfl, Or.inl ⟨by omega, rfl, rfl⟩⟩
set_option maxRecDepth 100000 in
theorem ct_X6_seen (en : zE) (M : zW) (O0 : Int → Int) (Q7 : Int → Int) (Q8 : Int → Int) (wO0 : M 0 = O0) (wQ7 : M 7 = Q7) (wQ8 : M 8 = Q8) (p : Int) (v : Int) (h0 : -2147483648 ≤ p ∧ p < 2147483648 ∧ -2147483648 ≤ v ∧ v < 2147483648 ∧ 0 ≤ O0 8 ∧ O0 8 ≤ 8) : Ct en kA yX6_seen mX6_seen [rf en 0, vi p, vi v] M (pX (fun x N => (¬ okS p v ∧ x = -2 ∧ M = N) ∨ (okS p v ∧ 8 ≤ O0 8 ∧ x = -4 ∧ M = N) ∨ (okS p v ∧ O0 8 < 8 ∧ x = O0 8 + 1 ∧ upR (upR (upR M 7 (up Q7 (O0 8) p)) 8 (up Q8 (O0 8) v)) 0 (up O0 8 (O0 8 + 1)) = N))) := by
  refine Ct.of (by decide +kernel) rfl [(0, rf en 0), (1, vi p), (2, vi v)] rfl (Nat.le_of_ble_eq_true rfl) (fun cx C => ?_)
  refine z_iload_n 1 dX6_seen_0 rfl ?_
  refine z_iload_n 2 dX6_seen_1 rfl ?_
  refine z_sI dX6_seen_2 lX6_174 (by decide) (ct_X6_maySee en M _ _ (by omega)) rfl rfl (by exact Nat.le_of_ble_eq_true rfl) ?_
  refine z_ifne_b (tgt := 11) dX6_seen_5 rfl (fun uc5 => ?_) (fun uc5 => ?_)
  ·
    refine z_aload_n 0 dX6_seen_11 rfl ?_
    refine z_getI (r := O0) 8 rfl dX6_seen_12 fX6_177_5 i0_8 ka0 (wO0) ?_
    refine z_bipush dX6_seen_15 rfl ?_
    refine z_icmp_lt (tgt := 23) dX6_seen_17 rfl (by omega) (fun uc17 => ?_) (fun uc17 => ?_)
    ·
      refine z_aload_n 0 dX6_seen_23 rfl ?_
      refine z_iload_n 1 dX6_seen_24 rfl ?_
      refine z_iload_n 2 dX6_seen_25 rfl ?_
      refine z_vV dX6_seen_26 lX6_180 (by decide) ka0 io0 rfl (ct_X6_seeMore en M O0 Q7 Q8 wO0 wQ7 wQ8 _ _ (by omega)) rfl rfl (by exact Nat.le_of_ble_eq_true rfl) ?_
      refine z_aload_n 0 dX6_seen_29 rfl ?_
      refine z_getI (r := (up O0 8 (O0 8 + 1))) 8 rfl dX6_seen_30 fX6_177_5 i0_8 ka0 (rfl) ?_
      exact z_iret C dX6_seen_33 rfl ⟨_, rfl, Or.inr (Or.inr ⟨uc5, uc17, up_s _ _ _, rfl⟩)⟩
    ·
      refine z_bipush dX6_seen_20 rfl ?_
      exact z_iret C dX6_seen_22 rfl ⟨_, rfl, Or.inr (Or.inl ⟨uc5, uc17, rfl, rfl⟩)⟩
  ·
    refine z_bipush dX6_seen_8 rfl ?_
    exact z_iret C dX6_seen_10 rfl ⟨_, rfl, Or.inl ⟨uc5, rfl, rfl⟩⟩
set_option maxRecDepth 100000 in
theorem ct_X6_forget (en : zE) (M : zW) (O0 : Int → Int) (wO0 : M 0 = O0) : Ct en kA yX6_forget mX6_forget [rf en 0] M (pI (O0 8) (upR M 0 (up O0 8 0))) := by
  refine Ct.of (by decide +kernel) rfl [(0, rf en 0)] rfl (Nat.le_of_ble_eq_true rfl) (fun cx C => ?_)
  refine z_aload_n 0 dX6_forget_0 rfl ?_
  refine z_getI (r := O0) 8 rfl dX6_forget_1 fX6_177_5 i0_8 ka0 (wO0) ?_
  refine z_istore_n (fun y => [(0, rf en 0), (1, vi y)]) [1, 0] dX6_forget_4 (by decide) (fun _ => rfl) (fun x1_4 e1_4 => ?_)
  refine z_aload_n 0 dX6_forget_5 rfl ?_
  refine z_iconst dX6_forget_6 ?_
  refine z_putI (r := O0) 8 rfl dX6_forget_7 pfX6_177_5 i0_8 ka0 (wO0) (fun r0_7 f0_7 => ?_)
  refine z_iload_n 1 dX6_forget_10 rfl ?_
  exact z_iret C dX6_forget_11 rfl ⟨congrArg (fun z => some (vi z)) (e1_4), by rw [f0_7]⟩
set_option maxRecDepth 100000 in
theorem ct_X2_richTogether (en : zE) (M : zW) (O2 : Int → Int) (A : Int → Int) (G : Int → Int) (K : Int → Int) (H : Int → Int) (S : Int → Int) (wO2 : M 2 = O2) (wA : M 24 = A) (wG : M 25 = G) (wK : M 26 = K) (wH : M 27 = H) (wS : M 28 = S) (hO : 0 ≤ O2 4 ∧ O2 4 ≤ 8) : Ct en kA yX2_richTogether mX2_richTogether [rf en 2] M (pI (rcS (tP A G K H S) (O2 4).toNat) M) := by
  refine Ct.of (by decide +kernel) rfl [(0, rf en 2)] rfl (Nat.le_of_ble_eq_true rfl) (fun cx C => ?_)
  refine z_iconst dX2_richTogether_0 ?_
  refine z_istore_n (fun y => [(0, rf en 2), (1, vi y)]) [1, 0] dX2_richTogether_1 (by decide) (fun _ => rfl) (fun x1_1 e1_1 => ?_)
  refine z_iconst dX2_richTogether_2 ?_
  refine z_istore_n (fun y => [(0, rf en 2), (1, vi x1_1), (2, vi y)]) [1, 2, 0] dX2_richTogether_3 (by decide) (fun _ => rfl) (fun x2_3 e2_3 => ?_)
  have uL4 : ∀ (fu : Nat) (x1 : Int) (x2 : Int), (O2 4 - x2).toNat < fu → (0 ≤ x2 ∧ x2 ≤ O2 4 ∧ x1 = rcS (tP A G K H S) x2.toNat) → Z en kA cx mX2_richTogether M 4 [(0, rf en 2), (1, vi x1), (2, vi x2)] [] := by
    intro fu
    induction fu with
    | zero => intro x1 x2 uhf; exact absurd uhf (Nat.not_lt_zero _)
    | succ fu uih4 =>
      intro x1 x2 uf4 uI4
      obtain ⟨uq1, uq2, uq3⟩ := uI4
      refine z_iload_n 2 dX2_richTogether_4 rfl ?_
      refine z_aload_n 0 dX2_richTogether_5 rfl ?_
      refine z_getI (r := O2) 4 rfl dX2_richTogether_6 fX2_35_2 i2_4 ka2 (wO2) ?_
      refine z_icmp_ge (tgt := 27) dX2_richTogether_9 rfl (by omega) (fun uc9 => ?_) (fun uc9 => ?_)
      ·
        refine z_iload_n 1 dX2_richTogether_27 rfl ?_
        exact z_iret C dX2_richTogether_28 rfl ⟨congrArg (fun z => some (vi z)) (by rw [uq3, show x2 = O2 4 by omega]), rfl⟩
      ·
        refine z_iload_n 1 dX2_richTogether_12 rfl ?_
        refine z_aload_n 0 dX2_richTogether_13 rfl ?_
        refine z_getR dX2_richTogether_14 fX2_21_2 i2_8 ka2 ?_
        refine z_iload_n 2 dX2_richTogether_17 rfl ?_
        refine z_iald (r := H) dX2_richTogether_18 is27 ka27 (wH) (by omega) ?_
        refine z_iadd dX2_richTogether_19 ?_
        refine z_istore_n (fun y => [(0, rf en 2), (1, vi y), (2, vi x2)]) [1, 0, 2] dX2_richTogether_20 (by decide) (fun _ => rfl) (fun x1_20 e1_20 => ?_)
        refine z_iinc (fun y => [(0, rf en 2), (1, vi x1_20), (2, vi y)]) [1, 2, 0] 2 dX2_richTogether_21 rfl (by decide) (fun _ => rfl) (fun x2_21 e2_21 => ?_)
        refine z_goto (tgt := 4) dX2_richTogether_24 rfl ?_
        exact uih4 x1_20 x2_21 (by omega) (⟨by omega, by omega, by rw [e1_20, e2_21, rc_s _ uq1, tP_3, ← uq3]⟩)
  exact uL4 _ x1_1 x2_3 (Nat.lt_succ_self _) (⟨by omega, by omega, by rw [e1_1, e2_3]; rfl⟩)
set_option maxRecDepth 100000 in
theorem ct_X6_count (en : zE) (M : zW) (O0 : Int → Int) (O1 : Int → Int) (O2 : Int → Int) (T : Int → Int) (O5 : Int → Int) (c : Int → Int) (A : Int → Int) (G : Int → Int) (K : Int → Int) (H : Int → Int) (S : Int → Int) (P0 : Int → Int) (Hd : Int → Int) (Lw : Int → Int) (C0 : Int → Int) (E0 : Int → Int) (R0 : Int → Int) (wO0 : M 0 = O0) (wO1 : M 1 = O1) (wO2 : M 2 = O2) (wT : M 3 = T) (wO5 : M 5 = O5) (wc : M 22 = c) (wA : M 24 = A) (wG : M 25 = G) (wK : M 26 = K) (wH : M 27 = H) (wS : M 28 = S) (wP0 : M 29 = P0) (wHd : M 30 = Hd) (wLw : M 31 = Lw) (wC0 : M 32 = C0) (wE0 : M 33 = E0) (wR0 : M 34 = R0) (wh : Int) (h0 : -2147483648 ≤ wh ∧ wh < 2147483648) (hT : tOK T) (hc : wB c) (hP : (0 ≤ O2 4 ∧ O2 4 ≤ 8) ∧ pOK (tP A G K H S) (O2 4)) : Ct en kA yX6_count mX6_count [rf en 0, vi wh] M (pX (fun x N => x = (if wh = 0 then O1 4 else if wh = 1 then O2 4 else if wh = 2 then O1 2 else if wh = 3 then O2 2 else if wh = 4 then rcS (tP A G K H S) (O2 4).toNat else if wh = 5 then rdn T (cW c) (tP A G K H S) (O2 4) (O2 4).toNat else if wh = 6 then T 5 else if wh = 7 then O0 8 else if wh = 8 then O0 10 else -2) ∧ kc M N)) := by
  refine Ct.of (by decide +kernel) rfl [(0, rf en 0), (1, vi wh)] rfl (Nat.le_of_ble_eq_true rfl) (fun cx C => ?_)
  refine z_iload_n 1 dX6_count_0 rfl ?_
  refine z_top (fun usw1 eusw1 => ?_)
  by_cases uk1_0 : usw1 = 0
  ·
    refine z_tsw (tgt := 52) (0) uk1_0 dX6_count_1 (by decide) rfl rfl ?_
    refine z_aload_n 0 dX6_count_52 rfl ?_
    refine z_getR dX6_count_53 fX6_10_5 i0_0 ka0 ?_
    refine z_getI (r := O1) 4 rfl dX6_count_56 fX6_88_3 i1_4 ka1 (wO1) ?_
    exact z_iret C dX6_count_59 rfl ⟨_, rfl, ⟨by rw [if_pos (by omega)], (kc_r M)⟩⟩
  by_cases uk1_1 : usw1 = 1
  ·
    refine z_tsw (tgt := 60) (1) uk1_1 dX6_count_1 (by decide) rfl rfl ?_
    refine z_aload_n 0 dX6_count_60 rfl ?_
    refine z_getR dX6_count_61 fX6_19_5 i0_1 ka0 ?_
    refine z_getI (r := O2) 4 rfl dX6_count_64 fX6_255_2 i2_4 ka2 (wO2) ?_
    exact z_iret C dX6_count_67 rfl ⟨_, rfl, ⟨by rw [if_neg (by omega), if_pos (by omega)], (kc_r M)⟩⟩
  by_cases uk1_2 : usw1 = 2
  ·
    refine z_tsw (tgt := 68) (2) uk1_2 dX6_count_1 (by decide) rfl rfl ?_
    refine z_aload_n 0 dX6_count_68 rfl ?_
    refine z_getR dX6_count_69 fX6_10_5 i0_0 ka0 ?_
    refine z_getI (r := O1) 2 rfl dX6_count_72 fX6_256_3 i1_2 ka1 (wO1) ?_
    exact z_iret C dX6_count_75 rfl ⟨_, rfl, ⟨by rw [if_neg (by omega), if_neg (by omega), if_pos (by omega)], (kc_r M)⟩⟩
  by_cases uk1_3 : usw1 = 3
  ·
    refine z_tsw (tgt := 76) (3) uk1_3 dX6_count_1 (by decide) rfl rfl ?_
    refine z_aload_n 0 dX6_count_76 rfl ?_
    refine z_getR dX6_count_77 fX6_19_5 i0_1 ka0 ?_
    refine z_getI (r := O2) 2 rfl dX6_count_80 fX6_257_2 i2_2 ka2 (wO2) ?_
    exact z_iret C dX6_count_83 rfl ⟨_, rfl, ⟨by rw [if_neg (by omega), if_neg (by omega), if_neg (by omega), if_pos (by omega)], (kc_r M)⟩⟩
  by_cases uk1_4 : usw1 = 4
  ·
    refine z_tsw (tgt := 84) (4) uk1_4 dX6_count_1 (by decide) rfl rfl ?_
    refine z_aload_n 0 dX6_count_84 rfl ?_
    refine z_getR dX6_count_85 fX6_19_5 i0_1 ka0 ?_
    refine z_vI dX6_count_88 lX6_258 (by decide) ka2 io2 rfl (ct_X2_richTogether en M O2 A G K H S wO2 wA wG wK wH wS (hP.1)) rfl rfl (by exact Nat.le_of_ble_eq_true rfl) ?_
    exact z_iret C dX6_count_91 rfl ⟨_, rfl, ⟨by rw [if_neg (by omega), if_neg (by omega), if_neg (by omega), if_neg (by omega), if_pos (by omega)], (kc_r M)⟩⟩
  by_cases uk1_5 : usw1 = 5
  ·
    refine z_tsw (tgt := 92) (5) uk1_5 dX6_count_1 (by decide) rfl rfl ?_
    refine z_aload_n 0 dX6_count_92 rfl ?_
    refine z_getR dX6_count_93 fX6_38_5 i0_4 ka0 ?_
    refine z_aload_n 0 dX6_count_96 rfl ?_
    refine z_getR dX6_count_97 fX6_27_5 i0_2 ka0 ?_
    refine z_vN dX6_count_100 lX6_126 (by decide) ka5 io5 rfl (ct_X1_follow_3 en M O2 T O5 c A G K H S P0 Hd Lw C0 E0 R0 wO2 wT wO5 wc wA wG wK wH wS wP0 wHd wLw wC0 wE0 wR0 (by assumption) (by assumption) (by assumption)) rfl rfl (by exact Nat.le_of_ble_eq_true rfl) (fun uN100 uh100 => ?_)
    obtain ⟨r5_100, r29_100, r30_100, r31_100, r32_100, r33_100, r34_100, uF, uF5, rfl⟩ := uh100
    have uFr := Flw.rg hT hc hP uF
    obtain ⟨uf1, uf2, uf3, uf4, uf5, uf6, uf7, uf8⟩ := id uF
    refine z_aload_n 0 dX6_count_103 rfl ?_
    refine z_getR dX6_count_104 fX6_38_5 i0_4 ka0 ?_
    refine z_vI dX6_count_107 lX6_261 (by decide) ka5 io5 rfl (ct_X1_coming en (upR (upR (upR (upR (upR (upR (upR M 30 r30_100) 5 r5_100) 31 r31_100) 32 r32_100) 33 r33_100) 34 r34_100) 29 r29_100) r32_100 rfl (fun uj ua ub => (uFr.2.1 uj ua ub).1)) rfl rfl (by exact Nat.le_of_ble_eq_true rfl) ?_
    exact z_iret C dX6_count_110 rfl ⟨_, rfl, ⟨by refine Eq.trans (rdn_out hP.1.1 (fun uq ua ub => by have uz := coO_rg hT (cW_ok hc) hP.2 ⟨ua, ub⟩; omega) 8 (by omega) (fun uq ua ub => uf3 uq ua ub)) ?_; rw [if_neg (by omega), if_neg (by omega), if_neg (by omega), if_neg (by omega), if_neg (by omega), if_pos (by omega)], (kc_u (by decide) (kc_u (by decide) (kc_u (by decide) (kc_u (by decide) (kc_u (by decide) (kc_u (by decide) (kc_u (by decide) (kc_r M))))))))⟩⟩
  by_cases uk1_6 : usw1 = 6
  ·
    refine z_tsw (tgt := 111) (6) uk1_6 dX6_count_1 (by decide) rfl rfl ?_
    refine z_aload_n 0 dX6_count_111 rfl ?_
    refine z_getR dX6_count_112 fX6_27_5 i0_2 ka0 ?_
    refine z_iconst dX6_count_115 ?_
    refine z_iald (r := T) dX6_count_116 is3 ka3 (wT) (by omega) ?_
    exact z_iret C dX6_count_117 rfl ⟨_, rfl, ⟨by rw [if_neg (by omega), if_neg (by omega), if_neg (by omega), if_neg (by omega), if_neg (by omega), if_neg (by omega), if_pos (by omega)], (kc_r M)⟩⟩
  by_cases uk1_7 : usw1 = 7
  ·
    refine z_tsw (tgt := 118) (7) uk1_7 dX6_count_1 (by decide) rfl rfl ?_
    refine z_aload_n 0 dX6_count_118 rfl ?_
    refine z_getI (r := O0) 8 rfl dX6_count_119 fX6_177_5 i0_8 ka0 (wO0) ?_
    exact z_iret C dX6_count_122 rfl ⟨_, rfl, ⟨by rw [if_neg (by omega), if_neg (by omega), if_neg (by omega), if_neg (by omega), if_neg (by omega), if_neg (by omega), if_neg (by omega), if_pos (by omega)], (kc_r M)⟩⟩
  by_cases uk1_8 : usw1 = 8
  ·
    refine z_tsw (tgt := 123) (8) uk1_8 dX6_count_1 (by decide) rfl rfl ?_
    refine z_aload_n 0 dX6_count_123 rfl ?_
    refine z_getI (r := O0) 10 rfl dX6_count_124 fX6_264_5 i0_10 ka0 (wO0) ?_
    exact z_iret C dX6_count_127 rfl ⟨_, rfl, ⟨by rw [if_neg (by omega), if_neg (by omega), if_neg (by omega), if_neg (by omega), if_neg (by omega), if_neg (by omega), if_neg (by omega), if_neg (by omega), if_pos (by omega)], (kc_r M)⟩⟩
  refine z_tswD (tgt := 128) dX6_count_1 (by omega) rfl ?_
  refine z_bipush dX6_count_128 rfl ?_
  exact z_iret C dX6_count_130 rfl ⟨_, rfl, ⟨by rw [if_neg (by omega), if_neg (by omega), if_neg (by omega), if_neg (by omega), if_neg (by omega), if_neg (by omega), if_neg (by omega), if_neg (by omega), if_neg (by omega)], (kc_r M)⟩⟩
