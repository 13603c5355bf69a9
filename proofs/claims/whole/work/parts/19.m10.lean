/-! the reference's own face: what a call answers, and that it keeps what it is told -/
abbrev scrL : List Nat := [44, 45, 47, 48, 49, 50, 52]
/-- only what is worked out anew differs -/
def kp (M N : zW) : Prop := (∀ k, k ∉ scrL → k ≠ 37 → N k = M k) ∧ ∀ j, j ≠ 7 → j ≠ 9 → j ≠ 19 → N 37 j = M 37 j
theorem kp_r (M : zW) : kp M M := ⟨fun _ _ _ => rfl, fun _ _ _ _ => rfl⟩
theorem kp_u {M N : zW} {k : Nat} {r : Int → Int} (hk : k ∈ scrL) (h : kp M N) : kp M (upR N k r) := by
  refine ⟨fun q h1 h2 => ?_, fun j h1 h2 h3 => ?_⟩
  · rw [upR_ne (fun z => h1 (by rw [z]; exact hk))]; exact h.1 q h1 h2
  · rw [upR_ne (fun z => by subst z; revert hk; decide)]; exact h.2 j h1 h2 h3
theorem kp_37 {M N : zW} {r : Int → Int} (hr : ∀ j, j ≠ 7 → j ≠ 9 → j ≠ 19 → r j = M 37 j) (h : kp M N) : kp M (upR N 37 r) := by
  refine ⟨fun q h1 h2 => ?_, fun j h1 h2 h3 => ?_⟩
  · rw [upR_ne h2]; exact h.1 q h1 h2
  · rw [upR_eq]; exact hr j h1 h2 h3
theorem Fnd.at {B Y Rd P Wy : Int → Int} {nr np : Int} (h : Fnd B Y nr np Rd P Wy) : ∃ W0, Wy = fwA Rd 4095 W0 nr.toNat := by
  obtain ⟨v1, v2, a1, a2, a3, b1, b2, b3, W0, e⟩ := h
  exact ⟨W0, e⟩
theorem kp_w {M : zW} {a r37 r44 r45 r47 : Int → Int} (hr : ∀ j, j ≠ 7 → j ≠ 9 → j ≠ 19 → r37 j = M 37 j) : kp (upR M 40 a) (upR (upR (upR (upR (upR M 37 r37) 44 r44) 45 r45) 47 r47) 40 a) := by
  refine ⟨fun q h1 h2 => ?_, fun j h1 h2 h3 => hr j h1 h2 h3⟩
  by_cases h : q = 40
  · subst h; rfl
  · rw [upR_ne h, upR_ne h, upR_ne (fun z => h1 (by rw [z]; decide)), upR_ne (fun z => h1 (by rw [z]; decide)), upR_ne (fun z => h1 (by rw [z]; decide)), upR_ne h2]
/-- count(what), of the texts' and the object's own numbers -/
def cnO (O Y T Wy P2 : Int → Int) (nr np wh : Int) : Int := if wh = 0 then nr else if wh = 1 then np else if wh = 2 then Y 0 else if wh = 3 then Y 1 else if wh = 4 then rcS P2 np.toNat else if wh = 5 then rdn T Wy P2 np np.toNat else if wh = 6 then T 5 else if wh = 7 then O 16 else if wh = 8 then O 4 else -2
set_option maxRecDepth 100000 in
theorem ct_X7_way (en : zE) (M : zW) (O : Int → Int) (B : Int → Int) (Y : Int → Int) (R : Int → Int) (P : Int → Int) (T : Int → Int) (W : Int → Int) (wO : M 37 = O) (wB : M 42 = B) (wY : M 43 = Y) (wR : M 44 = R) (wP : M 45 = P) (wT : M 46 = T) (wW : M 47 = W) (a : Int) (b : Int) (h0 : -2147483648 ≤ a ∧ a < 2147483648 ∧ -2147483648 ≤ b ∧ b < 2147483648) (hB : ∀ j, 0 ≤ j → j < 96 → 0 ≤ B j ∧ B j ≤ 255) (hY : ∀ j, 0 ≤ j → j < 2 → 0 ≤ Y j ∧ Y j ≤ 47) : Ct en kA yX7_way mX7_way [rf en 37, vi a, vi b] M (pX (fun x N => ∃ (nr np : Int) (Rd P2 Wy : Int → Int), Fnd B Y nr np Rd P2 Wy ∧ x = (if (0 ≤ a ∧ a ≤ 7) ∧ (0 ≤ b ∧ b ≤ 7) then orN (Wy (8 * a + b)) else -2) ∧ kp M N)) := by
  refine Ct.of (by decide +kernel) rfl [(0, rf en 37), (1, vi a), (2, vi b)] rfl (Nat.le_of_ble_eq_true rfl) (fun cx C => ?_)
  refine z_aload_n 0 dX7_way_0 rfl ?_
  refine z_vN dX7_way_1 lX7_132 (by decide) ka37 io37 rfl (ct_X7_find en M O B Y R P W wO wB wY wR wP wW (hB) (hY)) rfl rfl (by exact Nat.le_of_ble_eq_true rfl) (fun uN1 uh1 => ?_)
  obtain ⟨unr, unp, r44_1, r45_1, r47_1, uF, rfl⟩ := uh1
  obtain ⟨uF1, uF2, uF3, uF4, uF5⟩ := Fnd.rg hY uF
  obtain ⟨r37_1, uf37⟩ : ∃ ur : Int → Int, ur = up (up O 7 unr) 9 unp := ⟨_, rfl⟩
  rw [← uf37]
  have uo9 : r37_1 9 = unp := by rw [uf37, up_s]
  have uo7 : r37_1 7 = unr := by rw [uf37, up_n _ _ (by decide), up_s]
  have uo16 : r37_1 16 = O 16 := by rw [uf37, up_n _ _ (by decide), up_n _ _ (by decide)]
  have uo4 : r37_1 4 = O 4 := by rw [uf37, up_n _ _ (by decide), up_n _ _ (by decide)]
  have uF4b : pOK r45_1 (r37_1 9) := by rw [uo9]; exact uF4
  have uF3b : rdOK r44_1 (r37_1 7) := by rw [uo7]; exact uF3
  have uF6 : ∃ uW0, r47_1 = fwA r44_1 4095 uW0 (r37_1 7).toNat := by rw [uo7]; exact Fnd.at uF
  have uk37 : ∀ uj, uj ≠ 7 → uj ≠ 9 → uj ≠ 19 → r37_1 uj = M 37 uj := fun uj ua ub uc => by rw [uf37, up_n _ _ ub, up_n _ _ ua, wO]
  refine z_iload_n 1 dX7_way_4 rfl ?_
  refine z_sI dX7_way_5 lX7_135 (by decide) (ct_X7_isTown en (upR (upR (upR (upR M 37 r37_1) 44 r44_1) 45 r45_1) 47 r47_1) _ (by omega)) rfl rfl (by exact Nat.le_of_ble_eq_true rfl) ?_
  refine z_ifeq_b (tgt := 35) dX7_way_8 rfl (fun uc8 => ?_) (fun uc8 => ?_)
  ·
    refine z_bipush dX7_way_35 rfl ?_
    exact z_iret C dX7_way_37 rfl ⟨_, rfl, ⟨unr, unp, r44_1, r45_1, r47_1, uF, (if_neg (by omega)).symm, (kp_u (by decide) (kp_u (by decide) (kp_u (by decide) (kp_37 uk37 (kp_r M)))))⟩⟩
  ·
    refine z_iload_n 2 dX7_way_11 rfl ?_
    refine z_sI dX7_way_12 lX7_135 (by decide) (ct_X7_isTown en (upR (upR (upR (upR M 37 r37_1) 44 r44_1) 45 r45_1) 47 r47_1) _ (by omega)) rfl rfl (by exact Nat.le_of_ble_eq_true rfl) ?_
    refine z_ifeq_b (tgt := 35) dX7_way_15 rfl (fun uc15 => ?_) (fun uc15 => ?_)
    ·
      refine z_bipush dX7_way_35 rfl ?_
      exact z_iret C dX7_way_37 rfl ⟨_, rfl, ⟨unr, unp, r44_1, r45_1, r47_1, uF, (if_neg (by omega)).symm, (kp_u (by decide) (kp_u (by decide) (kp_u (by decide) (kp_37 uk37 (kp_r M)))))⟩⟩
    ·
      have uw := uF5 (8 * a + b) (by omega) (by omega)
      refine z_aload_n 0 dX7_way_18 rfl ?_
      refine z_getR dX7_way_19 fX7_37_6 i37_12 ka37 ?_
      refine z_bipush dX7_way_22 rfl ?_
      refine z_iload_n 1 dX7_way_24 rfl ?_
      refine z_imul dX7_way_25 ?_
      refine z_iload_n 2 dX7_way_26 rfl ?_
      refine z_iadd dX7_way_27 ?_
      refine z_iald (r := r47_1) dX7_way_28 is47 ka47 (rfl) (by omega) ?_
      refine z_sI dX7_way_29 lX7_138 (by decide) (ct_X7_orNone en (upR (upR (upR (upR M 37 r37_1) 44 r44_1) 45 r45_1) 47 r47_1) _ (by omega)) rfl rfl (by exact Nat.le_of_ble_eq_true rfl) ?_
      refine z_goto (tgt := 37) dX7_way_32 rfl ?_
      exact z_iret C dX7_way_37 rfl ⟨_, rfl, ⟨unr, unp, r44_1, r45_1, r47_1, uF, (if_pos ⟨uc8, uc15⟩).symm, (kp_u (by decide) (kp_u (by decide) (kp_u (by decide) (kp_37 uk37 (kp_r M)))))⟩⟩
set_option maxRecDepth 100000 in
theorem ct_X7_hears (en : zE) (M : zW) (O : Int → Int) (B : Int → Int) (Y : Int → Int) (R : Int → Int) (P : Int → Int) (T : Int → Int) (W : Int → Int) (wO : M 37 = O) (wB : M 42 = B) (wY : M 43 = Y) (wR : M 44 = R) (wP : M 45 = P) (wT : M 46 = T) (wW : M 47 = W) (t : Int) (wh : Int) (h0 : -2147483648 ≤ t ∧ t < 2147483648 ∧ -2147483648 ≤ wh ∧ wh < 2147483648) (hB : ∀ j, 0 ≤ j → j < 96 → 0 ≤ B j ∧ B j ≤ 255) (hY : ∀ j, 0 ≤ j → j < 2 → 0 ≤ Y j ∧ Y j ≤ 47) (hT : tOK T) : Ct en kA yX7_hears mX7_hears [rf en 37, vi t, vi wh] M (pX (fun x N => ∃ (nr np : Int) (Rd P2 Wy : Int → Int), Fnd B Y nr np Rd P2 Wy ∧ x = (if (0 ≤ t ∧ t ≤ 7) ∧ (0 ≤ wh ∧ wh ≤ 2) then hBy T Wy t wh else -2) ∧ kp M N)) := by
  refine Ct.of (by decide +kernel) rfl [(0, rf en 37), (1, vi t), (2, vi wh)] rfl (Nat.le_of_ble_eq_true rfl) (fun cx C => ?_)
  refine z_aload_n 0 dX7_hears_0 rfl ?_
  refine z_vN dX7_hears_1 lX7_132 (by decide) ka37 io37 rfl (ct_X7_find en M O B Y R P W wO wB wY wR wP wW (hB) (hY)) rfl rfl (by exact Nat.le_of_ble_eq_true rfl) (fun uN1 uh1 => ?_)
  obtain ⟨unr, unp, r44_1, r45_1, r47_1, uF, rfl⟩ := uh1
  obtain ⟨uF1, uF2, uF3, uF4, uF5⟩ := Fnd.rg hY uF
  obtain ⟨r37_1, uf37⟩ : ∃ ur : Int → Int, ur = up (up O 7 unr) 9 unp := ⟨_, rfl⟩
  rw [← uf37]
  have uo9 : r37_1 9 = unp := by rw [uf37, up_s]
  have uo7 : r37_1 7 = unr := by rw [uf37, up_n _ _ (by decide), up_s]
  have uo16 : r37_1 16 = O 16 := by rw [uf37, up_n _ _ (by decide), up_n _ _ (by decide)]
  have uo4 : r37_1 4 = O 4 := by rw [uf37, up_n _ _ (by decide), up_n _ _ (by decide)]
  have uF4b : pOK r45_1 (r37_1 9) := by rw [uo9]; exact uF4
  have uF3b : rdOK r44_1 (r37_1 7) := by rw [uo7]; exact uF3
  have uF6 : ∃ uW0, r47_1 = fwA r44_1 4095 uW0 (r37_1 7).toNat := by rw [uo7]; exact Fnd.at uF
  have uk37 : ∀ uj, uj ≠ 7 → uj ≠ 9 → uj ≠ 19 → r37_1 uj = M 37 uj := fun uj ua ub uc => by rw [uf37, up_n _ _ ub, up_n _ _ ua, wO]
  refine z_iload_n 1 dX7_hears_4 rfl ?_
  refine z_sI dX7_hears_5 lX7_135 (by decide) (ct_X7_isTown en (upR (upR (upR (upR M 37 r37_1) 44 r44_1) 45 r45_1) 47 r47_1) _ (by omega)) rfl rfl (by exact Nat.le_of_ble_eq_true rfl) ?_
  refine z_ifeq_b (tgt := 32) dX7_hears_8 rfl (fun uc8 => ?_) (fun uc8 => ?_)
  ·
    refine z_bipush dX7_hears_32 rfl ?_
    exact z_iret C dX7_hears_34 rfl ⟨_, rfl, ⟨unr, unp, r44_1, r45_1, r47_1, uF, (if_neg (by omega)).symm, (kp_u (by decide) (kp_u (by decide) (kp_u (by decide) (kp_37 uk37 (kp_r M)))))⟩⟩
  ·
    refine z_iload_n 2 dX7_hears_11 rfl ?_
    refine z_i2l dX7_hears_12 (by omega) ?_
    refine z_lconst (v := 0) dX7_hears_13 rfl ?_
    refine z_ldc2 (n := 2) dX7_hears_14 kX7_71 rfl ?_
    refine z_sI dX7_hears_17 lX7_57 (by decide) (ct_X7_in en (upR (upR (upR (upR M 37 r37_1) 44 r44_1) 45 r45_1) 47 r47_1) _ (0) (2) (by omega)) rfl rfl (by exact Nat.le_of_ble_eq_true rfl) ?_
    refine z_ifeq_b (tgt := 32) dX7_hears_20 rfl (fun uc20 => ?_) (fun uc20 => ?_)
    ·
      refine z_bipush dX7_hears_32 rfl ?_
      exact z_iret C dX7_hears_34 rfl ⟨_, rfl, ⟨unr, unp, r44_1, r45_1, r47_1, uF, (if_neg (by omega)).symm, (kp_u (by decide) (kp_u (by decide) (kp_u (by decide) (kp_37 uk37 (kp_r M)))))⟩⟩
    ·
      refine z_aload_n 0 dX7_hears_23 rfl ?_
      refine z_iload_n 1 dX7_hears_24 rfl ?_
      refine z_iload_n 2 dX7_hears_25 rfl ?_
      refine z_vI dX7_hears_26 lX7_153 (by decide) ka37 io37 rfl (ct_X7_hearsBy en (upR (upR (upR (upR M 37 r37_1) 44 r44_1) 45 r45_1) 47 r47_1) T r47_1 wT rfl _ _ (by assumption) (by assumption) (by omega) (by omega)) rfl rfl (by exact Nat.le_of_ble_eq_true rfl) ?_
      refine z_goto (tgt := 34) dX7_hears_29 rfl ?_
      exact z_iret C dX7_hears_34 rfl ⟨_, rfl, ⟨unr, unp, r44_1, r45_1, r47_1, uF, (if_pos ⟨uc8, uc20⟩).symm, (kp_u (by decide) (kp_u (by decide) (kp_u (by decide) (kp_37 uk37 (kp_r M)))))⟩⟩
set_option maxRecDepth 100000 in
theorem ct_X7_crowned (en : zE) (M : zW) (O : Int → Int) (B : Int → Int) (Y : Int → Int) (R : Int → Int) (P : Int → Int) (T : Int → Int) (W : Int → Int) (wO : M 37 = O) (wB : M 42 = B) (wY : M 43 = Y) (wR : M 44 = R) (wP : M 45 = P) (wT : M 46 = T) (wW : M 47 = W) (hB : ∀ j, 0 ≤ j → j < 96 → 0 ≤ B j ∧ B j ≤ 255) (hY : ∀ j, 0 ≤ j → j < 2 → 0 ≤ Y j ∧ Y j ≤ 47) (hT : tOK T) : Ct en kA yX7_crowned mX7_crowned [rf en 37] M (pX (fun x N => ∃ (nr np : Int) (Rd P2 Wy : Int → Int), Fnd B Y nr np Rd P2 Wy ∧ x = orN (crO T Wy) ∧ kp M N)) := by
  refine Ct.of (by decide +kernel) rfl [(0, rf en 37)] rfl (Nat.le_of_ble_eq_true rfl) (fun cx C => ?_)
  refine z_aload_n 0 dX7_crowned_0 rfl ?_
  refine z_vN dX7_crowned_1 lX7_132 (by decide) ka37 io37 rfl (ct_X7_find en M O B Y R P W wO wB wY wR wP wW (hB) (hY)) rfl rfl (by exact Nat.le_of_ble_eq_true rfl) (fun uN1 uh1 => ?_)
  obtain ⟨unr, unp, r44_1, r45_1, r47_1, uF, rfl⟩ := uh1
  obtain ⟨uF1, uF2, uF3, uF4, uF5⟩ := Fnd.rg hY uF
  obtain ⟨r37_1, uf37⟩ : ∃ ur : Int → Int, ur = up (up O 7 unr) 9 unp := ⟨_, rfl⟩
  rw [← uf37]
  have uo9 : r37_1 9 = unp := by rw [uf37, up_s]
  have uo7 : r37_1 7 = unr := by rw [uf37, up_n _ _ (by decide), up_s]
  have uo16 : r37_1 16 = O 16 := by rw [uf37, up_n _ _ (by decide), up_n _ _ (by decide)]
  have uo4 : r37_1 4 = O 4 := by rw [uf37, up_n _ _ (by decide), up_n _ _ (by decide)]
  have uF4b : pOK r45_1 (r37_1 9) := by rw [uo9]; exact uF4
  have uF3b : rdOK r44_1 (r37_1 7) := by rw [uo7]; exact uF3
  have uF6 : ∃ uW0, r47_1 = fwA r44_1 4095 uW0 (r37_1 7).toNat := by rw [uo7]; exact Fnd.at uF
  have uk37 : ∀ uj, uj ≠ 7 → uj ≠ 9 → uj ≠ 19 → r37_1 uj = M 37 uj := fun uj ua ub uc => by rw [uf37, up_n _ _ ub, up_n _ _ ua, wO]
  refine z_aload_n 0 dX7_crowned_4 rfl ?_
  refine z_vI dX7_crowned_5 lX7_144 (by decide) ka37 io37 rfl (ct_X7_crownedOn en (upR (upR (upR (upR M 37 r37_1) 44 r44_1) 45 r45_1) 47 r47_1) T r47_1 wT rfl (by assumption) (by assumption)) rfl rfl (by exact Nat.le_of_ble_eq_true rfl) ?_
  have uc := crO_rg hT uF5
  refine z_sI dX7_crowned_8 lX7_138 (by decide) (ct_X7_orNone en (upR (upR (upR (upR M 37 r37_1) 44 r44_1) 45 r45_1) 47 r47_1) _ (by omega)) rfl rfl (by exact Nat.le_of_ble_eq_true rfl) ?_
  exact z_iret C dX7_crowned_11 rfl ⟨_, rfl, ⟨unr, unp, r44_1, r45_1, r47_1, uF, rfl, (kp_u (by decide) (kp_u (by decide) (kp_u (by decide) (kp_37 uk37 (kp_r M)))))⟩⟩
set_option maxRecDepth 100000 in
theorem ct_X7_knew (en : zE) (M : zW) (O : Int → Int) (B : Int → Int) (Y : Int → Int) (R : Int → Int) (P : Int → Int) (T : Int → Int) (W : Int → Int) (wO : M 37 = O) (wB : M 42 = B) (wY : M 43 = Y) (wR : M 44 = R) (wP : M 45 = P) (wT : M 46 = T) (wW : M 47 = W) (d : Int) (h0 : -2147483648 ≤ d ∧ d < 2147483648) (hB : ∀ j, 0 ≤ j → j < 96 → 0 ≤ B j ∧ B j ≤ 255) (hY : ∀ j, 0 ≤ j → j < 2 → 0 ≤ Y j ∧ Y j ≤ 47) (hT : tOK T) : Ct en kA yX7_knew mX7_knew [rf en 37, vi d] M (pX (fun x N => ∃ (nr np : Int) (Rd P2 Wy : Int → Int), Fnd B Y nr np Rd P2 Wy ∧ x = (if 0 ≤ d ∧ d ≤ 99 then (knB T Wy d 8 : Int) else -2) ∧ kp M N)) := by
  refine Ct.of (by decide +kernel) rfl [(0, rf en 37), (1, vi d)] rfl (Nat.le_of_ble_eq_true rfl) (fun cx C => ?_)
  refine z_aload_n 0 dX7_knew_0 rfl ?_
  refine z_vN dX7_knew_1 lX7_132 (by decide) ka37 io37 rfl (ct_X7_find en M O B Y R P W wO wB wY wR wP wW (hB) (hY)) rfl rfl (by exact Nat.le_of_ble_eq_true rfl) (fun uN1 uh1 => ?_)
  obtain ⟨unr, unp, r44_1, r45_1, r47_1, uF, rfl⟩ := uh1
  obtain ⟨uF1, uF2, uF3, uF4, uF5⟩ := Fnd.rg hY uF
  obtain ⟨r37_1, uf37⟩ : ∃ ur : Int → Int, ur = up (up O 7 unr) 9 unp := ⟨_, rfl⟩
  rw [← uf37]
  have uo9 : r37_1 9 = unp := by rw [uf37, up_s]
  have uo7 : r37_1 7 = unr := by rw [uf37, up_n _ _ (by decide), up_s]
  have uo16 : r37_1 16 = O 16 := by rw [uf37, up_n _ _ (by decide), up_n _ _ (by decide)]
  have uo4 : r37_1 4 = O 4 := by rw [uf37, up_n _ _ (by decide), up_n _ _ (by decide)]
  have uF4b : pOK r45_1 (r37_1 9) := by rw [uo9]; exact uF4
  have uF3b : rdOK r44_1 (r37_1 7) := by rw [uo7]; exact uF3
  have uF6 : ∃ uW0, r47_1 = fwA r44_1 4095 uW0 (r37_1 7).toNat := by rw [uo7]; exact Fnd.at uF
  have uk37 : ∀ uj, uj ≠ 7 → uj ≠ 9 → uj ≠ 19 → r37_1 uj = M 37 uj := fun uj ua ub uc => by rw [uf37, up_n _ _ ub, up_n _ _ ua, wO]
  refine z_iload_n 1 dX7_knew_4 rfl ?_
  refine z_i2l dX7_knew_5 (by omega) ?_
  refine z_lconst (v := 0) dX7_knew_6 rfl ?_
  refine z_ldc2 (n := 99) dX7_knew_7 kX7_156 rfl ?_
  refine z_sI dX7_knew_10 lX7_57 (by decide) (ct_X7_in en (upR (upR (upR (upR M 37 r37_1) 44 r44_1) 45 r45_1) 47 r47_1) _ (0) (99) (by omega)) rfl rfl (by exact Nat.le_of_ble_eq_true rfl) ?_
  refine z_ifeq_b (tgt := 24) dX7_knew_13 rfl (fun uc13 => ?_) (fun uc13 => ?_)
  ·
    refine z_bipush dX7_knew_24 rfl ?_
    exact z_iret C dX7_knew_26 rfl ⟨_, rfl, ⟨unr, unp, r44_1, r45_1, r47_1, uF, (if_neg uc13).symm, (kp_u (by decide) (kp_u (by decide) (kp_u (by decide) (kp_37 uk37 (kp_r M)))))⟩⟩
  ·
    refine z_aload_n 0 dX7_knew_16 rfl ?_
    refine z_iload_n 1 dX7_knew_17 rfl ?_
    refine z_vI dX7_knew_18 lX7_158 (by decide) ka37 io37 rfl (ct_X7_knewBy en (upR (upR (upR (upR M 37 r37_1) 44 r44_1) 45 r45_1) 47 r47_1) T r47_1 wT rfl _ (by assumption) (by assumption) (by omega)) rfl rfl (by exact Nat.le_of_ble_eq_true rfl) ?_
    refine z_goto (tgt := 26) dX7_knew_21 rfl ?_
    exact z_iret C dX7_knew_26 rfl ⟨_, rfl, ⟨unr, unp, r44_1, r45_1, r47_1, uF, (if_pos uc13).symm, (kp_u (by decide) (kp_u (by decide) (kp_u (by decide) (kp_37 uk37 (kp_r M)))))⟩⟩
set_option maxRecDepth 100000 in
theorem ct_X7_rides (en : zE) (M : zW) (O : Int → Int) (B : Int → Int) (Y : Int → Int) (R : Int → Int) (P : Int → Int) (T : Int → Int) (W : Int → Int) (C0 : Int → Int) (E0 : Int → Int) (G0 : Int → Int) (wO : M 37 = O) (wB : M 42 = B) (wY : M 43 = Y) (wR : M 44 = R) (wP : M 45 = P) (wT : M 46 = T) (wW : M 47 = W) (wC0 : M 48 = C0) (wE0 : M 49 = E0) (wG0 : M 50 = G0) (p : Int) (wh : Int) (h0 : -2147483648 ≤ p ∧ p < 2147483648 ∧ -2147483648 ≤ wh ∧ wh < 2147483648) (hB : ∀ j, 0 ≤ j → j < 96 → 0 ≤ B j ∧ B j ≤ 255) (hY : ∀ j, 0 ≤ j → j < 2 → 0 ≤ Y j ∧ Y j ≤ 47) (hT : tOK T) : Ct en kA yX7_rides mX7_rides [rf en 37, vi p, vi wh] M (pX (fun x N => ∃ (nr np : Int) (Rd P2 Wy : Int → Int), Fnd B Y nr np Rd P2 Wy ∧ x = (if (0 ≤ p ∧ p ≤ np - 1) ∧ (0 ≤ wh ∧ wh ≤ 2) then (if wh = 0 then orN (coO T Wy P2 np p) else if wh = 1 then enO T Wy P2 np p else riO T Wy P2 np p) else -2) ∧ kp M N)) := by
  refine Ct.of (by decide +kernel) rfl [(0, rf en 37), (1, vi p), (2, vi wh)] rfl (Nat.le_of_ble_eq_true rfl) (fun cx C => ?_)
  refine z_aload_n 0 dX7_rides_0 rfl ?_
  refine z_vN dX7_rides_1 lX7_132 (by decide) ka37 io37 rfl (ct_X7_find en M O B Y R P W wO wB wY wR wP wW (hB) (hY)) rfl rfl (by exact Nat.le_of_ble_eq_true rfl) (fun uN1 uh1 => ?_)
  obtain ⟨unr, unp, r44_1, r45_1, r47_1, uF, rfl⟩ := uh1
  obtain ⟨uF1, uF2, uF3, uF4, uF5⟩ := Fnd.rg hY uF
  obtain ⟨r37_1, uf37⟩ : ∃ ur : Int → Int, ur = up (up O 7 unr) 9 unp := ⟨_, rfl⟩
  rw [← uf37]
  have uo9 : r37_1 9 = unp := by rw [uf37, up_s]
  have uo7 : r37_1 7 = unr := by rw [uf37, up_n _ _ (by decide), up_s]
  have uo16 : r37_1 16 = O 16 := by rw [uf37, up_n _ _ (by decide), up_n _ _ (by decide)]
  have uo4 : r37_1 4 = O 4 := by rw [uf37, up_n _ _ (by decide), up_n _ _ (by decide)]
  have uF4b : pOK r45_1 (r37_1 9) := by rw [uo9]; exact uF4
  have uF3b : rdOK r44_1 (r37_1 7) := by rw [uo7]; exact uF3
  have uF6 : ∃ uW0, r47_1 = fwA r44_1 4095 uW0 (r37_1 7).toNat := by rw [uo7]; exact Fnd.at uF
  have uk37 : ∀ uj, uj ≠ 7 → uj ≠ 9 → uj ≠ 19 → r37_1 uj = M 37 uj := fun uj ua ub uc => by rw [uf37, up_n _ _ ub, up_n _ _ ua, wO]
  refine z_aload_n 0 dX7_rides_4 rfl ?_
  refine z_vN dX7_rides_5 lX7_170 (by decide) ka37 io37 rfl (ct_X7_lives en (upR (upR (upR (upR M 37 r37_1) 44 r44_1) 45 r45_1) 47 r47_1) r37_1 r45_1 T r47_1 C0 E0 G0 rfl rfl wT rfl wC0 wE0 wG0 (by assumption) (by assumption) (by assumption) (by omega)) rfl rfl (by exact Nat.le_of_ble_eq_true rfl) (fun uN5 uh5 => ?_)
  obtain ⟨r48_5, r49_5, r50_5, ul1_5, ul2_5, ul3_5, rfl⟩ := uh5
  refine z_aload_n 0 dX7_rides_8 rfl ?_
  refine z_iload_n 1 dX7_rides_9 rfl ?_
  refine z_vI dX7_rides_10 lX7_112 (by decide) ka37 io37 rfl (ct_X7_isPerson en (upR (upR (upR (upR (upR (upR (upR M 37 r37_1) 44 r44_1) 45 r45_1) 47 r47_1) 48 r48_5) 49 r49_5) 50 r50_5) r37_1 rfl _ (by omega)) rfl rfl (by exact Nat.le_of_ble_eq_true rfl) ?_
  refine z_ifeq_b (tgt := 37) dX7_rides_13 rfl (fun uc13 => ?_) (fun uc13 => ?_)
  ·
    refine z_bipush dX7_rides_37 rfl ?_
    exact z_iret C dX7_rides_39 rfl ⟨_, rfl, ⟨unr, unp, r44_1, r45_1, r47_1, uF, (if_neg (by omega)).symm, (kp_u (by decide) (kp_u (by decide) (kp_u (by decide) (kp_u (by decide) (kp_u (by decide) (kp_u (by decide) (kp_37 uk37 (kp_r M))))))))⟩⟩
  ·
    refine z_iload_n 2 dX7_rides_16 rfl ?_
    refine z_i2l dX7_rides_17 (by omega) ?_
    refine z_lconst (v := 0) dX7_rides_18 rfl ?_
    refine z_ldc2 (n := 2) dX7_rides_19 kX7_71 rfl ?_
    refine z_sI dX7_rides_22 lX7_57 (by decide) (ct_X7_in en (upR (upR (upR (upR (upR (upR (upR M 37 r37_1) 44 r44_1) 45 r45_1) 47 r47_1) 48 r48_5) 49 r49_5) 50 r50_5) _ (0) (2) (by omega)) rfl rfl (by exact Nat.le_of_ble_eq_true rfl) ?_
    refine z_ifeq_b (tgt := 37) dX7_rides_25 rfl (fun uc25 => ?_) (fun uc25 => ?_)
    ·
      refine z_bipush dX7_rides_37 rfl ?_
      exact z_iret C dX7_rides_39 rfl ⟨_, rfl, ⟨unr, unp, r44_1, r45_1, r47_1, uF, (if_neg (by omega)).symm, (kp_u (by decide) (kp_u (by decide) (kp_u (by decide) (kp_u (by decide) (kp_u (by decide) (kp_u (by decide) (kp_37 uk37 (kp_r M))))))))⟩⟩
    ·
      have uc := coO_rg hT uF5 uF4 (p := p) (by omega)
      have ul1 := ul1_5 p (by omega) (by omega)
      have ul2 := ul2_5 p (by omega) (by omega)
      have ul3 := ul3_5 p (by omega) (by omega)
      rw [uo9] at ul1 ul2 ul3
      refine z_aload_n 0 dX7_rides_28 rfl ?_
      refine z_iload_n 1 dX7_rides_29 rfl ?_
      refine z_iload_n 2 dX7_rides_30 rfl ?_
      refine z_vI dX7_rides_31 lX7_173 (by decide) ka37 io37 rfl (ct_X7_ridesOf en (upR (upR (upR (upR (upR (upR (upR M 37 r37_1) 44 r44_1) 45 r45_1) 47 r47_1) 48 r48_5) 49 r49_5) 50 r50_5) r48_5 r49_5 r50_5 rfl rfl rfl _ _ (by omega)) rfl rfl (by exact Nat.le_of_ble_eq_true rfl) ?_
      refine z_goto (tgt := 39) dX7_rides_34 rfl ?_
      exact z_iret C dX7_rides_39 rfl ⟨_, rfl, ⟨unr, unp, r44_1, r45_1, r47_1, uF, by rw [ul1, ul2, ul3]; exact (if_pos (by omega)).symm, (kp_u (by decide) (kp_u (by decide) (kp_u (by decide) (kp_u (by decide) (kp_u (by decide) (kp_u (by decide) (kp_37 uk37 (kp_r M))))))))⟩⟩
set_option maxRecDepth 100000 in
theorem ct_X7_lost (en : zE) (M : zW) (O : Int → Int) (B : Int → Int) (Y : Int → Int) (R : Int → Int) (P : Int → Int) (T : Int → Int) (W : Int → Int) (C0 : Int → Int) (E0 : Int → Int) (G0 : Int → Int) (wO : M 37 = O) (wB : M 42 = B) (wY : M 43 = Y) (wR : M 44 = R) (wP : M 45 = P) (wT : M 46 = T) (wW : M 47 = W) (wC0 : M 48 = C0) (wE0 : M 49 = E0) (wG0 : M 50 = G0) (wh : Int) (h0 : -2147483648 ≤ wh ∧ wh < 2147483648) (hB : ∀ j, 0 ≤ j → j < 96 → 0 ≤ B j ∧ B j ≤ 255) (hY : ∀ j, 0 ≤ j → j < 2 → 0 ≤ Y j ∧ Y j ≤ 47) (hT : tOK T) : Ct en kA yX7_lost mX7_lost [rf en 37, vi wh] M (pX (fun x N => ∃ (nr np : Int) (Rd P2 Wy : Int → Int), Fnd B Y nr np Rd P2 Wy ∧ x = (if 0 ≤ wh ∧ wh ≤ 1 then (if wh = 0 then wns T Wy P2 np else lsO T Wy P2 np np.toNat) else -2) ∧ kp M N)) := by
  refine Ct.of (by decide +kernel) rfl [(0, rf en 37), (1, vi wh)] rfl (Nat.le_of_ble_eq_true rfl) (fun cx C => ?_)
  refine z_aload_n 0 dX7_lost_0 rfl ?_
  refine z_vN dX7_lost_1 lX7_132 (by decide) ka37 io37 rfl (ct_X7_find en M O B Y R P W wO wB wY wR wP wW (hB) (hY)) rfl rfl (by exact Nat.le_of_ble_eq_true rfl) (fun uN1 uh1 => ?_)
  obtain ⟨unr, unp, r44_1, r45_1, r47_1, uF, rfl⟩ := uh1
  obtain ⟨uF1, uF2, uF3, uF4, uF5⟩ := Fnd.rg hY uF
  obtain ⟨r37_1, uf37⟩ : ∃ ur : Int → Int, ur = up (up O 7 unr) 9 unp := ⟨_, rfl⟩
  rw [← uf37]
  have uo9 : r37_1 9 = unp := by rw [uf37, up_s]
  have uo7 : r37_1 7 = unr := by rw [uf37, up_n _ _ (by decide), up_s]
  have uo16 : r37_1 16 = O 16 := by rw [uf37, up_n _ _ (by decide), up_n _ _ (by decide)]
  have uo4 : r37_1 4 = O 4 := by rw [uf37, up_n _ _ (by decide), up_n _ _ (by decide)]
  have uF4b : pOK r45_1 (r37_1 9) := by rw [uo9]; exact uF4
  have uF3b : rdOK r44_1 (r37_1 7) := by rw [uo7]; exact uF3
  have uF6 : ∃ uW0, r47_1 = fwA r44_1 4095 uW0 (r37_1 7).toNat := by rw [uo7]; exact Fnd.at uF
  have uk37 : ∀ uj, uj ≠ 7 → uj ≠ 9 → uj ≠ 19 → r37_1 uj = M 37 uj := fun uj ua ub uc => by rw [uf37, up_n _ _ ub, up_n _ _ ua, wO]
  refine z_iload_n 1 dX7_lost_4 rfl ?_
  refine z_sI dX7_lost_5 lX7_86 (by decide) (ct_X7_isTwo en (upR (upR (upR (upR M 37 r37_1) 44 r44_1) 45 r45_1) 47 r47_1) _ (by omega)) rfl rfl (by exact Nat.le_of_ble_eq_true rfl) ?_
  refine z_ifeq_b (tgt := 19) dX7_lost_8 rfl (fun uc8 => ?_) (fun uc8 => ?_)
  ·
    refine z_bipush dX7_lost_19 rfl ?_
    exact z_iret C dX7_lost_21 rfl ⟨_, rfl, ⟨unr, unp, r44_1, r45_1, r47_1, uF, (if_neg (by omega)).symm, (kp_u (by decide) (kp_u (by decide) (kp_u (by decide) (kp_37 uk37 (kp_r M)))))⟩⟩
  ·
    refine z_aload_n 0 dX7_lost_11 rfl ?_
    refine z_iload_n 1 dX7_lost_12 rfl ?_
    refine z_vX dX7_lost_13 lX7_179 (by decide) ka37 io37 rfl (ct_X7_lostBy en (upR (upR (upR (upR M 37 r37_1) 44 r44_1) 45 r45_1) 47 r47_1) r37_1 r45_1 T r47_1 C0 E0 G0 rfl rfl wT rfl wC0 wE0 wG0 _ (by assumption) (by assumption) (by assumption) (by omega) (by omega)) rfl rfl (by exact Nat.le_of_ble_eq_true rfl) (fun uv13 uN13 uh13 => ?_)
    obtain ⟨r48_13, r49_13, r50_13, ul1_13, ul2_13, ul3_13, uw_13, rfl⟩ := uh13
    have uwr_13 := wns_rg T r47_1 r45_1 (np := r37_1 9) (by omega)
    refine z_goto (tgt := 21) dX7_lost_16 rfl ?_
    exact z_iret C dX7_lost_21 rfl ⟨_, rfl, ⟨unr, unp, r44_1, r45_1, r47_1, uF, by rw [if_pos (by omega), uw_13, uo9], (kp_u (by decide) (kp_u (by decide) (kp_u (by decide) (kp_u (by decide) (kp_u (by decide) (kp_u (by decide) (kp_37 uk37 (kp_r M))))))))⟩⟩
set_option maxRecDepth 100000 in
theorem ct_X7_swear (en : zE) (M : zW) (O : Int → Int) (B : Int → Int) (Y : Int → Int) (R : Int → Int) (P : Int → Int) (T : Int → Int) (W : Int → Int) (C0 : Int → Int) (E0 : Int → Int) (G0 : Int → Int) (wO : M 37 = O) (wB : M 42 = B) (wY : M 43 = Y) (wR : M 44 = R) (wP : M 45 = P) (wT : M 46 = T) (wW : M 47 = W) (wC0 : M 48 = C0) (wE0 : M 49 = E0) (wG0 : M 50 = G0) (wh : Int) (h0 : -2147483648 ≤ wh ∧ wh < 2147483648) (hB : ∀ j, 0 ≤ j → j < 96 → 0 ≤ B j ∧ B j ≤ 255) (hY : ∀ j, 0 ≤ j → j < 2 → 0 ≤ Y j ∧ Y j ≤ 47) (hT : tOK T) : Ct en kA yX7_swear mX7_swear [rf en 37, vi wh] M (pX (fun x N => ∃ (nr np : Int) (Rd P2 Wy : Int → Int), Fnd B Y nr np Rd P2 Wy ∧ x = (if 0 ≤ wh ∧ wh ≤ 1 then (if wh = 0 then (pcn (swS T Wy P2 np 255).toNat : Int) else swS T Wy P2 np 255) else -2) ∧ kp M N)) := by
  refine Ct.of (by decide +kernel) rfl [(0, rf en 37), (1, vi wh)] rfl (Nat.le_of_ble_eq_true rfl) (fun cx C => ?_)
  refine z_aload_n 0 dX7_swear_0 rfl ?_
  refine z_vN dX7_swear_1 lX7_132 (by decide) ka37 io37 rfl (ct_X7_find en M O B Y R P W wO wB wY wR wP wW (hB) (hY)) rfl rfl (by exact Nat.le_of_ble_eq_true rfl) (fun uN1 uh1 => ?_)
  obtain ⟨unr, unp, r44_1, r45_1, r47_1, uF, rfl⟩ := uh1
  obtain ⟨uF1, uF2, uF3, uF4, uF5⟩ := Fnd.rg hY uF
  obtain ⟨r37_1, uf37⟩ : ∃ ur : Int → Int, ur = up (up O 7 unr) 9 unp := ⟨_, rfl⟩
  rw [← uf37]
  have uo9 : r37_1 9 = unp := by rw [uf37, up_s]
  have uo7 : r37_1 7 = unr := by rw [uf37, up_n _ _ (by decide), up_s]
  have uo16 : r37_1 16 = O 16 := by rw [uf37, up_n _ _ (by decide), up_n _ _ (by decide)]
  have uo4 : r37_1 4 = O 4 := by rw [uf37, up_n _ _ (by decide), up_n _ _ (by decide)]
  have uF4b : pOK r45_1 (r37_1 9) := by rw [uo9]; exact uF4
  have uF3b : rdOK r44_1 (r37_1 7) := by rw [uo7]; exact uF3
  have uF6 : ∃ uW0, r47_1 = fwA r44_1 4095 uW0 (r37_1 7).toNat := by rw [uo7]; exact Fnd.at uF
  have uk37 : ∀ uj, uj ≠ 7 → uj ≠ 9 → uj ≠ 19 → r37_1 uj = M 37 uj := fun uj ua ub uc => by rw [uf37, up_n _ _ ub, up_n _ _ ua, wO]
  refine z_iload_n 1 dX7_swear_4 rfl ?_
  refine z_sI dX7_swear_5 lX7_86 (by decide) (ct_X7_isTwo en (upR (upR (upR (upR M 37 r37_1) 44 r44_1) 45 r45_1) 47 r47_1) _ (by omega)) rfl rfl (by exact Nat.le_of_ble_eq_true rfl) ?_
  refine z_ifeq_b (tgt := 19) dX7_swear_8 rfl (fun uc8 => ?_) (fun uc8 => ?_)
  ·
    refine z_bipush dX7_swear_19 rfl ?_
    exact z_iret C dX7_swear_21 rfl ⟨_, rfl, ⟨unr, unp, r44_1, r45_1, r47_1, uF, (if_neg (by omega)).symm, (kp_u (by decide) (kp_u (by decide) (kp_u (by decide) (kp_37 uk37 (kp_r M)))))⟩⟩
  ·
    refine z_aload_n 0 dX7_swear_11 rfl ?_
    refine z_iload_n 1 dX7_swear_12 rfl ?_
    refine z_vX dX7_swear_13 lX7_185 (by decide) ka37 io37 rfl (ct_X7_swearBy en (upR (upR (upR (upR M 37 r37_1) 44 r44_1) 45 r45_1) 47 r47_1) r37_1 r45_1 T r47_1 C0 E0 G0 rfl rfl wT rfl wC0 wE0 wG0 _ (by assumption) (by assumption) (by assumption) (by omega) (by omega)) rfl rfl (by exact Nat.le_of_ble_eq_true rfl) (fun uv13 uN13 uh13 => ?_)
    obtain ⟨r48_13, r49_13, r50_13, uw_13, rfl⟩ := uh13
    refine z_goto (tgt := 21) dX7_swear_16 rfl ?_
    exact z_iret C dX7_swear_21 rfl ⟨_, rfl, ⟨unr, unp, r44_1, r45_1, r47_1, uF, by rw [if_pos (by omega), uw_13, uo9], (kp_u (by decide) (kp_u (by decide) (kp_u (by decide) (kp_u (by decide) (kp_u (by decide) (kp_u (by decide) (kp_37 uk37 (kp_r M))))))))⟩⟩
set_option maxRecDepth 100000 in
theorem ct_X7_place (en : zE) (M : zW) (O : Int → Int) (B : Int → Int) (Y : Int → Int) (R : Int → Int) (P : Int → Int) (T : Int → Int) (W : Int → Int) (C0 : Int → Int) (E0 : Int → Int) (G0 : Int → Int) (wO : M 37 = O) (wB : M 42 = B) (wY : M 43 = Y) (wR : M 44 = R) (wP : M 45 = P) (wT : M 46 = T) (wW : M 47 = W) (wC0 : M 48 = C0) (wE0 : M 49 = E0) (wG0 : M 50 = G0) (wh : Int) (h0 : -2147483648 ≤ wh ∧ wh < 2147483648) (hB : ∀ j, 0 ≤ j → j < 96 → 0 ≤ B j ∧ B j ≤ 255) (hY : ∀ j, 0 ≤ j → j < 2 → 0 ≤ Y j ∧ Y j ≤ 47) (hT : tOK T) : Ct en kA yX7_place mX7_place [rf en 37, vi wh] M (pX (fun x N => ∃ (nr np : Int) (Rd P2 Wy : Int → Int), Fnd B Y nr np Rd P2 Wy ∧ x = (if 0 ≤ wh ∧ wh ≤ 1 then (if wh = 0 then (plS T Wy P2 np 8).1 else (plS T Wy P2 np 8).2.1) else -2) ∧ kp M N)) := by
  refine Ct.of (by decide +kernel) rfl [(0, rf en 37), (1, vi wh)] rfl (Nat.le_of_ble_eq_true rfl) (fun cx C => ?_)
  refine z_aload_n 0 dX7_place_0 rfl ?_
  refine z_vN dX7_place_1 lX7_132 (by decide) ka37 io37 rfl (ct_X7_find en M O B Y R P W wO wB wY wR wP wW (hB) (hY)) rfl rfl (by exact Nat.le_of_ble_eq_true rfl) (fun uN1 uh1 => ?_)
  obtain ⟨unr, unp, r44_1, r45_1, r47_1, uF, rfl⟩ := uh1
  obtain ⟨uF1, uF2, uF3, uF4, uF5⟩ := Fnd.rg hY uF
  obtain ⟨r37_1, uf37⟩ : ∃ ur : Int → Int, ur = up (up O 7 unr) 9 unp := ⟨_, rfl⟩
  rw [← uf37]
  have uo9 : r37_1 9 = unp := by rw [uf37, up_s]
  have uo7 : r37_1 7 = unr := by rw [uf37, up_n _ _ (by decide), up_s]
  have uo16 : r37_1 16 = O 16 := by rw [uf37, up_n _ _ (by decide), up_n _ _ (by decide)]
  have uo4 : r37_1 4 = O 4 := by rw [uf37, up_n _ _ (by decide), up_n _ _ (by decide)]
  have uF4b : pOK r45_1 (r37_1 9) := by rw [uo9]; exact uF4
  have uF3b : rdOK r44_1 (r37_1 7) := by rw [uo7]; exact uF3
  have uF6 : ∃ uW0, r47_1 = fwA r44_1 4095 uW0 (r37_1 7).toNat := by rw [uo7]; exact Fnd.at uF
  have uk37 : ∀ uj, uj ≠ 7 → uj ≠ 9 → uj ≠ 19 → r37_1 uj = M 37 uj := fun uj ua ub uc => by rw [uf37, up_n _ _ ub, up_n _ _ ua, wO]
  refine z_iload_n 1 dX7_place_4 rfl ?_
  refine z_sI dX7_place_5 lX7_86 (by decide) (ct_X7_isTwo en (upR (upR (upR (upR M 37 r37_1) 44 r44_1) 45 r45_1) 47 r47_1) _ (by omega)) rfl rfl (by exact Nat.le_of_ble_eq_true rfl) ?_
  refine z_ifeq_b (tgt := 19) dX7_place_8 rfl (fun uc8 => ?_) (fun uc8 => ?_)
  ·
    refine z_bipush dX7_place_19 rfl ?_
    exact z_iret C dX7_place_21 rfl ⟨_, rfl, ⟨unr, unp, r44_1, r45_1, r47_1, uF, (if_neg (by omega)).symm, (kp_u (by decide) (kp_u (by decide) (kp_u (by decide) (kp_37 uk37 (kp_r M)))))⟩⟩
  ·
    refine z_aload_n 0 dX7_place_11 rfl ?_
    refine z_iload_n 1 dX7_place_12 rfl ?_
    refine z_vX dX7_place_13 lX7_188 (by decide) ka37 io37 rfl (ct_X7_placeBy en (upR (upR (upR (upR M 37 r37_1) 44 r44_1) 45 r45_1) 47 r47_1) r37_1 r45_1 T r47_1 C0 E0 G0 rfl rfl wT rfl wC0 wE0 wG0 _ (by assumption) (by assumption) (by assumption) (by omega) (by omega)) rfl rfl (by exact Nat.le_of_ble_eq_true rfl) (fun uv13 uN13 uh13 => ?_)
    obtain ⟨r48_13, r49_13, r50_13, uw_13, rfl⟩ := uh13
    refine z_goto (tgt := 21) dX7_place_16 rfl ?_
    exact z_iret C dX7_place_21 rfl ⟨_, rfl, ⟨unr, unp, r44_1, r45_1, r47_1, uF, by rw [if_pos (by omega), uw_13, uo9], (kp_u (by decide) (kp_u (by decide) (kp_u (by decide) (kp_u (by decide) (kp_u (by decide) (kp_u (by decide) (kp_37 uk37 (kp_r M))))))))⟩⟩
set_option maxRecDepth 100000 in
theorem ct_X7_litter (en : zE) (M : zW) (O : Int → Int) (B : Int → Int) (Y : Int → Int) (R : Int → Int) (P : Int → Int) (T : Int → Int) (W : Int → Int) (C0 : Int → Int) (E0 : Int → Int) (G0 : Int → Int) (wO : M 37 = O) (wB : M 42 = B) (wY : M 43 = Y) (wR : M 44 = R) (wP : M 45 = P) (wT : M 46 = T) (wW : M 47 = W) (wC0 : M 48 = C0) (wE0 : M 49 = E0) (wG0 : M 50 = G0) (wh : Int) (h0 : -2147483648 ≤ wh ∧ wh < 2147483648) (hB : ∀ j, 0 ≤ j → j < 96 → 0 ≤ B j ∧ B j ≤ 255) (hY : ∀ j, 0 ≤ j → j < 2 → 0 ≤ Y j ∧ Y j ≤ 47) (hT : tOK T) : Ct en kA yX7_litter mX7_litter [rf en 37, vi wh] M (pX (fun x N => ∃ (nr np : Int) (Rd P2 Wy : Int → Int), Fnd B Y nr np Rd P2 Wy ∧ x = (if 0 ≤ wh ∧ wh ≤ 1 then (if wh = 0 then (ltS T Wy P2 np 10).1 else (ltS T Wy P2 np 10).2) else -2) ∧ kp M N)) := by
  refine Ct.of (by decide +kernel) rfl [(0, rf en 37), (1, vi wh)] rfl (Nat.le_of_ble_eq_true rfl) (fun cx C => ?_)
  refine z_aload_n 0 dX7_litter_0 rfl ?_
  refine z_vN dX7_litter_1 lX7_132 (by decide) ka37 io37 rfl (ct_X7_find en M O B Y R P W wO wB wY wR wP wW (hB) (hY)) rfl rfl (by exact Nat.le_of_ble_eq_true rfl) (fun uN1 uh1 => ?_)
  obtain ⟨unr, unp, r44_1, r45_1, r47_1, uF, rfl⟩ := uh1
  obtain ⟨uF1, uF2, uF3, uF4, uF5⟩ := Fnd.rg hY uF
  obtain ⟨r37_1, uf37⟩ : ∃ ur : Int → Int, ur = up (up O 7 unr) 9 unp := ⟨_, rfl⟩
  rw [← uf37]
  have uo9 : r37_1 9 = unp := by rw [uf37, up_s]
  have uo7 : r37_1 7 = unr := by rw [uf37, up_n _ _ (by decide), up_s]
  have uo16 : r37_1 16 = O 16 := by rw [uf37, up_n _ _ (by decide), up_n _ _ (by decide)]
  have uo4 : r37_1 4 = O 4 := by rw [uf37, up_n _ _ (by decide), up_n _ _ (by decide)]
  have uF4b : pOK r45_1 (r37_1 9) := by rw [uo9]; exact uF4
  have uF3b : rdOK r44_1 (r37_1 7) := by rw [uo7]; exact uF3
  have uF6 : ∃ uW0, r47_1 = fwA r44_1 4095 uW0 (r37_1 7).toNat := by rw [uo7]; exact Fnd.at uF
  have uk37 : ∀ uj, uj ≠ 7 → uj ≠ 9 → uj ≠ 19 → r37_1 uj = M 37 uj := fun uj ua ub uc => by rw [uf37, up_n _ _ ub, up_n _ _ ua, wO]
  refine z_iload_n 1 dX7_litter_4 rfl ?_
  refine z_sI dX7_litter_5 lX7_86 (by decide) (ct_X7_isTwo en (upR (upR (upR (upR M 37 r37_1) 44 r44_1) 45 r45_1) 47 r47_1) _ (by omega)) rfl rfl (by exact Nat.le_of_ble_eq_true rfl) ?_
  refine z_ifeq_b (tgt := 19) dX7_litter_8 rfl (fun uc8 => ?_) (fun uc8 => ?_)
  ·
    refine z_bipush dX7_litter_19 rfl ?_
    exact z_iret C dX7_litter_21 rfl ⟨_, rfl, ⟨unr, unp, r44_1, r45_1, r47_1, uF, (if_neg (by omega)).symm, (kp_u (by decide) (kp_u (by decide) (kp_u (by decide) (kp_37 uk37 (kp_r M)))))⟩⟩
  ·
    refine z_aload_n 0 dX7_litter_11 rfl ?_
    refine z_iload_n 1 dX7_litter_12 rfl ?_
    refine z_vX dX7_litter_13 lX7_191 (by decide) ka37 io37 rfl (ct_X7_litterBy en (upR (upR (upR (upR M 37 r37_1) 44 r44_1) 45 r45_1) 47 r47_1) r37_1 r45_1 T r47_1 C0 E0 G0 rfl rfl wT rfl wC0 wE0 wG0 _ (by assumption) (by assumption) (by assumption) (by omega) (by omega)) rfl rfl (by exact Nat.le_of_ble_eq_true rfl) (fun uv13 uN13 uh13 => ?_)
    obtain ⟨r48_13, r49_13, r50_13, uw_13, rfl⟩ := uh13
    refine z_goto (tgt := 21) dX7_litter_16 rfl ?_
    exact z_iret C dX7_litter_21 rfl ⟨_, rfl, ⟨unr, unp, r44_1, r45_1, r47_1, uF, by rw [if_pos (by omega), uw_13, uo9], (kp_u (by decide) (kp_u (by decide) (kp_u (by decide) (kp_u (by decide) (kp_u (by decide) (kp_u (by decide) (kp_37 uk37 (kp_r M))))))))⟩⟩
set_option maxRecDepth 100000 in
theorem ct_X7_fits (en : zE) (M : zW) (O : Int → Int) (B : Int → Int) (Y : Int → Int) (R : Int → Int) (P : Int → Int) (T : Int → Int) (W : Int → Int) (C0 : Int → Int) (E0 : Int → Int) (G0 : Int → Int) (Sg : Int → Int) (wO : M 37 = O) (wB : M 42 = B) (wY : M 43 = Y) (wR : M 44 = R) (wP : M 45 = P) (wT : M 46 = T) (wW : M 47 = W) (wC0 : M 48 = C0) (wE0 : M 49 = E0) (wG0 : M 50 = G0) (wSg : M 51 = Sg) (wh : Int) (h0 : -2147483648 ≤ wh ∧ wh < 2147483648) (hB : ∀ j, 0 ≤ j → j < 96 → 0 ≤ B j ∧ B j ≤ 255) (hY : ∀ j, 0 ≤ j → j < 2 → 0 ≤ Y j ∧ Y j ≤ 47) (hT : tOK T) (hG : ∀ j, 0 ≤ j → j < 16 → 0 ≤ Sg j ∧ Sg j ≤ 7) (ho : 0 ≤ O 16 ∧ O 16 ≤ 8) : Ct en kA yX7_fits mX7_fits [rf en 37, vi wh] M (pX (fun x N => ∃ (nr np : Int) (Rd P2 Wy : Int → Int), Fnd B Y nr np Rd P2 Wy ∧ x = (if 0 ≤ wh ∧ wh ≤ 1 then (if wh = 0 then (fiS T Wy P2 np Sg (O 16).toNat 2 10 : Int) else (fiS T Wy P2 np Sg (O 16).toNat 0 8 : Int)) else -2) ∧ kp M N)) := by
  refine Ct.of (by decide +kernel) rfl [(0, rf en 37), (1, vi wh)] rfl (Nat.le_of_ble_eq_true rfl) (fun cx C => ?_)
  refine z_aload_n 0 dX7_fits_0 rfl ?_
  refine z_vN dX7_fits_1 lX7_132 (by decide) ka37 io37 rfl (ct_X7_find en M O B Y R P W wO wB wY wR wP wW (hB) (hY)) rfl rfl (by exact Nat.le_of_ble_eq_true rfl) (fun uN1 uh1 => ?_)
  obtain ⟨unr, unp, r44_1, r45_1, r47_1, uF, rfl⟩ := uh1
  obtain ⟨uF1, uF2, uF3, uF4, uF5⟩ := Fnd.rg hY uF
  obtain ⟨r37_1, uf37⟩ : ∃ ur : Int → Int, ur = up (up O 7 unr) 9 unp := ⟨_, rfl⟩
  rw [← uf37]
  have uo9 : r37_1 9 = unp := by rw [uf37, up_s]
  have uo7 : r37_1 7 = unr := by rw [uf37, up_n _ _ (by decide), up_s]
  have uo16 : r37_1 16 = O 16 := by rw [uf37, up_n _ _ (by decide), up_n _ _ (by decide)]
  have uo4 : r37_1 4 = O 4 := by rw [uf37, up_n _ _ (by decide), up_n _ _ (by decide)]
  have uF4b : pOK r45_1 (r37_1 9) := by rw [uo9]; exact uF4
  have uF3b : rdOK r44_1 (r37_1 7) := by rw [uo7]; exact uF3
  have uF6 : ∃ uW0, r47_1 = fwA r44_1 4095 uW0 (r37_1 7).toNat := by rw [uo7]; exact Fnd.at uF
  have uk37 : ∀ uj, uj ≠ 7 → uj ≠ 9 → uj ≠ 19 → r37_1 uj = M 37 uj := fun uj ua ub uc => by rw [uf37, up_n _ _ ub, up_n _ _ ua, wO]
  refine z_iload_n 1 dX7_fits_4 rfl ?_
  refine z_sI dX7_fits_5 lX7_86 (by decide) (ct_X7_isTwo en (upR (upR (upR (upR M 37 r37_1) 44 r44_1) 45 r45_1) 47 r47_1) _ (by omega)) rfl rfl (by exact Nat.le_of_ble_eq_true rfl) ?_
  refine z_ifeq_b (tgt := 19) dX7_fits_8 rfl (fun uc8 => ?_) (fun uc8 => ?_)
  ·
    refine z_bipush dX7_fits_19 rfl ?_
    exact z_iret C dX7_fits_21 rfl ⟨_, rfl, ⟨unr, unp, r44_1, r45_1, r47_1, uF, (if_neg (by omega)).symm, (kp_u (by decide) (kp_u (by decide) (kp_u (by decide) (kp_37 uk37 (kp_r M)))))⟩⟩
  ·
    refine z_aload_n 0 dX7_fits_11 rfl ?_
    refine z_iload_n 1 dX7_fits_12 rfl ?_
    refine z_vX dX7_fits_13 lX7_204 (by decide) ka37 io37 rfl (ct_X7_fitsBy en (upR (upR (upR (upR M 37 r37_1) 44 r44_1) 45 r45_1) 47 r47_1) r37_1 r45_1 T r47_1 C0 E0 G0 Sg rfl rfl wT rfl wC0 wE0 wG0 wSg _ (by assumption) (by assumption) (by assumption) (by omega) (by assumption) (by omega) (by omega)) rfl rfl (by exact Nat.le_of_ble_eq_true rfl) (fun uv13 uN13 uh13 => ?_)
    obtain ⟨r48_13, r49_13, r50_13, uw_13, rfl⟩ := uh13
    refine z_goto (tgt := 21) dX7_fits_16 rfl ?_
    exact z_iret C dX7_fits_21 rfl ⟨_, rfl, ⟨unr, unp, r44_1, r45_1, r47_1, uF, by rw [if_pos (by omega), uw_13, uo9, uo16], (kp_u (by decide) (kp_u (by decide) (kp_u (by decide) (kp_u (by decide) (kp_u (by decide) (kp_u (by decide) (kp_37 uk37 (kp_r M))))))))⟩⟩
set_option maxRecDepth 100000 in
theorem ct_X7_ask (en : zE) (M : zW) (O : Int → Int) (B : Int → Int) (Y : Int → Int) (R : Int → Int) (P : Int → Int) (T : Int → Int) (W : Int → Int) (C0 : Int → Int) (E0 : Int → Int) (G0 : Int → Int) (Sg : Int → Int) (V : Int → Int) (wO : M 37 = O) (wB : M 42 = B) (wY : M 43 = Y) (wR : M 44 = R) (wP : M 45 = P) (wT : M 46 = T) (wW : M 47 = W) (wC0 : M 48 = C0) (wE0 : M 49 = E0) (wG0 : M 50 = G0) (wSg : M 51 = Sg) (wV : M 52 = V) (hB : ∀ j, 0 ≤ j → j < 96 → 0 ≤ B j ∧ B j ≤ 255) (hY : ∀ j, 0 ≤ j → j < 2 → 0 ≤ Y j ∧ Y j ≤ 47) (hT : tOK T) (hG : ∀ j, 0 ≤ j → j < 16 → 0 ≤ Sg j ∧ Sg j ≤ 7) (ho : 0 ≤ O 16 ∧ O 16 ≤ 8) : Ct en kA yX7_ask mX7_ask [rf en 37] M (pX (fun x N => ∃ (nr np : Int) (Rd P2 Wy : Int → Int), Fnd B Y nr np Rd P2 Wy ∧ x = akO T Wy P2 np Sg (O 16).toNat ∧ kp M N)) := by
  refine Ct.of (by decide +kernel) rfl [(0, rf en 37)] rfl (Nat.le_of_ble_eq_true rfl) (fun cx C => ?_)
  refine z_aload_n 0 dX7_ask_0 rfl ?_
  refine z_vN dX7_ask_1 lX7_132 (by decide) ka37 io37 rfl (ct_X7_find en M O B Y R P W wO wB wY wR wP wW (hB) (hY)) rfl rfl (by exact Nat.le_of_ble_eq_true rfl) (fun uN1 uh1 => ?_)
  obtain ⟨unr, unp, r44_1, r45_1, r47_1, uF, rfl⟩ := uh1
  obtain ⟨uF1, uF2, uF3, uF4, uF5⟩ := Fnd.rg hY uF
  obtain ⟨r37_1, uf37⟩ : ∃ ur : Int → Int, ur = up (up O 7 unr) 9 unp := ⟨_, rfl⟩
  rw [← uf37]
  have uo9 : r37_1 9 = unp := by rw [uf37, up_s]
  have uo7 : r37_1 7 = unr := by rw [uf37, up_n _ _ (by decide), up_s]
  have uo16 : r37_1 16 = O 16 := by rw [uf37, up_n _ _ (by decide), up_n _ _ (by decide)]
  have uo4 : r37_1 4 = O 4 := by rw [uf37, up_n _ _ (by decide), up_n _ _ (by decide)]
  have uF4b : pOK r45_1 (r37_1 9) := by rw [uo9]; exact uF4
  have uF3b : rdOK r44_1 (r37_1 7) := by rw [uo7]; exact uF3
  have uF6 : ∃ uW0, r47_1 = fwA r44_1 4095 uW0 (r37_1 7).toNat := by rw [uo7]; exact Fnd.at uF
  have uk37 : ∀ uj, uj ≠ 7 → uj ≠ 9 → uj ≠ 19 → r37_1 uj = M 37 uj := fun uj ua ub uc => by rw [uf37, up_n _ _ ub, up_n _ _ ua, wO]
  refine z_aload_n 0 dX7_ask_4 rfl ?_
  refine z_vX dX7_ask_5 lX7_210 (by decide) ka37 io37 rfl (ct_X7_askNow en (upR (upR (upR (upR M 37 r37_1) 44 r44_1) 45 r45_1) 47 r47_1) r37_1 r45_1 T r47_1 C0 E0 G0 Sg V rfl rfl wT rfl wC0 wE0 wG0 wSg wV (by assumption) (by assumption) (by assumption) (by omega) (by assumption) (by omega)) rfl rfl (by exact Nat.le_of_ble_eq_true rfl) (fun uv5 uN5 uh5 => ?_)
  obtain ⟨r48_5, r49_5, r50_5, r52_5, uw_5, rfl⟩ := uh5
  exact z_iret C dX7_ask_8 rfl ⟨_, rfl, ⟨unr, unp, r44_1, r45_1, r47_1, uF, by rw [uw_5, uo9, uo16], (kp_u (by decide) (kp_u (by decide) (kp_u (by decide) (kp_u (by decide) (kp_u (by decide) (kp_u (by decide) (kp_u (by decide) (kp_37 uk37 (kp_r M)))))))))⟩⟩
set_option maxRecDepth 100000 in
theorem ct_X7_out (en : zE) (M : zW) (O : Int → Int) (B : Int → Int) (Y : Int → Int) (R : Int → Int) (P : Int → Int) (T : Int → Int) (W : Int → Int) (wO : M 37 = O) (wB : M 42 = B) (wY : M 43 = Y) (wR : M 44 = R) (wP : M 45 = P) (wT : M 46 = T) (wW : M 47 = W) (c : Int) (tw : Int) (dy : Int) (wh : Int) (h0 : -2147483648 ≤ c ∧ c < 2147483648 ∧ -2147483648 ≤ tw ∧ tw < 2147483648 ∧ -2147483648 ≤ dy ∧ dy < 2147483648 ∧ -2147483648 ≤ wh ∧ wh < 2147483648) (hB : ∀ j, 0 ≤ j → j < 96 → 0 ≤ B j ∧ B j ≤ 255) (hY : ∀ j, 0 ≤ j → j < 2 → 0 ≤ Y j ∧ Y j ≤ 47) (hT : tOK T) : Ct en kA yX7_out mX7_out [rf en 37, vi c, vi tw, vi dy, vi wh] M (pY (fun x N => ∃ (nr np : Int) (Rd P2 Wy : Int → Int), Fnd B Y nr np Rd P2 Wy ∧ x = (if (0 ≤ c ∧ c ≤ 16) ∧ (0 ≤ tw ∧ tw ≤ 7) ∧ (0 ≤ dy ∧ dy ≤ 99) ∧ (0 ≤ wh ∧ wh ≤ 1) then otV T Rd nr.toNat c tw dy wh else -9223372036854775806) ∧ kp M N)) := by
  refine Ct.of (by decide +kernel) rfl [(0, rf en 37), (1, vi c), (2, vi tw), (3, vi dy), (4, vi wh)] rfl (Nat.le_of_ble_eq_true rfl) (fun cx C => ?_)
  refine z_aload_n 0 dX7_out_0 rfl ?_
  refine z_vN dX7_out_1 lX7_132 (by decide) ka37 io37 rfl (ct_X7_find en M O B Y R P W wO wB wY wR wP wW (hB) (hY)) rfl rfl (by exact Nat.le_of_ble_eq_true rfl) (fun uN1 uh1 => ?_)
  obtain ⟨unr, unp, r44_1, r45_1, r47_1, uF, rfl⟩ := uh1
  obtain ⟨uF1, uF2, uF3, uF4, uF5⟩ := Fnd.rg hY uF
  obtain ⟨r37_1, uf37⟩ : ∃ ur : Int → Int, ur = up (up O 7 unr) 9 unp := ⟨_, rfl⟩
  rw [← uf37]
  have uo9 : r37_1 9 = unp := by rw [uf37, up_s]
  have uo7 : r37_1 7 = unr := by rw [uf37, up_n _ _ (by decide), up_s]
  have uo16 : r37_1 16 = O 16 := by rw [uf37, up_n _ _ (by decide), up_n _ _ (by decide)]
  have uo4 : r37_1 4 = O 4 := by rw [uf37, up_n _ _ (by decide), up_n _ _ (by decide)]
  have uF4b : pOK r45_1 (r37_1 9) := by rw [uo9]; exact uF4
  have uF3b : rdOK r44_1 (r37_1 7) := by rw [uo7]; exact uF3
  have uF6 : ∃ uW0, r47_1 = fwA r44_1 4095 uW0 (r37_1 7).toNat := by rw [uo7]; exact Fnd.at uF
  have uk37 : ∀ uj, uj ≠ 7 → uj ≠ 9 → uj ≠ 19 → r37_1 uj = M 37 uj := fun uj ua ub uc => by rw [uf37, up_n _ _ ub, up_n _ _ ua, wO]
  refine z_iload_n 1 dX7_out_4 rfl ?_
  refine z_i2l dX7_out_5 (by omega) ?_
  refine z_lconst (v := 0) dX7_out_6 rfl ?_
  refine z_ldc2 (n := 16) dX7_out_7 kX7_213 rfl ?_
  refine z_sI dX7_out_10 lX7_57 (by decide) (ct_X7_in en (upR (upR (upR (upR M 37 r37_1) 44 r44_1) 45 r45_1) 47 r47_1) _ (0) (16) (by omega)) rfl rfl (by exact Nat.le_of_ble_eq_true rfl) ?_
  refine z_ifeq_b (tgt := 55) dX7_out_13 rfl (fun uc13 => ?_) (fun uc13 => ?_)
  ·
    refine z_bipush dX7_out_55 rfl ?_
    refine z_sJ dX7_out_57 lX7_223 (by decide) (ct_X7_no en (upR (upR (upR (upR M 37 r37_1) 44 r44_1) 45 r45_1) 47 r47_1) (-2) (by omega)) rfl rfl (by exact Nat.le_of_ble_eq_true rfl) ?_
    exact z_lret C dX7_out_60 rfl ⟨_, rfl, ⟨unr, unp, r44_1, r45_1, r47_1, uF, by rw [if_neg (by omega)]; rfl, (kp_u (by decide) (kp_u (by decide) (kp_u (by decide) (kp_37 uk37 (kp_r M)))))⟩⟩
  ·
    refine z_iload_n 2 dX7_out_16 rfl ?_
    refine z_sI dX7_out_17 lX7_135 (by decide) (ct_X7_isTown en (upR (upR (upR (upR M 37 r37_1) 44 r44_1) 45 r45_1) 47 r47_1) _ (by omega)) rfl rfl (by exact Nat.le_of_ble_eq_true rfl) ?_
    refine z_ifeq_b (tgt := 55) dX7_out_20 rfl (fun uc20 => ?_) (fun uc20 => ?_)
    ·
      refine z_bipush dX7_out_55 rfl ?_
      refine z_sJ dX7_out_57 lX7_223 (by decide) (ct_X7_no en (upR (upR (upR (upR M 37 r37_1) 44 r44_1) 45 r45_1) 47 r47_1) (-2) (by omega)) rfl rfl (by exact Nat.le_of_ble_eq_true rfl) ?_
      exact z_lret C dX7_out_60 rfl ⟨_, rfl, ⟨unr, unp, r44_1, r45_1, r47_1, uF, by rw [if_neg (by omega)]; rfl, (kp_u (by decide) (kp_u (by decide) (kp_u (by decide) (kp_37 uk37 (kp_r M)))))⟩⟩
    ·
      refine z_iload_n 3 dX7_out_23 rfl ?_
      refine z_i2l dX7_out_24 (by omega) ?_
      refine z_lconst (v := 0) dX7_out_25 rfl ?_
      refine z_ldc2 (n := 99) dX7_out_26 kX7_156 rfl ?_
      refine z_sI dX7_out_29 lX7_57 (by decide) (ct_X7_in en (upR (upR (upR (upR M 37 r37_1) 44 r44_1) 45 r45_1) 47 r47_1) _ (0) (99) (by omega)) rfl rfl (by exact Nat.le_of_ble_eq_true rfl) ?_
      refine z_ifeq_b (tgt := 55) dX7_out_32 rfl (fun uc32 => ?_) (fun uc32 => ?_)
      ·
        refine z_bipush dX7_out_55 rfl ?_
        refine z_sJ dX7_out_57 lX7_223 (by decide) (ct_X7_no en (upR (upR (upR (upR M 37 r37_1) 44 r44_1) 45 r45_1) 47 r47_1) (-2) (by omega)) rfl rfl (by exact Nat.le_of_ble_eq_true rfl) ?_
        exact z_lret C dX7_out_60 rfl ⟨_, rfl, ⟨unr, unp, r44_1, r45_1, r47_1, uF, by rw [if_neg (by omega)]; rfl, (kp_u (by decide) (kp_u (by decide) (kp_u (by decide) (kp_37 uk37 (kp_r M)))))⟩⟩
      ·
        refine z_iload 4 dX7_out_35 rfl ?_
        refine z_sI dX7_out_37 lX7_86 (by decide) (ct_X7_isTwo en (upR (upR (upR (upR M 37 r37_1) 44 r44_1) 45 r45_1) 47 r47_1) _ (by omega)) rfl rfl (by exact Nat.le_of_ble_eq_true rfl) ?_
        refine z_ifeq_b (tgt := 55) dX7_out_40 rfl (fun uc40 => ?_) (fun uc40 => ?_)
        ·
          refine z_bipush dX7_out_55 rfl ?_
          refine z_sJ dX7_out_57 lX7_223 (by decide) (ct_X7_no en (upR (upR (upR (upR M 37 r37_1) 44 r44_1) 45 r45_1) 47 r47_1) (-2) (by omega)) rfl rfl (by exact Nat.le_of_ble_eq_true rfl) ?_
          exact z_lret C dX7_out_60 rfl ⟨_, rfl, ⟨unr, unp, r44_1, r45_1, r47_1, uF, by rw [if_neg (by omega)]; rfl, (kp_u (by decide) (kp_u (by decide) (kp_u (by decide) (kp_37 uk37 (kp_r M)))))⟩⟩
        ·
          refine z_aload_n 0 dX7_out_43 rfl ?_
          refine z_iload_n 1 dX7_out_44 rfl ?_
          refine z_iload_n 2 dX7_out_45 rfl ?_
          refine z_iload_n 3 dX7_out_46 rfl ?_
          refine z_iload 4 dX7_out_47 rfl ?_
          refine z_vJ dX7_out_49 lX7_219 (by decide) ka37 io37 rfl (ct_X7_outOf en (upR (upR (upR (upR M 37 r37_1) 44 r44_1) 45 r45_1) 47 r47_1) r37_1 r44_1 T r47_1 rfl rfl wT rfl _ _ _ _ (by assumption) (by assumption) (by omega) (by assumption) (by omega)) rfl rfl (by exact Nat.le_of_ble_eq_true rfl) ?_
          refine z_goto (tgt := 60) dX7_out_52 rfl ?_
          exact z_lret C dX7_out_60 rfl ⟨_, rfl, ⟨unr, unp, r44_1, r45_1, r47_1, uF, by rw [if_pos (by omega), uo7], (kp_u (by decide) (kp_u (by decide) (kp_u (by decide) (kp_37 uk37 (kp_r M)))))⟩⟩
set_option maxRecDepth 100000 in
theorem ct_X7_reigns (en : zE) (M : zW) (O : Int → Int) (B : Int → Int) (Y : Int → Int) (R : Int → Int) (P : Int → Int) (T : Int → Int) (W : Int → Int) (C0 : Int → Int) (E0 : Int → Int) (G0 : Int → Int) (wO : M 37 = O) (wB : M 42 = B) (wY : M 43 = Y) (wR : M 44 = R) (wP : M 45 = P) (wT : M 46 = T) (wW : M 47 = W) (wC0 : M 48 = C0) (wE0 : M 49 = E0) (wG0 : M 50 = G0) (sd : Int) (n : Int) (tw : Int) (h0 : -2147483648 ≤ n ∧ n < 2147483648 ∧ -2147483648 ≤ tw ∧ tw < 2147483648) (hB : ∀ j, 0 ≤ j → j < 96 → 0 ≤ B j ∧ B j ≤ 255) (hY : ∀ j, 0 ≤ j → j < 2 → 0 ≤ Y j ∧ Y j ≤ 47) (hT : tOK T) : Ct en kA yX7_reigns mX7_reigns [rf en 37, vi sd, vi n, vi tw] M (pX (fun x N => ∃ (nr np : Int) (Rd P2 Wy : Int → Int), Fnd B Y nr np Rd P2 Wy ∧ x = (if (1 ≤ n ∧ n ≤ 20) ∧ (tw = -1 ∨ (0 ≤ tw ∧ tw ≤ 7)) then rgS T Wy P2 np sd tw n.toNat else -2) ∧ kp M N)) := by
  refine Ct.of (by decide +kernel) rfl [(0, rf en 37), (1, vi sd), (2, vi n), (3, vi tw)] rfl (Nat.le_of_ble_eq_true rfl) (fun cx C => ?_)
  refine z_aload_n 0 dX7_reigns_0 rfl ?_
  refine z_vN dX7_reigns_1 lX7_132 (by decide) ka37 io37 rfl (ct_X7_find en M O B Y R P W wO wB wY wR wP wW (hB) (hY)) rfl rfl (by exact Nat.le_of_ble_eq_true rfl) (fun uN1 uh1 => ?_)
  obtain ⟨unr, unp, r44_1, r45_1, r47_1, uF, rfl⟩ := uh1
  obtain ⟨uF1, uF2, uF3, uF4, uF5⟩ := Fnd.rg hY uF
  obtain ⟨r37_1, uf37⟩ : ∃ ur : Int → Int, ur = up (up O 7 unr) 9 unp := ⟨_, rfl⟩
  rw [← uf37]
  have uo9 : r37_1 9 = unp := by rw [uf37, up_s]
  have uo7 : r37_1 7 = unr := by rw [uf37, up_n _ _ (by decide), up_s]
  have uo16 : r37_1 16 = O 16 := by rw [uf37, up_n _ _ (by decide), up_n _ _ (by decide)]
  have uo4 : r37_1 4 = O 4 := by rw [uf37, up_n _ _ (by decide), up_n _ _ (by decide)]
  have uF4b : pOK r45_1 (r37_1 9) := by rw [uo9]; exact uF4
  have uF3b : rdOK r44_1 (r37_1 7) := by rw [uo7]; exact uF3
  have uF6 : ∃ uW0, r47_1 = fwA r44_1 4095 uW0 (r37_1 7).toNat := by rw [uo7]; exact Fnd.at uF
  have uk37 : ∀ uj, uj ≠ 7 → uj ≠ 9 → uj ≠ 19 → r37_1 uj = M 37 uj := fun uj ua ub uc => by rw [uf37, up_n _ _ ub, up_n _ _ ua, wO]
  refine z_iload_n 2 dX7_reigns_4 rfl ?_
  refine z_i2l dX7_reigns_5 (by omega) ?_
  refine z_lconst (v := 1) dX7_reigns_6 rfl ?_
  refine z_ldc2 (n := 20) dX7_reigns_7 kX7_234 rfl ?_
  refine z_sI dX7_reigns_10 lX7_57 (by decide) (ct_X7_in en (upR (upR (upR (upR M 37 r37_1) 44 r44_1) 45 r45_1) 47 r47_1) _ (1) (20) (by omega)) rfl rfl (by exact Nat.le_of_ble_eq_true rfl) ?_
  refine z_ifeq_b (tgt := 38) dX7_reigns_13 rfl (fun uc13 => ?_) (fun uc13 => ?_)
  ·
    refine z_bipush dX7_reigns_38 rfl ?_
    exact z_iret C dX7_reigns_40 rfl ⟨_, rfl, ⟨unr, unp, r44_1, r45_1, r47_1, uF, (if_neg (by omega)).symm, (kp_u (by decide) (kp_u (by decide) (kp_u (by decide) (kp_37 uk37 (kp_r M)))))⟩⟩
  ·
    refine z_iload_n 3 dX7_reigns_16 rfl ?_
    refine z_iconst dX7_reigns_17 ?_
    refine z_icmp_eq (tgt := 28) dX7_reigns_18 rfl (by omega) (fun uc18 => ?_) (fun uc18 => ?_)
    ·
      refine z_aload_n 0 dX7_reigns_28 rfl ?_
      refine z_iload_n 1 dX7_reigns_29 rfl ?_
      refine z_iload_n 2 dX7_reigns_30 rfl ?_
      refine z_iload_n 3 dX7_reigns_31 rfl ?_
      refine z_vX dX7_reigns_32 lX7_236 (by decide) ka37 io37 rfl (ct_X7_reignsOf en (upR (upR (upR (upR M 37 r37_1) 44 r44_1) 45 r45_1) 47 r47_1) r37_1 r45_1 T r47_1 C0 E0 G0 rfl rfl wT rfl wC0 wE0 wG0 _ _ _ (by assumption) (by assumption) (by assumption) (by omega) (by omega)) rfl rfl (by exact Nat.le_of_ble_eq_true rfl) (fun uv32 uN32 uh32 => ?_)
      obtain ⟨ud32, r48_32, r49_32, r50_32, uw_32, rfl⟩ := uh32
      obtain ⟨r37_32, uf37_32⟩ : ∃ ur : Int → Int, ur = up r37_1 19 ud32 := ⟨_, rfl⟩
      rw [uu4 (a := 37) (b0 := 44) (b1 := 45) (b2 := 47) (by decide) (by decide) (by decide)]
      rw [← uf37_32]
      refine z_goto (tgt := 40) dX7_reigns_35 rfl ?_
      exact z_iret C dX7_reigns_40 rfl ⟨_, rfl, ⟨unr, unp, r44_1, r45_1, r47_1, uF, by rw [if_pos (by omega), uw_32, uo9], (kp_u (by decide) (kp_u (by decide) (kp_u (by decide) (kp_u (by decide) (kp_u (by decide) (kp_u (by decide) (kp_37 (fun uj ua ub uc => by rw [uf37_32, up_n _ _ uc]; exact uk37 uj ua ub uc) (kp_r M))))))))⟩⟩
    ·
      refine z_iload_n 3 dX7_reigns_21 rfl ?_
      refine z_sI dX7_reigns_22 lX7_135 (by decide) (ct_X7_isTown en (upR (upR (upR (upR M 37 r37_1) 44 r44_1) 45 r45_1) 47 r47_1) _ (by omega)) rfl rfl (by exact Nat.le_of_ble_eq_true rfl) ?_
      refine z_ifeq_b (tgt := 38) dX7_reigns_25 rfl (fun uc25 => ?_) (fun uc25 => ?_)
      ·
        refine z_bipush dX7_reigns_38 rfl ?_
        exact z_iret C dX7_reigns_40 rfl ⟨_, rfl, ⟨unr, unp, r44_1, r45_1, r47_1, uF, (if_neg (by omega)).symm, (kp_u (by decide) (kp_u (by decide) (kp_u (by decide) (kp_37 uk37 (kp_r M)))))⟩⟩
      ·
        refine z_aload_n 0 dX7_reigns_28 rfl ?_
        refine z_iload_n 1 dX7_reigns_29 rfl ?_
        refine z_iload_n 2 dX7_reigns_30 rfl ?_
        refine z_iload_n 3 dX7_reigns_31 rfl ?_
        refine z_vX dX7_reigns_32 lX7_236 (by decide) ka37 io37 rfl (ct_X7_reignsOf en (upR (upR (upR (upR M 37 r37_1) 44 r44_1) 45 r45_1) 47 r47_1) r37_1 r45_1 T r47_1 C0 E0 G0 rfl rfl wT rfl wC0 wE0 wG0 _ _ _ (by assumption) (by assumption) (by assumption) (by omega) (by omega)) rfl rfl (by exact Nat.le_of_ble_eq_true rfl) (fun uv32 uN32 uh32 => ?_)
        obtain ⟨ud32, r48_32, r49_32, r50_32, uw_32, rfl⟩ := uh32
        obtain ⟨r37_32, uf37_32⟩ : ∃ ur : Int → Int, ur = up r37_1 19 ud32 := ⟨_, rfl⟩
        rw [uu4 (a := 37) (b0 := 44) (b1 := 45) (b2 := 47) (by decide) (by decide) (by decide)]
        rw [← uf37_32]
        refine z_goto (tgt := 40) dX7_reigns_35 rfl ?_
        exact z_iret C dX7_reigns_40 rfl ⟨_, rfl, ⟨unr, unp, r44_1, r45_1, r47_1, uF, by rw [if_pos (by omega), uw_32, uo9], (kp_u (by decide) (kp_u (by decide) (kp_u (by decide) (kp_u (by decide) (kp_u (by decide) (kp_u (by decide) (kp_37 (fun uj ua ub uc => by rw [uf37_32, up_n _ _ uc]; exact uk37 uj ua ub uc) (kp_r M))))))))⟩⟩
set_option maxRecDepth 100000 in
theorem ct_X7_write (en : zE) (M : zW) (O : Int → Int) (F : Int → Int) (S : Int → Int) (I : Int → Int) (B : Int → Int) (Y : Int → Int) (R : Int → Int) (P : Int → Int) (T : Int → Int) (W : Int → Int) (wO : M 37 = O) (wF : M 38 = F) (wS : M 39 = S) (wI : M 40 = I) (wB : M 42 = B) (wY : M 43 = Y) (wR : M 44 = R) (wP : M 45 = P) (wT : M 46 = T) (wW : M 47 = W) (wh : Int) (s : Int) (h0 : -2147483648 ≤ wh ∧ wh < 2147483648 ∧ -2147483648 ≤ s ∧ s < 2147483648) (hF : ∀ j, 0 ≤ j → j < 4 → -1 ≤ F j ∧ F j ≤ 2) (hS : ∀ j, 0 ≤ j → j < 4 → 0 ≤ S j ∧ S j ≤ 60) (hB : ∀ j, 0 ≤ j → j < 96 → 0 ≤ B j ∧ B j ≤ 255) (hY : ∀ j, 0 ≤ j → j < 2 → 0 ≤ Y j ∧ Y j ≤ 47) (hT : tOK T) : Ct en kA yX7_write mX7_write [rf en 37, vi wh, vi s] M (pX (fun x N => ((¬ ((0 ≤ wh ∧ wh ≤ 1) ∧ (0 ≤ s ∧ s ≤ 3))) ∧ x = -2 ∧ M = N) ∨ ((((0 ≤ wh ∧ wh ≤ 1) ∧ (0 ≤ s ∧ s ≤ 3)) ∧ F s < 0) ∧ x = -11 ∧ upR M 37 (up O 4 1) = N) ∨ ((((0 ≤ wh ∧ wh ≤ 1) ∧ (0 ≤ s ∧ s ≤ 3)) ∧ 0 ≤ F s) ∧ x = min (S s) 8 ∧ ∃ (nr np : Int) (Rd P2 Wy : Int → Int), Fnd B Y nr np Rd P2 Wy ∧ kp (upR M 40 (fil (fun t => cutv (F s) (hBy T Wy t wh)) I (60 * s) (min (S s) 8))) N))) := by
  refine Ct.of (by decide +kernel) rfl [(0, rf en 37), (1, vi wh), (2, vi s)] rfl (Nat.le_of_ble_eq_true rfl) (fun cx C => ?_)
  refine z_iload_n 1 dX7_write_0 rfl ?_
  refine z_sI dX7_write_1 lX7_86 (by decide) (ct_X7_isTwo en M _ (by omega)) rfl rfl (by exact Nat.le_of_ble_eq_true rfl) ?_
  refine z_ifeq_b (tgt := 14) dX7_write_4 rfl (fun uc4 => ?_) (fun uc4 => ?_)
  ·
    refine z_bipush dX7_write_14 rfl ?_
    exact z_iret C dX7_write_16 rfl ⟨_, rfl, Or.inl ⟨by omega, rfl, rfl⟩⟩
  ·
    refine z_iload_n 2 dX7_write_7 rfl ?_
    refine z_sI dX7_write_8 lX7_67 (by decide) (ct_X7_isSheet en M _ (by omega)) rfl rfl (by exact Nat.le_of_ble_eq_true rfl) ?_
    refine z_ifne_b (tgt := 17) dX7_write_11 rfl (fun uc11 => ?_) (fun uc11 => ?_)
    ·
      refine z_aload_n 0 dX7_write_17 rfl ?_
      refine z_getR dX7_write_18 fX7_7_6 i37_0 ka37 ?_
      refine z_iload_n 2 dX7_write_21 rfl ?_
      refine z_ialdB (r := F) dX7_write_22 is38 ka38 (wF) (by omega) (hF) (fun uy22 ug22 ub22 => ?_)
      refine z_if_ge (tgt := 32) dX7_write_23 rfl (by omega) (fun uc23 => ?_) (fun uc23 => ?_)
      ·
        refine z_aload_n 0 dX7_write_32 rfl ?_
        refine z_vN dX7_write_33 lX7_132 (by decide) ka37 io37 rfl (ct_X7_find en M O B Y R P W wO wB wY wR wP wW (hB) (hY)) rfl rfl (by exact Nat.le_of_ble_eq_true rfl) (fun uN33 uh33 => ?_)
        obtain ⟨unr, unp, r44_33, r45_33, r47_33, uF, rfl⟩ := uh33
        obtain ⟨uF1, uF2, uF3, uF4, uF5⟩ := Fnd.rg hY uF
        obtain ⟨r37_33, uf37⟩ : ∃ ur : Int → Int, ur = up (up O 7 unr) 9 unp := ⟨_, rfl⟩
        rw [← uf37]
        have uo9 : r37_33 9 = unp := by rw [uf37, up_s]
        have uo7 : r37_33 7 = unr := by rw [uf37, up_n _ _ (by decide), up_s]
        have uo16 : r37_33 16 = O 16 := by rw [uf37, up_n _ _ (by decide), up_n _ _ (by decide)]
        have uo4 : r37_33 4 = O 4 := by rw [uf37, up_n _ _ (by decide), up_n _ _ (by decide)]
        have uF4b : pOK r45_33 (r37_33 9) := by rw [uo9]; exact uF4
        have uF3b : rdOK r44_33 (r37_33 7) := by rw [uo7]; exact uF3
        have uF6 : ∃ uW0, r47_33 = fwA r44_33 4095 uW0 (r37_33 7).toNat := by rw [uo7]; exact Fnd.at uF
        have uk37 : ∀ uj, uj ≠ 7 → uj ≠ 9 → uj ≠ 19 → r37_33 uj = M 37 uj := fun uj ua ub uc => by rw [uf37, up_n _ _ ub, up_n _ _ ua, wO]
        have uhS := hS s (by omega) (by omega)
        have uhF := hF s (by omega) (by omega)
        refine z_aload_n 0 dX7_write_36 rfl ?_
        refine z_getR dX7_write_37 fX7_13_6 i37_1 ka37 ?_
        refine z_iload_n 2 dX7_write_40 rfl ?_
        refine z_iald (r := S) dX7_write_41 is39 ka39 (wS) (by omega) ?_
        refine z_bipush dX7_write_42 rfl ?_
        refine z_sI dX7_write_44 lX7_125 (by decide) (ct_X7_lesser en (upR (upR (upR (upR M 37 r37_33) 44 r44_33) 45 r45_33) 47 r47_33) _ (8) (by omega)) rfl rfl (by exact Nat.le_of_ble_eq_true rfl) ?_
        refine z_istore_n (fun y => [(0, rf en 37), (1, vi wh), (2, vi s), (3, vi y)]) [1, 2, 3, 0] dX7_write_47 (by decide) (fun _ => rfl) (fun x3_47 e3_47 => ?_)
        refine z_iconst dX7_write_48 ?_
        refine z_istore (fun y => [(0, rf en 37), (1, vi wh), (2, vi s), (3, vi x3_47), (4, vi y)]) [1, 2, 3, 4, 0] dX7_write_49 (by decide) (fun _ => rfl) (fun x4_49 e4_49 => ?_)
        have uL51 : ∀ (fu : Nat) (x4 : Int) (r40 : Int → Int), (x3_47 - x4).toNat < fu → (0 ≤ x4 ∧ x4 ≤ x3_47 ∧ r40 = fil (fun t => cutv (F s) (hBy T r47_33 t wh)) I (60 * s) x4) → Z en kA cx mX7_write (upR (upR (upR (upR (upR M 37 r37_33) 44 r44_33) 45 r45_33) 47 r47_33) 40 r40) 51 [(0, rf en 37), (1, vi wh), (2, vi s), (3, vi x3_47), (4, vi x4)] [] := by
          intro fu
          induction fu with
          | zero => intro x4 r40 uhf; exact absurd uhf (Nat.not_lt_zero _)
          | succ fu uih51 =>
            intro x4 r40 uf51 uI51
            obtain ⟨uq1, uq2, uq3⟩ := uI51
            refine z_iload 4 dX7_write_51 rfl ?_
            refine z_iload_n 3 dX7_write_53 rfl ?_
            refine z_icmp_ge (tgt := 91) dX7_write_54 rfl (by omega) (fun uc54 => ?_) (fun uc54 => ?_)
            ·
              refine z_iload_n 3 dX7_write_91 rfl ?_
              exact z_iret C dX7_write_92 rfl ⟨_, rfl, Or.inr (Or.inr ⟨by omega, e3_47, unr, unp, r44_33, r45_33, r47_33, uF, by rw [uq3, show x4 = min (S s) 8 by omega]; exact kp_w uk37⟩)⟩
            ·
              refine z_aload_n 0 dX7_write_57 rfl ?_
              refine z_getR dX7_write_58 fX7_16_6 i37_2 ka37 ?_
              refine z_bipush dX7_write_61 rfl ?_
              refine z_iload_n 2 dX7_write_63 rfl ?_
              refine z_imul dX7_write_64 ?_
              refine z_iload 4 dX7_write_65 rfl ?_
              refine z_iadd dX7_write_67 ?_
              refine z_aload_n 0 dX7_write_68 rfl ?_
              refine z_getR dX7_write_69 fX7_7_6 i37_0 ka37 ?_
              refine z_iload_n 2 dX7_write_72 rfl ?_
              refine z_iald (r := F) dX7_write_73 is38 ka38 (wF) (by omega) ?_
              refine z_aload_n 0 dX7_write_74 rfl ?_
              refine z_iload 4 dX7_write_75 rfl ?_
              refine z_iload_n 1 dX7_write_77 rfl ?_
              refine z_vI dX7_write_78 lX7_153 (by decide) ka37 io37 rfl (ct_X7_hearsBy en (upR (upR (upR (upR (upR M 37 r37_33) 44 r44_33) 45 r45_33) 47 r47_33) 40 r40) T r47_33 wT rfl _ _ (by assumption) (by assumption) (by omega) (by omega)) rfl rfl (by exact Nat.le_of_ble_eq_true rfl) ?_
              have uhb := hBy_rg hT uF5 (t := x4) (wh := wh) (by omega)
              refine z_sI dX7_write_81 lX7_81 (by decide) (ct_X7_cut en (upR (upR (upR (upR (upR M 37 r37_33) 44 r44_33) 45 r45_33) 47 r47_33) 40 r40) _ _ (by omega)) rfl rfl (by exact Nat.le_of_ble_eq_true rfl) ?_
              refine z_iast' (r := r40) (fun r => (upR (upR (upR (upR (upR M 37 r37_33) 44 r44_33) 45 r45_33) 47 r47_33) 40 r)) dX7_write_84 is40 ka40 (rfl) (by omega) (fun _ => uu1) (fun r40_84 f40_84 => ?_)
              refine z_iinc (fun y => [(0, rf en 37), (1, vi wh), (2, vi s), (3, vi x3_47), (4, vi y)]) [1, 2, 3, 4, 0] 4 dX7_write_85 rfl (by decide) (fun _ => rfl) (fun x4_85 e4_85 => ?_)
              refine z_goto (tgt := 51) dX7_write_88 rfl ?_
              exact uih51 x4_85 r40_84 (by omega) (⟨by omega, by omega, by rw [f40_84, uq3, e4_85]; exact fil_s _ _ _ _ uq1 rfl⟩)
        refine Z.eqM (upR_id (k := 40) wI) ?_
        exact uL51 _ x4_49 I (Nat.lt_succ_self _) (⟨by omega, by omega, by rw [e4_49, fil_0]⟩)
      ·
        refine z_aload_n 0 dX7_write_26 rfl ?_
        refine z_iconst dX7_write_27 ?_
        refine z_vI dX7_write_28 lX7_73 (by decide) ka37 io37 rfl (ct_X7_finds en M O wO (1)) rfl rfl (by exact Nat.le_of_ble_eq_true rfl) ?_
        exact z_iret C dX7_write_31 rfl ⟨_, rfl, Or.inr (Or.inl ⟨by omega, rfl, rfl⟩)⟩
    ·
      refine z_bipush dX7_write_14 rfl ?_
      exact z_iret C dX7_write_16 rfl ⟨_, rfl, Or.inl ⟨by omega, rfl, rfl⟩⟩
set_option maxRecDepth 100000 in
theorem ct_X7_count (en : zE) (M : zW) (O : Int → Int) (B : Int → Int) (Y : Int → Int) (R : Int → Int) (P : Int → Int) (T : Int → Int) (W : Int → Int) (C0 : Int → Int) (E0 : Int → Int) (G0 : Int → Int) (wO : M 37 = O) (wB : M 42 = B) (wY : M 43 = Y) (wR : M 44 = R) (wP : M 45 = P) (wT : M 46 = T) (wW : M 47 = W) (wC0 : M 48 = C0) (wE0 : M 49 = E0) (wG0 : M 50 = G0) (wh : Int) (h0 : -2147483648 ≤ wh ∧ wh < 2147483648) (hB : ∀ j, 0 ≤ j → j < 96 → 0 ≤ B j ∧ B j ≤ 255) (hY : ∀ j, 0 ≤ j → j < 2 → 0 ≤ Y j ∧ Y j ≤ 47) (hT : tOK T) : Ct en kA yX7_count mX7_count [rf en 37, vi wh] M (pX (fun x N => ∃ (nr np : Int) (Rd P2 Wy : Int → Int), Fnd B Y nr np Rd P2 Wy ∧ x = cnO O Y T Wy P2 nr np wh ∧ kp M N)) := by
  refine Ct.of (by decide +kernel) rfl [(0, rf en 37), (1, vi wh)] rfl (Nat.le_of_ble_eq_true rfl) (fun cx C => ?_)
  refine z_aload_n 0 dX7_count_0 rfl ?_
  refine z_vN dX7_count_1 lX7_132 (by decide) ka37 io37 rfl (ct_X7_find en M O B Y R P W wO wB wY wR wP wW (hB) (hY)) rfl rfl (by exact Nat.le_of_ble_eq_true rfl) (fun uN1 uh1 => ?_)
  obtain ⟨unr, unp, r44_1, r45_1, r47_1, uF, rfl⟩ := uh1
  obtain ⟨uF1, uF2, uF3, uF4, uF5⟩ := Fnd.rg hY uF
  obtain ⟨r37_1, uf37⟩ : ∃ ur : Int → Int, ur = up (up O 7 unr) 9 unp := ⟨_, rfl⟩
  rw [← uf37]
  have uo9 : r37_1 9 = unp := by rw [uf37, up_s]
  have uo7 : r37_1 7 = unr := by rw [uf37, up_n _ _ (by decide), up_s]
  have uo16 : r37_1 16 = O 16 := by rw [uf37, up_n _ _ (by decide), up_n _ _ (by decide)]
  have uo4 : r37_1 4 = O 4 := by rw [uf37, up_n _ _ (by decide), up_n _ _ (by decide)]
  have uF4b : pOK r45_1 (r37_1 9) := by rw [uo9]; exact uF4
  have uF3b : rdOK r44_1 (r37_1 7) := by rw [uo7]; exact uF3
  have uF6 : ∃ uW0, r47_1 = fwA r44_1 4095 uW0 (r37_1 7).toNat := by rw [uo7]; exact Fnd.at uF
  have uk37 : ∀ uj, uj ≠ 7 → uj ≠ 9 → uj ≠ 19 → r37_1 uj = M 37 uj := fun uj ua ub uc => by rw [uf37, up_n _ _ ub, up_n _ _ ua, wO]
  refine z_iload_n 1 dX7_count_4 rfl ?_
  refine z_top (fun usw5 eusw5 => ?_)
  by_cases uk5_0 : usw5 = 0
  ·
    refine z_tsw (tgt := 56) (0) uk5_0 dX7_count_5 (by decide) rfl rfl ?_
    refine z_aload_n 0 dX7_count_56 rfl ?_
    refine z_getI (r := r37_1) 7 rfl dX7_count_57 fX7_91_6 i37_7 ka37 (rfl) ?_
    exact z_iret C dX7_count_60 rfl ⟨_, rfl, ⟨unr, unp, r44_1, r45_1, r47_1, uF, by unfold cnO; rw [if_pos (by omega), uo7], (kp_u (by decide) (kp_u (by decide) (kp_u (by decide) (kp_37 uk37 (kp_r M)))))⟩⟩
  by_cases uk5_1 : usw5 = 1
  ·
    refine z_tsw (tgt := 61) (1) uk5_1 dX7_count_5 (by decide) rfl rfl ?_
    refine z_aload_n 0 dX7_count_61 rfl ?_
    refine z_getI (r := r37_1) 9 rfl dX7_count_62 fX7_97_6 i37_9 ka37 (rfl) ?_
    exact z_iret C dX7_count_65 rfl ⟨_, rfl, ⟨unr, unp, r44_1, r45_1, r47_1, uF, by unfold cnO; rw [if_neg (by omega), if_pos (by omega), uo9], (kp_u (by decide) (kp_u (by decide) (kp_u (by decide) (kp_37 uk37 (kp_r M)))))⟩⟩
  by_cases uk5_2 : usw5 = 2
  ·
    refine z_tsw (tgt := 66) (2) uk5_2 dX7_count_5 (by decide) rfl rfl ?_
    refine z_aload_n 0 dX7_count_66 rfl ?_
    refine z_getR dX7_count_67 fX7_25_6 i37_6 ka37 ?_
    refine z_iload_n 1 dX7_count_70 rfl ?_
    refine z_iconst dX7_count_71 ?_
    refine z_isub dX7_count_72 ?_
    refine z_iald (r := Y) dX7_count_73 is43 ka43 (wY) (by omega) ?_
    exact z_iret C dX7_count_74 rfl ⟨_, rfl, ⟨unr, unp, r44_1, r45_1, r47_1, uF, by unfold cnO; rw [if_neg (by omega), if_neg (by omega)]; (first | (rw [if_pos (by omega), show wh - 2 = 0 by omega]) | (rw [if_neg (by omega), if_pos (by omega), show wh - 2 = 1 by omega])), (kp_u (by decide) (kp_u (by decide) (kp_u (by decide) (kp_37 uk37 (kp_r M)))))⟩⟩
  by_cases uk5_3 : usw5 = 3
  ·
    refine z_tsw (tgt := 66) (3) uk5_3 dX7_count_5 (by decide) rfl rfl ?_
    refine z_aload_n 0 dX7_count_66 rfl ?_
    refine z_getR dX7_count_67 fX7_25_6 i37_6 ka37 ?_
    refine z_iload_n 1 dX7_count_70 rfl ?_
    refine z_iconst dX7_count_71 ?_
    refine z_isub dX7_count_72 ?_
    refine z_iald (r := Y) dX7_count_73 is43 ka43 (wY) (by omega) ?_
    exact z_iret C dX7_count_74 rfl ⟨_, rfl, ⟨unr, unp, r44_1, r45_1, r47_1, uF, by unfold cnO; rw [if_neg (by omega), if_neg (by omega)]; (first | (rw [if_pos (by omega), show wh - 2 = 0 by omega]) | (rw [if_neg (by omega), if_pos (by omega), show wh - 2 = 1 by omega])), (kp_u (by decide) (kp_u (by decide) (kp_u (by decide) (kp_37 uk37 (kp_r M)))))⟩⟩
  by_cases uk5_4 : usw5 = 4
  ·
    refine z_tsw (tgt := 75) (4) uk5_4 dX7_count_5 (by decide) rfl rfl ?_
    refine z_aload_n 0 dX7_count_75 rfl ?_
    refine z_vI dX7_count_76 lX7_239 (by decide) ka37 io37 rfl (ct_X7_allRich en (upR (upR (upR (upR M 37 r37_1) 44 r44_1) 45 r45_1) 47 r47_1) r37_1 r45_1 rfl rfl (by assumption) (by omega)) rfl rfl (by exact Nat.le_of_ble_eq_true rfl) ?_
    exact z_iret C dX7_count_79 rfl ⟨_, rfl, ⟨unr, unp, r44_1, r45_1, r47_1, uF, by unfold cnO; rw [if_neg (by omega), if_neg (by omega), if_neg (by omega), if_neg (by omega), if_pos (by omega), uo9], (kp_u (by decide) (kp_u (by decide) (kp_u (by decide) (kp_37 uk37 (kp_r M)))))⟩⟩
  by_cases uk5_5 : usw5 = 5
  ·
    refine z_tsw (tgt := 80) (5) uk5_5 dX7_count_5 (by decide) rfl rfl ?_
    refine z_aload_n 0 dX7_count_80 rfl ?_
    refine z_vX dX7_count_81 lX7_242 (by decide) ka37 io37 rfl (ct_X7_riding en (upR (upR (upR (upR M 37 r37_1) 44 r44_1) 45 r45_1) 47 r47_1) r37_1 r45_1 T r47_1 C0 E0 G0 rfl rfl wT rfl wC0 wE0 wG0 (by assumption) (by assumption) (by assumption) (by omega)) rfl rfl (by exact Nat.le_of_ble_eq_true rfl) (fun uv81 uN81 uh81 => ?_)
    obtain ⟨r48_81, r49_81, r50_81, ul1_81, ul2_81, ul3_81, uw_81, rfl⟩ := uh81
    exact z_iret C dX7_count_84 rfl ⟨_, rfl, ⟨unr, unp, r44_1, r45_1, r47_1, uF, by unfold cnO; rw [if_neg (by omega), if_neg (by omega), if_neg (by omega), if_neg (by omega), if_neg (by omega), if_pos (by omega), uw_81, uo9], (kp_u (by decide) (kp_u (by decide) (kp_u (by decide) (kp_u (by decide) (kp_u (by decide) (kp_u (by decide) (kp_37 uk37 (kp_r M))))))))⟩⟩
  by_cases uk5_6 : usw5 = 6
  ·
    refine z_tsw (tgt := 85) (6) uk5_6 dX7_count_5 (by decide) rfl rfl ?_
    refine z_aload_n 0 dX7_count_85 rfl ?_
    refine z_getR dX7_count_86 fX7_34_6 i37_11 ka37 ?_
    refine z_iconst dX7_count_89 ?_
    refine z_iald (r := T) dX7_count_90 is46 ka46 (wT) (by omega) ?_
    exact z_iret C dX7_count_91 rfl ⟨_, rfl, ⟨unr, unp, r44_1, r45_1, r47_1, uF, by unfold cnO; rw [if_neg (by omega), if_neg (by omega), if_neg (by omega), if_neg (by omega), if_neg (by omega), if_neg (by omega), if_pos (by omega)], (kp_u (by decide) (kp_u (by decide) (kp_u (by decide) (kp_37 uk37 (kp_r M)))))⟩⟩
  by_cases uk5_7 : usw5 = 7
  ·
    refine z_tsw (tgt := 92) (7) uk5_7 dX7_count_5 (by decide) rfl rfl ?_
    refine z_aload_n 0 dX7_count_92 rfl ?_
    refine z_getI (r := r37_1) 16 rfl dX7_count_93 fX7_194_6 i37_16 ka37 (rfl) ?_
    exact z_iret C dX7_count_96 rfl ⟨_, rfl, ⟨unr, unp, r44_1, r45_1, r47_1, uF, by unfold cnO; rw [if_neg (by omega), if_neg (by omega), if_neg (by omega), if_neg (by omega), if_neg (by omega), if_neg (by omega), if_neg (by omega), if_pos (by omega), uo16], (kp_u (by decide) (kp_u (by decide) (kp_u (by decide) (kp_37 uk37 (kp_r M)))))⟩⟩
  by_cases uk5_8 : usw5 = 8
  ·
    refine z_tsw (tgt := 97) (8) uk5_8 dX7_count_5 (by decide) rfl rfl ?_
    refine z_aload_n 0 dX7_count_97 rfl ?_
    refine z_getI (r := r37_1) 4 rfl dX7_count_98 fX7_61_6 i37_4 ka37 (rfl) ?_
    exact z_iret C dX7_count_101 rfl ⟨_, rfl, ⟨unr, unp, r44_1, r45_1, r47_1, uF, by unfold cnO; rw [if_neg (by omega), if_neg (by omega), if_neg (by omega), if_neg (by omega), if_neg (by omega), if_neg (by omega), if_neg (by omega), if_neg (by omega), if_pos (by omega), uo4], (kp_u (by decide) (kp_u (by decide) (kp_u (by decide) (kp_37 uk37 (kp_r M)))))⟩⟩
  refine z_tswD (tgt := 102) dX7_count_5 (by omega) rfl ?_
  refine z_bipush dX7_count_102 rfl ?_
  exact z_iret C dX7_count_104 rfl ⟨_, rfl, ⟨unr, unp, r44_1, r45_1, r47_1, uF, by unfold cnO; rw [if_neg (by omega), if_neg (by omega), if_neg (by omega), if_neg (by omega), if_neg (by omega), if_neg (by omega), if_neg (by omega), if_neg (by omega), if_neg (by omega)], (kp_u (by decide) (kp_u (by decide) (kp_u (by decide) (kp_37 uk37 (kp_r M)))))⟩⟩
