/-! reigns by a seed; roads that are out -/
def lotS (s : Int) : Int := 1103515245 * s + 12345
def lotV (s m : Int) : Int := lotS s % 4294967296 / 65536 % m
theorem lotV_rg (s : Int) {m : Int} (h : 0 < m) : 0 ≤ lotV s m ∧ lotV s m < m := ⟨Int.emod_nonneg _ (by omega), Int.emod_lt_of_pos _ h⟩
def sdN (s : Int) : Nat → Int
  | 0 => s
  | n + 1 => lotS (sdN s n)
def rgT (T : Int → Int) (s : Int) (k : Nat) : Int → Int := up (up (up T 0 (lotV (sdN s (3 * k)) 8)) 3 (lotV (sdN s (3 * k + 1)) 8)) 2 (lotV (sdN s (3 * k + 2)) 10)
def rgV (T W P : Int → Int) (np s tw : Int) (k : Nat) : Int := if tw = -1 then wns (rgT T s k) W P np else if noA (rgT T s k) W tw = -1 then 0 else noA (rgT T s k) W tw
def rgS (T W P : Int → Int) (np s tw : Int) : Nat → Int
  | 0 => 0
  | k + 1 => rgS T W P np s tw k + rgV T W P np s tw k
theorem rgT_ok {T : Int → Int} (h : tOK T) (s : Int) (k : Nat) : tOK (rgT T s k) := by
  have h1 := lotV_rg (sdN s (3 * k)) (m := 8) (by omega)
  have h2 := lotV_rg (sdN s (3 * k + 1)) (m := 8) (by omega)
  have h3 := lotV_rg (sdN s (3 * k + 2)) (m := 10) (by omega)
  exact tOK_2 (tOK_3 (tOK_0 h (by omega)) (by omega)) (by omega)
theorem rgV_rg {T W P : Int → Int} (hT : tOK T) (hW : wOK W) {np s tw : Int} (hn : 0 ≤ np ∧ np ≤ 8) (ht : -1 ≤ tw ∧ tw ≤ 7) (k : Nat) : 0 ≤ rgV T W P np s tw k ∧ rgV T W P np s tw k ≤ 9999 := by
  have h1 := wns_rg (rgT T s k) W P hn
  unfold rgV
  split
  · omega
  · have h2 := noA_rg (rgT_ok hT s k) hW (t := tw) (by omega)
    split <;> omega
theorem rgS_rg {T W P : Int → Int} (hT : tOK T) (hW : wOK W) {np s tw : Int} (hn : 0 ≤ np ∧ np ≤ 8) (ht : -1 ≤ tw ∧ tw ≤ 7) : ∀ k : Nat, 0 ≤ rgS T W P np s tw k ∧ rgS T W P np s tw k ≤ 9999 * k
  | 0 => by simp [rgS]
  | k + 1 => by
    have h1 := rgS_rg hT hW (P := P) (s := s) hn ht k
    have h2 := rgV_rg hT hW (P := P) (s := s) hn ht k
    unfold rgS; omega
theorem up3 {T r : Int → Int} (h : ∀ q, q ≠ 0 → q ≠ 2 → q ≠ 3 → r q = T q) (a b c : Int) : up (up (up r 0 a) 3 b) 2 c = up (up (up T 0 a) 3 b) 2 c := by
  funext q
  by_cases h2 : q = 2
  · rw [h2, up_s, up_s]
  · rw [up_n _ _ h2, up_n _ _ h2]
    by_cases h3 : q = 3
    · rw [h3, up_s, up_s]
    · rw [up_n _ _ h3, up_n _ _ h3]
      by_cases h0 : q = 0
      · rw [h0, up_s, up_s]
      · rw [up_n _ _ h0, up_n _ _ h0]; exact h q h0 h2 h3
theorem up3_back {T r : Int → Int} (h : ∀ q, q ≠ 0 → q ≠ 2 → q ≠ 3 → r q = T q) : up (up (up r 0 (T 0)) 2 (T 2)) 3 (T 3) = T := by
  funext q
  by_cases h3 : q = 3
  · rw [h3, up_s]
  · rw [up_n _ _ h3]
    by_cases h2 : q = 2
    · rw [h2, up_s]
    · rw [up_n _ _ h2]
      by_cases h0 : q = 0
      · rw [h0, up_s]
      · rw [up_n _ _ h0]; exact h q h0 h2 h3
theorem up3_off {T : Int → Int} (a b c : Int) : ∀ q, q ≠ 0 → q ≠ 2 → q ≠ 3 → up (up (up T 0 a) 3 b) 2 c q = T q := fun q h0 h2 h3 => by rw [up_n _ _ h2, up_n _ _ h3, up_n _ _ h0]
def rcS (P : Int → Int) : Nat → Int
  | 0 => 0
  | n + 1 => rcS P n + P (5 * n + 3)
theorem rcS_rg {P : Int → Int} {np : Int} (hP : pOK P np) : ∀ n : Nat, (n : Int) ≤ np → 0 ≤ rcS P n ∧ rcS P n ≤ 9 * n
  | 0, _ => by simp [rcS]
  | n + 1, h => by
    have h1 := rcS_rg hP n (by omega)
    have h2 := hP n (by omega) (by omega)
    unfold rcS; omega
theorem rdn_rg (T W P : Int → Int) (np : Int) : ∀ n : Nat, 0 ≤ rdn T W P np n ∧ rdn T W P np n ≤ n
  | 0 => by simp [rdn]
  | n + 1 => by
    have := rdn_rg T W P np n
    unfold rdn; split <;> omega
set_option maxRecDepth 100000 in
theorem ct_X7_lot (en : zE) (M : zW) (O : Int → Int) (wO : M 37 = O) (m : Int) (h0 : 0 < m ∧ m ≤ 10) : Ct en kA yX7_lot mX7_lot [rf en 37, vi m] M (pX (fun x N => ∃ r37 : Int → Int, x = lotV (O 19) m ∧ r37 = up O 19 (lotS (O 19)) ∧ upR M 37 r37 = N)) := by
  refine Ct.of (by decide +kernel) rfl [(0, rf en 37), (1, vi m)] rfl (Nat.le_of_ble_eq_true rfl) (fun cx C => ?_)
  refine z_aload_n 0 dX7_lot_0 rfl ?_
  refine z_ldc (n := 1103515245) dX7_lot_1 kX7_227 rfl ?_
  refine z_aload_n 0 dX7_lot_3 rfl ?_
  refine z_getI (r := O) 19 rfl dX7_lot_4 fX7_228_6 i37_19 ka37 (wO) ?_
  refine z_imul dX7_lot_7 ?_
  refine z_sipush dX7_lot_8 rfl ?_
  refine z_iadd dX7_lot_11 ?_
  refine z_putI (r := O) 19 rfl dX7_lot_12 pfX7_228_6 i37_19 ka37 (wO) (fun r37_12 f37_12 => ?_)
  refine z_aload_n 0 dX7_lot_15 rfl ?_
  refine z_getI (r := r37_12) 19 rfl dX7_lot_16 fX7_228_6 i37_19 ka37 (rfl) ?_
  refine z_bipush dX7_lot_19 rfl ?_
  refine z_iushr16 dX7_lot_21 ?_
  refine z_iload_n 1 dX7_lot_22 rfl ?_
  refine z_irem dX7_lot_23 (by omega) ?_
  exact z_iret C dX7_lot_24 rfl ⟨_, rfl, ⟨r37_12, by rw [f37_12, up_s]; rfl, f37_12, rfl⟩⟩
set_option maxRecDepth 100000 in
theorem ct_X7_reignsOf (en : zE) (M : zW) (O : Int → Int) (P : Int → Int) (T : Int → Int) (W : Int → Int) (C0 : Int → Int) (E0 : Int → Int) (G0 : Int → Int) (wO : M 37 = O) (wP : M 45 = P) (wT : M 46 = T) (wW : M 47 = W) (wC0 : M 48 = C0) (wE0 : M 49 = E0) (wG0 : M 50 = G0) (sd : Int) (n : Int) (tw : Int) (hT : tOK T) (hW : wOK W) (hP : pOK P (O 9)) (hn : 0 ≤ O 9 ∧ O 9 ≤ 8) (h0 : (0 ≤ n ∧ n ≤ 20) ∧ -1 ≤ tw ∧ tw ≤ 7) : Ct en kA yX7_reignsOf mX7_reignsOf [rf en 37, vi sd, vi n, vi tw] M (pX (fun x N => ∃ (d : Int) (r48 r49 r50 : Int → Int), x = rgS T W P (O 9) sd tw n.toNat ∧ upR (upR (upR (upR M 37 (up O 19 d)) 48 r48) 49 r49) 50 r50 = N)) := by
  refine Ct.of (by decide +kernel) rfl [(0, rf en 37), (1, vi sd), (2, vi n), (3, vi tw)] rfl (Nat.le_of_ble_eq_true rfl) (fun cx C => ?_)
  refine z_aload_n 0 dX7_reignsOf_0 rfl ?_
  refine z_getR dX7_reignsOf_1 fX7_34_6 i37_11 ka37 ?_
  refine z_iconst dX7_reignsOf_4 ?_
  refine z_iald (r := T) dX7_reignsOf_5 is46 ka46 (wT) (by omega) ?_
  refine z_istore (fun y => [(0, rf en 37), (1, vi sd), (2, vi n), (3, vi tw), (4, vi y)]) [1, 2, 3, 4, 0] dX7_reignsOf_6 (by decide) (fun _ => rfl) (fun x4_6 e4_6 => ?_)
  refine z_aload_n 0 dX7_reignsOf_8 rfl ?_
  refine z_getR dX7_reignsOf_9 fX7_34_6 i37_11 ka37 ?_
  refine z_iconst dX7_reignsOf_12 ?_
  refine z_iald (r := T) dX7_reignsOf_13 is46 ka46 (wT) (by omega) ?_
  refine z_istore (fun y => [(0, rf en 37), (1, vi sd), (2, vi n), (3, vi tw), (4, vi x4_6), (5, vi y)]) [1, 2, 3, 4, 5, 0] dX7_reignsOf_14 (by decide) (fun _ => rfl) (fun x5_14 e5_14 => ?_)
  refine z_aload_n 0 dX7_reignsOf_16 rfl ?_
  refine z_getR dX7_reignsOf_17 fX7_34_6 i37_11 ka37 ?_
  refine z_iconst dX7_reignsOf_20 ?_
  refine z_iald (r := T) dX7_reignsOf_21 is46 ka46 (wT) (by omega) ?_
  refine z_istore (fun y => [(0, rf en 37), (1, vi sd), (2, vi n), (3, vi tw), (4, vi x4_6), (5, vi x5_14), (6, vi y)]) [1, 2, 3, 4, 5, 6, 0] dX7_reignsOf_22 (by decide) (fun _ => rfl) (fun x6_22 e6_22 => ?_)
  refine z_aload_n 0 dX7_reignsOf_24 rfl ?_
  refine z_iload_n 1 dX7_reignsOf_25 rfl ?_
  refine z_putI (r := O) 19 rfl dX7_reignsOf_26 pfX7_228_6 i37_19 ka37 (wO) (fun r37_26 f37_26 => ?_)
  refine z_iconst dX7_reignsOf_29 ?_
  refine z_istore (fun y => [(0, rf en 37), (1, vi sd), (2, vi n), (3, vi tw), (4, vi x4_6), (5, vi x5_14), (6, vi x6_22), (7, vi y)]) [1, 2, 3, 4, 5, 6, 7, 0] dX7_reignsOf_30 (by decide) (fun _ => rfl) (fun uy uhy => ?_)
  subst uhy
  refine z_iconst dX7_reignsOf_32 ?_
  refine z_istore (fun y => [(0, rf en 37), (1, vi sd), (2, vi n), (3, vi tw), (4, vi x4_6), (5, vi x5_14), (6, vi x6_22), (7, vi (0)), (8, vi y)]) [1, 2, 3, 4, 5, 6, 7, 8, 0] dX7_reignsOf_33 (by decide) (fun _ => rfl) (fun uy uhy => ?_)
  subst uhy
  have uL35 : ∀ (fu : Nat) (x7 : Int) (x8 : Int) (r37 : Int → Int) (r46 : Int → Int) (r48 : Int → Int) (r49 : Int → Int) (r50 : Int → Int), (n - x8).toNat < fu → ((0 ≤ x8 ∧ x8 ≤ n) ∧ x7 = rgS T W P (O 9) sd tw x8.toNat ∧ r37 = up O 19 (sdN sd (3 * x8.toNat)) ∧ ∀ q, q ≠ 0 → q ≠ 2 → q ≠ 3 → r46 q = T q) → Z en kA cx mX7_reignsOf (upR (upR (upR (upR (upR M 37 r37) 46 r46) 48 r48) 49 r49) 50 r50) 35 [(0, rf en 37), (1, vi sd), (2, vi n), (3, vi tw), (4, vi x4_6), (5, vi x5_14), (6, vi x6_22), (7, vi x7), (8, vi x8)] [] := by
    intro fu
    induction fu with
    | zero => intro x7 x8 r37 r46 r48 r49 r50 uhf; exact absurd uhf (Nat.not_lt_zero _)
    | succ fu uih35 =>
      intro x7 x8 r37 r46 r48 r49 r50 uf35 uI35
      obtain ⟨uq1, uq3, uq4, uqr⟩ := uI35
      have uq5 : r37 9 = O 9 := by rw [uq4, up_n _ _ (by decide)]
      refine z_iload 8 dX7_reignsOf_35 rfl ?_
      refine z_iload_n 2 dX7_reignsOf_37 rfl ?_
      refine z_icmp_ge (tgt := 128) dX7_reignsOf_38 rfl (by omega) (fun uc38 => ?_) (fun uc38 => ?_)
      ·
        refine z_aload_n 0 dX7_reignsOf_128 rfl ?_
        refine z_getR dX7_reignsOf_129 fX7_34_6 i37_11 ka37 ?_
        refine z_iconst dX7_reignsOf_132 ?_
        refine z_iload 4 dX7_reignsOf_133 rfl ?_
        refine z_iast' (r := r46) (fun r => (upR (upR (upR (upR (upR M 37 r37) 46 r) 48 r48) 49 r49) 50 r50)) dX7_reignsOf_135 is46 ka46 (rfl) (by omega) (fun _ => uu4 (by decide) (by decide) (by decide)) (fun r46_135 f46_135 => ?_)
        refine z_aload_n 0 dX7_reignsOf_136 rfl ?_
        refine z_getR dX7_reignsOf_137 fX7_34_6 i37_11 ka37 ?_
        refine z_iconst dX7_reignsOf_140 ?_
        refine z_iload 5 dX7_reignsOf_141 rfl ?_
        refine z_iast' (r := r46_135) (fun r => (upR (upR (upR (upR (upR M 37 r37) 46 r) 48 r48) 49 r49) 50 r50)) dX7_reignsOf_143 is46 ka46 (rfl) (by omega) (fun _ => uu4 (by decide) (by decide) (by decide)) (fun r46_143 f46_143 => ?_)
        refine z_aload_n 0 dX7_reignsOf_144 rfl ?_
        refine z_getR dX7_reignsOf_145 fX7_34_6 i37_11 ka37 ?_
        refine z_iconst dX7_reignsOf_148 ?_
        refine z_iload 6 dX7_reignsOf_149 rfl ?_
        refine z_iast' (r := r46_143) (fun r => (upR (upR (upR (upR (upR M 37 r37) 46 r) 48 r48) 49 r49) 50 r50)) dX7_reignsOf_151 is46 ka46 (rfl) (by omega) (fun _ => uu4 (by decide) (by decide) (by decide)) (fun r46_151 f46_151 => ?_)
        refine z_iload 7 dX7_reignsOf_152 rfl ?_
        exact z_iret C dX7_reignsOf_154 rfl ⟨_, rfl, ⟨_, r48, r49, r50, by rw [uq3, show x8 = n by omega], by rw [f46_151, f46_143, f46_135, e4_6, e5_14, e6_22, up3_back uqr, uq4, upR_id (M := upR M 37 _) (k := 46) (r := T) wT]⟩⟩
      ·
        refine z_aload_n 0 dX7_reignsOf_41 rfl ?_
        refine z_getR dX7_reignsOf_42 fX7_34_6 i37_11 ka37 ?_
        refine z_iconst dX7_reignsOf_45 ?_
        refine z_aload_n 0 dX7_reignsOf_46 rfl ?_
        refine z_bipush dX7_reignsOf_47 rfl ?_
        refine z_vX dX7_reignsOf_49 lX7_231 (by decide) ka37 io37 rfl (ct_X7_lot en (upR (upR (upR (upR (upR M 37 r37) 46 r46) 48 r48) 49 r49) 50 r50) r37 rfl (8) (by omega)) rfl rfl (by exact Nat.le_of_ble_eq_true rfl) (fun uv49 uN49 uh49 => ?_)
        obtain ⟨r37_49, uw_49, uf37_49, rfl⟩ := uh49
        rw [uu5 (a := 37) (b0 := 46) (b1 := 48) (b2 := 49) (b3 := 50) (by decide) (by decide) (by decide) (by decide)]
        refine z_iast' (r := r46) (fun r => (upR (upR (upR (upR (upR M 37 r37_49) 46 r) 48 r48) 49 r49) 50 r50)) dX7_reignsOf_52 is46 ka46 (rfl) (by omega) (fun _ => uu4 (by decide) (by decide) (by decide)) (fun r46_52 f46_52 => ?_)
        have ul1 := lotV_rg (r37 19) (m := 8) (by omega)
        refine z_aload_n 0 dX7_reignsOf_53 rfl ?_
        refine z_getR dX7_reignsOf_54 fX7_34_6 i37_11 ka37 ?_
        refine z_iconst dX7_reignsOf_57 ?_
        refine z_aload_n 0 dX7_reignsOf_58 rfl ?_
        refine z_bipush dX7_reignsOf_59 rfl ?_
        refine z_vX dX7_reignsOf_61 lX7_231 (by decide) ka37 io37 rfl (ct_X7_lot en (upR (upR (upR (upR (upR M 37 r37_49) 46 r46_52) 48 r48) 49 r49) 50 r50) r37_49 rfl (8) (by omega)) rfl rfl (by exact Nat.le_of_ble_eq_true rfl) (fun uv61 uN61 uh61 => ?_)
        obtain ⟨r37_61, uw_61, uf37_61, rfl⟩ := uh61
        rw [uu5 (a := 37) (b0 := 46) (b1 := 48) (b2 := 49) (b3 := 50) (by decide) (by decide) (by decide) (by decide)]
        refine z_iast' (r := r46_52) (fun r => (upR (upR (upR (upR (upR M 37 r37_61) 46 r) 48 r48) 49 r49) 50 r50)) dX7_reignsOf_64 is46 ka46 (rfl) (by omega) (fun _ => uu4 (by decide) (by decide) (by decide)) (fun r46_64 f46_64 => ?_)
        have ul2 := lotV_rg (r37_49 19) (m := 8) (by omega)
        refine z_aload_n 0 dX7_reignsOf_65 rfl ?_
        refine z_getR dX7_reignsOf_66 fX7_34_6 i37_11 ka37 ?_
        refine z_iconst dX7_reignsOf_69 ?_
        refine z_aload_n 0 dX7_reignsOf_70 rfl ?_
        refine z_bipush dX7_reignsOf_71 rfl ?_
        refine z_vX dX7_reignsOf_73 lX7_231 (by decide) ka37 io37 rfl (ct_X7_lot en (upR (upR (upR (upR (upR M 37 r37_61) 46 r46_64) 48 r48) 49 r49) 50 r50) r37_61 rfl (10) (by omega)) rfl rfl (by exact Nat.le_of_ble_eq_true rfl) (fun uv73 uN73 uh73 => ?_)
        obtain ⟨r37_73, uw_73, uf37_73, rfl⟩ := uh73
        rw [uu5 (a := 37) (b0 := 46) (b1 := 48) (b2 := 49) (b3 := 50) (by decide) (by decide) (by decide) (by decide)]
        refine z_iast' (r := r46_64) (fun r => (upR (upR (upR (upR (upR M 37 r37_73) 46 r) 48 r48) 49 r49) 50 r50)) dX7_reignsOf_76 is46 ka46 (rfl) (by omega) (fun _ => uu4 (by decide) (by decide) (by decide)) (fun r46_76 f46_76 => ?_)
        have ul3 := lotV_rg (r37_61 19) (m := 10) (by omega)
        have ud0 : r37 19 = sdN sd (3 * x8.toNat) := by rw [uq4, up_s]
        have ud1 : r37_49 19 = sdN sd (3 * x8.toNat + 1) := by rw [uf37_49, up_s, ud0]; rfl
        have ud2 : r37_61 19 = sdN sd (3 * x8.toNat + 2) := by rw [uf37_61, up_s, ud1]; rfl
        have ud3 : r37_73 = up O 19 (sdN sd (3 * (x8.toNat + 1))) := by rw [uf37_73, ud2, uf37_61, up_up, uf37_49, up_up, uq4, up_up]; rfl
        have ut : r46_76 = rgT T sd x8.toNat := by rw [f46_76, f46_64, f46_52, up3 uqr, uw_49, uw_61, uw_73, ud0, ud1, ud2]; rfl
        have uT : tOK r46_76 := by rw [ut]; exact rgT_ok hT _ _
        have uo9 : r37_73 9 = O 9 := by rw [ud3, up_n _ _ (by decide)]
        have uP : pOK P (r37_73 9) := by rw [uo9]; exact hP
        refine z_iload_n 3 dX7_reignsOf_77 rfl ?_
        refine z_iconst dX7_reignsOf_78 ?_
        refine z_icmp_ne (tgt := 86) dX7_reignsOf_79 rfl (by omega) (fun uc79 => ?_) (fun uc79 => ?_)
        ·
          refine z_aload_n 0 dX7_reignsOf_86 rfl ?_
          refine z_iload_n 3 dX7_reignsOf_87 rfl ?_
          refine z_vI dX7_reignsOf_88 lX7_150 (by decide) ka37 io37 rfl (ct_X7_noneAt en (upR (upR (upR (upR (upR M 37 r37_73) 46 r46_76) 48 r48) 49 r49) 50 r50) r46_76 W rfl wW _ (by assumption) (by assumption) (by omega)) rfl rfl (by exact Nat.le_of_ble_eq_true rfl) ?_
          refine z_istore (fun y => [(0, rf en 37), (1, vi sd), (2, vi n), (3, vi tw), (4, vi x4_6), (5, vi x5_14), (6, vi x6_22), (7, vi x7), (8, vi x8), (9, vi y)]) [1, 2, 3, 4, 5, 6, 7, 8, 9, 0] dX7_reignsOf_91 (by decide) (fun _ => rfl) (fun x9_91 e9_91 => ?_)
          have una := noA_rg uT hW (t := tw) (by omega)
          refine z_iload 7 dX7_reignsOf_93 rfl ?_
          refine z_iload_n 3 dX7_reignsOf_95 rfl ?_
          refine z_iconst dX7_reignsOf_96 ?_
          refine z_icmp_ne (tgt := 107) dX7_reignsOf_97 rfl (by omega) (fun uc97 => ?_) (fun uc97 => ?_)
          · first
            | (exfalso; omega)
            |
                refine z_iload 9 dX7_reignsOf_107 rfl ?_
                refine z_iconst dX7_reignsOf_109 ?_
                refine z_icmp_ne (tgt := 117) dX7_reignsOf_110 rfl (by omega) (fun uc110 => ?_) (fun uc110 => ?_)
                ·
                  refine z_iload 9 dX7_reignsOf_117 rfl ?_
                  refine z_iadd dX7_reignsOf_119 ?_
                  refine z_istore (fun y => [(0, rf en 37), (1, vi sd), (2, vi n), (3, vi tw), (4, vi x4_6), (5, vi x5_14), (6, vi x6_22), (7, vi y), (8, vi x8), (9, vi x9_91)]) [1, 2, 3, 4, 5, 6, 7, 0, 8, 9] dX7_reignsOf_120 (by decide) (fun _ => rfl) (fun x7_120 e7_120 => ?_)
                  refine z_iinc (fun y => [(0, rf en 37), (1, vi sd), (2, vi n), (3, vi tw), (4, vi x4_6), (5, vi x5_14), (6, vi x6_22), (7, vi x7_120), (8, vi y), (9, vi x9_91)]) [1, 2, 3, 4, 5, 6, 7, 8, 0, 9] 8 dX7_reignsOf_122 rfl (by decide) (fun _ => rfl) (fun x8_122 e8_122 => ?_)
                  refine z_goto (tgt := 35) dX7_reignsOf_125 rfl ?_
                  refine z_lv [0, 1, 2, 3, 4, 5, 6, 7, 8] [(0, rf en 37), (1, vi sd), (2, vi n), (3, vi tw), (4, vi x4_6), (5, vi x5_14), (6, vi x6_22), (7, vi x7_120), (8, vi x8_122)] rfl ?_
                  have uqs : (x8_122).toNat = x8.toNat + 1 := by omega
                  have uqv : ∀ uq, uq ≠ 0 → uq ≠ 2 → uq ≠ 3 → r46_76 uq = T uq := by rw [ut]; exact up3_off _ _ _
                  exact uih35 x7_120 x8_122 r37_73 r46_76 r48 r49 r50 (by omega) (⟨by omega, by rw [uqs, rgS, ← uq3, e7_120]; unfold rgV; rw [if_neg uc97, ← ut, ← e9_91]; rw [if_neg uc110], by rw [uqs, ud3], uqv⟩)
                ·
                  refine z_iconst dX7_reignsOf_113 ?_
                  refine z_goto (tgt := 119) dX7_reignsOf_114 rfl ?_
                  refine z_iadd dX7_reignsOf_119 ?_
                  refine z_istore (fun y => [(0, rf en 37), (1, vi sd), (2, vi n), (3, vi tw), (4, vi x4_6), (5, vi x5_14), (6, vi x6_22), (7, vi y), (8, vi x8), (9, vi x9_91)]) [1, 2, 3, 4, 5, 6, 7, 0, 8, 9] dX7_reignsOf_120 (by decide) (fun _ => rfl) (fun x7_120 e7_120 => ?_)
                  refine z_iinc (fun y => [(0, rf en 37), (1, vi sd), (2, vi n), (3, vi tw), (4, vi x4_6), (5, vi x5_14), (6, vi x6_22), (7, vi x7_120), (8, vi y), (9, vi x9_91)]) [1, 2, 3, 4, 5, 6, 7, 8, 0, 9] 8 dX7_reignsOf_122 rfl (by decide) (fun _ => rfl) (fun x8_122 e8_122 => ?_)
                  refine z_goto (tgt := 35) dX7_reignsOf_125 rfl ?_
                  refine z_lv [0, 1, 2, 3, 4, 5, 6, 7, 8] [(0, rf en 37), (1, vi sd), (2, vi n), (3, vi tw), (4, vi x4_6), (5, vi x5_14), (6, vi x6_22), (7, vi x7_120), (8, vi x8_122)] rfl ?_
                  have uqs : (x8_122).toNat = x8.toNat + 1 := by omega
                  have uqv : ∀ uq, uq ≠ 0 → uq ≠ 2 → uq ≠ 3 → r46_76 uq = T uq := by rw [ut]; exact up3_off _ _ _
                  exact uih35 x7_120 x8_122 r37_73 r46_76 r48 r49 r50 (by omega) (⟨by omega, by rw [uqs, rgS, ← uq3, e7_120]; unfold rgV; rw [if_neg uc97, ← ut, ← e9_91]; rw [if_pos uc110], by rw [uqs, ud3], uqv⟩)
          · first
            | (exfalso; omega)
            |
                refine z_aload_n 0 dX7_reignsOf_100 rfl ?_
                refine z_vX dX7_reignsOf_101 lX7_176 (by decide) ka37 io37 rfl (ct_X7_wins en (upR (upR (upR (upR (upR M 37 r37_73) 46 r46_76) 48 r48) 49 r49) 50 r50) r37_73 P r46_76 W r48 r49 r50 rfl wP rfl wW rfl rfl rfl (by assumption) (by assumption) (by assumption) (by omega)) rfl rfl (by exact Nat.le_of_ble_eq_true rfl) (fun uv101 uN101 uh101 => ?_)
                obtain ⟨r48_101, r49_101, r50_101, ul1_101, ul2_101, ul3_101, uw_101, rfl⟩ := uh101
                have uwr_101 := wns_rg r46_76 W P (np := r37_73 9) (by omega)
                rw [uu3 (a := 48) (b0 := 49) (b1 := 50) (by decide) (by decide)]
                rw [uu2 (a := 49) (b0 := 50) (by decide)]
                rw [uu1 (a := 50)]
                refine z_goto (tgt := 119) dX7_reignsOf_104 rfl ?_
                refine z_iadd dX7_reignsOf_119 ?_
                refine z_istore (fun y => [(0, rf en 37), (1, vi sd), (2, vi n), (3, vi tw), (4, vi x4_6), (5, vi x5_14), (6, vi x6_22), (7, vi y), (8, vi x8), (9, vi x9_91)]) [1, 2, 3, 4, 5, 6, 7, 0, 8, 9] dX7_reignsOf_120 (by decide) (fun _ => rfl) (fun x7_120 e7_120 => ?_)
                refine z_iinc (fun y => [(0, rf en 37), (1, vi sd), (2, vi n), (3, vi tw), (4, vi x4_6), (5, vi x5_14), (6, vi x6_22), (7, vi x7_120), (8, vi y), (9, vi x9_91)]) [1, 2, 3, 4, 5, 6, 7, 8, 0, 9] 8 dX7_reignsOf_122 rfl (by decide) (fun _ => rfl) (fun x8_122 e8_122 => ?_)
                refine z_goto (tgt := 35) dX7_reignsOf_125 rfl ?_
                refine z_lv [0, 1, 2, 3, 4, 5, 6, 7, 8] [(0, rf en 37), (1, vi sd), (2, vi n), (3, vi tw), (4, vi x4_6), (5, vi x5_14), (6, vi x6_22), (7, vi x7_120), (8, vi x8_122)] rfl ?_
                have uqs : (x8_122).toNat = x8.toNat + 1 := by omega
                have uqv : ∀ uq, uq ≠ 0 → uq ≠ 2 → uq ≠ 3 → r46_76 uq = T uq := by rw [ut]; exact up3_off _ _ _
                exact uih35 x7_120 x8_122 r37_73 r46_76 r48_101 r49_101 r50_101 (by omega) (⟨by omega, by rw [uqs, rgS, ← uq3, e7_120]; unfold rgV; rw [if_neg uc97, ← ut, ← e9_91]; rw [if_pos uc110], by rw [uqs, ud3], uqv⟩)
        ·
          refine z_iconst dX7_reignsOf_82 ?_
          refine z_goto (tgt := 91) dX7_reignsOf_83 rfl ?_
          refine z_istore (fun y => [(0, rf en 37), (1, vi sd), (2, vi n), (3, vi tw), (4, vi x4_6), (5, vi x5_14), (6, vi x6_22), (7, vi x7), (8, vi x8), (9, vi y)]) [1, 2, 3, 4, 5, 6, 7, 8, 9, 0] dX7_reignsOf_91 (by decide) (fun _ => rfl) (fun uy uhy => ?_)
          subst uhy
          skip
          refine z_iload 7 dX7_reignsOf_93 rfl ?_
          refine z_iload_n 3 dX7_reignsOf_95 rfl ?_
          refine z_iconst dX7_reignsOf_96 ?_
          refine z_icmp_ne (tgt := 107) dX7_reignsOf_97 rfl (by omega) (fun uc97 => ?_) (fun uc97 => ?_)
          · first
            | (exfalso; omega)
            |
                refine z_iload 9 dX7_reignsOf_107 rfl ?_
                refine z_iconst dX7_reignsOf_109 ?_
                refine z_icmp_ne (tgt := 117) dX7_reignsOf_110 rfl (by omega) (fun _ => ?_) (fun z => absurd z (by decide))
                refine z_iload 9 dX7_reignsOf_117 rfl ?_
                refine z_iadd dX7_reignsOf_119 ?_
                refine z_istore (fun y => [(0, rf en 37), (1, vi sd), (2, vi n), (3, vi tw), (4, vi x4_6), (5, vi x5_14), (6, vi x6_22), (7, vi y), (8, vi x8), (9, vi (0))]) [1, 2, 3, 4, 5, 6, 7, 0, 8, 9] dX7_reignsOf_120 (by decide) (fun _ => rfl) (fun x7_120 e7_120 => ?_)
                refine z_iinc (fun y => [(0, rf en 37), (1, vi sd), (2, vi n), (3, vi tw), (4, vi x4_6), (5, vi x5_14), (6, vi x6_22), (7, vi x7_120), (8, vi y), (9, vi (0))]) [1, 2, 3, 4, 5, 6, 7, 8, 0, 9] 8 dX7_reignsOf_122 rfl (by decide) (fun _ => rfl) (fun x8_122 e8_122 => ?_)
                refine z_goto (tgt := 35) dX7_reignsOf_125 rfl ?_
                refine z_lv [0, 1, 2, 3, 4, 5, 6, 7, 8] [(0, rf en 37), (1, vi sd), (2, vi n), (3, vi tw), (4, vi x4_6), (5, vi x5_14), (6, vi x6_22), (7, vi x7_120), (8, vi x8_122)] rfl ?_
                have uqs : (x8_122).toNat = x8.toNat + 1 := by omega
                have uqv : ∀ uq, uq ≠ 0 → uq ≠ 2 → uq ≠ 3 → r46_76 uq = T uq := by rw [ut]; exact up3_off _ _ _
                exact uih35 x7_120 x8_122 r37_73 r46_76 r48 r49 r50 (by omega) (⟨by omega, by rw [uqs, rgS, ← uq3, e7_120]; unfold rgV; rw [if_pos uc97, uw_101, ut, uo9], by rw [uqs, ud3], uqv⟩)
          · first
            | (exfalso; omega)
            |
                refine z_aload_n 0 dX7_reignsOf_100 rfl ?_
                refine z_vX dX7_reignsOf_101 lX7_176 (by decide) ka37 io37 rfl (ct_X7_wins en (upR (upR (upR (upR (upR M 37 r37_73) 46 r46_76) 48 r48) 49 r49) 50 r50) r37_73 P r46_76 W r48 r49 r50 rfl wP rfl wW rfl rfl rfl (by assumption) (by assumption) (by assumption) (by omega)) rfl rfl (by exact Nat.le_of_ble_eq_true rfl) (fun uv101 uN101 uh101 => ?_)
                obtain ⟨r48_101, r49_101, r50_101, ul1_101, ul2_101, ul3_101, uw_101, rfl⟩ := uh101
                have uwr_101 := wns_rg r46_76 W P (np := r37_73 9) (by omega)
                rw [uu3 (a := 48) (b0 := 49) (b1 := 50) (by decide) (by decide)]
                rw [uu2 (a := 49) (b0 := 50) (by decide)]
                rw [uu1 (a := 50)]
                refine z_goto (tgt := 119) dX7_reignsOf_104 rfl ?_
                refine z_iadd dX7_reignsOf_119 ?_
                refine z_istore (fun y => [(0, rf en 37), (1, vi sd), (2, vi n), (3, vi tw), (4, vi x4_6), (5, vi x5_14), (6, vi x6_22), (7, vi y), (8, vi x8), (9, vi (0))]) [1, 2, 3, 4, 5, 6, 7, 0, 8, 9] dX7_reignsOf_120 (by decide) (fun _ => rfl) (fun x7_120 e7_120 => ?_)
                refine z_iinc (fun y => [(0, rf en 37), (1, vi sd), (2, vi n), (3, vi tw), (4, vi x4_6), (5, vi x5_14), (6, vi x6_22), (7, vi x7_120), (8, vi y), (9, vi (0))]) [1, 2, 3, 4, 5, 6, 7, 8, 0, 9] 8 dX7_reignsOf_122 rfl (by decide) (fun _ => rfl) (fun x8_122 e8_122 => ?_)
                refine z_goto (tgt := 35) dX7_reignsOf_125 rfl ?_
                refine z_lv [0, 1, 2, 3, 4, 5, 6, 7, 8] [(0, rf en 37), (1, vi sd), (2, vi n), (3, vi tw), (4, vi x4_6), (5, vi x5_14), (6, vi x6_22), (7, vi x7_120), (8, vi x8_122)] rfl ?_
                have uqs : (x8_122).toNat = x8.toNat + 1 := by omega
                have uqv : ∀ uq, uq ≠ 0 → uq ≠ 2 → uq ≠ 3 → r46_76 uq = T uq := by rw [ut]; exact up3_off _ _ _
                exact uih35 x7_120 x8_122 r37_73 r46_76 r48_101 r49_101 r50_101 (by omega) (⟨by omega, by rw [uqs, rgS, ← uq3, e7_120]; unfold rgV; rw [if_pos uc97, uw_101, ut, uo9], by rw [uqs, ud3], uqv⟩)
  refine Z.eqM (upR_id (k := 46) wT) ?_
  refine Z.eqM (upR_id (k := 48) wC0) ?_
  refine Z.eqM (upR_id (k := 49) wE0) ?_
  refine Z.eqM (upR_id (k := 50) wG0) ?_
  exact uL35 _ 0 0 r37_26 T C0 E0 G0 (Nat.lt_succ_self _) (⟨by omega, rfl, f37_26, fun uq ua ub uc => rfl⟩)
set_option maxRecDepth 100000 in
theorem ct_X7_allRich (en : zE) (M : zW) (O : Int → Int) (P : Int → Int) (wO : M 37 = O) (wP : M 45 = P) (hP : pOK P (O 9)) (hn : 0 ≤ O 9 ∧ O 9 ≤ 8) : Ct en kA yX7_allRich mX7_allRich [rf en 37] M (pI (rcS P (O 9).toNat) M) := by
  refine Ct.of (by decide +kernel) rfl [(0, rf en 37)] rfl (Nat.le_of_ble_eq_true rfl) (fun cx C => ?_)
  refine z_iconst dX7_allRich_0 ?_
  refine z_istore_n (fun y => [(0, rf en 37), (1, vi y)]) [1, 0] dX7_allRich_1 (by decide) (fun _ => rfl) (fun x1_1 e1_1 => ?_)
  refine z_iconst dX7_allRich_2 ?_
  refine z_istore_n (fun y => [(0, rf en 37), (1, vi x1_1), (2, vi y)]) [1, 2, 0] dX7_allRich_3 (by decide) (fun _ => rfl) (fun x2_3 e2_3 => ?_)
  have uL4 : ∀ (fu : Nat) (x1 : Int) (x2 : Int), (O 9 - x2).toNat < fu → (0 ≤ x2 ∧ x2 ≤ O 9 ∧ x1 = rcS P x2.toNat) → Z en kA cx mX7_allRich M 4 [(0, rf en 37), (1, vi x1), (2, vi x2)] [] := by
    intro fu
    induction fu with
    | zero => intro x1 x2 uhf; exact absurd uhf (Nat.not_lt_zero _)
    | succ fu uih4 =>
      intro x1 x2 uf4 uI4
      obtain ⟨uq1, uq2, uq3⟩ := uI4
      refine z_iload_n 2 dX7_allRich_4 rfl ?_
      refine z_aload_n 0 dX7_allRich_5 rfl ?_
      refine z_getI (r := O) 9 rfl dX7_allRich_6 fX7_97_6 i37_9 ka37 (wO) ?_
      refine z_icmp_ge (tgt := 31) dX7_allRich_9 rfl (by omega) (fun uc9 => ?_) (fun uc9 => ?_)
      ·
        refine z_iload_n 1 dX7_allRich_31 rfl ?_
        exact z_iret C dX7_allRich_32 rfl ⟨congrArg (fun z => some (vi z)) (by rw [uq3, show x2 = O 9 by omega]), rfl⟩
      ·
        refine z_iload_n 1 dX7_allRich_12 rfl ?_
        refine z_aload_n 0 dX7_allRich_13 rfl ?_
        refine z_getR dX7_allRich_14 fX7_31_6 i37_10 ka37 ?_
        refine z_iconst dX7_allRich_17 ?_
        refine z_iload_n 2 dX7_allRich_18 rfl ?_
        refine z_imul dX7_allRich_19 ?_
        refine z_iconst dX7_allRich_20 ?_
        refine z_iadd dX7_allRich_21 ?_
        refine z_iald (r := P) dX7_allRich_22 is45 ka45 (wP) (by omega) ?_
        refine z_iadd dX7_allRich_23 ?_
        refine z_istore_n (fun y => [(0, rf en 37), (1, vi y), (2, vi x2)]) [1, 0, 2] dX7_allRich_24 (by decide) (fun _ => rfl) (fun x1_24 e1_24 => ?_)
        refine z_iinc (fun y => [(0, rf en 37), (1, vi x1_24), (2, vi y)]) [1, 2, 0] 2 dX7_allRich_25 rfl (by decide) (fun _ => rfl) (fun x2_25 e2_25 => ?_)
        refine z_goto (tgt := 4) dX7_allRich_28 rfl ?_
        exact uih4 x1_24 x2_25 (by omega) (⟨by omega, by omega, by rw [e2_25, tnS uq1, rcS, tnC uq1, ← uq3, e1_24]⟩)
  exact uL4 _ x1_1 x2_3 (Nat.lt_succ_self _) (⟨by omega, by omega, by rw [e1_1, e2_3]; rfl⟩)
set_option maxRecDepth 100000 in
theorem ct_X7_riding (en : zE) (M : zW) (O : Int → Int) (P : Int → Int) (T : Int → Int) (W : Int → Int) (C0 : Int → Int) (E0 : Int → Int) (G0 : Int → Int) (wO : M 37 = O) (wP : M 45 = P) (wT : M 46 = T) (wW : M 47 = W) (wC0 : M 48 = C0) (wE0 : M 49 = E0) (wG0 : M 50 = G0) (hT : tOK T) (hW : wOK W) (hP : pOK P (O 9)) (hn : 0 ≤ O 9 ∧ O 9 ≤ 8) : Ct en kA yX7_riding mX7_riding [rf en 37] M (pX (fun x N => ∃ r48 r49 r50 : Int → Int, (∀ q, 0 ≤ q → q < O 9 → r48 q = coO T W P (O 9) q) ∧ (∀ q, 0 ≤ q → q < O 9 → r49 q = enO T W P (O 9) q) ∧ (∀ q, 0 ≤ q → q < O 9 → r50 q = riO T W P (O 9) q) ∧ x = rdn T W P (O 9) (O 9).toNat ∧ upR (upR (upR M 48 r48) 49 r49) 50 r50 = N)) := by
  refine Ct.of (by decide +kernel) rfl [(0, rf en 37)] rfl (Nat.le_of_ble_eq_true rfl) (fun cx C => ?_)
  refine z_aload_n 0 dX7_riding_0 rfl ?_
  refine z_vN dX7_riding_1 lX7_170 (by decide) ka37 io37 rfl (ct_X7_lives en M O P T W C0 E0 G0 wO wP wT wW wC0 wE0 wG0 (by assumption) (by assumption) (by assumption) (by omega)) rfl rfl (by exact Nat.le_of_ble_eq_true rfl) (fun uN1 uh1 => ?_)
  obtain ⟨r48_1, r49_1, r50_1, ul1_1, ul2_1, ul3_1, rfl⟩ := uh1
  refine z_iconst dX7_riding_4 ?_
  refine z_istore_n (fun y => [(0, rf en 37), (1, vi y)]) [1, 0] dX7_riding_5 (by decide) (fun _ => rfl) (fun x1_5 e1_5 => ?_)
  refine z_iconst dX7_riding_6 ?_
  refine z_istore_n (fun y => [(0, rf en 37), (1, vi x1_5), (2, vi y)]) [1, 2, 0] dX7_riding_7 (by decide) (fun _ => rfl) (fun x2_7 e2_7 => ?_)
  have uL8 : ∀ (fu : Nat) (x1 : Int) (x2 : Int), (O 9 - x2).toNat < fu → (0 ≤ x2 ∧ x2 ≤ O 9 ∧ x1 = rdn T W P (O 9) x2.toNat) → Z en kA cx mX7_riding (upR (upR (upR M 48 r48_1) 49 r49_1) 50 r50_1) 8 [(0, rf en 37), (1, vi x1), (2, vi x2)] [] := by
    intro fu
    induction fu with
    | zero => intro x1 x2 uhf; exact absurd uhf (Nat.not_lt_zero _)
    | succ fu uih8 =>
      intro x1 x2 uf8 uI8
      obtain ⟨uq1, uq2, uq3⟩ := uI8
      refine z_iload_n 2 dX7_riding_8 rfl ?_
      refine z_aload_n 0 dX7_riding_9 rfl ?_
      refine z_getI (r := O) 9 rfl dX7_riding_10 fX7_97_6 i37_9 ka37 (wO) ?_
      refine z_icmp_ge (tgt := 42) dX7_riding_13 rfl (by omega) (fun uc13 => ?_) (fun uc13 => ?_)
      ·
        refine z_iload_n 1 dX7_riding_42 rfl ?_
        exact z_iret C dX7_riding_43 rfl ⟨_, rfl, ⟨r48_1, r49_1, r50_1, ul1_1, ul2_1, ul3_1, by rw [uq3, show x2 = O 9 by omega], rfl⟩⟩
      ·
        have ud1 := ul1_1 x2 (by omega) (by omega)
        have ud2 := coO_rg hT hW hP (p := x2) (by omega)
        refine z_iload_n 1 dX7_riding_16 rfl ?_
        refine z_aload_n 0 dX7_riding_17 rfl ?_
        refine z_getR dX7_riding_18 fX7_40_6 i37_13 ka37 ?_
        refine z_iload_n 2 dX7_riding_21 rfl ?_
        refine z_iald (r := r48_1) dX7_riding_22 is48 ka48 (rfl) (by omega) ?_
        refine z_sipush dX7_riding_23 rfl ?_
        refine z_icmp_ne (tgt := 33) dX7_riding_26 rfl (by omega) (fun uc26 => ?_) (fun uc26 => ?_)
        ·
          refine z_iconst dX7_riding_33 ?_
          refine z_iadd dX7_riding_34 ?_
          refine z_istore_n (fun y => [(0, rf en 37), (1, vi y), (2, vi x2)]) [1, 0, 2] dX7_riding_35 (by decide) (fun _ => rfl) (fun x1_35 e1_35 => ?_)
          refine z_iinc (fun y => [(0, rf en 37), (1, vi x1_35), (2, vi y)]) [1, 2, 0] 2 dX7_riding_36 rfl (by decide) (fun _ => rfl) (fun x2_36 e2_36 => ?_)
          refine z_goto (tgt := 8) dX7_riding_39 rfl ?_
          exact uih8 x1_35 x2_36 (by omega) (⟨by omega, by omega, by rw [e2_36, tnS uq1, rdn, tnC uq1, ← uq3, e1_35, ← ud1]; rw [if_neg uc26]⟩)
        ·
          refine z_iconst dX7_riding_29 ?_
          refine z_goto (tgt := 34) dX7_riding_30 rfl ?_
          refine z_iadd dX7_riding_34 ?_
          refine z_istore_n (fun y => [(0, rf en 37), (1, vi y), (2, vi x2)]) [1, 0, 2] dX7_riding_35 (by decide) (fun _ => rfl) (fun x1_35 e1_35 => ?_)
          refine z_iinc (fun y => [(0, rf en 37), (1, vi x1_35), (2, vi y)]) [1, 2, 0] 2 dX7_riding_36 rfl (by decide) (fun _ => rfl) (fun x2_36 e2_36 => ?_)
          refine z_goto (tgt := 8) dX7_riding_39 rfl ?_
          exact uih8 x1_35 x2_36 (by omega) (⟨by omega, by omega, by rw [e2_36, tnS uq1, rdn, tnC uq1, ← uq3, e1_35, ← ud1]; rw [if_pos uc26]⟩)
  exact uL8 _ x1_5 x2_7 (Nat.lt_succ_self _) (⟨by omega, by omega, by rw [e1_5, e2_7]; rfl⟩)
/-! ways do not hang on what stood there before -/
theorem stR_at {Rd : Int → Int} {op : Int} {A B : Int → Int} {c r : Int} (hR : rdOK Rd c) (hr : 0 ≤ r ∧ r < c) (h : ∀ j, 0 ≤ j → j < 64 → A j = B j) : ∀ j, 0 ≤ j → j < 64 → stR Rd op A r j = stR Rd op B r j := by
  intro j h1 h2
  obtain ⟨a, b, -, -⟩ := hR r hr.1 hr.2
  have e : stD Rd op A r = stD Rd op B r := by unfold stD; rw [h _ (by omega) (by omega)]
  unfold stR
  rw [e]
  by_cases z : j = 8 * Rd (3 * r + 1) + Rd (3 * r)
  · rw [z, up_s, up_s]
  · rw [up_n _ _ z, up_n _ _ z]
    by_cases y : j = 8 * Rd (3 * r) + Rd (3 * r + 1)
    · rw [y, up_s, up_s]
    · rw [up_n _ _ y, up_n _ _ y]; exact h j h1 h2
theorem fwR_at {Rd : Int → Int} {op : Int} {A B : Int → Int} {c : Int} (hR : rdOK Rd c) : ∀ n : Nat, (n : Int) ≤ c → ∀ j, 0 ≤ j → j < 64 → fwR Rd op A n j = fwR Rd op B n j
  | 0, _, j, h1, h2 => by rw [fwR, fwR, fil_in _ _ (by omega), fil_in _ _ (by omega)]
  | n + 1, hn, j, h1, h2 => stR_at hR (by omega) (fwR_at hR n (by omega)) j h1 h2
theorem fwK_at {b : Int} {A B : Int → Int} (hb : 0 ≤ b ∧ b < 8) (h : ∀ j, 0 ≤ j → j < 64 → A j = B j) : ∀ n : Nat, n ≤ 64 → ∀ j, 0 ≤ j → j < 64 → fwK b A n j = fwK b B n j
  | 0, _, j, h1, h2 => h j h1 h2
  | n + 1, hn, j, h1, h2 => by
    have ih := fwK_at hb h n (by omega)
    unfold fwK stK
    rw [ih n (by omega) (by omega), ih (8 * ((n : Int) / 8) + b) (by omega) (by omega), ih (8 * b + (n : Int) % 8) (by omega) (by omega)]
    by_cases z : j = n
    · rw [z, up_s, up_s]
    · rw [up_n _ _ z, up_n _ _ z]; exact ih j h1 h2
theorem fwB_at {A B : Int → Int} (h : ∀ j, 0 ≤ j → j < 64 → A j = B j) : ∀ n : Nat, n ≤ 8 → ∀ j, 0 ≤ j → j < 64 → fwB A n j = fwB B n j
  | 0, _, j, h1, h2 => h j h1 h2
  | n + 1, hn, j, h1, h2 => fwK_at (by omega) (fwB_at h n (by omega)) 64 (by omega) j h1 h2
theorem fwA_at {Rd : Int → Int} {op : Int} {A B : Int → Int} {c : Int} (hR : rdOK Rd c) (hc : 0 ≤ c) : ∀ j, 0 ≤ j → j < 64 → fwA Rd op A c.toNat j = fwA Rd op B c.toNat j := fwB_at (fwR_at hR _ (by omega)) 8 (by omega)
theorem fwR_off {Rd : Int → Int} {op : Int} {A : Int → Int} {c : Int} (hR : rdOK Rd c) : ∀ n : Nat, (n : Int) ≤ c → ∀ j, ¬ (0 ≤ j ∧ j < 64) → fwR Rd op A n j = A j
  | 0, _, j, h => by rw [fwR, fil_out _ _ (by omega)]
  | n + 1, hn, j, h => by
    obtain ⟨a, b, -, -⟩ := hR n (by omega) (by omega)
    unfold fwR stR
    rw [up_n _ _ (by omega), up_n _ _ (by omega)]
    exact fwR_off hR n (by omega) j h
theorem fwK_off {b : Int} {A : Int → Int} : ∀ n : Nat, n ≤ 64 → ∀ j, ¬ (0 ≤ j ∧ j < 64) → fwK b A n j = A j
  | 0, _, j, h => rfl
  | n + 1, hn, j, h => by
    unfold fwK stK
    rw [up_n _ _ (by omega)]
    exact fwK_off n (by omega) j h
theorem fwB_off {A : Int → Int} : ∀ n : Nat, n ≤ 8 → ∀ j, ¬ (0 ≤ j ∧ j < 64) → fwB A n j = A j
  | 0, _, j, h => rfl
  | n + 1, hn, j, h => (fwK_off 64 (by omega) j h).trans (fwB_off n (by omega) j h)
theorem fwA_off {Rd : Int → Int} {op : Int} {A : Int → Int} {c : Int} (hR : rdOK Rd c) (hc : 0 ≤ c) : ∀ j, ¬ (0 ≤ j ∧ j < 64) → fwA Rd op A c.toNat j = A j := fun j h => (fwB_off 8 (by omega) j h).trans (fwR_off hR _ (by omega) j h)
theorem fwA_eq {Rd : Int → Int} {op : Int} {A B : Int → Int} {c : Int} (hR : rdOK Rd c) (hc : 0 ≤ c) (h : ∀ j, ¬ (0 ≤ j ∧ j < 64) → A j = B j) : fwA Rd op A c.toNat = fwA Rd op B c.toNat := by
  funext j
  by_cases z : 0 ≤ j ∧ j < 64
  · exact fwA_at hR hc j z.1 z.2
  · rw [fwA_off hR hc j z, fwA_off hR hc j z, h j z]
theorem hA_at {T A B : Int → Int} (hT : tOK T) {t : Int} (ht : 0 ≤ t ∧ t ≤ 7) (h : ∀ j, 0 ≤ j → j < 64 → A j = B j) : hA T A t = hA T B t := by unfold hA; rw [h _ (by omega) (by omega)]
def wgt (c op : Int) : Nat → Int
  | 0 => 1
  | r + 1 => wgt c op r * (if bitq op r then 16 - c else c)
theorem wgt_rg {c : Int} (hc : 0 ≤ c ∧ c ≤ 16) (op : Int) : ∀ n : Nat, 0 ≤ wgt c op n ∧ wgt c op n ≤ 16 ^ n
  | 0 => by simp [wgt]
  | n + 1 => by
    have ih := wgt_rg hc op n
    have h2 : 0 ≤ (if bitq op n then 16 - c else c) ∧ (if bitq op n then 16 - c else c) ≤ 16 := by split <;> omega
    unfold wgt
    refine ⟨Int.mul_nonneg ih.1 h2.1, ?_⟩
    rw [Int.pow_succ]
    exact Int.mul_le_mul ih.2 h2.2 h2.1 (Int.le_trans ih.1 ih.2)
def otA (T Rd : Int → Int) (nr : Nat) (c tw day : Int) : Nat → Int
  | 0 => 0
  | op + 1 => otA T Rd nr c tw day op + (if hA T (fwA Rd op (fun _ => 0) nr) tw ≤ day then wgt c op nr else 0)
theorem p16_rg : ∀ n : Nat, n < 13 → 1 ≤ (16 : Int) ^ n ∧ (16 : Int) ^ n ≤ 281474976710656 := by decide +kernel
theorem otA_rg (T Rd : Int → Int) {nr : Nat} (hn : nr < 13) {c tw day : Int} (hc : 0 ≤ c ∧ c ≤ 16) : ∀ n : Nat, 0 ≤ otA T Rd nr c tw day n ∧ otA T Rd nr c tw day n ≤ 281474976710656 * n
  | 0 => by simp [otA]
  | n + 1 => by
    have h1 := otA_rg T Rd hn (tw := tw) (day := day) hc n
    have h2 := wgt_rg hc n nr
    have h3 := p16_rg nr hn
    unfold otA
    split <;> omega
def otV (T Rd : Int → Int) (nr : Nat) (c tw day wh : Int) : Int := (if wh = 0 then otA T Rd nr c tw day (2 ^ nr) else 16 ^ nr) / Int.gcd (otA T Rd nr c tw day (2 ^ nr)) (16 ^ nr)
set_option maxRecDepth 100000 in
set_option maxHeartbeats 2000000 in
theorem ct_X7_outOf (en : zE) (M : zW) (O : Int → Int) (R : Int → Int) (T : Int → Int) (W : Int → Int) (wO : M 37 = O) (wR : M 44 = R) (wT : M 46 = T) (wW : M 47 = W) (c : Int) (tw : Int) (dy : Int) (wh : Int) (hT : tOK T) (hR : rdOK R (O 7)) (hn : 0 ≤ O 7 ∧ O 7 ≤ 12) (hW0 : ∃ W0, W = fwA R 4095 W0 (O 7).toNat) (h0 : (0 ≤ c ∧ c ≤ 16) ∧ (0 ≤ tw ∧ tw ≤ 7) ∧ (0 ≤ dy ∧ dy ≤ 99) ∧ (0 ≤ wh ∧ wh ≤ 1)) : Ct en kA yX7_outOf mX7_outOf [rf en 37, vi c, vi tw, vi dy, vi wh] M (pJ (otV T R (O 7).toNat c tw dy wh) M) := by
  refine Ct.of (by decide +kernel) rfl [(0, rf en 37), (1, vi c), (2, vi tw), (3, vi dy), (4, vi wh)] rfl (Nat.le_of_ble_eq_true rfl) (fun cx C => ?_)
  have unp := p2_rg (O 7).toNat (by omega)
  have unq := p16_rg (O 7).toNat (by omega)
  refine z_lconst (v := 0) dX7_outOf_0 rfl ?_
  refine z_lstore (fun y => [(0, rf en 37), (1, vi c), (2, vi tw), (3, vi dy), (4, vi wh), (5, vl y)]) [1, 2, 3, 4, 5, 0] dX7_outOf_1 (by decide) (fun _ => rfl) (fun x5_1 e5_1 => ?_)
  refine z_lconst (v := 1) dX7_outOf_3 rfl ?_
  refine z_lstore (fun y => [(0, rf en 37), (1, vi c), (2, vi tw), (3, vi dy), (4, vi wh), (5, vl x5_1), (7, vl y)]) [1, 2, 3, 4, 5, 6, 0] dX7_outOf_4 (by decide) (fun _ => rfl) (fun x7_4 e7_4 => ?_)
  refine z_iconst dX7_outOf_6 ?_
  refine z_istore (fun y => [(0, rf en 37), (1, vi c), (2, vi tw), (3, vi dy), (4, vi wh), (5, vl x5_1), (7, vl x7_4), (9, vi y)]) [1, 2, 3, 4, 5, 6, 7, 0] dX7_outOf_7 (by decide) (fun _ => rfl) (fun x9_7 e9_7 => ?_)
  have uL9 : ∀ (fu : Nat) (x7 : Int) (x9 : Int), (O 7 - x9).toNat < fu → (0 ≤ x9 ∧ x9 ≤ O 7 ∧ x7 = 16 ^ x9.toNat) → Z en kA cx mX7_outOf M 9 [(0, rf en 37), (1, vi c), (2, vi tw), (3, vi dy), (4, vi wh), (5, vl x5_1), (7, vl x7), (9, vi x9)] [] := by
    intro fu
    induction fu with
    | zero => intro x7 x9 uhf; exact absurd uhf (Nat.not_lt_zero _)
    | succ fu uih9 =>
      intro x7 x9 uf9 uI9
      obtain ⟨uq1, uq2, uq3⟩ := uI9
      refine z_iload 7 dX7_outOf_9 rfl ?_
      refine z_aload_n 0 dX7_outOf_11 rfl ?_
      refine z_getI (r := O) 7 rfl dX7_outOf_12 fX7_91_6 i37_7 ka37 (wO) ?_
      refine z_icmp_ge (tgt := 32) dX7_outOf_15 rfl (by omega) (fun uc15 => ?_) (fun uc15 => ?_)
      ·
        have ux7 : x7 = 16 ^ (O 7).toNat := by rw [uq3, show x9 = O 7 by omega]
        refine z_iconst dX7_outOf_32 ?_
        refine z_istore (fun y => [(0, rf en 37), (1, vi c), (2, vi tw), (3, vi dy), (4, vi wh), (5, vl x5_1), (7, vl x7), (9, vi y)]) [1, 2, 3, 4, 5, 6, 7, 0] dX7_outOf_33 (by decide) (fun _ => rfl) (fun x9_33 e9_33 => ?_)
        have uL35 : ∀ (fu : Nat) (x5 : Int) (x9 : Int) (r47 : Int → Int), (4096 - x9).toNat < fu → ((0 ≤ x9 ∧ x9 ≤ 2 ^ (O 7).toNat) ∧ x5 = otA T R (O 7).toNat c tw dy x9.toNat ∧ ∀ j, ¬ (0 ≤ j ∧ j < 64) → r47 j = W j) → Z en kA cx mX7_outOf (upR M 47 r47) 35 [(0, rf en 37), (1, vi c), (2, vi tw), (3, vi dy), (4, vi wh), (5, vl x5), (7, vl x7), (9, vi x9)] [] := by
          intro fu
          induction fu with
          | zero => intro x5 x9 r47 uhf; exact absurd uhf (Nat.not_lt_zero _)
          | succ fu uih35 =>
            intro x5 x9 r47 uf35 uI35
            obtain ⟨uq4, uq5, uq6⟩ := uI35
            refine z_iload 7 dX7_outOf_35 rfl ?_
            refine z_iconst dX7_outOf_37 ?_
            refine z_aload_n 0 dX7_outOf_38 rfl ?_
            refine z_getI (r := O) 7 rfl dX7_outOf_39 fX7_91_6 i37_7 ka37 (wO) ?_
            refine z_ishl dX7_outOf_42 (by omega) ?_
            refine z_icmp_ge (tgt := 120) dX7_outOf_43 rfl (by omega) (fun uc43 => ?_) (fun uc43 => ?_)
            ·
              refine z_aload_n 0 dX7_outOf_120 rfl ?_
              refine z_sipush dX7_outOf_121 rfl ?_
              refine z_vV dX7_outOf_124 lX7_128 (by decide) ka37 io37 rfl (ct_X7_findWays en (upR M 47 r47) O R r47 wO wR rfl (4095) (by omega) (hR)) rfl rfl (by exact Nat.le_of_ble_eq_true rfl) ?_
              rw [uu1 (a := 47)]
              obtain ⟨uW0, uW1⟩ := hW0
              have uW2 : fwA R 4095 r47 (O 7).toNat = W := by rw [fwA_eq hR hn.1 (B := uW0) (fun uj ua => by rw [uq6 uj ua, uW1, fwA_off hR hn.1 uj ua]), ← uW1]
              have uo := otA_rg T R (nr := (O 7).toNat) (by omega) (tw := tw) (day := dy) h0.1 x9.toNat
              have ux9 : x9 = 2 ^ (O 7).toNat := by omega
              have ux5 : x5 = otA T R (O 7).toNat c tw dy (2 ^ (O 7).toNat) := by rw [uq5, ux9, p2_nat]
              refine z_lload 5 dX7_outOf_127 rfl ?_
              refine z_lload 6 dX7_outOf_129 rfl ?_
              refine z_iload 4 dX7_outOf_131 rfl ?_
              refine z_sJ dX7_outOf_133 lX7_215 (by decide) (ct_X7_part en (upR M 47 (fwA R 4095 r47 (O 7).toNat)) _ _ _ (by omega) (by omega)) rfl rfl (by exact Nat.le_of_ble_eq_true rfl) ?_
              exact z_lret C dX7_outOf_136 rfl ⟨congrArg (fun z => some (vl z)) (by rw [ux5, ux7]; rfl), by rw [uW2, upR_id wW]⟩
            ·
              refine z_aload_n 0 dX7_outOf_46 rfl ?_
              refine z_iload 7 dX7_outOf_47 rfl ?_
              refine z_vV dX7_outOf_49 lX7_128 (by decide) ka37 io37 rfl (ct_X7_findWays en (upR M 47 r47) O R r47 wO wR rfl _ (by omega) (hR)) rfl rfl (by exact Nat.le_of_ble_eq_true rfl) ?_
              rw [uu1 (a := 47)]
              obtain ⟨r47_49, ur47⟩ : ∃ ur : Int → Int, ur = fwA R x9 r47 (O 7).toNat := ⟨_, rfl⟩
              rw [← ur47]
              have uw47 : wOK r47_49 := by rw [ur47]; exact fwA_ok hR hn.1
              refine z_aload_n 0 dX7_outOf_52 rfl ?_
              refine z_iload_n 2 dX7_outOf_53 rfl ?_
              refine z_vI dX7_outOf_54 lX7_141 (by decide) ka37 io37 rfl (ct_X7_hearsAt en (upR M 47 r47_49) T r47_49 wT rfl _ (by assumption) (by assumption) (by omega)) rfl rfl (by exact Nat.le_of_ble_eq_true rfl) ?_
              have uh9 : hA T r47_49 tw = hA T (fwA R x9 (fun _ => 0) (O 7).toNat) tw := by rw [ur47]; exact hA_at hT (by omega) (fwA_at hR hn.1)
              have uh8 := hA_rg hT uw47 (t := tw) (by omega)
              refine z_iload_n 3 dX7_outOf_57 rfl ?_
              refine z_icmp_gt (tgt := 114) dX7_outOf_58 rfl (by omega) (fun uc58 => ?_) (fun uc58 => ?_)
              ·
                refine z_iinc (fun y => [(0, rf en 37), (1, vi c), (2, vi tw), (3, vi dy), (4, vi wh), (5, vl x5), (7, vl x7), (9, vi y)]) [1, 2, 3, 4, 5, 6, 7, 0] 7 dX7_outOf_114 rfl (by decide) (fun _ => rfl) (fun x9_114 e9_114 => ?_)
                refine z_goto (tgt := 35) dX7_outOf_117 rfl ?_
                exact uih35 x5 x9_114 r47_49 (by omega) (⟨by omega, by rw [e9_114, tnS (by omega), otA, tnC (by omega), ← uq5, ← uh9]; rw [if_neg (by omega), Int.add_zero], fun uj ua => by rw [ur47, fwA_off hR hn.1 uj ua]; exact uq6 uj ua⟩)
              ·
                refine z_lconst (v := 1) dX7_outOf_61 rfl ?_
                refine z_lstore (fun y => [(0, rf en 37), (1, vi c), (2, vi tw), (3, vi dy), (4, vi wh), (5, vl x5), (7, vl x7), (9, vi x9), (10, vl y)]) [1, 2, 3, 4, 5, 6, 7, 8, 0] dX7_outOf_62 (by decide) (fun _ => rfl) (fun x10_62 e10_62 => ?_)
                refine z_iconst dX7_outOf_64 ?_
                refine z_istore (fun y => [(0, rf en 37), (1, vi c), (2, vi tw), (3, vi dy), (4, vi wh), (5, vl x5), (7, vl x7), (9, vi x9), (10, vl x10_62), (12, vi y)]) [1, 2, 3, 4, 5, 6, 7, 8, 9, 0] dX7_outOf_65 (by decide) (fun _ => rfl) (fun x12_65 e12_65 => ?_)
                have uL67 : ∀ (fu : Nat) (x10 : Int) (x12 : Int), (O 7 - x12).toNat < fu → (0 ≤ x12 ∧ x12 ≤ O 7 ∧ x10 = wgt c x9 x12.toNat) → Z en kA cx mX7_outOf (upR M 47 r47_49) 67 [(0, rf en 37), (1, vi c), (2, vi tw), (3, vi dy), (4, vi wh), (5, vl x5), (7, vl x7), (9, vi x9), (10, vl x10), (12, vi x12)] [] := by
                  intro fu
                  induction fu with
                  | zero => intro x10 x12 uhf; exact absurd uhf (Nat.not_lt_zero _)
                  | succ fu uih67 =>
                    intro x10 x12 uf67 uI67
                    obtain ⟨uq7, uq8, uq9⟩ := uI67
                    refine z_iload 9 dX7_outOf_67 rfl ?_
                    refine z_aload_n 0 dX7_outOf_69 rfl ?_
                    refine z_getI (r := O) 7 rfl dX7_outOf_70 fX7_91_6 i37_7 ka37 (wO) ?_
                    refine z_icmp_ge (tgt := 107) dX7_outOf_73 rfl (by omega) (fun uc73 => ?_) (fun uc73 => ?_)
                    ·
                      refine z_lload 5 dX7_outOf_107 rfl ?_
                      refine z_lload 8 dX7_outOf_109 rfl ?_
                      refine z_ladd dX7_outOf_111 ?_
                      refine z_lstore (fun y => [(0, rf en 37), (1, vi c), (2, vi tw), (3, vi dy), (4, vi wh), (5, vl y), (7, vl x7), (9, vi x9), (10, vl x10), (12, vi x12)]) [1, 2, 3, 4, 5, 0, 6, 7, 8, 9] dX7_outOf_112 (by decide) (fun _ => rfl) (fun x5_112 e5_112 => ?_)
                      refine z_iinc (fun y => [(0, rf en 37), (1, vi c), (2, vi tw), (3, vi dy), (4, vi wh), (5, vl x5_112), (7, vl x7), (9, vi y), (10, vl x10), (12, vi x12)]) [1, 2, 3, 4, 5, 6, 7, 0, 8, 9] 7 dX7_outOf_114 rfl (by decide) (fun _ => rfl) (fun x9_114 e9_114 => ?_)
                      refine z_goto (tgt := 35) dX7_outOf_117 rfl ?_
                      refine z_lv [0, 1, 2, 3, 4, 5, 6, 7] [(0, rf en 37), (1, vi c), (2, vi tw), (3, vi dy), (4, vi wh), (5, vl x5_112), (7, vl x7), (9, vi x9_114)] rfl ?_
                      exact uih35 x5_112 x9_114 r47_49 (by omega) (⟨by omega, by rw [e9_114, tnS (by omega), otA, tnC (by omega), ← uq5, ← uh9]; rw [if_pos (by omega), e5_112, uq9, show x12 = O 7 by omega], fun uj ua => by rw [ur47, fwA_off hR hn.1 uj ua]; exact uq6 uj ua⟩)
                    ·
                      refine z_lload 8 dX7_outOf_76 rfl ?_
                      refine z_iload 7 dX7_outOf_78 rfl ?_
                      refine z_iload 9 dX7_outOf_80 rfl ?_
                      refine z_sI dX7_outOf_82 lX7_121 (by decide) (ct_X7_isIn en (upR M 47 r47_49) _ _ (by omega) (by omega)) rfl rfl (by exact Nat.le_of_ble_eq_true rfl) ?_
                      refine z_ifeq_b (tgt := 96) dX7_outOf_85 rfl (fun uc85 => ?_) (fun uc85 => ?_)
                      ·
                        refine z_iload_n 1 dX7_outOf_96 rfl ?_
                        refine z_i2l dX7_outOf_97 (by omega) ?_
                        refine z_lmul dX7_outOf_98 ?_
                        refine z_lstore (fun y => [(0, rf en 37), (1, vi c), (2, vi tw), (3, vi dy), (4, vi wh), (5, vl x5), (7, vl x7), (9, vi x9), (10, vl y), (12, vi x12)]) [1, 2, 3, 4, 5, 6, 7, 8, 0, 9] dX7_outOf_99 (by decide) (fun _ => rfl) (fun x10_99 e10_99 => ?_)
                        refine z_iinc (fun y => [(0, rf en 37), (1, vi c), (2, vi tw), (3, vi dy), (4, vi wh), (5, vl x5), (7, vl x7), (9, vi x9), (10, vl x10_99), (12, vi y)]) [1, 2, 3, 4, 5, 6, 7, 8, 9, 0] 9 dX7_outOf_101 rfl (by decide) (fun _ => rfl) (fun x12_101 e12_101 => ?_)
                        refine z_goto (tgt := 67) dX7_outOf_104 rfl ?_
                        exact uih67 x10_99 x12_101 (by omega) (⟨by omega, by omega, by rw [e12_101, tnS uq7, wgt, tnC uq7, ← uq9, e10_99]; rw [if_neg uc85]⟩)
                      ·
                        refine z_bipush dX7_outOf_88 rfl ?_
                        refine z_iload_n 1 dX7_outOf_90 rfl ?_
                        refine z_isub dX7_outOf_91 ?_
                        refine z_i2l dX7_outOf_92 (by omega) ?_
                        refine z_goto (tgt := 98) dX7_outOf_93 rfl ?_
                        refine z_lmul dX7_outOf_98 ?_
                        refine z_lstore (fun y => [(0, rf en 37), (1, vi c), (2, vi tw), (3, vi dy), (4, vi wh), (5, vl x5), (7, vl x7), (9, vi x9), (10, vl y), (12, vi x12)]) [1, 2, 3, 4, 5, 6, 7, 8, 0, 9] dX7_outOf_99 (by decide) (fun _ => rfl) (fun x10_99 e10_99 => ?_)
                        refine z_iinc (fun y => [(0, rf en 37), (1, vi c), (2, vi tw), (3, vi dy), (4, vi wh), (5, vl x5), (7, vl x7), (9, vi x9), (10, vl x10_99), (12, vi y)]) [1, 2, 3, 4, 5, 6, 7, 8, 9, 0] 9 dX7_outOf_101 rfl (by decide) (fun _ => rfl) (fun x12_101 e12_101 => ?_)
                        refine z_goto (tgt := 67) dX7_outOf_104 rfl ?_
                        exact uih67 x10_99 x12_101 (by omega) (⟨by omega, by omega, by rw [e12_101, tnS uq7, wgt, tnC uq7, ← uq9, e10_99]; rw [if_pos uc85]⟩)
                exact uL67 _ x10_62 x12_65 (Nat.lt_succ_self _) (⟨by omega, by omega, by rw [e10_62, e12_65]; rfl⟩)
        refine Z.eqM (upR_id (k := 47) wW) ?_
        exact uL35 _ x5_1 x9_33 W (Nat.lt_succ_self _) (⟨by omega, by rw [e5_1, e9_33]; rfl, fun uj ua => rfl⟩)
      ·
        refine z_lload 6 dX7_outOf_18 rfl ?_
        refine z_ldc2 (n := 16) dX7_outOf_20 kX7_213 rfl ?_
        refine z_lmul dX7_outOf_23 ?_
        refine z_lstore (fun y => [(0, rf en 37), (1, vi c), (2, vi tw), (3, vi dy), (4, vi wh), (5, vl x5_1), (7, vl y), (9, vi x9)]) [1, 2, 3, 4, 5, 6, 0, 7] dX7_outOf_24 (by decide) (fun _ => rfl) (fun x7_24 e7_24 => ?_)
        refine z_iinc (fun y => [(0, rf en 37), (1, vi c), (2, vi tw), (3, vi dy), (4, vi wh), (5, vl x5_1), (7, vl x7_24), (9, vi y)]) [1, 2, 3, 4, 5, 6, 7, 0] 7 dX7_outOf_26 rfl (by decide) (fun _ => rfl) (fun x9_26 e9_26 => ?_)
        refine z_goto (tgt := 9) dX7_outOf_29 rfl ?_
        exact uih9 x7_24 x9_26 (by omega) (⟨by omega, by omega, by rw [e9_26, tnS uq1, Int.pow_succ, ← uq3, e7_24]⟩)
  exact uL9 _ x7_4 x9_7 (Nat.lt_succ_self _) (⟨by omega, by omega, by rw [e7_4, e9_7]; rfl⟩)
