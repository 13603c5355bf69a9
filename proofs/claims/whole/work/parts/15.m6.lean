/-! the lives: who comes next, who takes -/
def sel (C : Int → Int) (g : Int) : Nat → Int
  | 0 => -1
  | p + 1 => if ¬ bitq g p ∧ (sel C g p = -1 ∨ C p < C (sel C g p)) then p else sel C g p
theorem sel_at (C : Int → Int) (g : Int) : ∀ m : Nat, (sel C g m = -1 ∧ ∀ p : Nat, p < m → bitq g p) ∨ (0 ≤ sel C g m ∧ sel C g m < m ∧ ¬ bitq g (sel C g m))
  | 0 => Or.inl ⟨rfl, fun p h => absurd h (Nat.not_lt_zero p)⟩
  | m + 1 => by
    have ih := sel_at C g m
    unfold sel
    split
    · rename_i h
      exact Or.inr ⟨by omega, by omega, h.1⟩
    · rename_i h
      rcases ih with ⟨a, b⟩ | ⟨a, b, c⟩
      · refine Or.inl ⟨a, fun p hp => ?_⟩
        rcases Nat.lt_or_ge p m with q | q
        · exact b p q
        · have : p = m := by omega
          subst this
          exact Decidable.byContradiction fun z => h ⟨z, Or.inl a⟩
      · exact Or.inr ⟨a, by omega, c⟩
theorem pcn_or : ∀ g : Nat, g < 256 → ∀ p : Nat, p < 8 → ¬ bitq (g : Int) (p : Int) → pcn (g ||| 2 ^ p) = pcn g + 1 ∧ g ||| 2 ^ p < 256 := by decide +kernel
theorem pcn_full : ∀ g : Nat, g < 256 → ∀ n : Nat, n < 9 → (∀ p : Nat, p < n → bitq (g : Int) (p : Int)) → n ≤ pcn g := by decide +kernel
def lvG (C : Int → Int) (n : Nat) : Nat → Int
  | 0 => 0
  | k + 1 => (((lvG C n k).toNat ||| 2 ^ (sel C (lvG C n k) n).toNat : Nat) : Int)
def lvN (C : Int → Int) (n k : Nat) : Int := sel C (lvG C n k) n
theorem lvG_at (C : Int → Int) (n : Nat) (hn : n ≤ 8) : ∀ k : Nat, k ≤ n → 0 ≤ lvG C n k ∧ lvG C n k < 256 ∧ pcn (lvG C n k).toNat = k ∧ (k < n → 0 ≤ lvN C n k ∧ lvN C n k < n ∧ ¬ bitq (lvG C n k) (lvN C n k))
  | 0, _ => by
    refine ⟨Int.le_refl 0, by show (0 : Int) < 256; decide, by show pcn (Int.toNat 0) = 0; rfl, fun h => ?_⟩
    rcases sel_at C (lvG C n 0) n with ⟨a, b⟩ | h2
    · have := b 0 h
      exact absurd this (by show ¬ bitq 0 0; decide)
    · exact h2
  | k + 1, hk => by
    obtain ⟨a1, a2, a3, a4⟩ := lvG_at C n hn k (by omega)
    obtain ⟨b1, b2, b3⟩ := a4 (by omega)
    have e1 : (((lvG C n k).toNat : Nat) : Int) = lvG C n k := by omega
    have e2 : (((lvN C n k).toNat : Nat) : Int) = lvN C n k := by omega
    have h := pcn_or (lvG C n k).toNat (by omega) (lvN C n k).toNat (by omega) (by rw [e1, e2]; exact b3)
    have hg : lvG C n (k + 1) = (((lvG C n k).toNat ||| 2 ^ (lvN C n k).toNat : Nat) : Int) := rfl
    have h1 : 0 ≤ lvG C n (k + 1) ∧ lvG C n (k + 1) < 256 ∧ pcn (lvG C n (k + 1)).toNat = k + 1 := by rw [hg, Int.toNat_natCast]; omega
    refine ⟨h1.1, h1.2.1, h1.2.2, fun hlt => ?_⟩
    rcases sel_at C (lvG C n (k + 1)) n with ⟨a, b⟩ | h2
    · have h9 := pcn_full (lvG C n (k + 1)).toNat (by omega) n (by omega) (fun p hp => by rw [show (((lvG C n (k + 1)).toNat : Nat) : Int) = lvG C n (k + 1) by omega]; exact b p hp)
      omega
    · exact h2
def lvR (C E P R0 : Int → Int) (n : Nat) : Nat → Int → Int
  | 0 => R0
  | k + 1 => if E (lvN C n k) = 1 then tkR P (lvR C E P R0 n k) (lvN C n k) else lvR C E P R0 n k
def riO (T W P : Int → Int) (np : Int) : Int → Int := lvR (coO T W P np) (enO T W P np) P (fun p => P (5 * p + 3)) np.toNat np.toNat
theorem sel_cong {C D : Int → Int} {g : Int} : ∀ m : Nat, (∀ q : Int, 0 ≤ q → q < m → C q = D q) → sel C g m = sel D g m
  | 0, _ => rfl
  | m + 1, h => by
    have ih := sel_cong (C := C) (D := D) (g := g) m (fun q a b => h q a (by omega))
    unfold sel
    rw [ih, h m (by omega) (by omega)]
    rcases sel_at D g m with ⟨a, -⟩ | ⟨a, b, -⟩
    · rw [a]; simp
    · rw [h _ a (by omega)]
def wnO (T W P : Int → Int) (np : Int) : Nat → Int
  | 0 => 0
  | n + 1 => wnO T W P np n + (if enO T W P np n = 1 then 1 else 0)
theorem wnO_rg (T W P : Int → Int) (np : Int) : ∀ n : Nat, 0 ≤ wnO T W P np n ∧ wnO T W P np n ≤ n
  | 0 => by simp [wnO]
  | n + 1 => by
    have := wnO_rg T W P np n
    unfold wnO; split <;> omega
def wns (T W P : Int → Int) (np : Int) : Int := wnO T W P np np.toNat
def lsO (T W P : Int → Int) (np : Int) : Nat → Int
  | 0 => -1
  | n + 1 => if enO T W P np n = 1 ∧ lsO T W P np n < coO T W P np n then coO T W P np n else lsO T W P np n
def rdn (T W P : Int → Int) (np : Int) : Nat → Int
  | 0 => 0
  | n + 1 => rdn T W P np n + (if coO T W P np n = 9999 then 0 else 1)
theorem tkR_cong {P G H : Int → Int} {n p : Int} (h : ∀ q, 0 ≤ q → q < n → G q = H q) (hp : 0 ≤ p ∧ p < n) (hf : 0 ≤ P (5 * p + 4) ∧ P (5 * p + 4) < n) : ∀ q, 0 ≤ q → q < n → tkR P G p q = tkR P H p q := by
  intro q h1 h2
  unfold tkR
  have a : up G (P (5 * p + 4)) 0 p = up H (P (5 * p + 4)) 0 p := by
    by_cases z : p = P (5 * p + 4)
    · rw [← z, up_s, up_s]
    · rw [up_n _ _ z, up_n _ _ z]; exact h p hp.1 hp.2
  rw [a, h _ hf.1 hf.2]
  by_cases z : q = p
  · rw [z, up_s, up_s]
  · rw [up_n _ _ z, up_n _ _ z]
    by_cases y : q = P (5 * p + 4)
    · rw [← y, up_s, up_s]
    · rw [up_n _ _ y, up_n _ _ y]; exact h q h1 h2
set_option maxRecDepth 100000 in
theorem ct_X7_lives (en : zE) (M : zW) (O : Int → Int) (P : Int → Int) (T : Int → Int) (W : Int → Int) (C0 : Int → Int) (E0 : Int → Int) (G0 : Int → Int) (wO : M 37 = O) (wP : M 45 = P) (wT : M 46 = T) (wW : M 47 = W) (wC0 : M 48 = C0) (wE0 : M 49 = E0) (wG0 : M 50 = G0) (hT : tOK T) (hW : wOK W) (hP : pOK P (O 9)) (hn : 0 ≤ O 9 ∧ O 9 ≤ 8) : Ct en kA yX7_lives mX7_lives [rf en 37] M (pN (fun N => ∃ r48 r49 r50 : Int → Int, (∀ q, 0 ≤ q → q < O 9 → r48 q = coO T W P (O 9) q) ∧ (∀ q, 0 ≤ q → q < O 9 → r49 q = enO T W P (O 9) q) ∧ (∀ q, 0 ≤ q → q < O 9 → r50 q = riO T W P (O 9) q) ∧ upR (upR (upR M 48 r48) 49 r49) 50 r50 = N)) := by
  refine Ct.of (by decide +kernel) rfl [(0, rf en 37)] rfl (Nat.le_of_ble_eq_true rfl) (fun cx C => ?_)
  have ulg := lvG_at (coO T W P (O 9)) (O 9).toNat (by omega)
  refine z_iconst dX7_lives_0 ?_
  refine z_istore_n (fun y => [(0, rf en 37), (1, vi y)]) [1, 0] dX7_lives_1 (by decide) (fun _ => rfl) (fun x1_1 e1_1 => ?_)
  have uL2 : ∀ (fu : Nat) (x1 : Int) (r48 : Int → Int) (r49 : Int → Int) (r50 : Int → Int), (O 9 - x1).toNat < fu → (0 ≤ x1 ∧ x1 ≤ O 9 ∧ (∀ q, 0 ≤ q → q < x1 → r48 q = coO T W P (O 9) q) ∧ (∀ q, 0 ≤ q → q < x1 → r49 q = enO T W P (O 9) q) ∧ (∀ q, 0 ≤ q → q < x1 → r50 q = P (5 * q + 3))) → Z en kA cx mX7_lives (upR (upR (upR M 48 r48) 49 r49) 50 r50) 2 [(0, rf en 37), (1, vi x1)] [] := by
    intro fu
    induction fu with
    | zero => intro x1 r48 r49 r50 uhf; exact absurd uhf (Nat.not_lt_zero _)
    | succ fu uih2 =>
      intro x1 r48 r49 r50 uf2 uI2
      obtain ⟨uq1, uq2, uq3, uq4, uq5⟩ := uI2
      refine z_iload_n 1 dX7_lives_2 rfl ?_
      refine z_aload_n 0 dX7_lives_3 rfl ?_
      refine z_getI (r := O) 9 rfl dX7_lives_4 fX7_97_6 i37_9 ka37 (wO) ?_
      refine z_icmp_ge (tgt := 54) dX7_lives_7 rfl (by omega) (fun uc7 => ?_) (fun uc7 => ?_)
      ·
        refine z_iconst dX7_lives_54 ?_
        refine z_istore_n (fun y => [(0, rf en 37), (1, vi y)]) [1, 0] dX7_lives_55 (by decide) (fun _ => rfl) (fun x1_55 e1_55 => ?_)
        refine z_iconst dX7_lives_56 ?_
        refine z_istore_n (fun y => [(0, rf en 37), (1, vi x1_55), (2, vi y)]) [1, 2, 0] dX7_lives_57 (by decide) (fun _ => rfl) (fun x2_57 e2_57 => ?_)
        have uL58 : ∀ (fu : Nat) (x1 : Int) (x2 : Int) (r50 : Int → Int), (O 9 - x2).toNat < fu → (0 ≤ x2 ∧ x2 ≤ O 9 ∧ x1 = lvG (coO T W P (O 9)) (O 9).toNat x2.toNat ∧ (∀ q, 0 ≤ q → q < O 9 → r50 q = lvR (coO T W P (O 9)) (enO T W P (O 9)) P (fun p => P (5 * p + 3)) (O 9).toNat x2.toNat q)) → Z en kA cx mX7_lives (upR (upR (upR M 48 r48) 49 r49) 50 r50) 58 [(0, rf en 37), (1, vi x1), (2, vi x2)] [] := by
          intro fu
          induction fu with
          | zero => intro x1 x2 r50 uhf; exact absurd uhf (Nat.not_lt_zero _)
          | succ fu uih58 =>
            intro x1 x2 r50 uf58 uI58
            obtain ⟨uq6, uq7, uq8, uq9⟩ := uI58
            obtain ⟨ug1, ug2, ug3, ug4⟩ := ulg x2.toNat (by omega)
            rw [← uq8] at ug1 ug2 ug3
            refine z_iload_n 2 dX7_lives_58 rfl ?_
            refine z_aload_n 0 dX7_lives_59 rfl ?_
            refine z_getI (r := O) 9 rfl dX7_lives_60 fX7_97_6 i37_9 ka37 (wO) ?_
            refine z_icmp_ge (tgt := 150) dX7_lives_63 rfl (by omega) (fun uc63 => ?_) (fun uc63 => ?_)
            ·
              exact z_vret C dX7_lives_150 rfl ⟨rfl, ⟨r48, r49, r50, fun uj ua ub => uq3 uj ua (by omega), fun uj ua ub => uq4 uj ua (by omega), fun uj ua ub => by rw [uq9 uj ua ub, show x2 = O 9 by omega]; rfl, rfl⟩⟩
            ·
              refine z_iconst dX7_lives_66 ?_
              refine z_istore_n (fun y => [(0, rf en 37), (1, vi x1), (2, vi x2), (3, vi y)]) [1, 2, 3, 0] dX7_lives_67 (by decide) (fun _ => rfl) (fun x3_67 e3_67 => ?_)
              refine z_iconst dX7_lives_68 ?_
              refine z_istore (fun y => [(0, rf en 37), (1, vi x1), (2, vi x2), (3, vi x3_67), (4, vi y)]) [1, 2, 3, 4, 0] dX7_lives_69 (by decide) (fun _ => rfl) (fun x4_69 e4_69 => ?_)
              have uL71 : ∀ (fu : Nat) (x3 : Int) (x4 : Int), (O 9 - x4).toNat < fu → (0 ≤ x4 ∧ x4 ≤ O 9 ∧ x3 = sel (coO T W P (O 9)) x1 x4.toNat) → Z en kA cx mX7_lives (upR (upR (upR M 48 r48) 49 r49) 50 r50) 71 [(0, rf en 37), (1, vi x1), (2, vi x2), (3, vi x3), (4, vi x4)] [] := by
                intro fu
                induction fu with
                | zero => intro x3 x4 uhf; exact absurd uhf (Nat.not_lt_zero _)
                | succ fu uih71 =>
                  intro x3 x4 uf71 uI71
                  obtain ⟨uq10, uq11, uq12⟩ := uI71
                  have uq13 := sel_at (coO T W P (O 9)) x1 x4.toNat
                  rw [← uq12] at uq13
                  have uq14 : x3 = -1 ∨ (0 ≤ x3 ∧ x3 < x4) := uq13.elim (fun uz => Or.inl uz.1) (fun uz => Or.inr ⟨uz.1, by omega⟩)
                  refine z_iload 4 dX7_lives_71 rfl ?_
                  refine z_aload_n 0 dX7_lives_73 rfl ?_
                  refine z_getI (r := O) 9 rfl dX7_lives_74 fX7_97_6 i37_9 ka37 (wO) ?_
                  refine z_icmp_ge (tgt := 123) dX7_lives_77 rfl (by omega) (fun uc77 => ?_) (fun uc77 => ?_)
                  ·
                    have un0 : x4 = O 9 := by omega
                    have un1 : x3 = lvN (coO T W P (O 9)) (O 9).toNat x2.toNat := by rw [uq12, un0, uq8]; rfl
                    have un2 : x3 = sel (coO T W P (O 9)) x1 (O 9).toNat := by rw [uq12, un0]
                    have un3 := ug4 (by omega)
                    rw [← un1] at un3
                    have un5 := p2_rg x3.toNat (by omega)
                    refine z_iload_n 1 dX7_lives_123 rfl ?_
                    refine z_iconst dX7_lives_124 ?_
                    refine z_iload_n 3 dX7_lives_125 rfl ?_
                    refine z_ishl dX7_lives_126 (by omega) ?_
                    refine z_ior dX7_lives_127 (by omega) ?_
                    refine z_istore_n (fun y => [(0, rf en 37), (1, vi y), (2, vi x2), (3, vi x3), (4, vi x4)]) [1, 0, 2, 3, 4] dX7_lives_128 (by decide) (fun _ => rfl) (fun x1_128 e1_128 => ?_)
                    have un4 := uq4 x3 (by omega) (by omega)
                    have un10 := enC_rg T W P (coO T W P (O 9) x3) x3
                    have un11 : enO T W P (O 9) x3 = enC T W P (coO T W P (O 9) x3) x3 := rfl
                    refine z_aload_n 0 dX7_lives_129 rfl ?_
                    refine z_getR dX7_lives_130 fX7_43_6 i37_14 ka37 ?_
                    refine z_iload_n 3 dX7_lives_133 rfl ?_
                    refine z_iald (r := r49) dX7_lives_134 is49 ka49 (rfl) (by omega) ?_
                    refine z_iconst dX7_lives_135 ?_
                    refine z_icmp_ne (tgt := 144) dX7_lives_136 rfl (by omega) (fun uc136 => ?_) (fun uc136 => ?_)
                    ·
                      refine z_iinc (fun y => [(0, rf en 37), (1, vi x1_128), (2, vi y), (3, vi x3), (4, vi x4)]) [1, 2, 0, 3, 4] 2 dX7_lives_144 rfl (by decide) (fun _ => rfl) (fun x2_144 e2_144 => ?_)
                      refine z_goto (tgt := 58) dX7_lives_147 rfl ?_
                      refine z_lv [0, 1, 2] [(0, rf en 37), (1, vi x1_128), (2, vi x2_144)] rfl ?_
                      have uq20 : x1_128 = lvG (coO T W P (O 9)) (O 9).toNat x2_144.toNat := by rw [e1_128, e2_144, tnS uq6, lvG, ← uq8, ← un2, Int.one_mul, p2_nat]
                      exact uih58 x1_128 x2_144 r50 (by omega) (⟨by omega, by omega, uq20, fun uj ua ub => by rw [e2_144, tnS uq6, lvR, ← un1]; rw [if_neg (by rw [← un4]; exact uc136)]; exact uq9 uj ua ub⟩)
                    ·
                      have un6 := coO_rg hT hW hP (p := x3) (by omega)
                      have un7 := enC_rg T W P (coO T W P (O 9) x3) x3
                      have un9 : enO T W P (O 9) x3 = 1 := by omega
                      have un8 : enC T W P (coO T W P (O 9) x3) x3 = 1 := un9
                      refine z_aload_n 0 dX7_lives_139 rfl ?_
                      refine z_iload_n 3 dX7_lives_140 rfl ?_
                      refine z_vV dX7_lives_141 lX7_167 (by decide) ka37 io37 rfl (ct_X7_takes en (upR (upR (upR M 48 r48) 49 r49) 50 r50) P r50 wP rfl _ (by omega) (by omega)) rfl rfl (by exact Nat.le_of_ble_eq_true rfl) ?_
                      rw [uu1 (a := 50)]
                      refine z_iinc (fun y => [(0, rf en 37), (1, vi x1_128), (2, vi y), (3, vi x3), (4, vi x4)]) [1, 2, 0, 3, 4] 2 dX7_lives_144 rfl (by decide) (fun _ => rfl) (fun x2_144 e2_144 => ?_)
                      refine z_goto (tgt := 58) dX7_lives_147 rfl ?_
                      refine z_lv [0, 1, 2] [(0, rf en 37), (1, vi x1_128), (2, vi x2_144)] rfl ?_
                      have uq20 : x1_128 = lvG (coO T W P (O 9)) (O 9).toNat x2_144.toNat := by rw [e1_128, e2_144, tnS uq6, lvG, ← uq8, ← un2, Int.one_mul, p2_nat]
                      exact uih58 x1_128 x2_144 (tkR P r50 x3) (by omega) (⟨by omega, by omega, uq20, fun uj ua ub => by rw [e2_144, tnS uq6, lvR, ← un1]; rw [if_pos (by rw [← un4]; exact uc136)]; exact tkR_cong (fun uk uka ukb => uq9 uk uka ukb) (by omega) (by omega) uj ua ub⟩)
                  ·
                    refine z_iload_n 1 dX7_lives_80 rfl ?_
                    refine z_iload 4 dX7_lives_81 rfl ?_
                    refine z_sI dX7_lives_83 lX7_121 (by decide) (ct_X7_isIn en (upR (upR (upR M 48 r48) 49 r49) 50 r50) _ _ (by omega) (by omega)) rfl rfl (by exact Nat.le_of_ble_eq_true rfl) ?_
                    refine z_ifne_b (tgt := 115) dX7_lives_86 rfl (fun uc86 => ?_) (fun uc86 => ?_)
                    ·
                      refine z_iload_n 3 dX7_lives_115 rfl ?_
                      refine z_istore_n (fun y => [(0, rf en 37), (1, vi x1), (2, vi x2), (3, vi y), (4, vi x4)]) [1, 2, 3, 0, 4] dX7_lives_116 (by decide) (fun _ => rfl) (fun x3_116 e3_116 => ?_)
                      refine z_iinc (fun y => [(0, rf en 37), (1, vi x1), (2, vi x2), (3, vi x3_116), (4, vi y)]) [1, 2, 3, 4, 0] 4 dX7_lives_117 rfl (by decide) (fun _ => rfl) (fun x4_117 e4_117 => ?_)
                      refine z_goto (tgt := 71) dX7_lives_120 rfl ?_
                      exact uih71 x3_116 x4_117 (by omega) (⟨by omega, by omega, by rw [e4_117, tnS uq10, sel, tnC uq10, ← uq12, e3_116]; exact (if_neg (fun uz => uz.1 uc86)).symm⟩)
                    ·
                      refine z_iload_n 3 dX7_lives_89 rfl ?_
                      refine z_iconst dX7_lives_90 ?_
                      refine z_icmp_eq (tgt := 110) dX7_lives_91 rfl (by omega) (fun uc91 => ?_) (fun uc91 => ?_)
                      ·
                        refine z_iload 4 dX7_lives_110 rfl ?_
                        refine z_goto (tgt := 116) dX7_lives_112 rfl ?_
                        refine z_istore_n (fun y => [(0, rf en 37), (1, vi x1), (2, vi x2), (3, vi y), (4, vi x4)]) [1, 2, 3, 0, 4] dX7_lives_116 (by decide) (fun _ => rfl) (fun x3_116 e3_116 => ?_)
                        refine z_iinc (fun y => [(0, rf en 37), (1, vi x1), (2, vi x2), (3, vi x3_116), (4, vi y)]) [1, 2, 3, 4, 0] 4 dX7_lives_117 rfl (by decide) (fun _ => rfl) (fun x4_117 e4_117 => ?_)
                        refine z_goto (tgt := 71) dX7_lives_120 rfl ?_
                        exact uih71 x3_116 x4_117 (by omega) (⟨by omega, by omega, by rw [e4_117, tnS uq10, sel, tnC uq10, ← uq12, e3_116]; exact (if_pos ⟨uc86, Or.inl uc91⟩).symm⟩)
                      ·
                        have ud1 := uq3 x4 (by omega) (by omega)
                        have ud2 := uq3 x3 (by omega) (by omega)
                        have ud3 := coO_rg hT hW hP (p := x4) (by omega)
                        have ud4 := coO_rg hT hW hP (p := x3) (by omega)
                        refine z_aload_n 0 dX7_lives_94 rfl ?_
                        refine z_getR dX7_lives_95 fX7_40_6 i37_13 ka37 ?_
                        refine z_iload 4 dX7_lives_98 rfl ?_
                        refine z_iald (r := r48) dX7_lives_100 is48 ka48 (rfl) (by omega) ?_
                        refine z_aload_n 0 dX7_lives_101 rfl ?_
                        refine z_getR dX7_lives_102 fX7_40_6 i37_13 ka37 ?_
                        refine z_iload_n 3 dX7_lives_105 rfl ?_
                        refine z_iald (r := r48) dX7_lives_106 is48 ka48 (rfl) (by omega) ?_
                        refine z_icmp_ge (tgt := 115) dX7_lives_107 rfl (by omega) (fun uc107 => ?_) (fun uc107 => ?_)
                        ·
                          refine z_iload_n 3 dX7_lives_115 rfl ?_
                          refine z_istore_n (fun y => [(0, rf en 37), (1, vi x1), (2, vi x2), (3, vi y), (4, vi x4)]) [1, 2, 3, 0, 4] dX7_lives_116 (by decide) (fun _ => rfl) (fun x3_116 e3_116 => ?_)
                          refine z_iinc (fun y => [(0, rf en 37), (1, vi x1), (2, vi x2), (3, vi x3_116), (4, vi y)]) [1, 2, 3, 4, 0] 4 dX7_lives_117 rfl (by decide) (fun _ => rfl) (fun x4_117 e4_117 => ?_)
                          refine z_goto (tgt := 71) dX7_lives_120 rfl ?_
                          exact uih71 x3_116 x4_117 (by omega) (⟨by omega, by omega, by rw [e4_117, tnS uq10, sel, tnC uq10, ← uq12, e3_116]; exact (if_neg (fun uz => uz.2.elim (fun uy => by omega) (fun uy => by omega))).symm⟩)
                        ·
                          refine z_iload 4 dX7_lives_110 rfl ?_
                          refine z_goto (tgt := 116) dX7_lives_112 rfl ?_
                          refine z_istore_n (fun y => [(0, rf en 37), (1, vi x1), (2, vi x2), (3, vi y), (4, vi x4)]) [1, 2, 3, 0, 4] dX7_lives_116 (by decide) (fun _ => rfl) (fun x3_116 e3_116 => ?_)
                          refine z_iinc (fun y => [(0, rf en 37), (1, vi x1), (2, vi x2), (3, vi x3_116), (4, vi y)]) [1, 2, 3, 4, 0] 4 dX7_lives_117 rfl (by decide) (fun _ => rfl) (fun x4_117 e4_117 => ?_)
                          refine z_goto (tgt := 71) dX7_lives_120 rfl ?_
                          exact uih71 x3_116 x4_117 (by omega) (⟨by omega, by omega, by rw [e4_117, tnS uq10, sel, tnC uq10, ← uq12, e3_116]; exact (if_pos ⟨uc86, Or.inr (by omega)⟩).symm⟩)
              exact uL71 _ x3_67 x4_69 (Nat.lt_succ_self _) (⟨by omega, by omega, by rw [e3_67, e4_69]; rfl⟩)
        exact uL58 _ x1_55 x2_57 r50 (Nat.lt_succ_self _) (⟨by omega, by omega, by rw [e1_55, e2_57]; rfl, fun uj ua ub => by rw [e2_57]; exact uq5 uj ua (by omega)⟩)
      ·
        refine z_aload_n 0 dX7_lives_10 rfl ?_
        refine z_getR dX7_lives_11 fX7_40_6 i37_13 ka37 ?_
        refine z_iload_n 1 dX7_lives_14 rfl ?_
        refine z_aload_n 0 dX7_lives_15 rfl ?_
        refine z_iload_n 1 dX7_lives_16 rfl ?_
        refine z_vI dX7_lives_17 lX7_161 (by decide) ka37 io37 rfl (ct_X7_comesOn en (upR (upR (upR M 48 r48) 49 r49) 50 r50) O P T W wO wP wT wW _ (by assumption) (by assumption) (by assumption) (by omega) (by omega)) rfl rfl (by exact Nat.le_of_ble_eq_true rfl) ?_
        refine z_iast' (r := r48) (fun r => (upR (upR (upR M 48 r) 49 r49) 50 r50)) dX7_lives_20 is48 ka48 (rfl) (by omega) (fun _ => uu3 (by decide) (by decide)) (fun r48_20 f48_20 => ?_)
        refine z_aload_n 0 dX7_lives_21 rfl ?_
        refine z_getR dX7_lives_22 fX7_43_6 i37_14 ka37 ?_
        refine z_iload_n 1 dX7_lives_25 rfl ?_
        refine z_aload_n 0 dX7_lives_26 rfl ?_
        refine z_iload_n 1 dX7_lives_27 rfl ?_
        have ue1 : r48_20 x1 = coO T W P (O 9) x1 := by rw [f48_20, up_s]
        refine z_vI dX7_lives_28 lX7_164 (by decide) ka37 io37 rfl (ct_X7_endOf en (upR (upR (upR M 48 r48_20) 49 r49) 50 r50) O P T W r48_20 wO wP wT wW rfl _ (by assumption) (by assumption) (by assumption) (by omega) (by omega) (by rw [ue1]; have := coO_rg hT hW hP (p := x1) (by omega); omega)) rfl rfl (by exact Nat.le_of_ble_eq_true rfl) ?_
        refine z_iast' (r := r49) (fun r => (upR (upR (upR M 48 r48_20) 49 r) 50 r50)) dX7_lives_31 is49 ka49 (rfl) (by omega) (fun _ => uu2 (by decide)) (fun r49_31 f49_31 => ?_)
        refine z_aload_n 0 dX7_lives_32 rfl ?_
        refine z_getR dX7_lives_33 fX7_46_6 i37_15 ka37 ?_
        refine z_iload_n 1 dX7_lives_36 rfl ?_
        refine z_aload_n 0 dX7_lives_37 rfl ?_
        refine z_getR dX7_lives_38 fX7_31_6 i37_10 ka37 ?_
        refine z_iconst dX7_lives_41 ?_
        refine z_iload_n 1 dX7_lives_42 rfl ?_
        refine z_imul dX7_lives_43 ?_
        refine z_iconst dX7_lives_44 ?_
        refine z_iadd dX7_lives_45 ?_
        refine z_iald (r := P) dX7_lives_46 is45 ka45 (wP) (by omega) ?_
        refine z_iast' (r := r50) (fun r => (upR (upR (upR M 48 r48_20) 49 r49_31) 50 r)) dX7_lives_47 is50 ka50 (rfl) (by omega) (fun _ => uu1) (fun r50_47 f50_47 => ?_)
        refine z_iinc (fun y => [(0, rf en 37), (1, vi y)]) [1, 0] 1 dX7_lives_48 rfl (by decide) (fun _ => rfl) (fun x1_48 e1_48 => ?_)
        refine z_goto (tgt := 2) dX7_lives_51 rfl ?_
        exact uih2 x1_48 r48_20 r49_31 r50_47 (by omega) (⟨by omega, by omega, fun uj ua ub => if uz : uj = x1 then (by rw [f48_20, uz, up_s]) else (by rw [f48_20, up_n _ _ uz]; exact uq3 uj ua (by omega)), fun uj ua ub => if uz : uj = x1 then (by rw [f49_31, uz, up_s, ue1]; rfl) else (by rw [f49_31, up_n _ _ uz]; exact uq4 uj ua (by omega)), fun uj ua ub => if uz : uj = x1 then (by rw [f50_47, uz, up_s]) else (by rw [f50_47, up_n _ _ uz]; exact uq5 uj ua (by omega))⟩)
  refine Z.eqM (upR_id (k := 48) wC0) ?_
  refine Z.eqM (upR_id (k := 49) wE0) ?_
  refine Z.eqM (upR_id (k := 50) wG0) ?_
  exact uL2 _ x1_1 C0 E0 G0 (Nat.lt_succ_self _) (⟨by omega, by omega, fun uj ua ub => absurd ub (by omega), fun uj ua ub => absurd ub (by omega), fun uj ua ub => absurd ub (by omega)⟩)
