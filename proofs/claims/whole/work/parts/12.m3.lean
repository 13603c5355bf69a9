/-! reading: what a text says, byte by byte -/
def rV (B : Int → Int) (i : Int) : Int := if i % 4 = 3 then wthn (B i) 59 59 else if i % 4 = 2 then wthn (B i) 49 57 + 1 else wthn (B i) 97 104
def rBad (B : Int → Int) (i : Int) : Prop := rV B i < 0 ∨ (i % 4 = 1 ∧ rV B i = rV B (i - 1))
def rdF (B : Int → Int) (n x : Int) : Prop := (0 ≤ x ∧ x < n ∧ rBad B x ∧ ∀ j, 0 ≤ j → j < x → ¬ rBad B j) ∨ (x = n ∧ 0 < n ∧ n % 4 ≠ 3 ∧ ∀ j, 0 ≤ j → j < n → ¬ rBad B j) ∨ (x = -1 ∧ (n = 0 ∨ n % 4 = 3) ∧ ∀ j, 0 ≤ j → j < n → ¬ rBad B j)
def rCnt (n x : Int) : Int := if x = -1 then (n + 1) / 4 else 0
def tel (k b : Int) : Int := if k = 0 then wthn b 97 104 else if k = 2 then (if b = 111 then 0 else if b = 98 then 1 else if b = 99 then 2 else -9) else if k = 4 then (if b = 46 then -1 else wthn b 97 104) else if k = 5 then wthn b 59 59 else wthn b 48 57
def pVl (B : Int → Int) (i : Int) : Int := tel (i % 6) (B i)
def pBad (B : Int → Int) (i : Int) : Prop := pVl B i = -9
def pdF (B : Int → Int) (n x : Int) : Prop := (0 ≤ x ∧ x < n ∧ pBad B x ∧ ∀ j, 0 ≤ j → j < x → ¬ pBad B j) ∨ (x = n ∧ 0 < n ∧ n % 6 ≠ 5 ∧ ∀ j, 0 ≤ j → j < n → ¬ pBad B j) ∨ (x = -1 ∧ (n = 0 ∨ n % 6 = 5) ∧ ∀ j, 0 ≤ j → j < n → ¬ pBad B j)
def pCnt (n x : Int) : Int := if x = -1 then (n + 1) / 6 else 0
theorem wthn_rg (b f l : Int) (h : 0 ≤ l - f) : -9 ≤ wthn b f l ∧ wthn b f l ≤ l - f := by unfold wthn; split <;> omega
theorem rV_rg (B : Int → Int) (i : Int) : -9 ≤ rV B i ∧ rV B i ≤ 9 := by
  unfold rV
  have h1 := wthn_rg (B i) 59 59 (by omega)
  have h2 := wthn_rg (B i) 49 57 (by omega)
  have h3 := wthn_rg (B i) 97 104 (by omega)
  split
  · omega
  · split <;> omega
theorem tel_rg (k b : Int) : -9 ≤ tel k b ∧ tel k b ≤ 9 := by
  unfold tel
  have h1 := wthn_rg b 59 59 (by omega)
  have h2 := wthn_rg b 48 57 (by omega)
  have h3 := wthn_rg b 97 104 (by omega)
  repeat' split
  all_goals omega
set_option maxRecDepth 100000 in
theorem ct_X7_tellsOf (en : zE) (M : zW) (k : Int) (b : Int) (h0 : -2147483648 ≤ k ∧ k < 2147483648 ∧ -2147483648 ≤ b ∧ b < 2147483648) : Ct en kA yX7_tellsOf mX7_tellsOf [vi k, vi b] M (pI (tel k b) M) := by
  refine Ct.of (by decide +kernel) rfl [(0, vi k), (1, vi b)] rfl (Nat.le_of_ble_eq_true rfl) (fun cx C => ?_)
  refine z_iload_n 0 dX7_tellsOf_0 rfl ?_
  refine z_top (fun usw1 eusw1 => ?_)
  by_cases uk1_0 : usw1 = 0
  ·
    refine z_tsw (tgt := 40) (0) uk1_0 dX7_tellsOf_1 (by decide) rfl rfl ?_
    refine z_iload_n 1 dX7_tellsOf_40 rfl ?_
    refine z_bipush dX7_tellsOf_41 rfl ?_
    refine z_bipush dX7_tellsOf_43 rfl ?_
    refine z_sI dX7_tellsOf_45 lX7_94 (by decide) (ct_X7_within en M _ (97) (104) (by omega)) rfl rfl (by exact Nat.le_of_ble_eq_true rfl) ?_
    exact z_iret C dX7_tellsOf_48 rfl ⟨congrArg (fun z => some (vi z)) (by unfold tel; subst eusw1; simp only [*, if_true, if_false]; try simp), rfl⟩
  by_cases uk1_1 : usw1 = 1
  ·
    refine z_tsw (tgt := 110) (1) uk1_1 dX7_tellsOf_1 (by decide) rfl rfl ?_
    refine z_iload_n 1 dX7_tellsOf_110 rfl ?_
    refine z_bipush dX7_tellsOf_111 rfl ?_
    refine z_bipush dX7_tellsOf_113 rfl ?_
    refine z_sI dX7_tellsOf_115 lX7_94 (by decide) (ct_X7_within en M _ (48) (57) (by omega)) rfl rfl (by exact Nat.le_of_ble_eq_true rfl) ?_
    exact z_iret C dX7_tellsOf_118 rfl ⟨congrArg (fun z => some (vi z)) (by unfold tel; subst eusw1; simp only [*, if_true, if_false]; try simp), rfl⟩
  by_cases uk1_2 : usw1 = 2
  ·
    refine z_tsw (tgt := 49) (2) uk1_2 dX7_tellsOf_1 (by decide) rfl rfl ?_
    refine z_iload_n 1 dX7_tellsOf_49 rfl ?_
    refine z_bipush dX7_tellsOf_50 rfl ?_
    refine z_icmp_ne (tgt := 59) dX7_tellsOf_52 rfl (by omega) (fun uc52 => ?_) (fun uc52 => ?_)
    ·
      refine z_iload_n 1 dX7_tellsOf_59 rfl ?_
      refine z_bipush dX7_tellsOf_60 rfl ?_
      refine z_icmp_ne (tgt := 69) dX7_tellsOf_62 rfl (by omega) (fun uc62 => ?_) (fun uc62 => ?_)
      ·
        refine z_iload_n 1 dX7_tellsOf_69 rfl ?_
        refine z_bipush dX7_tellsOf_70 rfl ?_
        refine z_icmp_ne (tgt := 79) dX7_tellsOf_72 rfl (by omega) (fun uc72 => ?_) (fun uc72 => ?_)
        ·
          refine z_bipush dX7_tellsOf_79 rfl ?_
          exact z_iret C dX7_tellsOf_81 rfl ⟨congrArg (fun z => some (vi z)) (by unfold tel; subst eusw1; simp only [*, if_true, if_false]; try simp), rfl⟩
        ·
          refine z_iconst dX7_tellsOf_75 ?_
          refine z_goto (tgt := 81) dX7_tellsOf_76 rfl ?_
          exact z_iret C dX7_tellsOf_81 rfl ⟨congrArg (fun z => some (vi z)) (by unfold tel; subst eusw1; simp only [*, if_true, if_false]; try simp), rfl⟩
      ·
        refine z_iconst dX7_tellsOf_65 ?_
        refine z_goto (tgt := 81) dX7_tellsOf_66 rfl ?_
        exact z_iret C dX7_tellsOf_81 rfl ⟨congrArg (fun z => some (vi z)) (by unfold tel; subst eusw1; simp only [*, if_true, if_false]; try simp), rfl⟩
    ·
      refine z_iconst dX7_tellsOf_55 ?_
      refine z_goto (tgt := 81) dX7_tellsOf_56 rfl ?_
      exact z_iret C dX7_tellsOf_81 rfl ⟨congrArg (fun z => some (vi z)) (by unfold tel; subst eusw1; simp only [*, if_true, if_false]; try simp), rfl⟩
  by_cases uk1_3 : usw1 = 3
  ·
    refine z_tsw (tgt := 110) (3) uk1_3 dX7_tellsOf_1 (by decide) rfl rfl ?_
    refine z_iload_n 1 dX7_tellsOf_110 rfl ?_
    refine z_bipush dX7_tellsOf_111 rfl ?_
    refine z_bipush dX7_tellsOf_113 rfl ?_
    refine z_sI dX7_tellsOf_115 lX7_94 (by decide) (ct_X7_within en M _ (48) (57) (by omega)) rfl rfl (by exact Nat.le_of_ble_eq_true rfl) ?_
    exact z_iret C dX7_tellsOf_118 rfl ⟨congrArg (fun z => some (vi z)) (by unfold tel; subst eusw1; simp only [*, if_true, if_false]; try simp), rfl⟩
  by_cases uk1_4 : usw1 = 4
  ·
    refine z_tsw (tgt := 82) (4) uk1_4 dX7_tellsOf_1 (by decide) rfl rfl ?_
    refine z_iload_n 1 dX7_tellsOf_82 rfl ?_
    refine z_bipush dX7_tellsOf_83 rfl ?_
    refine z_icmp_ne (tgt := 92) dX7_tellsOf_85 rfl (by omega) (fun uc85 => ?_) (fun uc85 => ?_)
    ·
      refine z_iload_n 1 dX7_tellsOf_92 rfl ?_
      refine z_bipush dX7_tellsOf_93 rfl ?_
      refine z_bipush dX7_tellsOf_95 rfl ?_
      refine z_sI dX7_tellsOf_97 lX7_94 (by decide) (ct_X7_within en M _ (97) (104) (by omega)) rfl rfl (by exact Nat.le_of_ble_eq_true rfl) ?_
      exact z_iret C dX7_tellsOf_100 rfl ⟨congrArg (fun z => some (vi z)) (by unfold tel; subst eusw1; simp only [*, if_true, if_false]; try simp), rfl⟩
    ·
      refine z_iconst dX7_tellsOf_88 ?_
      refine z_goto (tgt := 100) dX7_tellsOf_89 rfl ?_
      exact z_iret C dX7_tellsOf_100 rfl ⟨congrArg (fun z => some (vi z)) (by unfold tel; subst eusw1; simp only [*, if_true, if_false]; try simp), rfl⟩
  by_cases uk1_5 : usw1 = 5
  ·
    refine z_tsw (tgt := 101) (5) uk1_5 dX7_tellsOf_1 (by decide) rfl rfl ?_
    refine z_iload_n 1 dX7_tellsOf_101 rfl ?_
    refine z_bipush dX7_tellsOf_102 rfl ?_
    refine z_bipush dX7_tellsOf_104 rfl ?_
    refine z_sI dX7_tellsOf_106 lX7_94 (by decide) (ct_X7_within en M _ (59) (59) (by omega)) rfl rfl (by exact Nat.le_of_ble_eq_true rfl) ?_
    exact z_iret C dX7_tellsOf_109 rfl ⟨congrArg (fun z => some (vi z)) (by unfold tel; subst eusw1; simp only [*, if_true, if_false]; try simp), rfl⟩
  refine z_tswD (tgt := 110) dX7_tellsOf_1 (by omega) rfl ?_
  refine z_iload_n 1 dX7_tellsOf_110 rfl ?_
  refine z_bipush dX7_tellsOf_111 rfl ?_
  refine z_bipush dX7_tellsOf_113 rfl ?_
  refine z_sI dX7_tellsOf_115 lX7_94 (by decide) (ct_X7_within en M _ (48) (57) (by omega)) rfl rfl (by exact Nat.le_of_ble_eq_true rfl) ?_
  exact z_iret C dX7_tellsOf_118 rfl ⟨congrArg (fun z => some (vi z)) (by unfold tel; subst eusw1; simp only [*, if_true, if_false]; try simp), rfl⟩
set_option maxRecDepth 100000 in
theorem ct_X7_readsRoads (en : zE) (M : zW) (O : Int → Int) (B : Int → Int) (Y : Int → Int) (R : Int → Int) (wO : M 37 = O) (wB : M 42 = B) (wY : M 43 = Y) (wR : M 44 = R) (hB : ∀ j, 0 ≤ j → j < 96 → 0 ≤ B j ∧ B j ≤ 255) (hY : ∀ j, 0 ≤ j → j < 2 → 0 ≤ Y j ∧ Y j ≤ 47) : Ct en kA yX7_readsRoads mX7_readsRoads [rf en 37] M (pX (fun x N => ∃ r44 : Int → Int, rdF B (Y 0) x ∧ (x = -1 → ∀ j, 0 ≤ j → j < Y 0 → j % 4 < 3 → r44 (3 * (j / 4) + j % 4) = rV B j) ∧ upR (upR M 37 (up O 7 (rCnt (Y 0) x))) 44 r44 = N)) := by
  refine Ct.of (by decide +kernel) rfl [(0, rf en 37)] rfl (Nat.le_of_ble_eq_true rfl) (fun cx C => ?_)
  refine z_aload_n 0 dX7_readsRoads_0 rfl ?_
  refine z_iconst dX7_readsRoads_1 ?_
  refine z_putI (r := O) 7 rfl dX7_readsRoads_2 pfX7_91_6 i37_7 ka37 (wO) (fun r37_2 f37_2 => ?_)
  refine z_aload_n 0 dX7_readsRoads_5 rfl ?_
  refine z_getR dX7_readsRoads_6 fX7_25_6 i37_6 ka37 ?_
  refine z_iconst dX7_readsRoads_9 ?_
  refine z_ialdB (r := Y) dX7_readsRoads_10 is43 ka43 (wY) (by omega) (hY) (fun uy10 ug10 ub10 => ?_)
  refine z_istore_n (fun y => [(0, rf en 37), (1, vi y)]) [1, 0] dX7_readsRoads_11 (by decide) (fun _ => rfl) (fun x1_11 e1_11 => ?_)
  refine z_iconst dX7_readsRoads_12 ?_
  refine z_istore_n (fun y => [(0, rf en 37), (1, vi x1_11), (2, vi y)]) [1, 2, 0] dX7_readsRoads_13 (by decide) (fun _ => rfl) (fun x2_13 e2_13 => ?_)
  have uL14 : ∀ (fu : Nat) (x2 : Int) (r37 : Int → Int) (r44 : Int → Int), (x1_11 - x2).toNat < fu → (0 ≤ x2 ∧ x2 ≤ x1_11 ∧ (∀ j, 0 ≤ j → j < x2 → ¬ rBad B j) ∧ r37 = up O 7 ((x2 + 1) / 4) ∧ (∀ j, 0 ≤ j → j < x2 → j % 4 < 3 → r44 (3 * (j / 4) + j % 4) = rV B j)) → Z en kA cx mX7_readsRoads (upR (upR M 37 r37) 44 r44) 14 [(0, rf en 37), (1, vi x1_11), (2, vi x2)] [] := by
    intro fu
    induction fu with
    | zero => intro x2 r37 r44 uhf; exact absurd uhf (Nat.not_lt_zero _)
    | succ fu uih14 =>
      intro x2 r37 r44 uf14 uI14
      obtain ⟨uq1, uq2, uq3, uq4, uq5⟩ := uI14
      have uhy0 := hY 0 (by omega) (by omega)
      refine z_iload_n 2 dX7_readsRoads_14 rfl ?_
      refine z_iload_n 1 dX7_readsRoads_15 rfl ?_
      refine z_icmp_ge (tgt := 154) dX7_readsRoads_16 rfl (by omega) (fun uc16 => ?_) (fun uc16 => ?_)
      ·
        refine z_iload_n 1 dX7_readsRoads_154 rfl ?_
        refine z_if_le (tgt := 172) dX7_readsRoads_155 rfl (by omega) (fun uc155 => ?_) (fun uc155 => ?_)
        ·
          refine z_iconst dX7_readsRoads_172 ?_
          exact z_iret C dX7_readsRoads_173 rfl ⟨_, rfl, ⟨r44, Or.inr (Or.inr ⟨rfl, by omega, fun uj ua ub => uq3 uj ua (by omega)⟩), fun _ uj ua ub uc => uq5 uj ua (by omega) uc, by rw [uq4, rCnt, if_pos rfl, show x2 = Y 0 by omega]⟩⟩
        ·
          refine z_iload_n 1 dX7_readsRoads_158 rfl ?_
          refine z_iconst dX7_readsRoads_159 ?_
          refine z_irem dX7_readsRoads_160 (by omega) ?_
          refine z_iconst dX7_readsRoads_161 ?_
          refine z_icmp_eq (tgt := 172) dX7_readsRoads_162 rfl (by omega) (fun uc162 => ?_) (fun uc162 => ?_)
          ·
            refine z_iconst dX7_readsRoads_172 ?_
            exact z_iret C dX7_readsRoads_173 rfl ⟨_, rfl, ⟨r44, Or.inr (Or.inr ⟨rfl, by omega, fun uj ua ub => uq3 uj ua (by omega)⟩), fun _ uj ua ub uc => uq5 uj ua (by omega) uc, by rw [uq4, rCnt, if_pos rfl, show x2 = Y 0 by omega]⟩⟩
          ·
            refine z_aload_n 0 dX7_readsRoads_165 rfl ?_
            refine z_iconst dX7_readsRoads_166 ?_
            refine z_putI' (r := r37) 7 rfl (fun r => (upR (upR M 37 r) 44 r44)) dX7_readsRoads_167 pfX7_91_6 i37_7 ka37 (rfl) (fun _ => uu2 (by decide)) (fun r37_167 f37_167 => ?_)
            refine z_iload_n 1 dX7_readsRoads_170 rfl ?_
            exact z_iret C dX7_readsRoads_171 rfl ⟨_, rfl, ⟨r44, Or.inr (Or.inl ⟨by omega, by omega, by omega, fun uj ua ub => uq3 uj ua (by omega)⟩), fun uz => absurd uz (by omega), by rw [f37_167, uq4, up_up, rCnt, if_neg (by omega)]⟩⟩
      ·
        refine z_iload_n 2 dX7_readsRoads_19 rfl ?_
        refine z_iconst dX7_readsRoads_20 ?_
        refine z_irem dX7_readsRoads_21 (by omega) ?_
        refine z_istore_n (fun y => [(0, rf en 37), (1, vi x1_11), (2, vi x2), (3, vi y)]) [1, 2, 3, 0] dX7_readsRoads_22 (by decide) (fun _ => rfl) (fun x3_22 e3_22 => ?_)
        refine z_aload_n 0 dX7_readsRoads_23 rfl ?_
        refine z_getR dX7_readsRoads_24 fX7_22_6 i37_5 ka37 ?_
        refine z_iload_n 2 dX7_readsRoads_27 rfl ?_
        refine z_ialdB (r := B) dX7_readsRoads_28 is42 ka42 (wB) (by omega) (hB) (fun uy28 ug28 ub28 => ?_)
        refine z_istore (fun y => [(0, rf en 37), (1, vi x1_11), (2, vi x2), (3, vi x3_22), (4, vi y)]) [1, 2, 3, 4, 0] dX7_readsRoads_29 (by decide) (fun _ => rfl) (fun x4_29 e4_29 => ?_)
        refine z_iload_n 3 dX7_readsRoads_31 rfl ?_
        refine z_iconst dX7_readsRoads_32 ?_
        refine z_icmp_ne (tgt := 48) dX7_readsRoads_33 rfl (by omega) (fun uc33 => ?_) (fun uc33 => ?_)
        ·
          refine z_iload_n 3 dX7_readsRoads_48 rfl ?_
          refine z_iconst dX7_readsRoads_49 ?_
          refine z_icmp_ne (tgt := 67) dX7_readsRoads_50 rfl (by omega) (fun uc50 => ?_) (fun uc50 => ?_)
          ·
            refine z_iload 4 dX7_readsRoads_67 rfl ?_
            refine z_bipush dX7_readsRoads_69 rfl ?_
            refine z_bipush dX7_readsRoads_71 rfl ?_
            refine z_sI dX7_readsRoads_73 lX7_94 (by decide) (ct_X7_within en (upR (upR M 37 r37) 44 r44) _ (97) (104) (by omega)) rfl rfl (by exact Nat.le_of_ble_eq_true rfl) ?_
            refine z_istore (fun y => [(0, rf en 37), (1, vi x1_11), (2, vi x2), (3, vi x3_22), (4, vi x4_29), (5, vi y)]) [1, 2, 3, 4, 5, 0] dX7_readsRoads_76 (by decide) (fun _ => rfl) (fun x5_76 e5_76 => ?_)
            have uhv : x5_76 = rV B x2 := by rw [rV, ← e3_22, ← ug28, ← e4_29, e5_76]; first | rw [if_pos uc33] | rw [if_neg uc33, if_pos uc50] | rw [if_neg uc33, if_neg uc50]
            have uhvr := rV_rg B x2
            refine z_iload 5 dX7_readsRoads_78 rfl ?_
            refine z_if_lt (tgt := 103) dX7_readsRoads_80 rfl (by omega) (fun uc80 => ?_) (fun uc80 => ?_)
            ·
              have uhb : rBad B x2 := by first | exact Or.inl (by omega) | exact Or.inr ⟨by omega, by omega⟩
              refine z_aload_n 0 dX7_readsRoads_103 rfl ?_
              refine z_iconst dX7_readsRoads_104 ?_
              refine z_putI' (r := r37) 7 rfl (fun r => (upR (upR M 37 r) 44 r44)) dX7_readsRoads_105 pfX7_91_6 i37_7 ka37 (rfl) (fun _ => uu2 (by decide)) (fun r37_105 f37_105 => ?_)
              refine z_iload_n 2 dX7_readsRoads_108 rfl ?_
              exact z_iret C dX7_readsRoads_109 rfl ⟨_, rfl, ⟨r44, Or.inl ⟨uq1, by omega, uhb, uq3⟩, fun uz => absurd uz (by omega), by rw [f37_105, uq4, up_up, rCnt, if_neg (by omega)]⟩⟩
            ·
              refine z_iload_n 3 dX7_readsRoads_83 rfl ?_
              refine z_iconst dX7_readsRoads_84 ?_
              refine z_icmp_ne (tgt := 110) dX7_readsRoads_85 rfl (by omega) (fun uc85 => ?_) (fun uc85 => ?_)
              ·
                have uhnb : ¬ rBad B x2 := by rintro (uz | ⟨uz, uz2⟩) <;> omega
                refine z_iload_n 3 dX7_readsRoads_110 rfl ?_
                refine z_iconst dX7_readsRoads_111 ?_
                refine z_icmp_ge (tgt := 129) dX7_readsRoads_112 rfl (by omega) (fun uc112 => ?_) (fun uc112 => ?_)
                ·
                  refine z_aload_n 0 dX7_readsRoads_129 rfl ?_
                  refine z_dup_a dX7_readsRoads_130 ?_
                  have uhq4 : r37 7 = (x2 + 1) / 4 := by rw [uq4, up_s]
                  refine z_getI (r := r37) 7 rfl dX7_readsRoads_131 fX7_91_6 i37_7 ka37 (rfl) ?_
                  refine z_iload_n 3 dX7_readsRoads_134 rfl ?_
                  refine z_iconst dX7_readsRoads_135 ?_
                  refine z_icmp_ne (tgt := 143) dX7_readsRoads_136 rfl (by omega) (fun uc136 => ?_) (fun uc136 => ?_)
                  ·
                    refine z_iconst dX7_readsRoads_143 ?_
                    refine z_iadd dX7_readsRoads_144 ?_
                    refine z_putI' (r := r37) 7 rfl (fun r => (upR (upR M 37 r) 44 r44)) dX7_readsRoads_145 pfX7_91_6 i37_7 ka37 (rfl) (fun _ => uu2 (by decide)) (fun r37_145 f37_145 => ?_)
                    refine z_iinc (fun y => [(0, rf en 37), (1, vi x1_11), (2, vi y), (3, vi x3_22), (4, vi x4_29), (5, vi x5_76)]) [1, 2, 0, 3, 4, 5] 2 dX7_readsRoads_148 rfl (by decide) (fun _ => rfl) (fun x2_148 e2_148 => ?_)
                    refine z_goto (tgt := 14) dX7_readsRoads_151 rfl ?_
                    refine z_lv [0, 1, 2] [(0, rf en 37), (1, vi x1_11), (2, vi x2_148)] rfl ?_
                    have uq6 : ∀ uj, 0 ≤ uj → uj < x2_148 → ¬ rBad B uj := fun uj ua ub => if uz : uj < x2 then uq3 uj ua uz else (by rw [show uj = x2 by omega]; exact uhnb)
                    exact uih14 x2_148 r37_145 r44 (by omega) (by first | exact ⟨by omega, by omega, uq6, by rw [f37_145, uq4, up_s, up_up]; congr 1; omega, fun uj ua ub uc => if uz : uj = x2 then (by rw [f44_128, uz, show 3 * (x2 / 4) + x2 % 4 = 3 * (x2 / 4) + x3_22 by omega, up_s]; exact uhv) else (by rw [f44_128, up_n _ _ (by omega)]; exact uq5 uj ua (by omega) uc)⟩ | exact ⟨by omega, by omega, uq6, by rw [f37_145, uq4, up_s, up_up]; congr 1; omega, fun uj ua ub uc => uq5 uj ua (by omega) uc⟩)
                  ·
                    refine z_iconst dX7_readsRoads_139 ?_
                    refine z_goto (tgt := 144) dX7_readsRoads_140 rfl ?_
                    refine z_iadd dX7_readsRoads_144 ?_
                    refine z_putI' (r := r37) 7 rfl (fun r => (upR (upR M 37 r) 44 r44)) dX7_readsRoads_145 pfX7_91_6 i37_7 ka37 (rfl) (fun _ => uu2 (by decide)) (fun r37_145 f37_145 => ?_)
                    refine z_iinc (fun y => [(0, rf en 37), (1, vi x1_11), (2, vi y), (3, vi x3_22), (4, vi x4_29), (5, vi x5_76)]) [1, 2, 0, 3, 4, 5] 2 dX7_readsRoads_148 rfl (by decide) (fun _ => rfl) (fun x2_148 e2_148 => ?_)
                    refine z_goto (tgt := 14) dX7_readsRoads_151 rfl ?_
                    refine z_lv [0, 1, 2] [(0, rf en 37), (1, vi x1_11), (2, vi x2_148)] rfl ?_
                    have uq6 : ∀ uj, 0 ≤ uj → uj < x2_148 → ¬ rBad B uj := fun uj ua ub => if uz : uj < x2 then uq3 uj ua uz else (by rw [show uj = x2 by omega]; exact uhnb)
                    exact uih14 x2_148 r37_145 r44 (by omega) (by first | exact ⟨by omega, by omega, uq6, by rw [f37_145, uq4, up_s, up_up]; congr 1; omega, fun uj ua ub uc => if uz : uj = x2 then (by rw [f44_128, uz, show 3 * (x2 / 4) + x2 % 4 = 3 * (x2 / 4) + x3_22 by omega, up_s]; exact uhv) else (by rw [f44_128, up_n _ _ (by omega)]; exact uq5 uj ua (by omega) uc)⟩ | exact ⟨by omega, by omega, uq6, by rw [f37_145, uq4, up_s, up_up]; congr 1; omega, fun uj ua ub uc => uq5 uj ua (by omega) uc⟩)
                ·
                  refine z_aload_n 0 dX7_readsRoads_115 rfl ?_
                  refine z_getR dX7_readsRoads_116 fX7_28_6 i37_8 ka37 ?_
                  refine z_iconst dX7_readsRoads_119 ?_
                  refine z_iload_n 2 dX7_readsRoads_120 rfl ?_
                  refine z_iconst dX7_readsRoads_121 ?_
                  refine z_idiv dX7_readsRoads_122 (by omega) ?_
                  refine z_imul dX7_readsRoads_123 ?_
                  refine z_iload_n 3 dX7_readsRoads_124 rfl ?_
                  refine z_iadd dX7_readsRoads_125 ?_
                  refine z_iload 5 dX7_readsRoads_126 rfl ?_
                  refine z_iast' (r := r44) (fun r => (upR (upR M 37 r37) 44 r)) dX7_readsRoads_128 is44 ka44 (rfl) (by omega) (fun _ => uu1) (fun r44_128 f44_128 => ?_)
                  refine z_aload_n 0 dX7_readsRoads_129 rfl ?_
                  refine z_dup_a dX7_readsRoads_130 ?_
                  have uhq4 : r37 7 = (x2 + 1) / 4 := by rw [uq4, up_s]
                  refine z_getI (r := r37) 7 rfl dX7_readsRoads_131 fX7_91_6 i37_7 ka37 (rfl) ?_
                  refine z_iload_n 3 dX7_readsRoads_134 rfl ?_
                  refine z_iconst dX7_readsRoads_135 ?_
                  refine z_icmp_ne (tgt := 143) dX7_readsRoads_136 rfl (by omega) (fun uc136 => ?_) (fun uc136 => ?_)
                  ·
                    refine z_iconst dX7_readsRoads_143 ?_
                    refine z_iadd dX7_readsRoads_144 ?_
                    refine z_putI' (r := r37) 7 rfl (fun r => (upR (upR M 37 r) 44 r44_128)) dX7_readsRoads_145 pfX7_91_6 i37_7 ka37 (rfl) (fun _ => uu2 (by decide)) (fun r37_145 f37_145 => ?_)
                    refine z_iinc (fun y => [(0, rf en 37), (1, vi x1_11), (2, vi y), (3, vi x3_22), (4, vi x4_29), (5, vi x5_76)]) [1, 2, 0, 3, 4, 5] 2 dX7_readsRoads_148 rfl (by decide) (fun _ => rfl) (fun x2_148 e2_148 => ?_)
                    refine z_goto (tgt := 14) dX7_readsRoads_151 rfl ?_
                    refine z_lv [0, 1, 2] [(0, rf en 37), (1, vi x1_11), (2, vi x2_148)] rfl ?_
                    have uq6 : ∀ uj, 0 ≤ uj → uj < x2_148 → ¬ rBad B uj := fun uj ua ub => if uz : uj < x2 then uq3 uj ua uz else (by rw [show uj = x2 by omega]; exact uhnb)
                    exact uih14 x2_148 r37_145 r44_128 (by omega) (by first | exact ⟨by omega, by omega, uq6, by rw [f37_145, uq4, up_s, up_up]; congr 1; omega, fun uj ua ub uc => if uz : uj = x2 then (by rw [f44_128, uz, show 3 * (x2 / 4) + x2 % 4 = 3 * (x2 / 4) + x3_22 by omega, up_s]; exact uhv) else (by rw [f44_128, up_n _ _ (by omega)]; exact uq5 uj ua (by omega) uc)⟩ | exact ⟨by omega, by omega, uq6, by rw [f37_145, uq4, up_s, up_up]; congr 1; omega, fun uj ua ub uc => uq5 uj ua (by omega) uc⟩)
                  ·
                    refine z_iconst dX7_readsRoads_139 ?_
                    refine z_goto (tgt := 144) dX7_readsRoads_140 rfl ?_
                    refine z_iadd dX7_readsRoads_144 ?_
                    refine z_putI' (r := r37) 7 rfl (fun r => (upR (upR M 37 r) 44 r44_128)) dX7_readsRoads_145 pfX7_91_6 i37_7 ka37 (rfl) (fun _ => uu2 (by decide)) (fun r37_145 f37_145 => ?_)
                    refine z_iinc (fun y => [(0, rf en 37), (1, vi x1_11), (2, vi y), (3, vi x3_22), (4, vi x4_29), (5, vi x5_76)]) [1, 2, 0, 3, 4, 5] 2 dX7_readsRoads_148 rfl (by decide) (fun _ => rfl) (fun x2_148 e2_148 => ?_)
                    refine z_goto (tgt := 14) dX7_readsRoads_151 rfl ?_
                    refine z_lv [0, 1, 2] [(0, rf en 37), (1, vi x1_11), (2, vi x2_148)] rfl ?_
                    have uq6 : ∀ uj, 0 ≤ uj → uj < x2_148 → ¬ rBad B uj := fun uj ua ub => if uz : uj < x2 then uq3 uj ua uz else (by rw [show uj = x2 by omega]; exact uhnb)
                    exact uih14 x2_148 r37_145 r44_128 (by omega) (by first | exact ⟨by omega, by omega, uq6, by rw [f37_145, uq4, up_s, up_up]; congr 1; omega, fun uj ua ub uc => if uz : uj = x2 then (by rw [f44_128, uz, show 3 * (x2 / 4) + x2 % 4 = 3 * (x2 / 4) + x3_22 by omega, up_s]; exact uhv) else (by rw [f44_128, up_n _ _ (by omega)]; exact uq5 uj ua (by omega) uc)⟩ | exact ⟨by omega, by omega, uq6, by rw [f37_145, uq4, up_s, up_up]; congr 1; omega, fun uj ua ub uc => uq5 uj ua (by omega) uc⟩)
              ·
                refine z_iload 5 dX7_readsRoads_88 rfl ?_
                have uhp := uq5 (x2 - 1) (by omega) (by omega) (by omega)
                rw [show 3 * ((x2 - 1) / 4) + (x2 - 1) % 4 = 3 * (x2 / 4) by omega] at uhp
                have uhpr := rV_rg B (x2 - 1)
                refine z_aload_n 0 dX7_readsRoads_90 rfl ?_
                refine z_getR dX7_readsRoads_91 fX7_28_6 i37_8 ka37 ?_
                refine z_iconst dX7_readsRoads_94 ?_
                refine z_iload_n 2 dX7_readsRoads_95 rfl ?_
                refine z_iconst dX7_readsRoads_96 ?_
                refine z_idiv dX7_readsRoads_97 (by omega) ?_
                refine z_imul dX7_readsRoads_98 ?_
                refine z_iald (r := r44) dX7_readsRoads_99 is44 ka44 (rfl) (by omega) ?_
                refine z_icmp_ne (tgt := 110) dX7_readsRoads_100 rfl (by omega) (fun uc100 => ?_) (fun uc100 => ?_)
                ·
                  have uhnb : ¬ rBad B x2 := by rintro (uz | ⟨uz, uz2⟩) <;> omega
                  refine z_iload_n 3 dX7_readsRoads_110 rfl ?_
                  refine z_iconst dX7_readsRoads_111 ?_
                  refine z_icmp_ge (tgt := 129) dX7_readsRoads_112 rfl (by omega) (fun uc112 => ?_) (fun uc112 => ?_)
                  ·
                    refine z_aload_n 0 dX7_readsRoads_129 rfl ?_
                    refine z_dup_a dX7_readsRoads_130 ?_
                    have uhq4 : r37 7 = (x2 + 1) / 4 := by rw [uq4, up_s]
                    refine z_getI (r := r37) 7 rfl dX7_readsRoads_131 fX7_91_6 i37_7 ka37 (rfl) ?_
                    refine z_iload_n 3 dX7_readsRoads_134 rfl ?_
                    refine z_iconst dX7_readsRoads_135 ?_
                    refine z_icmp_ne (tgt := 143) dX7_readsRoads_136 rfl (by omega) (fun uc136 => ?_) (fun uc136 => ?_)
                    ·
                      refine z_iconst dX7_readsRoads_143 ?_
                      refine z_iadd dX7_readsRoads_144 ?_
                      refine z_putI' (r := r37) 7 rfl (fun r => (upR (upR M 37 r) 44 r44)) dX7_readsRoads_145 pfX7_91_6 i37_7 ka37 (rfl) (fun _ => uu2 (by decide)) (fun r37_145 f37_145 => ?_)
                      refine z_iinc (fun y => [(0, rf en 37), (1, vi x1_11), (2, vi y), (3, vi x3_22), (4, vi x4_29), (5, vi x5_76)]) [1, 2, 0, 3, 4, 5] 2 dX7_readsRoads_148 rfl (by decide) (fun _ => rfl) (fun x2_148 e2_148 => ?_)
                      refine z_goto (tgt := 14) dX7_readsRoads_151 rfl ?_
                      refine z_lv [0, 1, 2] [(0, rf en 37), (1, vi x1_11), (2, vi x2_148)] rfl ?_
                      have uq6 : ∀ uj, 0 ≤ uj → uj < x2_148 → ¬ rBad B uj := fun uj ua ub => if uz : uj < x2 then uq3 uj ua uz else (by rw [show uj = x2 by omega]; exact uhnb)
                      exact uih14 x2_148 r37_145 r44 (by omega) (by first | exact ⟨by omega, by omega, uq6, by rw [f37_145, uq4, up_s, up_up]; congr 1; omega, fun uj ua ub uc => if uz : uj = x2 then (by rw [f44_128, uz, show 3 * (x2 / 4) + x2 % 4 = 3 * (x2 / 4) + x3_22 by omega, up_s]; exact uhv) else (by rw [f44_128, up_n _ _ (by omega)]; exact uq5 uj ua (by omega) uc)⟩ | exact ⟨by omega, by omega, uq6, by rw [f37_145, uq4, up_s, up_up]; congr 1; omega, fun uj ua ub uc => uq5 uj ua (by omega) uc⟩)
                    ·
                      refine z_iconst dX7_readsRoads_139 ?_
                      refine z_goto (tgt := 144) dX7_readsRoads_140 rfl ?_
                      refine z_iadd dX7_readsRoads_144 ?_
                      refine z_putI' (r := r37) 7 rfl (fun r => (upR (upR M 37 r) 44 r44)) dX7_readsRoads_145 pfX7_91_6 i37_7 ka37 (rfl) (fun _ => uu2 (by decide)) (fun r37_145 f37_145 => ?_)
                      refine z_iinc (fun y => [(0, rf en 37), (1, vi x1_11), (2, vi y), (3, vi x3_22), (4, vi x4_29), (5, vi x5_76)]) [1, 2, 0, 3, 4, 5] 2 dX7_readsRoads_148 rfl (by decide) (fun _ => rfl) (fun x2_148 e2_148 => ?_)
                      refine z_goto (tgt := 14) dX7_readsRoads_151 rfl ?_
                      refine z_lv [0, 1, 2] [(0, rf en 37), (1, vi x1_11), (2, vi x2_148)] rfl ?_
                      have uq6 : ∀ uj, 0 ≤ uj → uj < x2_148 → ¬ rBad B uj := fun uj ua ub => if uz : uj < x2 then uq3 uj ua uz else (by rw [show uj = x2 by omega]; exact uhnb)
                      exact uih14 x2_148 r37_145 r44 (by omega) (by first | exact ⟨by omega, by omega, uq6, by rw [f37_145, uq4, up_s, up_up]; congr 1; omega, fun uj ua ub uc => if uz : uj = x2 then (by rw [f44_128, uz, show 3 * (x2 / 4) + x2 % 4 = 3 * (x2 / 4) + x3_22 by omega, up_s]; exact uhv) else (by rw [f44_128, up_n _ _ (by omega)]; exact uq5 uj ua (by omega) uc)⟩ | exact ⟨by omega, by omega, uq6, by rw [f37_145, uq4, up_s, up_up]; congr 1; omega, fun uj ua ub uc => uq5 uj ua (by omega) uc⟩)
                  ·
                    refine z_aload_n 0 dX7_readsRoads_115 rfl ?_
                    refine z_getR dX7_readsRoads_116 fX7_28_6 i37_8 ka37 ?_
                    refine z_iconst dX7_readsRoads_119 ?_
                    refine z_iload_n 2 dX7_readsRoads_120 rfl ?_
                    refine z_iconst dX7_readsRoads_121 ?_
                    refine z_idiv dX7_readsRoads_122 (by omega) ?_
                    refine z_imul dX7_readsRoads_123 ?_
                    refine z_iload_n 3 dX7_readsRoads_124 rfl ?_
                    refine z_iadd dX7_readsRoads_125 ?_
                    refine z_iload 5 dX7_readsRoads_126 rfl ?_
                    refine z_iast' (r := r44) (fun r => (upR (upR M 37 r37) 44 r)) dX7_readsRoads_128 is44 ka44 (rfl) (by omega) (fun _ => uu1) (fun r44_128 f44_128 => ?_)
                    refine z_aload_n 0 dX7_readsRoads_129 rfl ?_
                    refine z_dup_a dX7_readsRoads_130 ?_
                    have uhq4 : r37 7 = (x2 + 1) / 4 := by rw [uq4, up_s]
                    refine z_getI (r := r37) 7 rfl dX7_readsRoads_131 fX7_91_6 i37_7 ka37 (rfl) ?_
                    refine z_iload_n 3 dX7_readsRoads_134 rfl ?_
                    refine z_iconst dX7_readsRoads_135 ?_
                    refine z_icmp_ne (tgt := 143) dX7_readsRoads_136 rfl (by omega) (fun uc136 => ?_) (fun uc136 => ?_)
                    ·
                      refine z_iconst dX7_readsRoads_143 ?_
                      refine z_iadd dX7_readsRoads_144 ?_
                      refine z_putI' (r := r37) 7 rfl (fun r => (upR (upR M 37 r) 44 r44_128)) dX7_readsRoads_145 pfX7_91_6 i37_7 ka37 (rfl) (fun _ => uu2 (by decide)) (fun r37_145 f37_145 => ?_)
                      refine z_iinc (fun y => [(0, rf en 37), (1, vi x1_11), (2, vi y), (3, vi x3_22), (4, vi x4_29), (5, vi x5_76)]) [1, 2, 0, 3, 4, 5] 2 dX7_readsRoads_148 rfl (by decide) (fun _ => rfl) (fun x2_148 e2_148 => ?_)
                      refine z_goto (tgt := 14) dX7_readsRoads_151 rfl ?_
                      refine z_lv [0, 1, 2] [(0, rf en 37), (1, vi x1_11), (2, vi x2_148)] rfl ?_
                      have uq6 : ∀ uj, 0 ≤ uj → uj < x2_148 → ¬ rBad B uj := fun uj ua ub => if uz : uj < x2 then uq3 uj ua uz else (by rw [show uj = x2 by omega]; exact uhnb)
                      exact uih14 x2_148 r37_145 r44_128 (by omega) (by first | exact ⟨by omega, by omega, uq6, by rw [f37_145, uq4, up_s, up_up]; congr 1; omega, fun uj ua ub uc => if uz : uj = x2 then (by rw [f44_128, uz, show 3 * (x2 / 4) + x2 % 4 = 3 * (x2 / 4) + x3_22 by omega, up_s]; exact uhv) else (by rw [f44_128, up_n _ _ (by omega)]; exact uq5 uj ua (by omega) uc)⟩ | exact ⟨by omega, by omega, uq6, by rw [f37_145, uq4, up_s, up_up]; congr 1; omega, fun uj ua ub uc => uq5 uj ua (by omega) uc⟩)
                    ·
                      refine z_iconst dX7_readsRoads_139 ?_
                      refine z_goto (tgt := 144) dX7_readsRoads_140 rfl ?_
                      refine z_iadd dX7_readsRoads_144 ?_
                      refine z_putI' (r := r37) 7 rfl (fun r => (upR (upR M 37 r) 44 r44_128)) dX7_readsRoads_145 pfX7_91_6 i37_7 ka37 (rfl) (fun _ => uu2 (by decide)) (fun r37_145 f37_145 => ?_)
                      refine z_iinc (fun y => [(0, rf en 37), (1, vi x1_11), (2, vi y), (3, vi x3_22), (4, vi x4_29), (5, vi x5_76)]) [1, 2, 0, 3, 4, 5] 2 dX7_readsRoads_148 rfl (by decide) (fun _ => rfl) (fun x2_148 e2_148 => ?_)
                      refine z_goto (tgt := 14) dX7_readsRoads_151 rfl ?_
                      refine z_lv [0, 1, 2] [(0, rf en 37), (1, vi x1_11), (2, vi x2_148)] rfl ?_
                      have uq6 : ∀ uj, 0 ≤ uj → uj < x2_148 → ¬ rBad B uj := fun uj ua ub => if uz : uj < x2 then uq3 uj ua uz else (by rw [show uj = x2 by omega]; exact uhnb)
                      exact uih14 x2_148 r37_145 r44_128 (by omega) (by first | exact ⟨by omega, by omega, uq6, by rw [f37_145, uq4, up_s, up_up]; congr 1; omega, fun uj ua ub uc => if uz : uj = x2 then (by rw [f44_128, uz, show 3 * (x2 / 4) + x2 % 4 = 3 * (x2 / 4) + x3_22 by omega, up_s]; exact uhv) else (by rw [f44_128, up_n _ _ (by omega)]; exact uq5 uj ua (by omega) uc)⟩ | exact ⟨by omega, by omega, uq6, by rw [f37_145, uq4, up_s, up_up]; congr 1; omega, fun uj ua ub uc => uq5 uj ua (by omega) uc⟩)
                ·
                  have uhb : rBad B x2 := by first | exact Or.inl (by omega) | exact Or.inr ⟨by omega, by omega⟩
                  refine z_aload_n 0 dX7_readsRoads_103 rfl ?_
                  refine z_iconst dX7_readsRoads_104 ?_
                  refine z_putI' (r := r37) 7 rfl (fun r => (upR (upR M 37 r) 44 r44)) dX7_readsRoads_105 pfX7_91_6 i37_7 ka37 (rfl) (fun _ => uu2 (by decide)) (fun r37_105 f37_105 => ?_)
                  refine z_iload_n 2 dX7_readsRoads_108 rfl ?_
                  exact z_iret C dX7_readsRoads_109 rfl ⟨_, rfl, ⟨r44, Or.inl ⟨uq1, by omega, uhb, uq3⟩, fun uz => absurd uz (by omega), by rw [f37_105, uq4, up_up, rCnt, if_neg (by omega)]⟩⟩
          ·
            refine z_iload 4 dX7_readsRoads_53 rfl ?_
            refine z_bipush dX7_readsRoads_55 rfl ?_
            refine z_bipush dX7_readsRoads_57 rfl ?_
            refine z_sI dX7_readsRoads_59 lX7_94 (by decide) (ct_X7_within en (upR (upR M 37 r37) 44 r44) _ (49) (57) (by omega)) rfl rfl (by exact Nat.le_of_ble_eq_true rfl) ?_
            refine z_iconst dX7_readsRoads_62 ?_
            refine z_iadd dX7_readsRoads_63 ?_
            refine z_goto (tgt := 76) dX7_readsRoads_64 rfl ?_
            refine z_istore (fun y => [(0, rf en 37), (1, vi x1_11), (2, vi x2), (3, vi x3_22), (4, vi x4_29), (5, vi y)]) [1, 2, 3, 4, 5, 0] dX7_readsRoads_76 (by decide) (fun _ => rfl) (fun x5_76 e5_76 => ?_)
            have uhv : x5_76 = rV B x2 := by rw [rV, ← e3_22, ← ug28, ← e4_29, e5_76]; first | rw [if_pos uc33] | rw [if_neg uc33, if_pos uc50] | rw [if_neg uc33, if_neg uc50]
            have uhvr := rV_rg B x2
            refine z_iload 5 dX7_readsRoads_78 rfl ?_
            refine z_if_lt (tgt := 103) dX7_readsRoads_80 rfl (by omega) (fun uc80 => ?_) (fun uc80 => ?_)
            ·
              have uhb : rBad B x2 := by first | exact Or.inl (by omega) | exact Or.inr ⟨by omega, by omega⟩
              refine z_aload_n 0 dX7_readsRoads_103 rfl ?_
              refine z_iconst dX7_readsRoads_104 ?_
              refine z_putI' (r := r37) 7 rfl (fun r => (upR (upR M 37 r) 44 r44)) dX7_readsRoads_105 pfX7_91_6 i37_7 ka37 (rfl) (fun _ => uu2 (by decide)) (fun r37_105 f37_105 => ?_)
              refine z_iload_n 2 dX7_readsRoads_108 rfl ?_
              exact z_iret C dX7_readsRoads_109 rfl ⟨_, rfl, ⟨r44, Or.inl ⟨uq1, by omega, uhb, uq3⟩, fun uz => absurd uz (by omega), by rw [f37_105, uq4, up_up, rCnt, if_neg (by omega)]⟩⟩
            ·
              refine z_iload_n 3 dX7_readsRoads_83 rfl ?_
              refine z_iconst dX7_readsRoads_84 ?_
              refine z_icmp_ne (tgt := 110) dX7_readsRoads_85 rfl (by omega) (fun uc85 => ?_) (fun uc85 => ?_)
              ·
                have uhnb : ¬ rBad B x2 := by rintro (uz | ⟨uz, uz2⟩) <;> omega
                refine z_iload_n 3 dX7_readsRoads_110 rfl ?_
                refine z_iconst dX7_readsRoads_111 ?_
                refine z_icmp_ge (tgt := 129) dX7_readsRoads_112 rfl (by omega) (fun uc112 => ?_) (fun uc112 => ?_)
                ·
                  refine z_aload_n 0 dX7_readsRoads_129 rfl ?_
                  refine z_dup_a dX7_readsRoads_130 ?_
                  have uhq4 : r37 7 = (x2 + 1) / 4 := by rw [uq4, up_s]
                  refine z_getI (r := r37) 7 rfl dX7_readsRoads_131 fX7_91_6 i37_7 ka37 (rfl) ?_
                  refine z_iload_n 3 dX7_readsRoads_134 rfl ?_
                  refine z_iconst dX7_readsRoads_135 ?_
                  refine z_icmp_ne (tgt := 143) dX7_readsRoads_136 rfl (by omega) (fun uc136 => ?_) (fun uc136 => ?_)
                  ·
                    refine z_iconst dX7_readsRoads_143 ?_
                    refine z_iadd dX7_readsRoads_144 ?_
                    refine z_putI' (r := r37) 7 rfl (fun r => (upR (upR M 37 r) 44 r44)) dX7_readsRoads_145 pfX7_91_6 i37_7 ka37 (rfl) (fun _ => uu2 (by decide)) (fun r37_145 f37_145 => ?_)
                    refine z_iinc (fun y => [(0, rf en 37), (1, vi x1_11), (2, vi y), (3, vi x3_22), (4, vi x4_29), (5, vi x5_76)]) [1, 2, 0, 3, 4, 5] 2 dX7_readsRoads_148 rfl (by decide) (fun _ => rfl) (fun x2_148 e2_148 => ?_)
                    refine z_goto (tgt := 14) dX7_readsRoads_151 rfl ?_
                    refine z_lv [0, 1, 2] [(0, rf en 37), (1, vi x1_11), (2, vi x2_148)] rfl ?_
                    have uq6 : ∀ uj, 0 ≤ uj → uj < x2_148 → ¬ rBad B uj := fun uj ua ub => if uz : uj < x2 then uq3 uj ua uz else (by rw [show uj = x2 by omega]; exact uhnb)
                    exact uih14 x2_148 r37_145 r44 (by omega) (by first | exact ⟨by omega, by omega, uq6, by rw [f37_145, uq4, up_s, up_up]; congr 1; omega, fun uj ua ub uc => if uz : uj = x2 then (by rw [f44_128, uz, show 3 * (x2 / 4) + x2 % 4 = 3 * (x2 / 4) + x3_22 by omega, up_s]; exact uhv) else (by rw [f44_128, up_n _ _ (by omega)]; exact uq5 uj ua (by omega) uc)⟩ | exact ⟨by omega, by omega, uq6, by rw [f37_145, uq4, up_s, up_up]; congr 1; omega, fun uj ua ub uc => uq5 uj ua (by omega) uc⟩)
                  ·
                    refine z_iconst dX7_readsRoads_139 ?_
                    refine z_goto (tgt := 144) dX7_readsRoads_140 rfl ?_
                    refine z_iadd dX7_readsRoads_144 ?_
                    refine z_putI' (r := r37) 7 rfl (fun r => (upR (upR M 37 r) 44 r44)) dX7_readsRoads_145 pfX7_91_6 i37_7 ka37 (rfl) (fun _ => uu2 (by decide)) (fun r37_145 f37_145 => ?_)
                    refine z_iinc (fun y => [(0, rf en 37), (1, vi x1_11), (2, vi y), (3, vi x3_22), (4, vi x4_29), (5, vi x5_76)]) [1, 2, 0, 3, 4, 5] 2 dX7_readsRoads_148 rfl (by decide) (fun _ => rfl) (fun x2_148 e2_148 => ?_)
                    refine z_goto (tgt := 14) dX7_readsRoads_151 rfl ?_
                    refine z_lv [0, 1, 2] [(0, rf en 37), (1, vi x1_11), (2, vi x2_148)] rfl ?_
                    have uq6 : ∀ uj, 0 ≤ uj → uj < x2_148 → ¬ rBad B uj := fun uj ua ub => if uz : uj < x2 then uq3 uj ua uz else (by rw [show uj = x2 by omega]; exact uhnb)
                    exact uih14 x2_148 r37_145 r44 (by omega) (by first | exact ⟨by omega, by omega, uq6, by rw [f37_145, uq4, up_s, up_up]; congr 1; omega, fun uj ua ub uc => if uz : uj = x2 then (by rw [f44_128, uz, show 3 * (x2 / 4) + x2 % 4 = 3 * (x2 / 4) + x3_22 by omega, up_s]; exact uhv) else (by rw [f44_128, up_n _ _ (by omega)]; exact uq5 uj ua (by omega) uc)⟩ | exact ⟨by omega, by omega, uq6, by rw [f37_145, uq4, up_s, up_up]; congr 1; omega, fun uj ua ub uc => uq5 uj ua (by omega) uc⟩)
                ·
                  refine z_aload_n 0 dX7_readsRoads_115 rfl ?_
                  refine z_getR dX7_readsRoads_116 fX7_28_6 i37_8 ka37 ?_
                  refine z_iconst dX7_readsRoads_119 ?_
                  refine z_iload_n 2 dX7_readsRoads_120 rfl ?_
                  refine z_iconst dX7_readsRoads_121 ?_
                  refine z_idiv dX7_readsRoads_122 (by omega) ?_
                  refine z_imul dX7_readsRoads_123 ?_
                  refine z_iload_n 3 dX7_readsRoads_124 rfl ?_
                  refine z_iadd dX7_readsRoads_125 ?_
                  refine z_iload 5 dX7_readsRoads_126 rfl ?_
                  refine z_iast' (r := r44) (fun r => (upR (upR M 37 r37) 44 r)) dX7_readsRoads_128 is44 ka44 (rfl) (by omega) (fun _ => uu1) (fun r44_128 f44_128 => ?_)
                  refine z_aload_n 0 dX7_readsRoads_129 rfl ?_
                  refine z_dup_a dX7_readsRoads_130 ?_
                  have uhq4 : r37 7 = (x2 + 1) / 4 := by rw [uq4, up_s]
                  refine z_getI (r := r37) 7 rfl dX7_readsRoads_131 fX7_91_6 i37_7 ka37 (rfl) ?_
                  refine z_iload_n 3 dX7_readsRoads_134 rfl ?_
                  refine z_iconst dX7_readsRoads_135 ?_
                  refine z_icmp_ne (tgt := 143) dX7_readsRoads_136 rfl (by omega) (fun uc136 => ?_) (fun uc136 => ?_)
                  ·
                    refine z_iconst dX7_readsRoads_143 ?_
                    refine z_iadd dX7_readsRoads_144 ?_
                    refine z_putI' (r := r37) 7 rfl (fun r => (upR (upR M 37 r) 44 r44_128)) dX7_readsRoads_145 pfX7_91_6 i37_7 ka37 (rfl) (fun _ => uu2 (by decide)) (fun r37_145 f37_145 => ?_)
                    refine z_iinc (fun y => [(0, rf en 37), (1, vi x1_11), (2, vi y), (3, vi x3_22), (4, vi x4_29), (5, vi x5_76)]) [1, 2, 0, 3, 4, 5] 2 dX7_readsRoads_148 rfl (by decide) (fun _ => rfl) (fun x2_148 e2_148 => ?_)
                    refine z_goto (tgt := 14) dX7_readsRoads_151 rfl ?_
                    refine z_lv [0, 1, 2] [(0, rf en 37), (1, vi x1_11), (2, vi x2_148)] rfl ?_
                    have uq6 : ∀ uj, 0 ≤ uj → uj < x2_148 → ¬ rBad B uj := fun uj ua ub => if uz : uj < x2 then uq3 uj ua uz else (by rw [show uj = x2 by omega]; exact uhnb)
                    exact uih14 x2_148 r37_145 r44_128 (by omega) (by first | exact ⟨by omega, by omega, uq6, by rw [f37_145, uq4, up_s, up_up]; congr 1; omega, fun uj ua ub uc => if uz : uj = x2 then (by rw [f44_128, uz, show 3 * (x2 / 4) + x2 % 4 = 3 * (x2 / 4) + x3_22 by omega, up_s]; exact uhv) else (by rw [f44_128, up_n _ _ (by omega)]; exact uq5 uj ua (by omega) uc)⟩ | exact ⟨by omega, by omega, uq6, by rw [f37_145, uq4, up_s, up_up]; congr 1; omega, fun uj ua ub uc => uq5 uj ua (by omega) uc⟩)
                  ·
                    refine z_iconst dX7_readsRoads_139 ?_
                    refine z_goto (tgt := 144) dX7_readsRoads_140 rfl ?_
                    refine z_iadd dX7_readsRoads_144 ?_
                    refine z_putI' (r := r37) 7 rfl (fun r => (upR (upR M 37 r) 44 r44_128)) dX7_readsRoads_145 pfX7_91_6 i37_7 ka37 (rfl) (fun _ => uu2 (by decide)) (fun r37_145 f37_145 => ?_)
                    refine z_iinc (fun y => [(0, rf en 37), (1, vi x1_11), (2, vi y), (3, vi x3_22), (4, vi x4_29), (5, vi x5_76)]) [1, 2, 0, 3, 4, 5] 2 dX7_readsRoads_148 rfl (by decide) (fun _ => rfl) (fun x2_148 e2_148 => ?_)
                    refine z_goto (tgt := 14) dX7_readsRoads_151 rfl ?_
                    refine z_lv [0, 1, 2] [(0, rf en 37), (1, vi x1_11), (2, vi x2_148)] rfl ?_
                    have uq6 : ∀ uj, 0 ≤ uj → uj < x2_148 → ¬ rBad B uj := fun uj ua ub => if uz : uj < x2 then uq3 uj ua uz else (by rw [show uj = x2 by omega]; exact uhnb)
                    exact uih14 x2_148 r37_145 r44_128 (by omega) (by first | exact ⟨by omega, by omega, uq6, by rw [f37_145, uq4, up_s, up_up]; congr 1; omega, fun uj ua ub uc => if uz : uj = x2 then (by rw [f44_128, uz, show 3 * (x2 / 4) + x2 % 4 = 3 * (x2 / 4) + x3_22 by omega, up_s]; exact uhv) else (by rw [f44_128, up_n _ _ (by omega)]; exact uq5 uj ua (by omega) uc)⟩ | exact ⟨by omega, by omega, uq6, by rw [f37_145, uq4, up_s, up_up]; congr 1; omega, fun uj ua ub uc => uq5 uj ua (by omega) uc⟩)
              ·
                refine z_iload 5 dX7_readsRoads_88 rfl ?_
                have uhp := uq5 (x2 - 1) (by omega) (by omega) (by omega)
                rw [show 3 * ((x2 - 1) / 4) + (x2 - 1) % 4 = 3 * (x2 / 4) by omega] at uhp
                have uhpr := rV_rg B (x2 - 1)
                refine z_aload_n 0 dX7_readsRoads_90 rfl ?_
                refine z_getR dX7_readsRoads_91 fX7_28_6 i37_8 ka37 ?_
                refine z_iconst dX7_readsRoads_94 ?_
                refine z_iload_n 2 dX7_readsRoads_95 rfl ?_
                refine z_iconst dX7_readsRoads_96 ?_
                refine z_idiv dX7_readsRoads_97 (by omega) ?_
                refine z_imul dX7_readsRoads_98 ?_
                refine z_iald (r := r44) dX7_readsRoads_99 is44 ka44 (rfl) (by omega) ?_
                refine z_icmp_ne (tgt := 110) dX7_readsRoads_100 rfl (by omega) (fun uc100 => ?_) (fun uc100 => ?_)
                ·
                  have uhnb : ¬ rBad B x2 := by rintro (uz | ⟨uz, uz2⟩) <;> omega
                  refine z_iload_n 3 dX7_readsRoads_110 rfl ?_
                  refine z_iconst dX7_readsRoads_111 ?_
                  refine z_icmp_ge (tgt := 129) dX7_readsRoads_112 rfl (by omega) (fun uc112 => ?_) (fun uc112 => ?_)
                  ·
                    refine z_aload_n 0 dX7_readsRoads_129 rfl ?_
                    refine z_dup_a dX7_readsRoads_130 ?_
                    have uhq4 : r37 7 = (x2 + 1) / 4 := by rw [uq4, up_s]
                    refine z_getI (r := r37) 7 rfl dX7_readsRoads_131 fX7_91_6 i37_7 ka37 (rfl) ?_
                    refine z_iload_n 3 dX7_readsRoads_134 rfl ?_
                    refine z_iconst dX7_readsRoads_135 ?_
                    refine z_icmp_ne (tgt := 143) dX7_readsRoads_136 rfl (by omega) (fun uc136 => ?_) (fun uc136 => ?_)
                    ·
                      refine z_iconst dX7_readsRoads_143 ?_
                      refine z_iadd dX7_readsRoads_144 ?_
                      refine z_putI' (r := r37) 7 rfl (fun r => (upR (upR M 37 r) 44 r44)) dX7_readsRoads_145 pfX7_91_6 i37_7 ka37 (rfl) (fun _ => uu2 (by decide)) (fun r37_145 f37_145 => ?_)
                      refine z_iinc (fun y => [(0, rf en 37), (1, vi x1_11), (2, vi y), (3, vi x3_22), (4, vi x4_29), (5, vi x5_76)]) [1, 2, 0, 3, 4, 5] 2 dX7_readsRoads_148 rfl (by decide) (fun _ => rfl) (fun x2_148 e2_148 => ?_)
                      refine z_goto (tgt := 14) dX7_readsRoads_151 rfl ?_
                      refine z_lv [0, 1, 2] [(0, rf en 37), (1, vi x1_11), (2, vi x2_148)] rfl ?_
                      have uq6 : ∀ uj, 0 ≤ uj → uj < x2_148 → ¬ rBad B uj := fun uj ua ub => if uz : uj < x2 then uq3 uj ua uz else (by rw [show uj = x2 by omega]; exact uhnb)
                      exact uih14 x2_148 r37_145 r44 (by omega) (by first | exact ⟨by omega, by omega, uq6, by rw [f37_145, uq4, up_s, up_up]; congr 1; omega, fun uj ua ub uc => if uz : uj = x2 then (by rw [f44_128, uz, show 3 * (x2 / 4) + x2 % 4 = 3 * (x2 / 4) + x3_22 by omega, up_s]; exact uhv) else (by rw [f44_128, up_n _ _ (by omega)]; exact uq5 uj ua (by omega) uc)⟩ | exact ⟨by omega, by omega, uq6, by rw [f37_145, uq4, up_s, up_up]; congr 1; omega, fun uj ua ub uc => uq5 uj ua (by omega) uc⟩)
                    ·
                      refine z_iconst dX7_readsRoads_139 ?_
                      refine z_goto (tgt := 144) dX7_readsRoads_140 rfl ?_
                      refine z_iadd dX7_readsRoads_144 ?_
                      refine z_putI' (r := r37) 7 rfl (fun r => (upR (upR M 37 r) 44 r44)) dX7_readsRoads_145 pfX7_91_6 i37_7 ka37 (rfl) (fun _ => uu2 (by decide)) (fun r37_145 f37_145 => ?_)
                      refine z_iinc (fun y => [(0, rf en 37), (1, vi x1_11), (2, vi y), (3, vi x3_22), (4, vi x4_29), (5, vi x5_76)]) [1, 2, 0, 3, 4, 5] 2 dX7_readsRoads_148 rfl (by decide) (fun _ => rfl) (fun x2_148 e2_148 => ?_)
                      refine z_goto (tgt := 14) dX7_readsRoads_151 rfl ?_
                      refine z_lv [0, 1, 2] [(0, rf en 37), (1, vi x1_11), (2, vi x2_148)] rfl ?_
                      have uq6 : ∀ uj, 0 ≤ uj → uj < x2_148 → ¬ rBad B uj := fun uj ua ub => if uz : uj < x2 then uq3 uj ua uz else (by rw [show uj = x2 by omega]; exact uhnb)
                      exact uih14 x2_148 r37_145 r44 (by omega) (by first | exact ⟨by omega, by omega, uq6, by rw [f37_145, uq4, up_s, up_up]; congr 1; omega, fun uj ua ub uc => if uz : uj = x2 then (by rw [f44_128, uz, show 3 * (x2 / 4) + x2 % 4 = 3 * (x2 / 4) + x3_22 by omega, up_s]; exact uhv) else (by rw [f44_128, up_n _ _ (by omega)]; exact uq5 uj ua (by omega) uc)⟩ | exact ⟨by omega, by omega, uq6, by rw [f37_145, uq4, up_s, up_up]; congr 1; omega, fun uj ua ub uc => uq5 uj ua (by omega) uc⟩)
                  ·
                    refine z_aload_n 0 dX7_readsRoads_115 rfl ?_
                    refine z_getR dX7_readsRoads_116 fX7_28_6 i37_8 ka37 ?_
                    refine z_iconst dX7_readsRoads_119 ?_
                    refine z_iload_n 2 dX7_readsRoads_120 rfl ?_
                    refine z_iconst dX7_readsRoads_121 ?_
                    refine z_idiv dX7_readsRoads_122 (by omega) ?_
                    refine z_imul dX7_readsRoads_123 ?_
                    refine z_iload_n 3 dX7_readsRoads_124 rfl ?_
                    refine z_iadd dX7_readsRoads_125 ?_
                    refine z_iload 5 dX7_readsRoads_126 rfl ?_
                    refine z_iast' (r := r44) (fun r => (upR (upR M 37 r37) 44 r)) dX7_readsRoads_128 is44 ka44 (rfl) (by omega) (fun _ => uu1) (fun r44_128 f44_128 => ?_)
                    refine z_aload_n 0 dX7_readsRoads_129 rfl ?_
                    refine z_dup_a dX7_readsRoads_130 ?_
                    have uhq4 : r37 7 = (x2 + 1) / 4 := by rw [uq4, up_s]
                    refine z_getI (r := r37) 7 rfl dX7_readsRoads_131 fX7_91_6 i37_7 ka37 (rfl) ?_
                    refine z_iload_n 3 dX7_readsRoads_134 rfl ?_
                    refine z_iconst dX7_readsRoads_135 ?_
                    refine z_icmp_ne (tgt := 143) dX7_readsRoads_136 rfl (by omega) (fun uc136 => ?_) (fun uc136 => ?_)
                    ·
                      refine z_iconst dX7_readsRoads_143 ?_
                      refine z_iadd dX7_readsRoads_144 ?_
                      refine z_putI' (r := r37) 7 rfl (fun r => (upR (upR M 37 r) 44 r44_128)) dX7_readsRoads_145 pfX7_91_6 i37_7 ka37 (rfl) (fun _ => uu2 (by decide)) (fun r37_145 f37_145 => ?_)
                      refine z_iinc (fun y => [(0, rf en 37), (1, vi x1_11), (2, vi y), (3, vi x3_22), (4, vi x4_29), (5, vi x5_76)]) [1, 2, 0, 3, 4, 5] 2 dX7_readsRoads_148 rfl (by decide) (fun _ => rfl) (fun x2_148 e2_148 => ?_)
                      refine z_goto (tgt := 14) dX7_readsRoads_151 rfl ?_
                      refine z_lv [0, 1, 2] [(0, rf en 37), (1, vi x1_11), (2, vi x2_148)] rfl ?_
                      have uq6 : ∀ uj, 0 ≤ uj → uj < x2_148 → ¬ rBad B uj := fun uj ua ub => if uz : uj < x2 then uq3 uj ua uz else (by rw [show uj = x2 by omega]; exact uhnb)
                      exact uih14 x2_148 r37_145 r44_128 (by omega) (by first | exact ⟨by omega, by omega, uq6, by rw [f37_145, uq4, up_s, up_up]; congr 1; omega, fun uj ua ub uc => if uz : uj = x2 then (by rw [f44_128, uz, show 3 * (x2 / 4) + x2 % 4 = 3 * (x2 / 4) + x3_22 by omega, up_s]; exact uhv) else (by rw [f44_128, up_n _ _ (by omega)]; exact uq5 uj ua (by omega) uc)⟩ | exact ⟨by omega, by omega, uq6, by rw [f37_145, uq4, up_s, up_up]; congr 1; omega, fun uj ua ub uc => uq5 uj ua (by omega) uc⟩)
                    ·
                      refine z_iconst dX7_readsRoads_139 ?_
                      refine z_goto (tgt := 144) dX7_readsRoads_140 rfl ?_
                      refine z_iadd dX7_readsRoads_144 ?_
                      refine z_putI' (r := r37) 7 rfl (fun r => (upR (upR M 37 r) 44 r44_128)) dX7_readsRoads_145 pfX7_91_6 i37_7 ka37 (rfl) (fun _ => uu2 (by decide)) (fun r37_145 f37_145 => ?_)
                      refine z_iinc (fun y => [(0, rf en 37), (1, vi x1_11), (2, vi y), (3, vi x3_22), (4, vi x4_29), (5, vi x5_76)]) [1, 2, 0, 3, 4, 5] 2 dX7_readsRoads_148 rfl (by decide) (fun _ => rfl) (fun x2_148 e2_148 => ?_)
                      refine z_goto (tgt := 14) dX7_readsRoads_151 rfl ?_
                      refine z_lv [0, 1, 2] [(0, rf en 37), (1, vi x1_11), (2, vi x2_148)] rfl ?_
                      have uq6 : ∀ uj, 0 ≤ uj → uj < x2_148 → ¬ rBad B uj := fun uj ua ub => if uz : uj < x2 then uq3 uj ua uz else (by rw [show uj = x2 by omega]; exact uhnb)
                      exact uih14 x2_148 r37_145 r44_128 (by omega) (by first | exact ⟨by omega, by omega, uq6, by rw [f37_145, uq4, up_s, up_up]; congr 1; omega, fun uj ua ub uc => if uz : uj = x2 then (by rw [f44_128, uz, show 3 * (x2 / 4) + x2 % 4 = 3 * (x2 / 4) + x3_22 by omega, up_s]; exact uhv) else (by rw [f44_128, up_n _ _ (by omega)]; exact uq5 uj ua (by omega) uc)⟩ | exact ⟨by omega, by omega, uq6, by rw [f37_145, uq4, up_s, up_up]; congr 1; omega, fun uj ua ub uc => uq5 uj ua (by omega) uc⟩)
                ·
                  have uhb : rBad B x2 := by first | exact Or.inl (by omega) | exact Or.inr ⟨by omega, by omega⟩
                  refine z_aload_n 0 dX7_readsRoads_103 rfl ?_
                  refine z_iconst dX7_readsRoads_104 ?_
                  refine z_putI' (r := r37) 7 rfl (fun r => (upR (upR M 37 r) 44 r44)) dX7_readsRoads_105 pfX7_91_6 i37_7 ka37 (rfl) (fun _ => uu2 (by decide)) (fun r37_105 f37_105 => ?_)
                  refine z_iload_n 2 dX7_readsRoads_108 rfl ?_
                  exact z_iret C dX7_readsRoads_109 rfl ⟨_, rfl, ⟨r44, Or.inl ⟨uq1, by omega, uhb, uq3⟩, fun uz => absurd uz (by omega), by rw [f37_105, uq4, up_up, rCnt, if_neg (by omega)]⟩⟩
        ·
          refine z_iload 4 dX7_readsRoads_36 rfl ?_
          refine z_bipush dX7_readsRoads_38 rfl ?_
          refine z_bipush dX7_readsRoads_40 rfl ?_
          refine z_sI dX7_readsRoads_42 lX7_94 (by decide) (ct_X7_within en (upR (upR M 37 r37) 44 r44) _ (59) (59) (by omega)) rfl rfl (by exact Nat.le_of_ble_eq_true rfl) ?_
          refine z_goto (tgt := 76) dX7_readsRoads_45 rfl ?_
          refine z_istore (fun y => [(0, rf en 37), (1, vi x1_11), (2, vi x2), (3, vi x3_22), (4, vi x4_29), (5, vi y)]) [1, 2, 3, 4, 5, 0] dX7_readsRoads_76 (by decide) (fun _ => rfl) (fun x5_76 e5_76 => ?_)
          have uhv : x5_76 = rV B x2 := by rw [rV, ← e3_22, ← ug28, ← e4_29, e5_76]; first | rw [if_pos uc33] | rw [if_neg uc33, if_pos uc50] | rw [if_neg uc33, if_neg uc50]
          have uhvr := rV_rg B x2
          refine z_iload 5 dX7_readsRoads_78 rfl ?_
          refine z_if_lt (tgt := 103) dX7_readsRoads_80 rfl (by omega) (fun uc80 => ?_) (fun uc80 => ?_)
          ·
            have uhb : rBad B x2 := by first | exact Or.inl (by omega) | exact Or.inr ⟨by omega, by omega⟩
            refine z_aload_n 0 dX7_readsRoads_103 rfl ?_
            refine z_iconst dX7_readsRoads_104 ?_
            refine z_putI' (r := r37) 7 rfl (fun r => (upR (upR M 37 r) 44 r44)) dX7_readsRoads_105 pfX7_91_6 i37_7 ka37 (rfl) (fun _ => uu2 (by decide)) (fun r37_105 f37_105 => ?_)
            refine z_iload_n 2 dX7_readsRoads_108 rfl ?_
            exact z_iret C dX7_readsRoads_109 rfl ⟨_, rfl, ⟨r44, Or.inl ⟨uq1, by omega, uhb, uq3⟩, fun uz => absurd uz (by omega), by rw [f37_105, uq4, up_up, rCnt, if_neg (by omega)]⟩⟩
          ·
            refine z_iload_n 3 dX7_readsRoads_83 rfl ?_
            refine z_iconst dX7_readsRoads_84 ?_
            refine z_icmp_ne (tgt := 110) dX7_readsRoads_85 rfl (by omega) (fun uc85 => ?_) (fun uc85 => ?_)
            ·
              have uhnb : ¬ rBad B x2 := by rintro (uz | ⟨uz, uz2⟩) <;> omega
              refine z_iload_n 3 dX7_readsRoads_110 rfl ?_
              refine z_iconst dX7_readsRoads_111 ?_
              refine z_icmp_ge (tgt := 129) dX7_readsRoads_112 rfl (by omega) (fun uc112 => ?_) (fun uc112 => ?_)
              ·
                refine z_aload_n 0 dX7_readsRoads_129 rfl ?_
                refine z_dup_a dX7_readsRoads_130 ?_
                have uhq4 : r37 7 = (x2 + 1) / 4 := by rw [uq4, up_s]
                refine z_getI (r := r37) 7 rfl dX7_readsRoads_131 fX7_91_6 i37_7 ka37 (rfl) ?_
                refine z_iload_n 3 dX7_readsRoads_134 rfl ?_
                refine z_iconst dX7_readsRoads_135 ?_
                refine z_icmp_ne (tgt := 143) dX7_readsRoads_136 rfl (by omega) (fun uc136 => ?_) (fun uc136 => ?_)
                ·
                  refine z_iconst dX7_readsRoads_143 ?_
                  refine z_iadd dX7_readsRoads_144 ?_
                  refine z_putI' (r := r37) 7 rfl (fun r => (upR (upR M 37 r) 44 r44)) dX7_readsRoads_145 pfX7_91_6 i37_7 ka37 (rfl) (fun _ => uu2 (by decide)) (fun r37_145 f37_145 => ?_)
                  refine z_iinc (fun y => [(0, rf en 37), (1, vi x1_11), (2, vi y), (3, vi x3_22), (4, vi x4_29), (5, vi x5_76)]) [1, 2, 0, 3, 4, 5] 2 dX7_readsRoads_148 rfl (by decide) (fun _ => rfl) (fun x2_148 e2_148 => ?_)
                  refine z_goto (tgt := 14) dX7_readsRoads_151 rfl ?_
                  refine z_lv [0, 1, 2] [(0, rf en 37), (1, vi x1_11), (2, vi x2_148)] rfl ?_
                  have uq6 : ∀ uj, 0 ≤ uj → uj < x2_148 → ¬ rBad B uj := fun uj ua ub => if uz : uj < x2 then uq3 uj ua uz else (by rw [show uj = x2 by omega]; exact uhnb)
                  exact uih14 x2_148 r37_145 r44 (by omega) (by first | exact ⟨by omega, by omega, uq6, by rw [f37_145, uq4, up_s, up_up]; congr 1; omega, fun uj ua ub uc => if uz : uj = x2 then (by rw [f44_128, uz, show 3 * (x2 / 4) + x2 % 4 = 3 * (x2 / 4) + x3_22 by omega, up_s]; exact uhv) else (by rw [f44_128, up_n _ _ (by omega)]; exact uq5 uj ua (by omega) uc)⟩ | exact ⟨by omega, by omega, uq6, by rw [f37_145, uq4, up_s, up_up]; congr 1; omega, fun uj ua ub uc => uq5 uj ua (by omega) uc⟩)
                ·
                  refine z_iconst dX7_readsRoads_139 ?_
                  refine z_goto (tgt := 144) dX7_readsRoads_140 rfl ?_
                  refine z_iadd dX7_readsRoads_144 ?_
                  refine z_putI' (r := r37) 7 rfl (fun r => (upR (upR M 37 r) 44 r44)) dX7_readsRoads_145 pfX7_91_6 i37_7 ka37 (rfl) (fun _ => uu2 (by decide)) (fun r37_145 f37_145 => ?_)
                  refine z_iinc (fun y => [(0, rf en 37), (1, vi x1_11), (2, vi y), (3, vi x3_22), (4, vi x4_29), (5, vi x5_76)]) [1, 2, 0, 3, 4, 5] 2 dX7_readsRoads_148 rfl (by decide) (fun _ => rfl) (fun x2_148 e2_148 => ?_)
                  refine z_goto (tgt := 14) dX7_readsRoads_151 rfl ?_
                  refine z_lv [0, 1, 2] [(0, rf en 37), (1, vi x1_11), (2, vi x2_148)] rfl ?_
                  have uq6 : ∀ uj, 0 ≤ uj → uj < x2_148 → ¬ rBad B uj := fun uj ua ub => if uz : uj < x2 then uq3 uj ua uz else (by rw [show uj = x2 by omega]; exact uhnb)
                  exact uih14 x2_148 r37_145 r44 (by omega) (by first | exact ⟨by omega, by omega, uq6, by rw [f37_145, uq4, up_s, up_up]; congr 1; omega, fun uj ua ub uc => if uz : uj = x2 then (by rw [f44_128, uz, show 3 * (x2 / 4) + x2 % 4 = 3 * (x2 / 4) + x3_22 by omega, up_s]; exact uhv) else (by rw [f44_128, up_n _ _ (by omega)]; exact uq5 uj ua (by omega) uc)⟩ | exact ⟨by omega, by omega, uq6, by rw [f37_145, uq4, up_s, up_up]; congr 1; omega, fun uj ua ub uc => uq5 uj ua (by omega) uc⟩)
              ·
                refine z_aload_n 0 dX7_readsRoads_115 rfl ?_
                refine z_getR dX7_readsRoads_116 fX7_28_6 i37_8 ka37 ?_
                refine z_iconst dX7_readsRoads_119 ?_
                refine z_iload_n 2 dX7_readsRoads_120 rfl ?_
                refine z_iconst dX7_readsRoads_121 ?_
                refine z_idiv dX7_readsRoads_122 (by omega) ?_
                refine z_imul dX7_readsRoads_123 ?_
                refine z_iload_n 3 dX7_readsRoads_124 rfl ?_
                refine z_iadd dX7_readsRoads_125 ?_
                refine z_iload 5 dX7_readsRoads_126 rfl ?_
                refine z_iast' (r := r44) (fun r => (upR (upR M 37 r37) 44 r)) dX7_readsRoads_128 is44 ka44 (rfl) (by omega) (fun _ => uu1) (fun r44_128 f44_128 => ?_)
                refine z_aload_n 0 dX7_readsRoads_129 rfl ?_
                refine z_dup_a dX7_readsRoads_130 ?_
                have uhq4 : r37 7 = (x2 + 1) / 4 := by rw [uq4, up_s]
                refine z_getI (r := r37) 7 rfl dX7_readsRoads_131 fX7_91_6 i37_7 ka37 (rfl) ?_
                refine z_iload_n 3 dX7_readsRoads_134 rfl ?_
                refine z_iconst dX7_readsRoads_135 ?_
                refine z_icmp_ne (tgt := 143) dX7_readsRoads_136 rfl (by omega) (fun uc136 => ?_) (fun uc136 => ?_)
                ·
                  refine z_iconst dX7_readsRoads_143 ?_
                  refine z_iadd dX7_readsRoads_144 ?_
                  refine z_putI' (r := r37) 7 rfl (fun r => (upR (upR M 37 r) 44 r44_128)) dX7_readsRoads_145 pfX7_91_6 i37_7 ka37 (rfl) (fun _ => uu2 (by decide)) (fun r37_145 f37_145 => ?_)
                  refine z_iinc (fun y => [(0, rf en 37), (1, vi x1_11), (2, vi y), (3, vi x3_22), (4, vi x4_29), (5, vi x5_76)]) [1, 2, 0, 3, 4, 5] 2 dX7_readsRoads_148 rfl (by decide) (fun _ => rfl) (fun x2_148 e2_148 => ?_)
                  refine z_goto (tgt := 14) dX7_readsRoads_151 rfl ?_
                  refine z_lv [0, 1, 2] [(0, rf en 37), (1, vi x1_11), (2, vi x2_148)] rfl ?_
                  have uq6 : ∀ uj, 0 ≤ uj → uj < x2_148 → ¬ rBad B uj := fun uj ua ub => if uz : uj < x2 then uq3 uj ua uz else (by rw [show uj = x2 by omega]; exact uhnb)
                  exact uih14 x2_148 r37_145 r44_128 (by omega) (by first | exact ⟨by omega, by omega, uq6, by rw [f37_145, uq4, up_s, up_up]; congr 1; omega, fun uj ua ub uc => if uz : uj = x2 then (by rw [f44_128, uz, show 3 * (x2 / 4) + x2 % 4 = 3 * (x2 / 4) + x3_22 by omega, up_s]; exact uhv) else (by rw [f44_128, up_n _ _ (by omega)]; exact uq5 uj ua (by omega) uc)⟩ | exact ⟨by omega, by omega, uq6, by rw [f37_145, uq4, up_s, up_up]; congr 1; omega, fun uj ua ub uc => uq5 uj ua (by omega) uc⟩)
                ·
                  refine z_iconst dX7_readsRoads_139 ?_
                  refine z_goto (tgt := 144) dX7_readsRoads_140 rfl ?_
                  refine z_iadd dX7_readsRoads_144 ?_
                  refine z_putI' (r := r37) 7 rfl (fun r => (upR (upR M 37 r) 44 r44_128)) dX7_readsRoads_145 pfX7_91_6 i37_7 ka37 (rfl) (fun _ => uu2 (by decide)) (fun r37_145 f37_145 => ?_)
                  refine z_iinc (fun y => [(0, rf en 37), (1, vi x1_11), (2, vi y), (3, vi x3_22), (4, vi x4_29), (5, vi x5_76)]) [1, 2, 0, 3, 4, 5] 2 dX7_readsRoads_148 rfl (by decide) (fun _ => rfl) (fun x2_148 e2_148 => ?_)
                  refine z_goto (tgt := 14) dX7_readsRoads_151 rfl ?_
                  refine z_lv [0, 1, 2] [(0, rf en 37), (1, vi x1_11), (2, vi x2_148)] rfl ?_
                  have uq6 : ∀ uj, 0 ≤ uj → uj < x2_148 → ¬ rBad B uj := fun uj ua ub => if uz : uj < x2 then uq3 uj ua uz else (by rw [show uj = x2 by omega]; exact uhnb)
                  exact uih14 x2_148 r37_145 r44_128 (by omega) (by first | exact ⟨by omega, by omega, uq6, by rw [f37_145, uq4, up_s, up_up]; congr 1; omega, fun uj ua ub uc => if uz : uj = x2 then (by rw [f44_128, uz, show 3 * (x2 / 4) + x2 % 4 = 3 * (x2 / 4) + x3_22 by omega, up_s]; exact uhv) else (by rw [f44_128, up_n _ _ (by omega)]; exact uq5 uj ua (by omega) uc)⟩ | exact ⟨by omega, by omega, uq6, by rw [f37_145, uq4, up_s, up_up]; congr 1; omega, fun uj ua ub uc => uq5 uj ua (by omega) uc⟩)
            ·
              refine z_iload 5 dX7_readsRoads_88 rfl ?_
              have uhp := uq5 (x2 - 1) (by omega) (by omega) (by omega)
              rw [show 3 * ((x2 - 1) / 4) + (x2 - 1) % 4 = 3 * (x2 / 4) by omega] at uhp
              have uhpr := rV_rg B (x2 - 1)
              refine z_aload_n 0 dX7_readsRoads_90 rfl ?_
              refine z_getR dX7_readsRoads_91 fX7_28_6 i37_8 ka37 ?_
              refine z_iconst dX7_readsRoads_94 ?_
              refine z_iload_n 2 dX7_readsRoads_95 rfl ?_
              refine z_iconst dX7_readsRoads_96 ?_
              refine z_idiv dX7_readsRoads_97 (by omega) ?_
              refine z_imul dX7_readsRoads_98 ?_
              refine z_iald (r := r44) dX7_readsRoads_99 is44 ka44 (rfl) (by omega) ?_
              refine z_icmp_ne (tgt := 110) dX7_readsRoads_100 rfl (by omega) (fun uc100 => ?_) (fun uc100 => ?_)
              ·
                have uhnb : ¬ rBad B x2 := by rintro (uz | ⟨uz, uz2⟩) <;> omega
                refine z_iload_n 3 dX7_readsRoads_110 rfl ?_
                refine z_iconst dX7_readsRoads_111 ?_
                refine z_icmp_ge (tgt := 129) dX7_readsRoads_112 rfl (by omega) (fun uc112 => ?_) (fun uc112 => ?_)
                ·
                  refine z_aload_n 0 dX7_readsRoads_129 rfl ?_
                  refine z_dup_a dX7_readsRoads_130 ?_
                  have uhq4 : r37 7 = (x2 + 1) / 4 := by rw [uq4, up_s]
                  refine z_getI (r := r37) 7 rfl dX7_readsRoads_131 fX7_91_6 i37_7 ka37 (rfl) ?_
                  refine z_iload_n 3 dX7_readsRoads_134 rfl ?_
                  refine z_iconst dX7_readsRoads_135 ?_
                  refine z_icmp_ne (tgt := 143) dX7_readsRoads_136 rfl (by omega) (fun uc136 => ?_) (fun uc136 => ?_)
                  ·
                    refine z_iconst dX7_readsRoads_143 ?_
                    refine z_iadd dX7_readsRoads_144 ?_
                    refine z_putI' (r := r37) 7 rfl (fun r => (upR (upR M 37 r) 44 r44)) dX7_readsRoads_145 pfX7_91_6 i37_7 ka37 (rfl) (fun _ => uu2 (by decide)) (fun r37_145 f37_145 => ?_)
                    refine z_iinc (fun y => [(0, rf en 37), (1, vi x1_11), (2, vi y), (3, vi x3_22), (4, vi x4_29), (5, vi x5_76)]) [1, 2, 0, 3, 4, 5] 2 dX7_readsRoads_148 rfl (by decide) (fun _ => rfl) (fun x2_148 e2_148 => ?_)
                    refine z_goto (tgt := 14) dX7_readsRoads_151 rfl ?_
                    refine z_lv [0, 1, 2] [(0, rf en 37), (1, vi x1_11), (2, vi x2_148)] rfl ?_
                    have uq6 : ∀ uj, 0 ≤ uj → uj < x2_148 → ¬ rBad B uj := fun uj ua ub => if uz : uj < x2 then uq3 uj ua uz else (by rw [show uj = x2 by omega]; exact uhnb)
                    exact uih14 x2_148 r37_145 r44 (by omega) (by first | exact ⟨by omega, by omega, uq6, by rw [f37_145, uq4, up_s, up_up]; congr 1; omega, fun uj ua ub uc => if uz : uj = x2 then (by rw [f44_128, uz, show 3 * (x2 / 4) + x2 % 4 = 3 * (x2 / 4) + x3_22 by omega, up_s]; exact uhv) else (by rw [f44_128, up_n _ _ (by omega)]; exact uq5 uj ua (by omega) uc)⟩ | exact ⟨by omega, by omega, uq6, by rw [f37_145, uq4, up_s, up_up]; congr 1; omega, fun uj ua ub uc => uq5 uj ua (by omega) uc⟩)
                  ·
                    refine z_iconst dX7_readsRoads_139 ?_
                    refine z_goto (tgt := 144) dX7_readsRoads_140 rfl ?_
                    refine z_iadd dX7_readsRoads_144 ?_
                    refine z_putI' (r := r37) 7 rfl (fun r => (upR (upR M 37 r) 44 r44)) dX7_readsRoads_145 pfX7_91_6 i37_7 ka37 (rfl) (fun _ => uu2 (by decide)) (fun r37_145 f37_145 => ?_)
                    refine z_iinc (fun y => [(0, rf en 37), (1, vi x1_11), (2, vi y), (3, vi x3_22), (4, vi x4_29), (5, vi x5_76)]) [1, 2, 0, 3, 4, 5] 2 dX7_readsRoads_148 rfl (by decide) (fun _ => rfl) (fun x2_148 e2_148 => ?_)
                    refine z_goto (tgt := 14) dX7_readsRoads_151 rfl ?_
                    refine z_lv [0, 1, 2] [(0, rf en 37), (1, vi x1_11), (2, vi x2_148)] rfl ?_
                    have uq6 : ∀ uj, 0 ≤ uj → uj < x2_148 → ¬ rBad B uj := fun uj ua ub => if uz : uj < x2 then uq3 uj ua uz else (by rw [show uj = x2 by omega]; exact uhnb)
                    exact uih14 x2_148 r37_145 r44 (by omega) (by first | exact ⟨by omega, by omega, uq6, by rw [f37_145, uq4, up_s, up_up]; congr 1; omega, fun uj ua ub uc => if uz : uj = x2 then (by rw [f44_128, uz, show 3 * (x2 / 4) + x2 % 4 = 3 * (x2 / 4) + x3_22 by omega, up_s]; exact uhv) else (by rw [f44_128, up_n _ _ (by omega)]; exact uq5 uj ua (by omega) uc)⟩ | exact ⟨by omega, by omega, uq6, by rw [f37_145, uq4, up_s, up_up]; congr 1; omega, fun uj ua ub uc => uq5 uj ua (by omega) uc⟩)
                ·
                  refine z_aload_n 0 dX7_readsRoads_115 rfl ?_
                  refine z_getR dX7_readsRoads_116 fX7_28_6 i37_8 ka37 ?_
                  refine z_iconst dX7_readsRoads_119 ?_
                  refine z_iload_n 2 dX7_readsRoads_120 rfl ?_
                  refine z_iconst dX7_readsRoads_121 ?_
                  refine z_idiv dX7_readsRoads_122 (by omega) ?_
                  refine z_imul dX7_readsRoads_123 ?_
                  refine z_iload_n 3 dX7_readsRoads_124 rfl ?_
                  refine z_iadd dX7_readsRoads_125 ?_
                  refine z_iload 5 dX7_readsRoads_126 rfl ?_
                  refine z_iast' (r := r44) (fun r => (upR (upR M 37 r37) 44 r)) dX7_readsRoads_128 is44 ka44 (rfl) (by omega) (fun _ => uu1) (fun r44_128 f44_128 => ?_)
                  refine z_aload_n 0 dX7_readsRoads_129 rfl ?_
                  refine z_dup_a dX7_readsRoads_130 ?_
                  have uhq4 : r37 7 = (x2 + 1) / 4 := by rw [uq4, up_s]
                  refine z_getI (r := r37) 7 rfl dX7_readsRoads_131 fX7_91_6 i37_7 ka37 (rfl) ?_
                  refine z_iload_n 3 dX7_readsRoads_134 rfl ?_
                  refine z_iconst dX7_readsRoads_135 ?_
                  refine z_icmp_ne (tgt := 143) dX7_readsRoads_136 rfl (by omega) (fun uc136 => ?_) (fun uc136 => ?_)
                  ·
                    refine z_iconst dX7_readsRoads_143 ?_
                    refine z_iadd dX7_readsRoads_144 ?_
                    refine z_putI' (r := r37) 7 rfl (fun r => (upR (upR M 37 r) 44 r44_128)) dX7_readsRoads_145 pfX7_91_6 i37_7 ka37 (rfl) (fun _ => uu2 (by decide)) (fun r37_145 f37_145 => ?_)
                    refine z_iinc (fun y => [(0, rf en 37), (1, vi x1_11), (2, vi y), (3, vi x3_22), (4, vi x4_29), (5, vi x5_76)]) [1, 2, 0, 3, 4, 5] 2 dX7_readsRoads_148 rfl (by decide) (fun _ => rfl) (fun x2_148 e2_148 => ?_)
                    refine z_goto (tgt := 14) dX7_readsRoads_151 rfl ?_
                    refine z_lv [0, 1, 2] [(0, rf en 37), (1, vi x1_11), (2, vi x2_148)] rfl ?_
                    have uq6 : ∀ uj, 0 ≤ uj → uj < x2_148 → ¬ rBad B uj := fun uj ua ub => if uz : uj < x2 then uq3 uj ua uz else (by rw [show uj = x2 by omega]; exact uhnb)
                    exact uih14 x2_148 r37_145 r44_128 (by omega) (by first | exact ⟨by omega, by omega, uq6, by rw [f37_145, uq4, up_s, up_up]; congr 1; omega, fun uj ua ub uc => if uz : uj = x2 then (by rw [f44_128, uz, show 3 * (x2 / 4) + x2 % 4 = 3 * (x2 / 4) + x3_22 by omega, up_s]; exact uhv) else (by rw [f44_128, up_n _ _ (by omega)]; exact uq5 uj ua (by omega) uc)⟩ | exact ⟨by omega, by omega, uq6, by rw [f37_145, uq4, up_s, up_up]; congr 1; omega, fun uj ua ub uc => uq5 uj ua (by omega) uc⟩)
                  ·
                    refine z_iconst dX7_readsRoads_139 ?_
                    refine z_goto (tgt := 144) dX7_readsRoads_140 rfl ?_
                    refine z_iadd dX7_readsRoads_144 ?_
                    refine z_putI' (r := r37) 7 rfl (fun r => (upR (upR M 37 r) 44 r44_128)) dX7_readsRoads_145 pfX7_91_6 i37_7 ka37 (rfl) (fun _ => uu2 (by decide)) (fun r37_145 f37_145 => ?_)
                    refine z_iinc (fun y => [(0, rf en 37), (1, vi x1_11), (2, vi y), (3, vi x3_22), (4, vi x4_29), (5, vi x5_76)]) [1, 2, 0, 3, 4, 5] 2 dX7_readsRoads_148 rfl (by decide) (fun _ => rfl) (fun x2_148 e2_148 => ?_)
                    refine z_goto (tgt := 14) dX7_readsRoads_151 rfl ?_
                    refine z_lv [0, 1, 2] [(0, rf en 37), (1, vi x1_11), (2, vi x2_148)] rfl ?_
                    have uq6 : ∀ uj, 0 ≤ uj → uj < x2_148 → ¬ rBad B uj := fun uj ua ub => if uz : uj < x2 then uq3 uj ua uz else (by rw [show uj = x2 by omega]; exact uhnb)
                    exact uih14 x2_148 r37_145 r44_128 (by omega) (by first | exact ⟨by omega, by omega, uq6, by rw [f37_145, uq4, up_s, up_up]; congr 1; omega, fun uj ua ub uc => if uz : uj = x2 then (by rw [f44_128, uz, show 3 * (x2 / 4) + x2 % 4 = 3 * (x2 / 4) + x3_22 by omega, up_s]; exact uhv) else (by rw [f44_128, up_n _ _ (by omega)]; exact uq5 uj ua (by omega) uc)⟩ | exact ⟨by omega, by omega, uq6, by rw [f37_145, uq4, up_s, up_up]; congr 1; omega, fun uj ua ub uc => uq5 uj ua (by omega) uc⟩)
              ·
                have uhb : rBad B x2 := by first | exact Or.inl (by omega) | exact Or.inr ⟨by omega, by omega⟩
                refine z_aload_n 0 dX7_readsRoads_103 rfl ?_
                refine z_iconst dX7_readsRoads_104 ?_
                refine z_putI' (r := r37) 7 rfl (fun r => (upR (upR M 37 r) 44 r44)) dX7_readsRoads_105 pfX7_91_6 i37_7 ka37 (rfl) (fun _ => uu2 (by decide)) (fun r37_105 f37_105 => ?_)
                refine z_iload_n 2 dX7_readsRoads_108 rfl ?_
                exact z_iret C dX7_readsRoads_109 rfl ⟨_, rfl, ⟨r44, Or.inl ⟨uq1, by omega, uhb, uq3⟩, fun uz => absurd uz (by omega), by rw [f37_105, uq4, up_up, rCnt, if_neg (by omega)]⟩⟩
  refine Z.eqM (upR_id (k := 44) wR) ?_
  exact uL14 _ x2_13 r37_2 R (Nat.lt_succ_self _) (⟨by omega, by omega, fun uj ua ub => absurd ub (by omega), by rw [f37_2, e2_13]; rfl, fun uj ua ub => absurd ub (by omega)⟩)
set_option maxRecDepth 100000 in
theorem ct_X7_readsPersons (en : zE) (M : zW) (O : Int → Int) (B : Int → Int) (Y : Int → Int) (P : Int → Int) (wO : M 37 = O) (wB : M 42 = B) (wY : M 43 = Y) (wP : M 45 = P) (hB : ∀ j, 0 ≤ j → j < 96 → 0 ≤ B j ∧ B j ≤ 255) (hY : ∀ j, 0 ≤ j → j < 2 → 0 ≤ Y j ∧ Y j ≤ 47) : Ct en kA yX7_readsPersons mX7_readsPersons [rf en 37] M (pX (fun x N => ∃ r45 : Int → Int, pdF (fun i => B (48 + i)) (Y 1) x ∧ (x = -1 → ∀ j, 0 ≤ j → j < Y 1 → j % 6 < 5 → r45 (5 * (j / 6) + j % 6) = pVl (fun i => B (48 + i)) j) ∧ upR (upR M 37 (up O 9 (pCnt (Y 1) x))) 45 r45 = N)) := by
  refine Ct.of (by decide +kernel) rfl [(0, rf en 37)] rfl (Nat.le_of_ble_eq_true rfl) (fun cx C => ?_)
  refine z_aload_n 0 dX7_readsPersons_0 rfl ?_
  refine z_iconst dX7_readsPersons_1 ?_
  refine z_putI (r := O) 9 rfl dX7_readsPersons_2 pfX7_97_6 i37_9 ka37 (wO) (fun r37_2 f37_2 => ?_)
  refine z_aload_n 0 dX7_readsPersons_5 rfl ?_
  refine z_getR dX7_readsPersons_6 fX7_25_6 i37_6 ka37 ?_
  refine z_iconst dX7_readsPersons_9 ?_
  refine z_ialdB (r := Y) dX7_readsPersons_10 is43 ka43 (wY) (by omega) (hY) (fun uy10 ug10 ub10 => ?_)
  refine z_istore_n (fun y => [(0, rf en 37), (1, vi y)]) [1, 0] dX7_readsPersons_11 (by decide) (fun _ => rfl) (fun x1_11 e1_11 => ?_)
  refine z_iconst dX7_readsPersons_12 ?_
  refine z_istore_n (fun y => [(0, rf en 37), (1, vi x1_11), (2, vi y)]) [1, 2, 0] dX7_readsPersons_13 (by decide) (fun _ => rfl) (fun x2_13 e2_13 => ?_)
  have uL14 : ∀ (fu : Nat) (x2 : Int) (r37 : Int → Int) (r45 : Int → Int), (x1_11 - x2).toNat < fu → (0 ≤ x2 ∧ x2 ≤ x1_11 ∧ (∀ j, 0 ≤ j → j < x2 → ¬ pBad (fun i => B (48 + i)) j) ∧ r37 = up O 9 ((x2 + 1) / 6) ∧ (∀ j, 0 ≤ j → j < x2 → j % 6 < 5 → r45 (5 * (j / 6) + j % 6) = pVl (fun i => B (48 + i)) j)) → Z en kA cx mX7_readsPersons (upR (upR M 37 r37) 45 r45) 14 [(0, rf en 37), (1, vi x1_11), (2, vi x2)] [] := by
    intro fu
    induction fu with
    | zero => intro x2 r37 r45 uhf; exact absurd uhf (Nat.not_lt_zero _)
    | succ fu uih14 =>
      intro x2 r37 r45 uf14 uI14
      obtain ⟨uq1, uq2, uq3, uq4, uq5⟩ := uI14
      have uhy1 := hY 1 (by omega) (by omega)
      refine z_iload_n 2 dX7_readsPersons_14 rfl ?_
      refine z_iload_n 1 dX7_readsPersons_15 rfl ?_
      refine z_icmp_ge (tgt := 98) dX7_readsPersons_16 rfl (by omega) (fun uc16 => ?_) (fun uc16 => ?_)
      ·
        refine z_iload_n 1 dX7_readsPersons_98 rfl ?_
        refine z_if_le (tgt := 117) dX7_readsPersons_99 rfl (by omega) (fun uc99 => ?_) (fun uc99 => ?_)
        ·
          refine z_iconst dX7_readsPersons_117 ?_
          exact z_iret C dX7_readsPersons_118 rfl ⟨_, rfl, ⟨r45, Or.inr (Or.inr ⟨rfl, by omega, fun uj ua ub => uq3 uj ua (by omega)⟩), fun _ uj ua ub uc => uq5 uj ua (by omega) uc, by rw [uq4, pCnt, if_pos rfl, show x2 = Y 1 by omega]⟩⟩
        ·
          refine z_iload_n 1 dX7_readsPersons_102 rfl ?_
          refine z_bipush dX7_readsPersons_103 rfl ?_
          refine z_irem dX7_readsPersons_105 (by omega) ?_
          refine z_iconst dX7_readsPersons_106 ?_
          refine z_icmp_eq (tgt := 117) dX7_readsPersons_107 rfl (by omega) (fun uc107 => ?_) (fun uc107 => ?_)
          ·
            refine z_iconst dX7_readsPersons_117 ?_
            exact z_iret C dX7_readsPersons_118 rfl ⟨_, rfl, ⟨r45, Or.inr (Or.inr ⟨rfl, by omega, fun uj ua ub => uq3 uj ua (by omega)⟩), fun _ uj ua ub uc => uq5 uj ua (by omega) uc, by rw [uq4, pCnt, if_pos rfl, show x2 = Y 1 by omega]⟩⟩
          ·
            refine z_aload_n 0 dX7_readsPersons_110 rfl ?_
            refine z_iconst dX7_readsPersons_111 ?_
            refine z_putI' (r := r37) 9 rfl (fun r => (upR (upR M 37 r) 45 r45)) dX7_readsPersons_112 pfX7_97_6 i37_9 ka37 (rfl) (fun _ => uu2 (by decide)) (fun r37_112 f37_112 => ?_)
            refine z_iload_n 1 dX7_readsPersons_115 rfl ?_
            exact z_iret C dX7_readsPersons_116 rfl ⟨_, rfl, ⟨r45, Or.inr (Or.inl ⟨by omega, by omega, by omega, fun uj ua ub => uq3 uj ua (by omega)⟩), fun uz => absurd uz (by omega), by rw [f37_112, uq4, up_up, pCnt, if_neg (by omega)]⟩⟩
      ·
        refine z_iload_n 2 dX7_readsPersons_19 rfl ?_
        refine z_bipush dX7_readsPersons_20 rfl ?_
        refine z_irem dX7_readsPersons_22 (by omega) ?_
        refine z_istore_n (fun y => [(0, rf en 37), (1, vi x1_11), (2, vi x2), (3, vi y)]) [1, 2, 3, 0] dX7_readsPersons_23 (by decide) (fun _ => rfl) (fun x3_23 e3_23 => ?_)
        refine z_iload_n 3 dX7_readsPersons_24 rfl ?_
        refine z_aload_n 0 dX7_readsPersons_25 rfl ?_
        refine z_getR dX7_readsPersons_26 fX7_22_6 i37_5 ka37 ?_
        refine z_bipush dX7_readsPersons_29 rfl ?_
        refine z_iload_n 2 dX7_readsPersons_31 rfl ?_
        refine z_iadd dX7_readsPersons_32 ?_
        refine z_ialdB (r := B) dX7_readsPersons_33 is42 ka42 (wB) (by omega) (hB) (fun uy33 ug33 ub33 => ?_)
        refine z_sI dX7_readsPersons_34 lX7_100 (by decide) (ct_X7_tellsOf en (upR (upR M 37 r37) 45 r45) _ _ (by omega)) rfl rfl (by exact Nat.le_of_ble_eq_true rfl) ?_
        refine z_istore (fun y => [(0, rf en 37), (1, vi x1_11), (2, vi x2), (3, vi x3_23), (4, vi y)]) [1, 2, 3, 4, 0] dX7_readsPersons_37 (by decide) (fun _ => rfl) (fun x4_37 e4_37 => ?_)
        have uhv : x4_37 = pVl (fun i => B (48 + i)) x2 := by rw [e4_37, ug33, e3_23]; rfl
        have uhvr := tel_rg (x2 % 6) (B (48 + x2))
        have uhvr2 : pVl (fun i => B (48 + i)) x2 = tel (x2 % 6) (B (48 + x2)) := rfl
        refine z_iload 4 dX7_readsPersons_39 rfl ?_
        refine z_bipush dX7_readsPersons_41 rfl ?_
        refine z_icmp_ne (tgt := 53) dX7_readsPersons_43 rfl (by omega) (fun uc43 => ?_) (fun uc43 => ?_)
        ·
          have uhnb : ¬ pBad (fun i => B (48 + i)) x2 := by unfold pBad; omega
          refine z_iload_n 3 dX7_readsPersons_53 rfl ?_
          refine z_iconst dX7_readsPersons_54 ?_
          refine z_icmp_ge (tgt := 73) dX7_readsPersons_55 rfl (by omega) (fun uc55 => ?_) (fun uc55 => ?_)
          ·
            refine z_aload_n 0 dX7_readsPersons_73 rfl ?_
            refine z_dup_a dX7_readsPersons_74 ?_
            have uhq4 : r37 9 = (x2 + 1) / 6 := by rw [uq4, up_s]
            refine z_getI (r := r37) 9 rfl dX7_readsPersons_75 fX7_97_6 i37_9 ka37 (rfl) ?_
            refine z_iload_n 3 dX7_readsPersons_78 rfl ?_
            refine z_iconst dX7_readsPersons_79 ?_
            refine z_icmp_ne (tgt := 87) dX7_readsPersons_80 rfl (by omega) (fun uc80 => ?_) (fun uc80 => ?_)
            ·
              refine z_iconst dX7_readsPersons_87 ?_
              refine z_iadd dX7_readsPersons_88 ?_
              refine z_putI' (r := r37) 9 rfl (fun r => (upR (upR M 37 r) 45 r45)) dX7_readsPersons_89 pfX7_97_6 i37_9 ka37 (rfl) (fun _ => uu2 (by decide)) (fun r37_89 f37_89 => ?_)
              refine z_iinc (fun y => [(0, rf en 37), (1, vi x1_11), (2, vi y), (3, vi x3_23), (4, vi x4_37)]) [1, 2, 0, 3, 4] 2 dX7_readsPersons_92 rfl (by decide) (fun _ => rfl) (fun x2_92 e2_92 => ?_)
              refine z_goto (tgt := 14) dX7_readsPersons_95 rfl ?_
              refine z_lv [0, 1, 2] [(0, rf en 37), (1, vi x1_11), (2, vi x2_92)] rfl ?_
              have uq6 : ∀ uj, 0 ≤ uj → uj < x2_92 → ¬ pBad (fun i => B (48 + i)) uj := fun uj ua ub => if uz : uj < x2 then uq3 uj ua uz else (by rw [show uj = x2 by omega]; exact uhnb)
              exact uih14 x2_92 r37_89 r45 (by omega) (by first | exact ⟨by omega, by omega, uq6, by rw [f37_89, uq4, up_s, up_up]; congr 1; omega, fun uj ua ub uc => if uz : uj = x2 then (by rw [f45_72, uz, show 5 * (x2 / 6) + x2 % 6 = 5 * (x2 / 6) + x3_23 by omega, up_s]; exact uhv) else (by rw [f45_72, up_n _ _ (by omega)]; exact uq5 uj ua (by omega) uc)⟩ | exact ⟨by omega, by omega, uq6, by rw [f37_89, uq4, up_s, up_up]; congr 1; omega, fun uj ua ub uc => uq5 uj ua (by omega) uc⟩)
            ·
              refine z_iconst dX7_readsPersons_83 ?_
              refine z_goto (tgt := 88) dX7_readsPersons_84 rfl ?_
              refine z_iadd dX7_readsPersons_88 ?_
              refine z_putI' (r := r37) 9 rfl (fun r => (upR (upR M 37 r) 45 r45)) dX7_readsPersons_89 pfX7_97_6 i37_9 ka37 (rfl) (fun _ => uu2 (by decide)) (fun r37_89 f37_89 => ?_)
              refine z_iinc (fun y => [(0, rf en 37), (1, vi x1_11), (2, vi y), (3, vi x3_23), (4, vi x4_37)]) [1, 2, 0, 3, 4] 2 dX7_readsPersons_92 rfl (by decide) (fun _ => rfl) (fun x2_92 e2_92 => ?_)
              refine z_goto (tgt := 14) dX7_readsPersons_95 rfl ?_
              refine z_lv [0, 1, 2] [(0, rf en 37), (1, vi x1_11), (2, vi x2_92)] rfl ?_
              have uq6 : ∀ uj, 0 ≤ uj → uj < x2_92 → ¬ pBad (fun i => B (48 + i)) uj := fun uj ua ub => if uz : uj < x2 then uq3 uj ua uz else (by rw [show uj = x2 by omega]; exact uhnb)
              exact uih14 x2_92 r37_89 r45 (by omega) (by first | exact ⟨by omega, by omega, uq6, by rw [f37_89, uq4, up_s, up_up]; congr 1; omega, fun uj ua ub uc => if uz : uj = x2 then (by rw [f45_72, uz, show 5 * (x2 / 6) + x2 % 6 = 5 * (x2 / 6) + x3_23 by omega, up_s]; exact uhv) else (by rw [f45_72, up_n _ _ (by omega)]; exact uq5 uj ua (by omega) uc)⟩ | exact ⟨by omega, by omega, uq6, by rw [f37_89, uq4, up_s, up_up]; congr 1; omega, fun uj ua ub uc => uq5 uj ua (by omega) uc⟩)
          ·
            refine z_aload_n 0 dX7_readsPersons_58 rfl ?_
            refine z_getR dX7_readsPersons_59 fX7_31_6 i37_10 ka37 ?_
            refine z_iconst dX7_readsPersons_62 ?_
            refine z_iload_n 2 dX7_readsPersons_63 rfl ?_
            refine z_bipush dX7_readsPersons_64 rfl ?_
            refine z_idiv dX7_readsPersons_66 (by omega) ?_
            refine z_imul dX7_readsPersons_67 ?_
            refine z_iload_n 3 dX7_readsPersons_68 rfl ?_
            refine z_iadd dX7_readsPersons_69 ?_
            refine z_iload 4 dX7_readsPersons_70 rfl ?_
            refine z_iast' (r := r45) (fun r => (upR (upR M 37 r37) 45 r)) dX7_readsPersons_72 is45 ka45 (rfl) (by omega) (fun _ => uu1) (fun r45_72 f45_72 => ?_)
            refine z_aload_n 0 dX7_readsPersons_73 rfl ?_
            refine z_dup_a dX7_readsPersons_74 ?_
            have uhq4 : r37 9 = (x2 + 1) / 6 := by rw [uq4, up_s]
            refine z_getI (r := r37) 9 rfl dX7_readsPersons_75 fX7_97_6 i37_9 ka37 (rfl) ?_
            refine z_iload_n 3 dX7_readsPersons_78 rfl ?_
            refine z_iconst dX7_readsPersons_79 ?_
            refine z_icmp_ne (tgt := 87) dX7_readsPersons_80 rfl (by omega) (fun uc80 => ?_) (fun uc80 => ?_)
            ·
              refine z_iconst dX7_readsPersons_87 ?_
              refine z_iadd dX7_readsPersons_88 ?_
              refine z_putI' (r := r37) 9 rfl (fun r => (upR (upR M 37 r) 45 r45_72)) dX7_readsPersons_89 pfX7_97_6 i37_9 ka37 (rfl) (fun _ => uu2 (by decide)) (fun r37_89 f37_89 => ?_)
              refine z_iinc (fun y => [(0, rf en 37), (1, vi x1_11), (2, vi y), (3, vi x3_23), (4, vi x4_37)]) [1, 2, 0, 3, 4] 2 dX7_readsPersons_92 rfl (by decide) (fun _ => rfl) (fun x2_92 e2_92 => ?_)
              refine z_goto (tgt := 14) dX7_readsPersons_95 rfl ?_
              refine z_lv [0, 1, 2] [(0, rf en 37), (1, vi x1_11), (2, vi x2_92)] rfl ?_
              have uq6 : ∀ uj, 0 ≤ uj → uj < x2_92 → ¬ pBad (fun i => B (48 + i)) uj := fun uj ua ub => if uz : uj < x2 then uq3 uj ua uz else (by rw [show uj = x2 by omega]; exact uhnb)
              exact uih14 x2_92 r37_89 r45_72 (by omega) (by first | exact ⟨by omega, by omega, uq6, by rw [f37_89, uq4, up_s, up_up]; congr 1; omega, fun uj ua ub uc => if uz : uj = x2 then (by rw [f45_72, uz, show 5 * (x2 / 6) + x2 % 6 = 5 * (x2 / 6) + x3_23 by omega, up_s]; exact uhv) else (by rw [f45_72, up_n _ _ (by omega)]; exact uq5 uj ua (by omega) uc)⟩ | exact ⟨by omega, by omega, uq6, by rw [f37_89, uq4, up_s, up_up]; congr 1; omega, fun uj ua ub uc => uq5 uj ua (by omega) uc⟩)
            ·
              refine z_iconst dX7_readsPersons_83 ?_
              refine z_goto (tgt := 88) dX7_readsPersons_84 rfl ?_
              refine z_iadd dX7_readsPersons_88 ?_
              refine z_putI' (r := r37) 9 rfl (fun r => (upR (upR M 37 r) 45 r45_72)) dX7_readsPersons_89 pfX7_97_6 i37_9 ka37 (rfl) (fun _ => uu2 (by decide)) (fun r37_89 f37_89 => ?_)
              refine z_iinc (fun y => [(0, rf en 37), (1, vi x1_11), (2, vi y), (3, vi x3_23), (4, vi x4_37)]) [1, 2, 0, 3, 4] 2 dX7_readsPersons_92 rfl (by decide) (fun _ => rfl) (fun x2_92 e2_92 => ?_)
              refine z_goto (tgt := 14) dX7_readsPersons_95 rfl ?_
              refine z_lv [0, 1, 2] [(0, rf en 37), (1, vi x1_11), (2, vi x2_92)] rfl ?_
              have uq6 : ∀ uj, 0 ≤ uj → uj < x2_92 → ¬ pBad (fun i => B (48 + i)) uj := fun uj ua ub => if uz : uj < x2 then uq3 uj ua uz else (by rw [show uj = x2 by omega]; exact uhnb)
              exact uih14 x2_92 r37_89 r45_72 (by omega) (by first | exact ⟨by omega, by omega, uq6, by rw [f37_89, uq4, up_s, up_up]; congr 1; omega, fun uj ua ub uc => if uz : uj = x2 then (by rw [f45_72, uz, show 5 * (x2 / 6) + x2 % 6 = 5 * (x2 / 6) + x3_23 by omega, up_s]; exact uhv) else (by rw [f45_72, up_n _ _ (by omega)]; exact uq5 uj ua (by omega) uc)⟩ | exact ⟨by omega, by omega, uq6, by rw [f37_89, uq4, up_s, up_up]; congr 1; omega, fun uj ua ub uc => uq5 uj ua (by omega) uc⟩)
        ·
          have uhb : pBad (fun i => B (48 + i)) x2 := by unfold pBad; omega
          refine z_aload_n 0 dX7_readsPersons_46 rfl ?_
          refine z_iconst dX7_readsPersons_47 ?_
          refine z_putI' (r := r37) 9 rfl (fun r => (upR (upR M 37 r) 45 r45)) dX7_readsPersons_48 pfX7_97_6 i37_9 ka37 (rfl) (fun _ => uu2 (by decide)) (fun r37_48 f37_48 => ?_)
          refine z_iload_n 2 dX7_readsPersons_51 rfl ?_
          exact z_iret C dX7_readsPersons_52 rfl ⟨_, rfl, ⟨r45, Or.inl ⟨uq1, by omega, uhb, uq3⟩, fun uz => absurd uz (by omega), by rw [f37_48, uq4, up_up, pCnt, if_neg (by omega)]⟩⟩
  refine Z.eqM (upR_id (k := 45) wP) ?_
  exact uL14 _ x2_13 r37_2 P (Nat.lt_succ_self _) (⟨by omega, by omega, fun uj ua ub => absurd ub (by omega), by rw [f37_2, e2_13]; rfl, fun uj ua ub => absurd ub (by omega)⟩)
set_option maxRecDepth 100000 in
theorem ct_X7_isPerson (en : zE) (M : zW) (O : Int → Int) (wO : M 37 = O) (p : Int) (h0 : -2147483648 ≤ p ∧ p < 2147483648 ∧ 0 ≤ O 9 ∧ O 9 ≤ 8) : Ct en kA yX7_isPerson mX7_isPerson [rf en 37, vi p] M (pI (bi (0 ≤ p ∧ p ≤ O 9 - 1)) M) := by
  refine Ct.of (by decide +kernel) rfl [(0, rf en 37), (1, vi p)] rfl (Nat.le_of_ble_eq_true rfl) (fun cx C => ?_)
  refine z_iload_n 1 dX7_isPerson_0 rfl ?_
  refine z_i2l dX7_isPerson_1 (by omega) ?_
  refine z_lconst (v := 0) dX7_isPerson_2 rfl ?_
  refine z_aload_n 0 dX7_isPerson_3 rfl ?_
  refine z_getI (r := O) 9 rfl dX7_isPerson_4 fX7_97_6 i37_9 ka37 (wO) ?_
  refine z_iconst dX7_isPerson_7 ?_
  refine z_isub dX7_isPerson_8 ?_
  refine z_i2l dX7_isPerson_9 (by omega) ?_
  refine z_sI dX7_isPerson_10 lX7_57 (by decide) (ct_X7_in en M _ (0) _ (by omega)) rfl rfl (by exact Nat.le_of_ble_eq_true rfl) ?_
  exact z_zret C dX7_isPerson_13 rfl (bi_01) ⟨congrArg (fun z => some (vi z)) (rfl), rfl⟩
set_option maxRecDepth 100000 in
theorem ct_X7_fault (en : zE) (M : zW) (O : Int → Int) (B : Int → Int) (Y : Int → Int) (R : Int → Int) (P : Int → Int) (wO : M 37 = O) (wB : M 42 = B) (wY : M 43 = Y) (wR : M 44 = R) (wP : M 45 = P) (t : Int) (h0 : -2147483648 ≤ t ∧ t < 2147483648) (hB : ∀ j, 0 ≤ j → j < 96 → 0 ≤ B j ∧ B j ≤ 255) (hY : ∀ j, 0 ≤ j → j < 2 → 0 ≤ Y j ∧ Y j ≤ 47) : Ct en kA yX7_fault mX7_fault [rf en 37, vi t] M (pX (fun x N => ((¬ (0 ≤ t ∧ t ≤ 1)) ∧ x = -2 ∧ M = N) ∨ (t = 0 ∧ (∃ r44 : Int → Int, rdF B (Y 0) x ∧ (x = -1 → ∀ j, 0 ≤ j → j < Y 0 → j % 4 < 3 → r44 (3 * (j / 4) + j % 4) = rV B j) ∧ upR (upR M 37 (up O 7 (rCnt (Y 0) x))) 44 r44 = N)) ∨ (t = 1 ∧ (∃ r45 : Int → Int, pdF (fun i => B (48 + i)) (Y 1) x ∧ (x = -1 → ∀ j, 0 ≤ j → j < Y 1 → j % 6 < 5 → r45 (5 * (j / 6) + j % 6) = pVl (fun i => B (48 + i)) j) ∧ upR (upR M 37 (up O 9 (pCnt (Y 1) x))) 45 r45 = N)))) := by
  refine Ct.of (by decide +kernel) rfl [(0, rf en 37), (1, vi t)] rfl (Nat.le_of_ble_eq_true rfl) (fun cx C => ?_)
  refine z_iload_n 1 dX7_fault_0 rfl ?_
  refine z_sI dX7_fault_1 lX7_86 (by decide) (ct_X7_isTwo en M _ (by omega)) rfl rfl (by exact Nat.le_of_ble_eq_true rfl) ?_
  refine z_ifne_b (tgt := 12) dX7_fault_4 rfl (fun uc4 => ?_) (fun uc4 => ?_)
  ·
    refine z_iload_n 1 dX7_fault_12 rfl ?_
    refine z_if_ne (tgt := 23) dX7_fault_13 rfl (by omega) (fun uc13 => ?_) (fun uc13 => ?_)
    ·
      refine z_aload_n 0 dX7_fault_23 rfl ?_
      refine z_vX dX7_fault_24 lX7_107 (by decide) ka37 io37 rfl (ct_X7_readsPersons en M O B Y P wO wB wY wP (hB) (hY)) rfl rfl (by exact Nat.le_of_ble_eq_true rfl) (fun uv24 uN24 uh24 => ?_)
      obtain ⟨r45_24, uhr24, uhs24, rfl⟩ := uh24
      exact z_iret C dX7_fault_27 rfl ⟨_, rfl, (by first | exact Or.inl ⟨by omega, rfl, rfl⟩ | exact Or.inr (Or.inl ⟨by omega, r44_17, uhr17, uhs17, rfl⟩) | exact Or.inr (Or.inr ⟨by omega, r45_24, uhr24, uhs24, rfl⟩))⟩
    ·
      refine z_aload_n 0 dX7_fault_16 rfl ?_
      refine z_vX dX7_fault_17 lX7_103 (by decide) ka37 io37 rfl (ct_X7_readsRoads en M O B Y R wO wB wY wR (hB) (hY)) rfl rfl (by exact Nat.le_of_ble_eq_true rfl) (fun uv17 uN17 uh17 => ?_)
      obtain ⟨r44_17, uhr17, uhs17, rfl⟩ := uh17
      refine z_goto (tgt := 27) dX7_fault_20 rfl ?_
      exact z_iret C dX7_fault_27 rfl ⟨_, rfl, (by first | exact Or.inl ⟨by omega, rfl, rfl⟩ | exact Or.inr (Or.inl ⟨by omega, r44_17, uhr17, uhs17, rfl⟩) | exact Or.inr (Or.inr ⟨by omega, r45_24, uhr24, uhs24, rfl⟩))⟩
  ·
    refine z_bipush dX7_fault_7 rfl ?_
    refine z_goto (tgt := 27) dX7_fault_9 rfl ?_
    exact z_iret C dX7_fault_27 rfl ⟨_, rfl, (by first | exact Or.inl ⟨by omega, rfl, rfl⟩ | exact Or.inr (Or.inl ⟨by omega, r44_17, uhr17, uhs17, rfl⟩) | exact Or.inr (Or.inr ⟨by omega, r45_24, uhr24, uhs24, rfl⟩))⟩
set_option maxRecDepth 100000 in
theorem ct_X7_road (en : zE) (M : zW) (O : Int → Int) (B : Int → Int) (Y : Int → Int) (R : Int → Int) (wO : M 37 = O) (wB : M 42 = B) (wY : M 43 = Y) (wR : M 44 = R) (r : Int) (wh : Int) (h0 : -2147483648 ≤ r ∧ r < 2147483648 ∧ -2147483648 ≤ wh ∧ wh < 2147483648) (hB : ∀ j, 0 ≤ j → j < 96 → 0 ≤ B j ∧ B j ≤ 255) (hY : ∀ j, 0 ≤ j → j < 2 → 0 ≤ Y j ∧ Y j ≤ 47) : Ct en kA yX7_road mX7_road [rf en 37, vi r, vi wh] M (pX (fun x N => ∃ v, (∃ r44 : Int → Int, rdF B (Y 0) v ∧ (v = -1 → ∀ j, 0 ≤ j → j < Y 0 → j % 4 < 3 → r44 (3 * (j / 4) + j % 4) = rV B j) ∧ upR (upR M 37 (up O 7 (rCnt (Y 0) v))) 44 r44 = N) ∧ (((0 ≤ r ∧ r ≤ rCnt (Y 0) v - 1) ∧ (0 ≤ wh ∧ wh ≤ 2) ∧ x = rV B (4 * r + wh)) ∨ (¬ ((0 ≤ r ∧ r ≤ rCnt (Y 0) v - 1) ∧ (0 ≤ wh ∧ wh ≤ 2)) ∧ x = -2)))) := by
  refine Ct.of (by decide +kernel) rfl [(0, rf en 37), (1, vi r), (2, vi wh)] rfl (Nat.le_of_ble_eq_true rfl) (fun cx C => ?_)
  refine z_aload_n 0 dX7_road_0 rfl ?_
  refine z_vX dX7_road_1 lX7_103 (by decide) ka37 io37 rfl (ct_X7_readsRoads en M O B Y R wO wB wY wR (hB) (hY)) rfl rfl (by exact Nat.le_of_ble_eq_true rfl) (fun uv1 uN1 uh1 => ?_)
  obtain ⟨r44_1, uhr1, uhs1, rfl⟩ := uh1
  refine z_pop dX7_road_4 ?_
  have uhy0 := hY 0 (by omega) (by omega)
  have uhc : 0 ≤ rCnt (Y 0) uv1 ∧ rCnt (Y 0) uv1 ≤ 12 ∧ (0 < rCnt (Y 0) uv1 → uv1 = -1) ∧ (uv1 = -1 → rCnt (Y 0) uv1 = (Y 0 + 1) / 4 ∧ (Y 0 = 0 ∨ Y 0 % 4 = 3)) := by unfold rCnt; rcases uhr1 with ⟨uh, _, _, _⟩ | ⟨uh, uh2, uh3, _⟩ | ⟨uh, uh2, _⟩ <;> (split <;> omega)
  refine z_iload_n 1 dX7_road_5 rfl ?_
  refine z_i2l dX7_road_6 (by omega) ?_
  refine z_lconst (v := 0) dX7_road_7 rfl ?_
  refine z_aload_n 0 dX7_road_8 rfl ?_
  have uhq : up O 7 (rCnt (Y 0) uv1) 7 = rCnt (Y 0) uv1 := up_s _ _ _
  refine z_getI (r := (up O 7 (rCnt (Y 0) uv1))) 7 rfl dX7_road_9 fX7_91_6 i37_7 ka37 (rfl) ?_
  refine z_iconst dX7_road_12 ?_
  refine z_isub dX7_road_13 ?_
  refine z_i2l dX7_road_14 (by omega) ?_
  refine z_sI dX7_road_15 lX7_57 (by decide) (ct_X7_in en (upR (upR M 37 (up O 7 (rCnt (Y 0) uv1))) 44 r44_1) _ (0) _ (by omega)) rfl rfl (by exact Nat.le_of_ble_eq_true rfl) ?_
  refine z_ifeq_b (tgt := 46) dX7_road_18 rfl (fun uc18 => ?_) (fun uc18 => ?_)
  ·
    refine z_bipush dX7_road_46 rfl ?_
    exact z_iret C dX7_road_48 rfl ⟨_, rfl, ⟨uv1, ⟨r44_1, uhr1, uhs1, rfl⟩, by first | exact Or.inr ⟨by omega, rfl⟩ | exact Or.inl ⟨by omega, by omega, by have uq := uhs1 (by omega) (4 * r + wh) (by omega) (by omega) (by omega); rw [show 3 * ((4 * r + wh) / 4) + (4 * r + wh) % 4 = 3 * r + wh by omega] at uq; exact uq⟩⟩⟩
  ·
    refine z_iload_n 2 dX7_road_21 rfl ?_
    refine z_i2l dX7_road_22 (by omega) ?_
    refine z_lconst (v := 0) dX7_road_23 rfl ?_
    refine z_ldc2 (n := 2) dX7_road_24 kX7_71 rfl ?_
    refine z_sI dX7_road_27 lX7_57 (by decide) (ct_X7_in en (upR (upR M 37 (up O 7 (rCnt (Y 0) uv1))) 44 r44_1) _ (0) (2) (by omega)) rfl rfl (by exact Nat.le_of_ble_eq_true rfl) ?_
    refine z_ifeq_b (tgt := 46) dX7_road_30 rfl (fun uc30 => ?_) (fun uc30 => ?_)
    ·
      refine z_bipush dX7_road_46 rfl ?_
      exact z_iret C dX7_road_48 rfl ⟨_, rfl, ⟨uv1, ⟨r44_1, uhr1, uhs1, rfl⟩, by first | exact Or.inr ⟨by omega, rfl⟩ | exact Or.inl ⟨by omega, by omega, by have uq := uhs1 (by omega) (4 * r + wh) (by omega) (by omega) (by omega); rw [show 3 * ((4 * r + wh) / 4) + (4 * r + wh) % 4 = 3 * r + wh by omega] at uq; exact uq⟩⟩⟩
    ·
      refine z_aload_n 0 dX7_road_33 rfl ?_
      refine z_getR dX7_road_34 fX7_28_6 i37_8 ka37 ?_
      refine z_iconst dX7_road_37 ?_
      refine z_iload_n 1 dX7_road_38 rfl ?_
      refine z_imul dX7_road_39 ?_
      refine z_iload_n 2 dX7_road_40 rfl ?_
      refine z_iadd dX7_road_41 ?_
      refine z_iald (r := r44_1) dX7_road_42 is44 ka44 (rfl) (by omega) ?_
      refine z_goto (tgt := 48) dX7_road_43 rfl ?_
      exact z_iret C dX7_road_48 rfl ⟨_, rfl, ⟨uv1, ⟨r44_1, uhr1, uhs1, rfl⟩, by first | exact Or.inr ⟨by omega, rfl⟩ | exact Or.inl ⟨by omega, by omega, by have uq := uhs1 (by omega) (4 * r + wh) (by omega) (by omega) (by omega); rw [show 3 * ((4 * r + wh) / 4) + (4 * r + wh) % 4 = 3 * r + wh by omega] at uq; exact uq⟩⟩⟩
set_option maxRecDepth 100000 in
theorem ct_X7_person (en : zE) (M : zW) (O : Int → Int) (B : Int → Int) (Y : Int → Int) (P : Int → Int) (wO : M 37 = O) (wB : M 42 = B) (wY : M 43 = Y) (wP : M 45 = P) (p : Int) (wh : Int) (h0 : -2147483648 ≤ p ∧ p < 2147483648 ∧ -2147483648 ≤ wh ∧ wh < 2147483648) (hB : ∀ j, 0 ≤ j → j < 96 → 0 ≤ B j ∧ B j ≤ 255) (hY : ∀ j, 0 ≤ j → j < 2 → 0 ≤ Y j ∧ Y j ≤ 47) : Ct en kA yX7_person mX7_person [rf en 37, vi p, vi wh] M (pX (fun x N => ∃ v, (∃ r45 : Int → Int, pdF (fun i => B (48 + i)) (Y 1) v ∧ (v = -1 → ∀ j, 0 ≤ j → j < Y 1 → j % 6 < 5 → r45 (5 * (j / 6) + j % 6) = pVl (fun i => B (48 + i)) j) ∧ upR (upR M 37 (up O 9 (pCnt (Y 1) v))) 45 r45 = N) ∧ (((0 ≤ p ∧ p ≤ pCnt (Y 1) v - 1) ∧ (0 ≤ wh ∧ wh ≤ 4) ∧ x = pVl (fun i => B (48 + i)) (6 * p + wh)) ∨ (¬ ((0 ≤ p ∧ p ≤ pCnt (Y 1) v - 1) ∧ (0 ≤ wh ∧ wh ≤ 4)) ∧ x = -2)))) := by
  refine Ct.of (by decide +kernel) rfl [(0, rf en 37), (1, vi p), (2, vi wh)] rfl (Nat.le_of_ble_eq_true rfl) (fun cx C => ?_)
  refine z_aload_n 0 dX7_person_0 rfl ?_
  refine z_vX dX7_person_1 lX7_107 (by decide) ka37 io37 rfl (ct_X7_readsPersons en M O B Y P wO wB wY wP (hB) (hY)) rfl rfl (by exact Nat.le_of_ble_eq_true rfl) (fun uv1 uN1 uh1 => ?_)
  obtain ⟨r45_1, uhr1, uhs1, rfl⟩ := uh1
  refine z_pop dX7_person_4 ?_
  have uhy0 := hY 1 (by omega) (by omega)
  have uhc : 0 ≤ pCnt (Y 1) uv1 ∧ pCnt (Y 1) uv1 ≤ 8 ∧ (0 < pCnt (Y 1) uv1 → uv1 = -1) ∧ (uv1 = -1 → pCnt (Y 1) uv1 = (Y 1 + 1) / 6 ∧ (Y 1 = 0 ∨ Y 1 % 6 = 5)) := by unfold pCnt; rcases uhr1 with ⟨uh, _, _, _⟩ | ⟨uh, uh2, uh3, _⟩ | ⟨uh, uh2, _⟩ <;> (split <;> omega)
  have uhq : up O 9 (pCnt (Y 1) uv1) 9 = pCnt (Y 1) uv1 := up_s _ _ _
  refine z_aload_n 0 dX7_person_5 rfl ?_
  refine z_iload_n 1 dX7_person_6 rfl ?_
  refine z_vI dX7_person_7 lX7_112 (by decide) ka37 io37 rfl (ct_X7_isPerson en (upR (upR M 37 (up O 9 (pCnt (Y 1) uv1))) 45 r45_1) (up O 9 (pCnt (Y 1) uv1)) rfl _ (by omega)) rfl rfl (by exact Nat.le_of_ble_eq_true rfl) ?_
  refine z_ifeq_b (tgt := 38) dX7_person_10 rfl (fun uc10 => ?_) (fun uc10 => ?_)
  ·
    refine z_bipush dX7_person_38 rfl ?_
    exact z_iret C dX7_person_40 rfl ⟨_, rfl, ⟨uv1, ⟨r45_1, uhr1, uhs1, rfl⟩, by first | exact Or.inr ⟨by omega, rfl⟩ | exact Or.inl ⟨by omega, by omega, by have uq := uhs1 (by omega) (6 * p + wh) (by omega) (by omega) (by omega); rw [show 5 * ((6 * p + wh) / 6) + (6 * p + wh) % 6 = 5 * p + wh by omega] at uq; exact uq⟩⟩⟩
  ·
    refine z_iload_n 2 dX7_person_13 rfl ?_
    refine z_i2l dX7_person_14 (by omega) ?_
    refine z_lconst (v := 0) dX7_person_15 rfl ?_
    refine z_ldc2 (n := 4) dX7_person_16 kX7_115 rfl ?_
    refine z_sI dX7_person_19 lX7_57 (by decide) (ct_X7_in en (upR (upR M 37 (up O 9 (pCnt (Y 1) uv1))) 45 r45_1) _ (0) (4) (by omega)) rfl rfl (by exact Nat.le_of_ble_eq_true rfl) ?_
    refine z_ifeq_b (tgt := 38) dX7_person_22 rfl (fun uc22 => ?_) (fun uc22 => ?_)
    ·
      refine z_bipush dX7_person_38 rfl ?_
      exact z_iret C dX7_person_40 rfl ⟨_, rfl, ⟨uv1, ⟨r45_1, uhr1, uhs1, rfl⟩, by first | exact Or.inr ⟨by omega, rfl⟩ | exact Or.inl ⟨by omega, by omega, by have uq := uhs1 (by omega) (6 * p + wh) (by omega) (by omega) (by omega); rw [show 5 * ((6 * p + wh) / 6) + (6 * p + wh) % 6 = 5 * p + wh by omega] at uq; exact uq⟩⟩⟩
    ·
      refine z_aload_n 0 dX7_person_25 rfl ?_
      refine z_getR dX7_person_26 fX7_31_6 i37_10 ka37 ?_
      refine z_iconst dX7_person_29 ?_
      refine z_iload_n 1 dX7_person_30 rfl ?_
      refine z_imul dX7_person_31 ?_
      refine z_iload_n 2 dX7_person_32 rfl ?_
      refine z_iadd dX7_person_33 ?_
      refine z_iald (r := r45_1) dX7_person_34 is45 ka45 (rfl) (by omega) ?_
      refine z_goto (tgt := 40) dX7_person_35 rfl ?_
      exact z_iret C dX7_person_40 rfl ⟨_, rfl, ⟨uv1, ⟨r45_1, uhr1, uhs1, rfl⟩, by first | exact Or.inr ⟨by omega, rfl⟩ | exact Or.inl ⟨by omega, by omega, by have uq := uhs1 (by omega) (6 * p + wh) (by omega) (by omega) (by omega); rw [show 5 * ((6 * p + wh) / 6) + (6 * p + wh) % 6 = 5 * p + wh by omega] at uq; exact uq⟩⟩⟩
set_option maxRecDepth 100000 in
theorem ct_X7_set (en : zE) (M : zW) (T : Int → Int) (wT : M 46 = T) (wh : Int) (v : Int) (h0 : -2147483648 ≤ wh ∧ wh < 2147483648 ∧ -2147483648 ≤ v ∧ v < 2147483648) : Ct en kA yX7_set mX7_set [rf en 37, vi wh, vi v] M (pX (fun x N => ((¬ ((0 ≤ wh ∧ wh ≤ 5) ∧ (0 ≤ v ∧ v ≤ (if wh = 5 then 255 else if wh = 1 ∨ wh = 2 then 9 else 7)))) ∧ x = -2 ∧ M = N) ∨ (((0 ≤ wh ∧ wh ≤ 5) ∧ (0 ≤ v ∧ v ≤ (if wh = 5 then 255 else if wh = 1 ∨ wh = 2 then 9 else 7))) ∧ x = T wh ∧ upR M 46 (up T wh v) = N))) := by
  refine Ct.of (by decide +kernel) rfl [(0, rf en 37), (1, vi wh), (2, vi v)] rfl (Nat.le_of_ble_eq_true rfl) (fun cx C => ?_)
  refine z_iload_n 1 dX7_set_0 rfl ?_
  refine z_i2l dX7_set_1 (by omega) ?_
  refine z_lconst (v := 0) dX7_set_2 rfl ?_
  refine z_ldc2 (n := 5) dX7_set_3 kX7_117 rfl ?_
  refine z_sI dX7_set_6 lX7_57 (by decide) (ct_X7_in en M _ (0) (5) (by omega)) rfl rfl (by exact Nat.le_of_ble_eq_true rfl) ?_
  refine z_ifeq_b (tgt := 51) dX7_set_9 rfl (fun uc9 => ?_) (fun uc9 => ?_)
  ·
    refine z_bipush dX7_set_51 rfl ?_
    exact z_iret C dX7_set_53 rfl ⟨_, rfl, Or.inl ⟨by omega, rfl, rfl⟩⟩
  ·
    refine z_iload_n 2 dX7_set_12 rfl ?_
    refine z_i2l dX7_set_13 (by omega) ?_
    refine z_lconst (v := 0) dX7_set_14 rfl ?_
    refine z_iload_n 1 dX7_set_15 rfl ?_
    refine z_iconst dX7_set_16 ?_
    refine z_icmp_ne (tgt := 26) dX7_set_17 rfl (by omega) (fun uc17 => ?_) (fun uc17 => ?_)
    ·
      refine z_iload_n 1 dX7_set_26 rfl ?_
      refine z_iconst dX7_set_27 ?_
      refine z_icmp_eq (tgt := 36) dX7_set_28 rfl (by omega) (fun uc28 => ?_) (fun uc28 => ?_)
      ·
        refine z_ldc2 (n := 9) dX7_set_36 kX7_119 rfl ?_
        refine z_goto (tgt := 45) dX7_set_39 rfl ?_
        refine z_sI dX7_set_45 lX7_57 (by decide) (ct_X7_in en M _ (0) (9) (by omega)) rfl rfl (by exact Nat.le_of_ble_eq_true rfl) ?_
        refine z_ifne_b (tgt := 54) dX7_set_48 rfl (fun uc48 => ?_) (fun uc48 => ?_)
        ·
          refine z_aload_n 0 dX7_set_54 rfl ?_
          refine z_getR dX7_set_55 fX7_34_6 i37_11 ka37 ?_
          refine z_iload_n 1 dX7_set_58 rfl ?_
          refine z_iald (r := T) dX7_set_59 is46 ka46 (wT) (by omega) ?_
          refine z_istore_n (fun y => [(0, rf en 37), (1, vi wh), (2, vi v), (3, vi y)]) [1, 2, 3, 0] dX7_set_60 (by decide) (fun _ => rfl) (fun x3_60 e3_60 => ?_)
          refine z_aload_n 0 dX7_set_61 rfl ?_
          refine z_getR dX7_set_62 fX7_34_6 i37_11 ka37 ?_
          refine z_iload_n 1 dX7_set_65 rfl ?_
          refine z_iload_n 2 dX7_set_66 rfl ?_
          refine z_iast (r := T) dX7_set_67 is46 ka46 (wT) (by omega) (fun r46_67 f46_67 => ?_)
          refine z_iload_n 3 dX7_set_68 rfl ?_
          exact z_iret C dX7_set_69 rfl ⟨_, rfl, Or.inr ⟨by omega, by omega, by subst f46_67; rfl⟩⟩
        ·
          refine z_bipush dX7_set_51 rfl ?_
          exact z_iret C dX7_set_53 rfl ⟨_, rfl, Or.inl ⟨by omega, rfl, rfl⟩⟩
      ·
        refine z_iload_n 1 dX7_set_31 rfl ?_
        refine z_iconst dX7_set_32 ?_
        refine z_icmp_ne (tgt := 42) dX7_set_33 rfl (by omega) (fun uc33 => ?_) (fun uc33 => ?_)
        ·
          refine z_ldc2 (n := 7) dX7_set_42 kX7_110 rfl ?_
          refine z_sI dX7_set_45 lX7_57 (by decide) (ct_X7_in en M _ (0) (7) (by omega)) rfl rfl (by exact Nat.le_of_ble_eq_true rfl) ?_
          refine z_ifne_b (tgt := 54) dX7_set_48 rfl (fun uc48 => ?_) (fun uc48 => ?_)
          ·
            refine z_aload_n 0 dX7_set_54 rfl ?_
            refine z_getR dX7_set_55 fX7_34_6 i37_11 ka37 ?_
            refine z_iload_n 1 dX7_set_58 rfl ?_
            refine z_iald (r := T) dX7_set_59 is46 ka46 (wT) (by omega) ?_
            refine z_istore_n (fun y => [(0, rf en 37), (1, vi wh), (2, vi v), (3, vi y)]) [1, 2, 3, 0] dX7_set_60 (by decide) (fun _ => rfl) (fun x3_60 e3_60 => ?_)
            refine z_aload_n 0 dX7_set_61 rfl ?_
            refine z_getR dX7_set_62 fX7_34_6 i37_11 ka37 ?_
            refine z_iload_n 1 dX7_set_65 rfl ?_
            refine z_iload_n 2 dX7_set_66 rfl ?_
            refine z_iast (r := T) dX7_set_67 is46 ka46 (wT) (by omega) (fun r46_67 f46_67 => ?_)
            refine z_iload_n 3 dX7_set_68 rfl ?_
            exact z_iret C dX7_set_69 rfl ⟨_, rfl, Or.inr ⟨by omega, by omega, by subst f46_67; rfl⟩⟩
          ·
            refine z_bipush dX7_set_51 rfl ?_
            exact z_iret C dX7_set_53 rfl ⟨_, rfl, Or.inl ⟨by omega, rfl, rfl⟩⟩
        ·
          refine z_ldc2 (n := 9) dX7_set_36 kX7_119 rfl ?_
          refine z_goto (tgt := 45) dX7_set_39 rfl ?_
          refine z_sI dX7_set_45 lX7_57 (by decide) (ct_X7_in en M _ (0) (9) (by omega)) rfl rfl (by exact Nat.le_of_ble_eq_true rfl) ?_
          refine z_ifne_b (tgt := 54) dX7_set_48 rfl (fun uc48 => ?_) (fun uc48 => ?_)
          ·
            refine z_aload_n 0 dX7_set_54 rfl ?_
            refine z_getR dX7_set_55 fX7_34_6 i37_11 ka37 ?_
            refine z_iload_n 1 dX7_set_58 rfl ?_
            refine z_iald (r := T) dX7_set_59 is46 ka46 (wT) (by omega) ?_
            refine z_istore_n (fun y => [(0, rf en 37), (1, vi wh), (2, vi v), (3, vi y)]) [1, 2, 3, 0] dX7_set_60 (by decide) (fun _ => rfl) (fun x3_60 e3_60 => ?_)
            refine z_aload_n 0 dX7_set_61 rfl ?_
            refine z_getR dX7_set_62 fX7_34_6 i37_11 ka37 ?_
            refine z_iload_n 1 dX7_set_65 rfl ?_
            refine z_iload_n 2 dX7_set_66 rfl ?_
            refine z_iast (r := T) dX7_set_67 is46 ka46 (wT) (by omega) (fun r46_67 f46_67 => ?_)
            refine z_iload_n 3 dX7_set_68 rfl ?_
            exact z_iret C dX7_set_69 rfl ⟨_, rfl, Or.inr ⟨by omega, by omega, by subst f46_67; rfl⟩⟩
          ·
            refine z_bipush dX7_set_51 rfl ?_
            exact z_iret C dX7_set_53 rfl ⟨_, rfl, Or.inl ⟨by omega, rfl, rfl⟩⟩
    ·
      refine z_ldc2 (n := 255) dX7_set_20 kX7_89 rfl ?_
      refine z_goto (tgt := 45) dX7_set_23 rfl ?_
      refine z_sI dX7_set_45 lX7_57 (by decide) (ct_X7_in en M _ (0) (255) (by omega)) rfl rfl (by exact Nat.le_of_ble_eq_true rfl) ?_
      refine z_ifne_b (tgt := 54) dX7_set_48 rfl (fun uc48 => ?_) (fun uc48 => ?_)
      ·
        refine z_aload_n 0 dX7_set_54 rfl ?_
        refine z_getR dX7_set_55 fX7_34_6 i37_11 ka37 ?_
        refine z_iload_n 1 dX7_set_58 rfl ?_
        refine z_iald (r := T) dX7_set_59 is46 ka46 (wT) (by omega) ?_
        refine z_istore_n (fun y => [(0, rf en 37), (1, vi wh), (2, vi v), (3, vi y)]) [1, 2, 3, 0] dX7_set_60 (by decide) (fun _ => rfl) (fun x3_60 e3_60 => ?_)
        refine z_aload_n 0 dX7_set_61 rfl ?_
        refine z_getR dX7_set_62 fX7_34_6 i37_11 ka37 ?_
        refine z_iload_n 1 dX7_set_65 rfl ?_
        refine z_iload_n 2 dX7_set_66 rfl ?_
        refine z_iast (r := T) dX7_set_67 is46 ka46 (wT) (by omega) (fun r46_67 f46_67 => ?_)
        refine z_iload_n 3 dX7_set_68 rfl ?_
        exact z_iret C dX7_set_69 rfl ⟨_, rfl, Or.inr ⟨by omega, by omega, by subst f46_67; rfl⟩⟩
      ·
        refine z_bipush dX7_set_51 rfl ?_
        exact z_iret C dX7_set_53 rfl ⟨_, rfl, Or.inl ⟨by omega, rfl, rfl⟩⟩
