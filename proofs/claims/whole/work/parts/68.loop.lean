/-! the law's loop -/
set_option maxRecDepth 100000 in
set_option maxHeartbeats 2000000 in
theorem law_loop (en : zE) (cx : zX) {b L : Nat} {xs : Nat → Int32} (hL : L ≤ 384) (hX : lwX cx b L xs) (hC : lwC cx b) (M : zW) (R : Rel M) : Z en kA cx mL_law M 18 [(0, .ref b), (1, rf en 0), (2, rf en 37), (3, vi 0)] [] := by
  have uL18 : ∀ (fu : Nat) (x3 : Int) (Mx : zW), (400 - x3).toNat < fu → (0 ≤ x3 ∧ x3 ≤ 384 ∧ Rel Mx) → Z en kA cx mL_law Mx 18 [(0, .ref b), (1, rf en 0), (2, rf en 37), (3, vi x3)] [] := by
    intro fu
    induction fu with
    | zero => intro x3 Mx uhf; exact absurd uhf (Nat.not_lt_zero _)
    | succ fu uih18 =>
      intro x3 Mx uf18 uI18
      obtain ⟨uq1, uq2, uR⟩ := uI18
      refine z_iload_n 3 dL_law_18 rfl ?_
      refine z_aload_b 0 dL_law_19 rfl ?_
      refine z_slen dL_law_20 hX ?_
      refine z_bipush dL_law_21 rfl ?_
      refine z_isub dL_law_23 ?_
      refine z_icmp_gt (tgt := 1103) dL_law_24 rfl (by omega) (fun uc24 => ?_) (fun uc24 => ?_)
      ·
        refine z_iconst dL_law_1103 ?_
        exact law_ret hC
      ·
        have uk : ∀ M2 : zW, Rel M2 → Z en kA cx mL_law M2 1097 [(0, .ref b), (1, rf en 0), (2, rf en 37), (3, vi x3)] [] := by
          intro M2 uR2
          refine z_iinc (fun y => [(0, .ref b), (1, rf en 0), (2, rf en 37), (3, vi y)]) [1, 2, 3, 0] 3 dL_law_1097 rfl (by decide) (fun _ => rfl) (fun y ey => ?_)
          refine z_goto (tgt := 18) dL_law_1100 rfl ?_
          exact uih18 y M2 (by omega) ⟨by omega, by omega, uR2⟩
        refine z_aload_b 0 dL_law_27 rfl ?_
        refine z_iload_n 3 dL_law_28 rfl ?_
        refine z_sld dL_law_29 hX (by omega) (by omega) ?_
        have us0 := sc_rg xs x3
        refine z_bipush dL_law_30 rfl ?_
        refine z_iand31 dL_law_32 ?_
        refine z_top (fun usw33 eusw33 => ?_)
        by_cases uk33_0 : usw33 = 0
        ·
          refine z_tsw (tgt := 172) (0) uk33_0 dL_law_33 (by decide) rfl rfl ?_
          exact law_0 en cx hL hX x3 (by omega) Mx uR uk
        by_cases uk33_1 : usw33 = 1
        ·
          refine z_tsw (tgt := 205) (1) uk33_1 dL_law_33 (by decide) rfl rfl ?_
          exact law_1 en cx hL hX x3 (by omega) Mx uR uk
        by_cases uk33_2 : usw33 = 2
        ·
          refine z_tsw (tgt := 228) (2) uk33_2 dL_law_33 (by decide) rfl rfl ?_
          exact law_2 en cx hL hX x3 (by omega) Mx uR uk
        by_cases uk33_3 : usw33 = 3
        ·
          refine z_tsw (tgt := 251) (3) uk33_3 dL_law_33 (by decide) rfl rfl ?_
          exact law_3 en cx hL hX x3 (by omega) Mx uR uk
        by_cases uk33_4 : usw33 = 4
        ·
          refine z_tsw (tgt := 274) (4) uk33_4 dL_law_33 (by decide) rfl rfl ?_
          exact law_4 en cx hL hX x3 (by omega) Mx uR uk
        by_cases uk33_5 : usw33 = 5
        ·
          refine z_tsw (tgt := 307) (5) uk33_5 dL_law_33 (by decide) rfl rfl ?_
          exact law_5 en cx hL hX x3 (by omega) Mx uR uk
        by_cases uk33_6 : usw33 = 6
        ·
          refine z_tsw (tgt := 340) (6) uk33_6 dL_law_33 (by decide) rfl rfl ?_
          exact law_6 en cx hL hX x3 (by omega) Mx uR uk
        by_cases uk33_7 : usw33 = 7
        ·
          refine z_tsw (tgt := 373) (7) uk33_7 dL_law_33 (by decide) rfl rfl ?_
          exact law_7 en cx hL hX x3 (by omega) Mx uR uk
        by_cases uk33_8 : usw33 = 8
        ·
          refine z_tsw (tgt := 406) (8) uk33_8 dL_law_33 (by decide) rfl rfl ?_
          exact law_8 en cx hL hX x3 (by omega) Mx uR uk
        by_cases uk33_9 : usw33 = 9
        ·
          refine z_tsw (tgt := 439) (9) uk33_9 dL_law_33 (by decide) rfl rfl ?_
          exact law_9 en cx hL hX x3 (by omega) Mx uR uk
        by_cases uk33_10 : usw33 = 10
        ·
          refine z_tsw (tgt := 452) (10) uk33_10 dL_law_33 (by decide) rfl rfl ?_
          exact law_10 en cx hL hX x3 (by omega) Mx uR uk
        by_cases uk33_11 : usw33 = 11
        ·
          refine z_tsw (tgt := 475) (11) uk33_11 dL_law_33 (by decide) rfl rfl ?_
          exact law_11 en cx hL hX x3 (by omega) Mx uR uk
        by_cases uk33_12 : usw33 = 12
        ·
          refine z_tsw (tgt := 508) (12) uk33_12 dL_law_33 (by decide) rfl rfl ?_
          exact law_12 en cx hL hX x3 (by omega) Mx uR uk
        by_cases uk33_13 : usw33 = 13
        ·
          refine z_tsw (tgt := 531) (13) uk33_13 dL_law_33 (by decide) rfl rfl ?_
          exact law_13 en cx hL hX x3 (by omega) Mx uR uk
        by_cases uk33_14 : usw33 = 14
        ·
          refine z_tsw (tgt := 554) (14) uk33_14 dL_law_33 (by decide) rfl rfl ?_
          exact law_14 en cx hL hX x3 (by omega) Mx uR uk
        by_cases uk33_15 : usw33 = 15
        ·
          refine z_tsw (tgt := 577) (15) uk33_15 dL_law_33 (by decide) rfl rfl ?_
          exact law_15 en cx hL hX x3 (by omega) Mx uR uk
        by_cases uk33_16 : usw33 = 16
        ·
          refine z_tsw (tgt := 600) (16) uk33_16 dL_law_33 (by decide) rfl rfl ?_
          exact law_16 en cx hL hX x3 (by omega) Mx uR uk
        by_cases uk33_17 : usw33 = 17
        ·
          refine z_tsw (tgt := 633) (17) uk33_17 dL_law_33 (by decide) rfl rfl ?_
          exact law_17 en cx hL hX x3 (by omega) Mx uR uk
        by_cases uk33_18 : usw33 = 18
        ·
          refine z_tsw (tgt := 646) (18) uk33_18 dL_law_33 (by decide) rfl rfl ?_
          exact law_18 en cx hL hX x3 (by omega) Mx uR uk
        by_cases uk33_19 : usw33 = 19
        ·
          refine z_tsw (tgt := 669) (19) uk33_19 dL_law_33 (by decide) rfl rfl ?_
          exact law_19 en cx hL hX x3 (by omega) Mx uR uk
        by_cases uk33_20 : usw33 = 20
        ·
          refine z_tsw (tgt := 692) (20) uk33_20 dL_law_33 (by decide) rfl rfl ?_
          exact law_20 en cx hL hX x3 (by omega) Mx uR uk
        by_cases uk33_21 : usw33 = 21
        ·
          refine z_tsw (tgt := 705) (21) uk33_21 dL_law_33 (by decide) rfl rfl ?_
          exact law_21 en cx hL hX x3 (by omega) Mx uR uk
        by_cases uk33_22 : usw33 = 22
        ·
          refine z_tsw (tgt := 759) (22) uk33_22 dL_law_33 (by decide) rfl rfl ?_
          exact law_22 en cx hL hX x3 (by omega) Mx uR uk
        by_cases uk33_23 : usw33 = 23
        ·
          refine z_tsw (tgt := 802) (23) uk33_23 dL_law_33 (by decide) rfl rfl ?_
          exact law_23 en cx hL hX x3 (by omega) Mx uR uk
        by_cases uk33_24 : usw33 = 24
        ·
          refine z_tsw (tgt := 845) (24) uk33_24 dL_law_33 (by decide) rfl rfl ?_
          exact law_24 en cx hL hX x3 (by omega) Mx uR uk
        by_cases uk33_25 : usw33 = 25
        ·
          refine z_tsw (tgt := 868) (25) uk33_25 dL_law_33 (by decide) rfl rfl ?_
          exact law_25 en cx hL hX x3 (by omega) Mx uR uk
        by_cases uk33_26 : usw33 = 26
        ·
          refine z_tsw (tgt := 921) (26) uk33_26 dL_law_33 (by decide) rfl rfl ?_
          exact law_26 en cx hL hX x3 (by omega) Mx uR uk
        by_cases uk33_27 : usw33 = 27
        ·
          refine z_tsw (tgt := 964) (27) uk33_27 dL_law_33 (by decide) rfl rfl ?_
          exact law_27 en cx hL hX x3 (by omega) Mx uR uk
        by_cases uk33_28 : usw33 = 28
        ·
          refine z_tsw (tgt := 1027) (28) uk33_28 dL_law_33 (by decide) rfl rfl ?_
          exact law_28 en cx hL hX x3 (by omega) Mx uR uk
        by_cases uk33_29 : usw33 = 29
        ·
          refine z_tsw (tgt := 1060) (29) uk33_29 dL_law_33 (by decide) rfl rfl ?_
          exact law_29 en cx hL hX x3 (by omega) Mx uR uk
        by_cases uk33_30 : usw33 = 30
        ·
          refine z_tsw (tgt := 1083) (30) uk33_30 dL_law_33 (by decide) rfl rfl ?_
          exact law_30 en cx hL hX x3 (by omega) Mx uR uk
        refine z_tswD (tgt := 1097) dL_law_33 (by omega) rfl ?_
        exact uk Mx uR
  exact uL18 _ 0 M (Nat.lt_succ_self _) (⟨by omega, by omega, R⟩)
