/-! read, with all that it leaves of the row -/
def rdQ0 (I : Int → Int) (a sz : Int) (Sg : Int → Int) (c x : Int) (r : Int → Int) : Prop := (0 ≤ x ∧ 2 * x ≤ sz ∧ c + x ≤ 8) ∧ (∀ k, 0 ≤ k → k < x → okS (I (a + 2 * k)) (I (a + 2 * k + 1)) ∧ r (2 * (c + k)) = I (a + 2 * k) ∧ r (2 * (c + k) + 1) = I (a + 2 * k + 1)) ∧ ∀ j, (j < 2 * c ∨ 2 * (c + x) ≤ j) → r j = Sg j
def rdQ (I : Int → Int) (a sz : Int) (Sg : Int → Int) (c x : Int) (r : Int → Int) : Prop := rdQ0 I a sz Sg c x r ∧ (sz < 2 * x + 2 ∨ c + x = 8 ∨ ¬ okS (I (a + 2 * x)) (I (a + 2 * x + 1)))
theorem rdQ0_s {I : Int → Int} {sz c x : Int} {Sg r7 r8 : Int → Int} (h : rdQ0 I 0 sz Sg c x (sgC r7 r8)) (hc : 0 ≤ c) (h1 : 2 * x + 2 ≤ sz) (h2 : c + x < 8) (ok : okS (I (2 * x)) (I (2 * x + 1))) : rdQ0 I 0 sz Sg c (x + 1) (sgC (up r7 (c + x) (I (2 * x))) (up r8 (c + x) (I (2 * x + 1)))) := by
  obtain ⟨a, b, d⟩ := h
  refine ⟨by omega, fun k k1 k2 => ?_, fun j j1 => ?_⟩
  · rw [Int.zero_add, sgC_0, sgC_1]
    by_cases z : k = x
    · subst z; rw [up_s, up_s]; exact ⟨ok, rfl, rfl⟩
    · rw [up_n _ _ (by omega), up_n _ _ (by omega)]
      have := b k k1 (by omega)
      rw [Int.zero_add, sgC_0, sgC_1] at this
      exact this
  · rw [← d j (by omega)]
    unfold sgC
    rw [up_n _ _ (by omega), up_n _ _ (by omega)]
/-- both read the same -/
theorem rdQ_one {I J : Int → Int} {a b sz : Int} {Sg : Int → Int} {c x y : Int} {r s : Int → Int} (hI : ∀ j, 0 ≤ j → j < sz → I (a + j) = J (b + j)) (h1 : rdQ I a sz Sg c x r) (h2 : rdQ J b sz Sg c y s) : x = y ∧ r = s := by
  obtain ⟨⟨⟨a1, a2, a3⟩, a4, a5⟩, a6⟩ := h1
  obtain ⟨⟨⟨b1, b2, b3⟩, b4, b5⟩, b6⟩ := h2
  have e : ∀ k, 0 ≤ k → 2 * k + 2 ≤ sz → I (a + 2 * k) = J (b + 2 * k) ∧ I (a + 2 * k + 1) = J (b + 2 * k + 1) := fun k k1 k2 => by
    have q1 := hI (2 * k) (by omega) (by omega)
    have q2 := hI (2 * k + 1) (by omega) (by omega)
    rw [← Int.add_assoc, ← Int.add_assoc] at q2
    exact ⟨q1, q2⟩
  have hxy : x = y := by
    rcases Int.lt_trichotomy x y with h | h | h
    · have q := b4 x a1 h
      have w := e x a1 (by omega)
      rw [← w.1, ← w.2] at q
      rcases a6 with z | z | z
      · omega
      · omega
      · exact absurd q.1 z
    · exact h
    · have q := a4 y b1 h
      have w := e y b1 (by omega)
      rw [w.1, w.2] at q
      rcases b6 with z | z | z
      · omega
      · omega
      · exact absurd q.1 z
  subst hxy
  refine ⟨rfl, ?_⟩
  funext j
  by_cases h : j < 2 * c ∨ 2 * (c + x) ≤ j
  · rw [a5 j h, b5 j h]
  · have w := e (j / 2 - c) (by omega) (by omega)
    have p := a4 (j / 2 - c) (by omega) (by omega)
    have q := b4 (j / 2 - c) (by omega) (by omega)
    rw [show c + (j / 2 - c) = j / 2 by omega] at p q
    by_cases z : j % 2 = 0
    · rw [show j = 2 * (j / 2) by omega, p.2.1, q.2.1, w.1]
    · rw [show j = 2 * (j / 2) + 1 by omega, p.2.2, q.2.2, w.2]
set_option maxRecDepth 100000 in
theorem ct_X7_read_q (en : zE) (M : zW) (O : Int → Int) (F : Int → Int) (S : Int → Int) (I : Int → Int) (Sg : Int → Int) (wO : M 37 = O) (wF : M 38 = F) (wS : M 39 = S) (wI : M 40 = I) (wSg : M 51 = Sg) (s : Int) (h0 : -2147483648 ≤ s ∧ s < 2147483648 ∧ 0 ≤ O 16 ∧ O 16 ≤ 8) (hF : ∀ j, 0 ≤ j → j < 4 → -1 ≤ F j ∧ F j ≤ 2) (hS : ∀ j, 0 ≤ j → j < 4 → 0 ≤ S j ∧ S j ≤ 60) (hI : ∀ j, 0 ≤ j → j < 240 → -2147483648 ≤ I j ∧ I j ≤ 2147483647) : Ct en kA yX7_read mX7_read [rf en 37, vi s] M (pX (fun x N => ((¬ (0 ≤ s ∧ s ≤ 3)) ∧ x = -2 ∧ M = N) ∨ (((0 ≤ s ∧ s ≤ 3) ∧ F s < 0) ∧ x = -11 ∧ upR M 37 (up O 4 1) = N) ∨ (((0 ≤ s ∧ s ≤ 3) ∧ 0 ≤ F s) ∧ ∃ r51 : Int → Int, rdQ I (60 * s) (S s) Sg (O 16) x r51 ∧ upR (upR M 51 r51) 37 (up O 16 (O 16 + x)) = N))) := by
  refine Ct.of (by decide +kernel) rfl [(0, rf en 37), (1, vi s)] rfl (Nat.le_of_ble_eq_true rfl) (fun cx C => ?_)
  refine z_iload_n 1 dX7_read_0 rfl ?_
  refine z_sI dX7_read_1 lX7_67 (by decide) (ct_X7_isSheet en M _ (by omega)) rfl rfl (by exact Nat.le_of_ble_eq_true rfl) ?_
  refine z_ifne_b (tgt := 10) dX7_read_4 rfl (fun uc4 => ?_) (fun uc4 => ?_)
  ·
    refine z_aload_n 0 dX7_read_10 rfl ?_
    refine z_getR dX7_read_11 fX7_7_6 i37_0 ka37 ?_
    refine z_iload_n 1 dX7_read_14 rfl ?_
    refine z_ialdB (r := F) dX7_read_15 is38 ka38 (wF) (by omega) (hF) (fun uy15 ug15 ub15 => ?_)
    refine z_if_ge (tgt := 25) dX7_read_16 rfl (by omega) (fun uc16 => ?_) (fun uc16 => ?_)
    ·
      have uq7 := hS s (by omega) (by omega)
      refine z_iconst dX7_read_25 ?_
      refine z_istore_n (fun y => [(0, rf en 37), (1, vi s), (2, vi y)]) [1, 2, 0] dX7_read_26 (by decide) (fun _ => rfl) (fun x2_26 e2_26 => ?_)
      refine z_iconst dX7_read_27 ?_
      refine z_istore_n (fun y => [(0, rf en 37), (1, vi s), (2, vi x2_26), (3, vi y)]) [1, 2, 3, 0] dX7_read_28 (by decide) (fun _ => rfl) (fun x3_28 e3_28 => ?_)
      have uL29 : ∀ (fu : Nat) (x2 : Int) (x3 : Int) (r51 : Int → Int) (r37 : Int → Int), (2 * (S s - x2) + x3).toNat < fu → (rdQ0 I (60 * s) (S s) Sg (O 16) x2 r51 ∧ r37 = up O 16 (O 16 + x2) ∧ (x3 = 1 ∨ (x3 = 0 ∧ (O 16 + x2 = 8 ∨ ¬ okS (I (60 * s + 2 * x2)) (I (60 * s + 2 * x2 + 1)))))) → Z en kA cx mX7_read (upR (upR M 51 r51) 37 r37) 29 [(0, rf en 37), (1, vi s), (2, vi x2), (3, vi x3)] [] := by
        intro fu
        induction fu with
        | zero => intro x2 x3 r51 r37 uhf; exact absurd uhf (Nat.not_lt_zero _)
        | succ fu uih29 =>
          intro x2 x3 r51 r37 uf29 uI29
          obtain ⟨⟨uq1, uq2, uq3⟩, uq4, uq5⟩ := uI29
          have uq6 : r37 16 = O 16 + x2 := by rw [uq4, up_s]
          have uq7 := hS s (by omega) (by omega)
          refine z_iload_n 3 dX7_read_29 rfl ?_
          refine z_if_eq (tgt := 103) dX7_read_30 rfl (by omega) (fun uc30 => ?_) (fun uc30 => ?_)
          ·
            refine z_iload_n 2 dX7_read_103 rfl ?_
            exact z_iret C dX7_read_104 rfl ⟨_, rfl, Or.inr (Or.inr ⟨by omega, r51, ⟨⟨uq1, uq2, uq3⟩, (uq5.elim (fun uz => by omega) (fun uz => Or.inr uz.2))⟩, by rw [uq4]⟩)⟩
          ·
            refine z_iconst dX7_read_33 ?_
            refine z_iload_n 2 dX7_read_34 rfl ?_
            refine z_imul dX7_read_35 ?_
            refine z_iconst dX7_read_36 ?_
            refine z_iadd dX7_read_37 ?_
            refine z_aload_n 0 dX7_read_38 rfl ?_
            refine z_getR dX7_read_39 fX7_13_6 i37_1 ka37 ?_
            refine z_iload_n 1 dX7_read_42 rfl ?_
            refine z_iald (r := S) dX7_read_43 is39 ka39 (wS) (by omega) ?_
            refine z_icmp_gt (tgt := 103) dX7_read_44 rfl (by omega) (fun uc44 => ?_) (fun uc44 => ?_)
            ·
              refine z_iload_n 2 dX7_read_103 rfl ?_
              exact z_iret C dX7_read_104 rfl ⟨_, rfl, Or.inr (Or.inr ⟨by omega, r51, ⟨⟨uq1, uq2, uq3⟩, Or.inl (by omega)⟩, by rw [uq4]⟩)⟩
            ·
              have ui1 := hI (60 * s + 2 * x2) (by omega) (by omega)
              have ui2 := hI (60 * s + 2 * x2 + 1) (by omega) (by omega)
              have uq8 : O 16 + x2 ≤ 8 := by omega
              refine z_aload_n 0 dX7_read_47 rfl ?_
              refine z_aload_n 0 dX7_read_48 rfl ?_
              refine z_getR dX7_read_49 fX7_16_6 i37_2 ka37 ?_
              refine z_bipush dX7_read_52 rfl ?_
              refine z_iload_n 1 dX7_read_54 rfl ?_
              refine z_imul dX7_read_55 ?_
              refine z_iconst dX7_read_56 ?_
              refine z_iload_n 2 dX7_read_57 rfl ?_
              refine z_imul dX7_read_58 ?_
              refine z_iadd dX7_read_59 ?_
              refine z_iald (r := I) dX7_read_60 is40 ka40 (wI) (by omega) ?_
              refine z_aload_n 0 dX7_read_61 rfl ?_
              refine z_getR dX7_read_62 fX7_16_6 i37_2 ka37 ?_
              refine z_bipush dX7_read_65 rfl ?_
              refine z_iload_n 1 dX7_read_67 rfl ?_
              refine z_imul dX7_read_68 ?_
              refine z_iconst dX7_read_69 ?_
              refine z_iload_n 2 dX7_read_70 rfl ?_
              refine z_imul dX7_read_71 ?_
              refine z_iadd dX7_read_72 ?_
              refine z_iconst dX7_read_73 ?_
              refine z_iadd dX7_read_74 ?_
              refine z_iald (r := I) dX7_read_75 is40 ka40 (wI) (by omega) ?_
              refine z_vX dX7_read_76 lX7_197 (by decide) ka37 io37 rfl (ct_X7_seen en (upR (upR M 51 r51) 37 r37) r37 r51 rfl rfl _ _ (by omega)) rfl rfl (by exact Nat.le_of_ble_eq_true rfl) (fun uv76 uN76 uh76 => ?_)
              rcases uh76 with ⟨uk76, rfl, rfl⟩ | ⟨uk76, rfl, rfl⟩ | ⟨uk76, ux76, r51_76, r37_76, uf51_76, uf37_76, rfl⟩
              ·
                refine z_if_lt (tgt := 86) dX7_read_79 rfl (by omega) (fun _ => ?_) (fun z => absurd z (by decide))
                refine z_iconst dX7_read_86 ?_
                refine z_istore_n (fun y => [(0, rf en 37), (1, vi s), (2, vi x2), (3, vi y)]) [1, 2, 3, 0] dX7_read_87 (by decide) (fun _ => rfl) (fun x3_87 e3_87 => ?_)
                refine z_iload_n 2 dX7_read_88 rfl ?_
                refine z_iload_n 3 dX7_read_89 rfl ?_
                refine z_if_eq (tgt := 97) dX7_read_90 rfl (by omega) (fun uc90 => ?_) (fun uc90 => ?_)
                · first
                  | (exfalso; omega)
                  |
                      refine z_iconst dX7_read_97 ?_
                      refine z_iadd dX7_read_98 ?_
                      refine z_istore_n (fun y => [(0, rf en 37), (1, vi s), (2, vi y), (3, vi x3_87)]) [1, 2, 0, 3] dX7_read_99 (by decide) (fun _ => rfl) (fun x2_99 e2_99 => ?_)
                      refine z_goto (tgt := 29) dX7_read_100 rfl ?_
                      exact uih29 x2_99 x3_87 r51 r37 (by omega) (⟨⟨by omega, fun uk ua ub => uq2 uk ua (by omega), fun uj ua => uq3 uj (by omega)⟩, by rw [uq4, show x2_99 = x2 by omega], Or.inr ⟨by omega, Or.inr (by rw [show x2_99 = x2 by omega]; exact uk76)⟩⟩)
                · first
                  | (exfalso; omega)
                  |
                      refine z_iconst dX7_read_93 ?_
                      refine z_goto (tgt := 98) dX7_read_94 rfl ?_
                      refine z_iadd dX7_read_98 ?_
                      refine z_istore_n (fun y => [(0, rf en 37), (1, vi s), (2, vi y), (3, vi x3_87)]) [1, 2, 0, 3] dX7_read_99 (by decide) (fun _ => rfl) (fun x2_99 e2_99 => ?_)
                      refine z_goto (tgt := 29) dX7_read_100 rfl ?_
                      exact uih29 x2_99 x3_87 r51 r37 (by omega) (⟨⟨by omega, fun uk ua ub => uq2 uk ua (by omega), fun uj ua => uq3 uj (by omega)⟩, by rw [uq4, show x2_99 = x2 by omega], Or.inr ⟨by omega, Or.inr (by rw [show x2_99 = x2 by omega]; exact uk76)⟩⟩)
              ·
                refine z_if_lt (tgt := 86) dX7_read_79 rfl (by omega) (fun _ => ?_) (fun z => absurd z (by decide))
                refine z_iconst dX7_read_86 ?_
                refine z_istore_n (fun y => [(0, rf en 37), (1, vi s), (2, vi x2), (3, vi y)]) [1, 2, 3, 0] dX7_read_87 (by decide) (fun _ => rfl) (fun x3_87 e3_87 => ?_)
                refine z_iload_n 2 dX7_read_88 rfl ?_
                refine z_iload_n 3 dX7_read_89 rfl ?_
                refine z_if_eq (tgt := 97) dX7_read_90 rfl (by omega) (fun uc90 => ?_) (fun uc90 => ?_)
                · first
                  | (exfalso; omega)
                  |
                      refine z_iconst dX7_read_97 ?_
                      refine z_iadd dX7_read_98 ?_
                      refine z_istore_n (fun y => [(0, rf en 37), (1, vi s), (2, vi y), (3, vi x3_87)]) [1, 2, 0, 3] dX7_read_99 (by decide) (fun _ => rfl) (fun x2_99 e2_99 => ?_)
                      refine z_goto (tgt := 29) dX7_read_100 rfl ?_
                      exact uih29 x2_99 x3_87 r51 r37 (by omega) (⟨⟨by omega, fun uk ua ub => uq2 uk ua (by omega), fun uj ua => uq3 uj (by omega)⟩, by rw [uq4, show x2_99 = x2 by omega], Or.inr ⟨by omega, Or.inl (by omega)⟩⟩)
                · first
                  | (exfalso; omega)
                  |
                      refine z_iconst dX7_read_93 ?_
                      refine z_goto (tgt := 98) dX7_read_94 rfl ?_
                      refine z_iadd dX7_read_98 ?_
                      refine z_istore_n (fun y => [(0, rf en 37), (1, vi s), (2, vi y), (3, vi x3_87)]) [1, 2, 0, 3] dX7_read_99 (by decide) (fun _ => rfl) (fun x2_99 e2_99 => ?_)
                      refine z_goto (tgt := 29) dX7_read_100 rfl ?_
                      exact uih29 x2_99 x3_87 r51 r37 (by omega) (⟨⟨by omega, fun uk ua ub => uq2 uk ua (by omega), fun uj ua => uq3 uj (by omega)⟩, by rw [uq4, show x2_99 = x2 by omega], Or.inr ⟨by omega, Or.inl (by omega)⟩⟩)
              ·
                rw [uu2 (a := 51) (b0 := 37) (by decide)]
                rw [uu1 (a := 37)]
                refine z_if_lt (tgt := 86) dX7_read_79 rfl (by omega) (fun uc79 => ?_) (fun uc79 => ?_)
                · first
                  | (exfalso; omega)
                  |
                      refine z_iconst dX7_read_86 ?_
                      refine z_istore_n (fun y => [(0, rf en 37), (1, vi s), (2, vi x2), (3, vi y)]) [1, 2, 3, 0] dX7_read_87 (by decide) (fun _ => rfl) (fun x3_87 e3_87 => ?_)
                      refine z_iload_n 2 dX7_read_88 rfl ?_
                      refine z_iload_n 3 dX7_read_89 rfl ?_
                      refine z_if_eq (tgt := 97) dX7_read_90 rfl (by omega) (fun uc90 => ?_) (fun uc90 => ?_)
                      · first
                        | (exfalso; omega)
                        |
                            refine z_iconst dX7_read_97 ?_
                            refine z_iadd dX7_read_98 ?_
                            refine z_istore_n (fun y => [(0, rf en 37), (1, vi s), (2, vi y), (3, vi x3_87)]) [1, 2, 0, 3] dX7_read_99 (by decide) (fun _ => rfl) (fun x2_99 e2_99 => ?_)
                            refine z_goto (tgt := 29) dX7_read_100 rfl ?_
                            exact uih29 x2_99 x3_87 r51_76 r37_76 (by omega) (⟨⟨by omega, fun uk ua ub => if uz : uk = x2 then (by rw [uz, uf51_76, uq6]; exact ⟨uk76.1, by rw [up_n _ _ (by omega), up_s], by rw [up_s]⟩) else (by have ug := uq2 uk ua (by omega); rw [uf51_76, uq6, up_n _ _ (by omega), up_n _ _ (by omega), up_n _ _ (by omega), up_n _ _ (by omega)]; exact ug), fun uj ua => by rw [uf51_76, uq6, up_n _ _ (by omega), up_n _ _ (by omega)]; exact uq3 uj (by omega)⟩, by rw [uf37_76, uq6, uq4, up_up]; congr 1; omega, Or.inl e3_87⟩)
                      · first
                        | (exfalso; omega)
                        |
                            refine z_iconst dX7_read_93 ?_
                            refine z_goto (tgt := 98) dX7_read_94 rfl ?_
                            refine z_iadd dX7_read_98 ?_
                            refine z_istore_n (fun y => [(0, rf en 37), (1, vi s), (2, vi y), (3, vi x3_87)]) [1, 2, 0, 3] dX7_read_99 (by decide) (fun _ => rfl) (fun x2_99 e2_99 => ?_)
                            refine z_goto (tgt := 29) dX7_read_100 rfl ?_
                            exact uih29 x2_99 x3_87 r51_76 r37_76 (by omega) (⟨⟨by omega, fun uk ua ub => if uz : uk = x2 then (by rw [uz, uf51_76, uq6]; exact ⟨uk76.1, by rw [up_n _ _ (by omega), up_s], by rw [up_s]⟩) else (by have ug := uq2 uk ua (by omega); rw [uf51_76, uq6, up_n _ _ (by omega), up_n _ _ (by omega), up_n _ _ (by omega), up_n _ _ (by omega)]; exact ug), fun uj ua => by rw [uf51_76, uq6, up_n _ _ (by omega), up_n _ _ (by omega)]; exact uq3 uj (by omega)⟩, by rw [uf37_76, uq6, uq4, up_up]; congr 1; omega, Or.inl e3_87⟩)
                · first
                  | (exfalso; omega)
                  |
                      refine z_iconst dX7_read_82 ?_
                      refine z_goto (tgt := 87) dX7_read_83 rfl ?_
                      refine z_istore_n (fun y => [(0, rf en 37), (1, vi s), (2, vi x2), (3, vi y)]) [1, 2, 3, 0] dX7_read_87 (by decide) (fun _ => rfl) (fun x3_87 e3_87 => ?_)
                      refine z_iload_n 2 dX7_read_88 rfl ?_
                      refine z_iload_n 3 dX7_read_89 rfl ?_
                      refine z_if_eq (tgt := 97) dX7_read_90 rfl (by omega) (fun uc90 => ?_) (fun uc90 => ?_)
                      · first
                        | (exfalso; omega)
                        |
                            refine z_iconst dX7_read_97 ?_
                            refine z_iadd dX7_read_98 ?_
                            refine z_istore_n (fun y => [(0, rf en 37), (1, vi s), (2, vi y), (3, vi x3_87)]) [1, 2, 0, 3] dX7_read_99 (by decide) (fun _ => rfl) (fun x2_99 e2_99 => ?_)
                            refine z_goto (tgt := 29) dX7_read_100 rfl ?_
                            exact uih29 x2_99 x3_87 r51_76 r37_76 (by omega) (⟨⟨by omega, fun uk ua ub => if uz : uk = x2 then (by rw [uz, uf51_76, uq6]; exact ⟨uk76.1, by rw [up_n _ _ (by omega), up_s], by rw [up_s]⟩) else (by have ug := uq2 uk ua (by omega); rw [uf51_76, uq6, up_n _ _ (by omega), up_n _ _ (by omega), up_n _ _ (by omega), up_n _ _ (by omega)]; exact ug), fun uj ua => by rw [uf51_76, uq6, up_n _ _ (by omega), up_n _ _ (by omega)]; exact uq3 uj (by omega)⟩, by rw [uf37_76, uq6, uq4, up_up]; congr 1; omega, Or.inl e3_87⟩)
                      · first
                        | (exfalso; omega)
                        |
                            refine z_iconst dX7_read_93 ?_
                            refine z_goto (tgt := 98) dX7_read_94 rfl ?_
                            refine z_iadd dX7_read_98 ?_
                            refine z_istore_n (fun y => [(0, rf en 37), (1, vi s), (2, vi y), (3, vi x3_87)]) [1, 2, 0, 3] dX7_read_99 (by decide) (fun _ => rfl) (fun x2_99 e2_99 => ?_)
                            refine z_goto (tgt := 29) dX7_read_100 rfl ?_
                            exact uih29 x2_99 x3_87 r51_76 r37_76 (by omega) (⟨⟨by omega, fun uk ua ub => if uz : uk = x2 then (by rw [uz, uf51_76, uq6]; exact ⟨uk76.1, by rw [up_n _ _ (by omega), up_s], by rw [up_s]⟩) else (by have ug := uq2 uk ua (by omega); rw [uf51_76, uq6, up_n _ _ (by omega), up_n _ _ (by omega), up_n _ _ (by omega), up_n _ _ (by omega)]; exact ug), fun uj ua => by rw [uf51_76, uq6, up_n _ _ (by omega), up_n _ _ (by omega)]; exact uq3 uj (by omega)⟩, by rw [uf37_76, uq6, uq4, up_up]; congr 1; omega, Or.inl e3_87⟩)
      refine Z.eqM (upR_id (k := 51) wSg) ?_
      refine Z.eqM (upR_id (k := 37) wO) ?_
      exact uL29 _ x2_26 x3_28 Sg O (Nat.lt_succ_self _) (⟨⟨by omega, fun uk ua ub => absurd ub (by omega), fun uj ua => rfl⟩, by rw [e2_26, Int.add_zero, up_id], Or.inl e3_28⟩)
    ·
      refine z_aload_n 0 dX7_read_19 rfl ?_
      refine z_iconst dX7_read_20 ?_
      refine z_vI dX7_read_21 lX7_73 (by decide) ka37 io37 rfl (ct_X7_finds en M O wO (1)) rfl rfl (by exact Nat.le_of_ble_eq_true rfl) ?_
      exact z_iret C dX7_read_24 rfl ⟨_, rfl, Or.inr (Or.inl ⟨by omega, rfl, rfl⟩)⟩
  ·
    refine z_bipush dX7_read_7 rfl ?_
    exact z_iret C dX7_read_9 rfl ⟨_, rfl, Or.inl ⟨by omega, rfl, rfl⟩⟩
set_option maxRecDepth 100000 in
theorem ct_X6_read_q (en : zE) (M : zW) (O0 : Int → Int) (Q7 : Int → Int) (Q8 : Int → Int) (S0 : Int → Int) (S1 : Int → Int) (S2 : Int → Int) (S3 : Int → Int) (I0 : Int → Int) (I1 : Int → Int) (I2 : Int → Int) (I3 : Int → Int) (wO0 : M 0 = O0) (wQ7 : M 7 = Q7) (wQ8 : M 8 = Q8) (wS0 : M 10 = S0) (wS1 : M 11 = S1) (wS2 : M 12 = S2) (wS3 : M 13 = S3) (wI0 : M 14 = I0) (wI1 : M 15 = I1) (wI2 : M 16 = I2) (wI3 : M 17 = I3) (s : Int) (h0 : -2147483648 ≤ s ∧ s < 2147483648 ∧ 0 ≤ O0 8 ∧ O0 8 ≤ 8) (hS : ((-1 ≤ S0 0 ∧ S0 0 ≤ 2) ∧ (0 ≤ S0 1 ∧ S0 1 ≤ 60)) ∧ ((-1 ≤ S1 0 ∧ S1 0 ≤ 2) ∧ (0 ≤ S1 1 ∧ S1 1 ≤ 60)) ∧ ((-1 ≤ S2 0 ∧ S2 0 ≤ 2) ∧ (0 ≤ S2 1 ∧ S2 1 ≤ 60)) ∧ ((-1 ≤ S3 0 ∧ S3 0 ≤ 2) ∧ (0 ≤ S3 1 ∧ S3 1 ≤ 60))) (hI : ∀ j, 0 ≤ j → j < 60 → (-2147483648 ≤ I0 j ∧ I0 j ≤ 2147483647) ∧ (-2147483648 ≤ I1 j ∧ I1 j ≤ 2147483647) ∧ (-2147483648 ≤ I2 j ∧ I2 j ≤ 2147483647) ∧ (-2147483648 ≤ I3 j ∧ I3 j ≤ 2147483647)) : Ct en kA yX6_read mX6_read [rf en 0, vi s] M (pX (fun x N => (¬ (0 ≤ s ∧ s ≤ 3) ∧ x = -2 ∧ M = N) ∨ (((0 ≤ s ∧ s ≤ 3) ∧ M (10 + s.toNat) 0 = -1) ∧ x = -11 ∧ upR M 0 (up O0 10 1) = N) ∨ (((0 ≤ s ∧ s ≤ 3) ∧ M (10 + s.toNat) 0 ≠ -1) ∧ ∃ r7 r8 : Int → Int, rdQ (M (14 + s.toNat)) 0 (M (10 + s.toNat) 1) (sgC Q7 Q8) (O0 8) x (sgC r7 r8) ∧ upR (upR (upR M 7 r7) 8 r8) 0 (up O0 8 (O0 8 + x)) = N))) := by
  refine Ct.of (by decide +kernel) rfl [(0, rf en 0), (1, vi s)] rfl (Nat.le_of_ble_eq_true rfl) (fun cx C => ?_)
  refine z_iload_n 1 dX6_read_0 rfl ?_
  refine z_sI dX6_read_1 lX6_183 (by decide) (ct_X6_isSheet en M _ (by omega)) rfl rfl (by exact Nat.le_of_ble_eq_true rfl) ?_
  refine z_ifne_b (tgt := 10) dX6_read_4 rfl (fun uc4 => ?_) (fun uc4 => ?_)
  ·
    refine z_aload_n 0 dX6_read_10 rfl ?_
    refine z_getR dX6_read_11 fX6_59_5 i0_9 ka0 ?_
    refine z_iload_n 1 dX6_read_14 rfl ?_
    have ush_s : s = 0 ∨ s = 1 ∨ s = 2 ∨ s = 3 := by omega
    rcases ush_s with ush_s | ush_s | ush_s | ush_s
    ·
      have ux_s : M (10 + s.toNat) = S0 := by rw [show s.toNat = 0 by omega]; exact wS0
      have uy_s : M (14 + s.toNat) = I0 := by rw [show s.toNat = 0 by omega]; exact wI0
      have uz_s : s.toNat = 0 := by omega
      refine z_aald 0 dX6_read_15 ka9 (by omega) (by decide) ?_
      refine z_astore_n [(0, rf en 0), (1, vi s), (2, rf en 10)] [1, 2, 0] dX6_read_16 (by decide) rfl ?_
      refine z_aload_n 2 dX6_read_17 rfl ?_
      refine z_vI dX6_read_18 lX6_186 (by decide) ka10 io10 rfl (ct_X4_isLost_10 en M S0 wS0 (by omega)) rfl rfl (by exact Nat.le_of_ble_eq_true rfl) ?_
      refine z_ifeq_b (tgt := 30) dX6_read_21 rfl (fun uc21 => ?_) (fun uc21 => ?_)
      ·
        refine z_iconst dX6_read_30 ?_
        refine z_istore_n (fun y => [(0, rf en 0), (1, vi s), (2, rf en 10), (3, vi y)]) [1, 2, 3, 0] dX6_read_31 (by decide) (fun _ => rfl) (fun x3_31 e3_31 => ?_)
        refine z_iconst dX6_read_32 ?_
        refine z_istore (fun y => [(0, rf en 0), (1, vi s), (2, rf en 10), (3, vi x3_31), (4, vi y)]) [1, 2, 3, 4, 0] dX6_read_33 (by decide) (fun _ => rfl) (fun x4_33 e4_33 => ?_)
        have uL35 : ∀ (fu : Nat) (x3 : Int) (x4 : Int) (r7 : Int → Int) (r8 : Int → Int) (r0 : Int → Int), (60 - x4).toNat < fu → (rdQ0 I0 0 (S0 1) (sgC Q7 Q8) (O0 8) x3 (sgC r7 r8) ∧ x4 = 2 * x3 ∧ r0 = up O0 8 (O0 8 + x3)) → Z en kA cx mX6_read (upR (upR (upR M 7 r7) 8 r8) 0 r0) 35 [(0, rf en 0), (1, vi s), (2, rf en 10), (3, vi x3), (4, vi x4)] [] := by
          intro fu
          induction fu with
          | zero => intro x3 x4 r7 r8 r0 uhf; exact absurd uhf (Nat.not_lt_zero _)
          | succ fu uih35 =>
            intro x3 x4 r7 r8 r0 uf35 uI35
            obtain ⟨uq1, uq2, uq3⟩ := uI35
            have uqr := uq1.1
            have uo8 : r0 8 = O0 8 + x3 := by rw [uq3, up_s]
            refine z_iload 4 dX6_read_35 rfl ?_
            refine z_iconst dX6_read_37 ?_
            refine z_iadd dX6_read_38 ?_
            refine z_aload_n 2 dX6_read_39 rfl ?_
            refine z_getI (r := S0) 1 rfl dX6_read_40 fX6_193_4 i10_1 ka10 (wS0) ?_
            refine z_icmp_ge (tgt := 109) dX6_read_43 rfl (by omega) (fun uc43 => ?_) (fun uc43 => ?_)
            ·
              refine z_iload_n 3 dX6_read_109 rfl ?_
              exact z_iret C dX6_read_110 rfl ⟨_, rfl, Or.inr (Or.inr ⟨⟨by omega, by rw [ux_s]; exact uc21⟩, r7, r8, by rw [ux_s, uy_s]; exact ⟨uq1, Or.inl (by omega)⟩, by rw [uq3]⟩)⟩
            ·
              refine z_aload_n 0 dX6_read_46 rfl ?_
              refine z_getI (r := r0) 8 rfl dX6_read_47 fX6_177_5 i0_8 ka0 (rfl) ?_
              refine z_bipush dX6_read_50 rfl ?_
              refine z_icmp_ge (tgt := 109) dX6_read_52 rfl (by omega) (fun uc52 => ?_) (fun uc52 => ?_)
              ·
                refine z_iload_n 3 dX6_read_109 rfl ?_
                exact z_iret C dX6_read_110 rfl ⟨_, rfl, Or.inr (Or.inr ⟨⟨by omega, by rw [ux_s]; exact uc21⟩, r7, r8, by rw [ux_s, uy_s]; exact ⟨uq1, Or.inr (Or.inl (by omega))⟩, by rw [uq3]⟩)⟩
              ·
                refine z_aload_n 2 dX6_read_55 rfl ?_
                refine z_getR dX6_read_56 fX6_194_4 i10_2 ka10 ?_
                refine z_iload 4 dX6_read_59 rfl ?_
                refine z_iald (r := I0) dX6_read_61 is14 ka14 (wI0) (by omega) ?_
                refine z_aload_n 2 dX6_read_62 rfl ?_
                refine z_getR dX6_read_63 fX6_194_4 i10_2 ka10 ?_
                refine z_iload 4 dX6_read_66 rfl ?_
                refine z_iconst dX6_read_68 ?_
                refine z_iadd dX6_read_69 ?_
                refine z_iald (r := I0) dX6_read_70 is14 ka14 (wI0) (by omega) ?_
                have ui1 := hI x4 (by omega) (by omega)
                have ui2 := hI (x4 + 1) (by omega) (by omega)
                refine z_sI dX6_read_71 lX6_174 (by decide) (ct_X6_maySee en (upR (upR (upR M 7 r7) 8 r8) 0 r0) _ _ (by omega)) rfl rfl (by exact Nat.le_of_ble_eq_true rfl) ?_
                refine z_ifne_b (tgt := 80) dX6_read_74 rfl (fun uc74 => ?_) (fun uc74 => ?_)
                ·
                  refine z_aload_n 0 dX6_read_80 rfl ?_
                  refine z_aload_n 2 dX6_read_81 rfl ?_
                  refine z_getR dX6_read_82 fX6_194_4 i10_2 ka10 ?_
                  refine z_iload 4 dX6_read_85 rfl ?_
                  refine z_iald (r := I0) dX6_read_87 is14 ka14 (wI0) (by omega) ?_
                  refine z_aload_n 2 dX6_read_88 rfl ?_
                  refine z_getR dX6_read_89 fX6_194_4 i10_2 ka10 ?_
                  refine z_iload 4 dX6_read_92 rfl ?_
                  refine z_iconst dX6_read_94 ?_
                  refine z_iadd dX6_read_95 ?_
                  refine z_iald (r := I0) dX6_read_96 is14 ka14 (wI0) (by omega) ?_
                  refine z_vV dX6_read_97 lX6_180 (by decide) ka0 io0 rfl (ct_X6_seeMore en (upR (upR (upR M 7 r7) 8 r8) 0 r0) r0 r7 r8 rfl rfl rfl _ _ (by omega)) rfl rfl (by exact Nat.le_of_ble_eq_true rfl) ?_
                  rw [uu3 (a := 7) (b0 := 8) (b1 := 0) (by decide) (by decide)]
                  rw [uu2 (a := 8) (b0 := 0) (by decide)]
                  rw [uu1 (a := 0)]
                  refine z_iinc (fun y => [(0, rf en 0), (1, vi s), (2, rf en 10), (3, vi y), (4, vi x4)]) [1, 2, 3, 0, 4] 3 dX6_read_100 rfl (by decide) (fun _ => rfl) (fun x3_100 e3_100 => ?_)
                  refine z_iinc (fun y => [(0, rf en 0), (1, vi s), (2, rf en 10), (3, vi x3_100), (4, vi y)]) [1, 2, 3, 4, 0] 4 dX6_read_103 rfl (by decide) (fun _ => rfl) (fun x4_103 e4_103 => ?_)
                  refine z_goto (tgt := 35) dX6_read_106 rfl ?_
                  exact uih35 x3_100 x4_103 (up r7 (r0 8) (I0 x4)) (up r8 (r0 8) (I0 (x4 + 1))) (up r0 8 (r0 8 + 1)) (by omega) (⟨by rw [e3_100, uo8, uq2]; exact rdQ0_s uq1 (by omega) (by omega) (by omega) (by rw [← uq2]; exact uc74), by omega, by rw [uo8, e3_100, uq3, up_up]; congr 1; omega⟩)
                ·
                  refine z_goto (tgt := 109) dX6_read_77 rfl ?_
                  refine z_iload_n 3 dX6_read_109 rfl ?_
                  exact z_iret C dX6_read_110 rfl ⟨_, rfl, Or.inr (Or.inr ⟨⟨by omega, by rw [ux_s]; exact uc21⟩, r7, r8, by rw [ux_s, uy_s]; exact ⟨uq1, Or.inr (Or.inr (by rw [Int.zero_add, ← uq2]; exact uc74))⟩, by rw [uq3]⟩)⟩
        refine Z.eqM (upR_id (k := 7) wQ7) ?_
        refine Z.eqM (upR_id (k := 8) wQ8) ?_
        refine Z.eqM (upR_id (k := 0) wO0) ?_
        exact uL35 _ x3_31 x4_33 Q7 Q8 O0 (Nat.lt_succ_self _) (⟨⟨by omega, fun uk ua ub => absurd ub (by omega), fun uj ua => rfl⟩, by omega, by rw [e3_31, Int.add_zero, up_id]⟩)
      ·
        refine z_aload_n 0 dX6_read_24 rfl ?_
        refine z_iconst dX6_read_25 ?_
        refine z_vI dX6_read_26 lX6_190 (by decide) ka0 io0 rfl (ct_X6_found en M O0 wO0 (1)) rfl rfl (by exact Nat.le_of_ble_eq_true rfl) ?_
        exact z_iret C dX6_read_29 rfl ⟨_, rfl, Or.inr (Or.inl ⟨⟨by omega, by rw [ux_s]; exact uc21⟩, rfl, rfl⟩)⟩
    ·
      have ux_s : M (10 + s.toNat) = S1 := by rw [show s.toNat = 1 by omega]; exact wS1
      have uy_s : M (14 + s.toNat) = I1 := by rw [show s.toNat = 1 by omega]; exact wI1
      have uz_s : s.toNat = 1 := by omega
      refine z_aald 1 dX6_read_15 ka9 (by omega) (by decide) ?_
      refine z_astore_n [(0, rf en 0), (1, vi s), (2, rf en 11)] [1, 2, 0] dX6_read_16 (by decide) rfl ?_
      refine z_aload_n 2 dX6_read_17 rfl ?_
      refine z_vI dX6_read_18 lX6_186 (by decide) ka11 io11 rfl (ct_X4_isLost_11 en M S1 wS1 (by omega)) rfl rfl (by exact Nat.le_of_ble_eq_true rfl) ?_
      refine z_ifeq_b (tgt := 30) dX6_read_21 rfl (fun uc21 => ?_) (fun uc21 => ?_)
      ·
        refine z_iconst dX6_read_30 ?_
        refine z_istore_n (fun y => [(0, rf en 0), (1, vi s), (2, rf en 11), (3, vi y)]) [1, 2, 3, 0] dX6_read_31 (by decide) (fun _ => rfl) (fun x3_31 e3_31 => ?_)
        refine z_iconst dX6_read_32 ?_
        refine z_istore (fun y => [(0, rf en 0), (1, vi s), (2, rf en 11), (3, vi x3_31), (4, vi y)]) [1, 2, 3, 4, 0] dX6_read_33 (by decide) (fun _ => rfl) (fun x4_33 e4_33 => ?_)
        have uL35 : ∀ (fu : Nat) (x3 : Int) (x4 : Int) (r7 : Int → Int) (r8 : Int → Int) (r0 : Int → Int), (60 - x4).toNat < fu → (rdQ0 I1 0 (S1 1) (sgC Q7 Q8) (O0 8) x3 (sgC r7 r8) ∧ x4 = 2 * x3 ∧ r0 = up O0 8 (O0 8 + x3)) → Z en kA cx mX6_read (upR (upR (upR M 7 r7) 8 r8) 0 r0) 35 [(0, rf en 0), (1, vi s), (2, rf en 11), (3, vi x3), (4, vi x4)] [] := by
          intro fu
          induction fu with
          | zero => intro x3 x4 r7 r8 r0 uhf; exact absurd uhf (Nat.not_lt_zero _)
          | succ fu uih35 =>
            intro x3 x4 r7 r8 r0 uf35 uI35
            obtain ⟨uq1, uq2, uq3⟩ := uI35
            have uqr := uq1.1
            have uo8 : r0 8 = O0 8 + x3 := by rw [uq3, up_s]
            refine z_iload 4 dX6_read_35 rfl ?_
            refine z_iconst dX6_read_37 ?_
            refine z_iadd dX6_read_38 ?_
            refine z_aload_n 2 dX6_read_39 rfl ?_
            refine z_getI (r := S1) 1 rfl dX6_read_40 fX6_193_4 i11_1 ka11 (wS1) ?_
            refine z_icmp_ge (tgt := 109) dX6_read_43 rfl (by omega) (fun uc43 => ?_) (fun uc43 => ?_)
            ·
              refine z_iload_n 3 dX6_read_109 rfl ?_
              exact z_iret C dX6_read_110 rfl ⟨_, rfl, Or.inr (Or.inr ⟨⟨by omega, by rw [ux_s]; exact uc21⟩, r7, r8, by rw [ux_s, uy_s]; exact ⟨uq1, Or.inl (by omega)⟩, by rw [uq3]⟩)⟩
            ·
              refine z_aload_n 0 dX6_read_46 rfl ?_
              refine z_getI (r := r0) 8 rfl dX6_read_47 fX6_177_5 i0_8 ka0 (rfl) ?_
              refine z_bipush dX6_read_50 rfl ?_
              refine z_icmp_ge (tgt := 109) dX6_read_52 rfl (by omega) (fun uc52 => ?_) (fun uc52 => ?_)
              ·
                refine z_iload_n 3 dX6_read_109 rfl ?_
                exact z_iret C dX6_read_110 rfl ⟨_, rfl, Or.inr (Or.inr ⟨⟨by omega, by rw [ux_s]; exact uc21⟩, r7, r8, by rw [ux_s, uy_s]; exact ⟨uq1, Or.inr (Or.inl (by omega))⟩, by rw [uq3]⟩)⟩
              ·
                refine z_aload_n 2 dX6_read_55 rfl ?_
                refine z_getR dX6_read_56 fX6_194_4 i11_2 ka11 ?_
                refine z_iload 4 dX6_read_59 rfl ?_
                refine z_iald (r := I1) dX6_read_61 is15 ka15 (wI1) (by omega) ?_
                refine z_aload_n 2 dX6_read_62 rfl ?_
                refine z_getR dX6_read_63 fX6_194_4 i11_2 ka11 ?_
                refine z_iload 4 dX6_read_66 rfl ?_
                refine z_iconst dX6_read_68 ?_
                refine z_iadd dX6_read_69 ?_
                refine z_iald (r := I1) dX6_read_70 is15 ka15 (wI1) (by omega) ?_
                have ui1 := hI x4 (by omega) (by omega)
                have ui2 := hI (x4 + 1) (by omega) (by omega)
                refine z_sI dX6_read_71 lX6_174 (by decide) (ct_X6_maySee en (upR (upR (upR M 7 r7) 8 r8) 0 r0) _ _ (by omega)) rfl rfl (by exact Nat.le_of_ble_eq_true rfl) ?_
                refine z_ifne_b (tgt := 80) dX6_read_74 rfl (fun uc74 => ?_) (fun uc74 => ?_)
                ·
                  refine z_aload_n 0 dX6_read_80 rfl ?_
                  refine z_aload_n 2 dX6_read_81 rfl ?_
                  refine z_getR dX6_read_82 fX6_194_4 i11_2 ka11 ?_
                  refine z_iload 4 dX6_read_85 rfl ?_
                  refine z_iald (r := I1) dX6_read_87 is15 ka15 (wI1) (by omega) ?_
                  refine z_aload_n 2 dX6_read_88 rfl ?_
                  refine z_getR dX6_read_89 fX6_194_4 i11_2 ka11 ?_
                  refine z_iload 4 dX6_read_92 rfl ?_
                  refine z_iconst dX6_read_94 ?_
                  refine z_iadd dX6_read_95 ?_
                  refine z_iald (r := I1) dX6_read_96 is15 ka15 (wI1) (by omega) ?_
                  refine z_vV dX6_read_97 lX6_180 (by decide) ka0 io0 rfl (ct_X6_seeMore en (upR (upR (upR M 7 r7) 8 r8) 0 r0) r0 r7 r8 rfl rfl rfl _ _ (by omega)) rfl rfl (by exact Nat.le_of_ble_eq_true rfl) ?_
                  rw [uu3 (a := 7) (b0 := 8) (b1 := 0) (by decide) (by decide)]
                  rw [uu2 (a := 8) (b0 := 0) (by decide)]
                  rw [uu1 (a := 0)]
                  refine z_iinc (fun y => [(0, rf en 0), (1, vi s), (2, rf en 11), (3, vi y), (4, vi x4)]) [1, 2, 3, 0, 4] 3 dX6_read_100 rfl (by decide) (fun _ => rfl) (fun x3_100 e3_100 => ?_)
                  refine z_iinc (fun y => [(0, rf en 0), (1, vi s), (2, rf en 11), (3, vi x3_100), (4, vi y)]) [1, 2, 3, 4, 0] 4 dX6_read_103 rfl (by decide) (fun _ => rfl) (fun x4_103 e4_103 => ?_)
                  refine z_goto (tgt := 35) dX6_read_106 rfl ?_
                  exact uih35 x3_100 x4_103 (up r7 (r0 8) (I1 x4)) (up r8 (r0 8) (I1 (x4 + 1))) (up r0 8 (r0 8 + 1)) (by omega) (⟨by rw [e3_100, uo8, uq2]; exact rdQ0_s uq1 (by omega) (by omega) (by omega) (by rw [← uq2]; exact uc74), by omega, by rw [uo8, e3_100, uq3, up_up]; congr 1; omega⟩)
                ·
                  refine z_goto (tgt := 109) dX6_read_77 rfl ?_
                  refine z_iload_n 3 dX6_read_109 rfl ?_
                  exact z_iret C dX6_read_110 rfl ⟨_, rfl, Or.inr (Or.inr ⟨⟨by omega, by rw [ux_s]; exact uc21⟩, r7, r8, by rw [ux_s, uy_s]; exact ⟨uq1, Or.inr (Or.inr (by rw [Int.zero_add, ← uq2]; exact uc74))⟩, by rw [uq3]⟩)⟩
        refine Z.eqM (upR_id (k := 7) wQ7) ?_
        refine Z.eqM (upR_id (k := 8) wQ8) ?_
        refine Z.eqM (upR_id (k := 0) wO0) ?_
        exact uL35 _ x3_31 x4_33 Q7 Q8 O0 (Nat.lt_succ_self _) (⟨⟨by omega, fun uk ua ub => absurd ub (by omega), fun uj ua => rfl⟩, by omega, by rw [e3_31, Int.add_zero, up_id]⟩)
      ·
        refine z_aload_n 0 dX6_read_24 rfl ?_
        refine z_iconst dX6_read_25 ?_
        refine z_vI dX6_read_26 lX6_190 (by decide) ka0 io0 rfl (ct_X6_found en M O0 wO0 (1)) rfl rfl (by exact Nat.le_of_ble_eq_true rfl) ?_
        exact z_iret C dX6_read_29 rfl ⟨_, rfl, Or.inr (Or.inl ⟨⟨by omega, by rw [ux_s]; exact uc21⟩, rfl, rfl⟩)⟩
    ·
      have ux_s : M (10 + s.toNat) = S2 := by rw [show s.toNat = 2 by omega]; exact wS2
      have uy_s : M (14 + s.toNat) = I2 := by rw [show s.toNat = 2 by omega]; exact wI2
      have uz_s : s.toNat = 2 := by omega
      refine z_aald 2 dX6_read_15 ka9 (by omega) (by decide) ?_
      refine z_astore_n [(0, rf en 0), (1, vi s), (2, rf en 12)] [1, 2, 0] dX6_read_16 (by decide) rfl ?_
      refine z_aload_n 2 dX6_read_17 rfl ?_
      refine z_vI dX6_read_18 lX6_186 (by decide) ka12 io12 rfl (ct_X4_isLost_12 en M S2 wS2 (by omega)) rfl rfl (by exact Nat.le_of_ble_eq_true rfl) ?_
      refine z_ifeq_b (tgt := 30) dX6_read_21 rfl (fun uc21 => ?_) (fun uc21 => ?_)
      ·
        refine z_iconst dX6_read_30 ?_
        refine z_istore_n (fun y => [(0, rf en 0), (1, vi s), (2, rf en 12), (3, vi y)]) [1, 2, 3, 0] dX6_read_31 (by decide) (fun _ => rfl) (fun x3_31 e3_31 => ?_)
        refine z_iconst dX6_read_32 ?_
        refine z_istore (fun y => [(0, rf en 0), (1, vi s), (2, rf en 12), (3, vi x3_31), (4, vi y)]) [1, 2, 3, 4, 0] dX6_read_33 (by decide) (fun _ => rfl) (fun x4_33 e4_33 => ?_)
        have uL35 : ∀ (fu : Nat) (x3 : Int) (x4 : Int) (r7 : Int → Int) (r8 : Int → Int) (r0 : Int → Int), (60 - x4).toNat < fu → (rdQ0 I2 0 (S2 1) (sgC Q7 Q8) (O0 8) x3 (sgC r7 r8) ∧ x4 = 2 * x3 ∧ r0 = up O0 8 (O0 8 + x3)) → Z en kA cx mX6_read (upR (upR (upR M 7 r7) 8 r8) 0 r0) 35 [(0, rf en 0), (1, vi s), (2, rf en 12), (3, vi x3), (4, vi x4)] [] := by
          intro fu
          induction fu with
          | zero => intro x3 x4 r7 r8 r0 uhf; exact absurd uhf (Nat.not_lt_zero _)
          | succ fu uih35 =>
            intro x3 x4 r7 r8 r0 uf35 uI35
            obtain ⟨uq1, uq2, uq3⟩ := uI35
            have uqr := uq1.1
            have uo8 : r0 8 = O0 8 + x3 := by rw [uq3, up_s]
            refine z_iload 4 dX6_read_35 rfl ?_
            refine z_iconst dX6_read_37 ?_
            refine z_iadd dX6_read_38 ?_
            refine z_aload_n 2 dX6_read_39 rfl ?_
            refine z_getI (r := S2) 1 rfl dX6_read_40 fX6_193_4 i12_1 ka12 (wS2) ?_
            refine z_icmp_ge (tgt := 109) dX6_read_43 rfl (by omega) (fun uc43 => ?_) (fun uc43 => ?_)
            ·
              refine z_iload_n 3 dX6_read_109 rfl ?_
              exact z_iret C dX6_read_110 rfl ⟨_, rfl, Or.inr (Or.inr ⟨⟨by omega, by rw [ux_s]; exact uc21⟩, r7, r8, by rw [ux_s, uy_s]; exact ⟨uq1, Or.inl (by omega)⟩, by rw [uq3]⟩)⟩
            ·
              refine z_aload_n 0 dX6_read_46 rfl ?_
              refine z_getI (r := r0) 8 rfl dX6_read_47 fX6_177_5 i0_8 ka0 (rfl) ?_
              refine z_bipush dX6_read_50 rfl ?_
              refine z_icmp_ge (tgt := 109) dX6_read_52 rfl (by omega) (fun uc52 => ?_) (fun uc52 => ?_)
              ·
                refine z_iload_n 3 dX6_read_109 rfl ?_
                exact z_iret C dX6_read_110 rfl ⟨_, rfl, Or.inr (Or.inr ⟨⟨by omega, by rw [ux_s]; exact uc21⟩, r7, r8, by rw [ux_s, uy_s]; exact ⟨uq1, Or.inr (Or.inl (by omega))⟩, by rw [uq3]⟩)⟩
              ·
                refine z_aload_n 2 dX6_read_55 rfl ?_
                refine z_getR dX6_read_56 fX6_194_4 i12_2 ka12 ?_
                refine z_iload 4 dX6_read_59 rfl ?_
                refine z_iald (r := I2) dX6_read_61 is16 ka16 (wI2) (by omega) ?_
                refine z_aload_n 2 dX6_read_62 rfl ?_
                refine z_getR dX6_read_63 fX6_194_4 i12_2 ka12 ?_
                refine z_iload 4 dX6_read_66 rfl ?_
                refine z_iconst dX6_read_68 ?_
                refine z_iadd dX6_read_69 ?_
                refine z_iald (r := I2) dX6_read_70 is16 ka16 (wI2) (by omega) ?_
                have ui1 := hI x4 (by omega) (by omega)
                have ui2 := hI (x4 + 1) (by omega) (by omega)
                refine z_sI dX6_read_71 lX6_174 (by decide) (ct_X6_maySee en (upR (upR (upR M 7 r7) 8 r8) 0 r0) _ _ (by omega)) rfl rfl (by exact Nat.le_of_ble_eq_true rfl) ?_
                refine z_ifne_b (tgt := 80) dX6_read_74 rfl (fun uc74 => ?_) (fun uc74 => ?_)
                ·
                  refine z_aload_n 0 dX6_read_80 rfl ?_
                  refine z_aload_n 2 dX6_read_81 rfl ?_
                  refine z_getR dX6_read_82 fX6_194_4 i12_2 ka12 ?_
                  refine z_iload 4 dX6_read_85 rfl ?_
                  refine z_iald (r := I2) dX6_read_87 is16 ka16 (wI2) (by omega) ?_
                  refine z_aload_n 2 dX6_read_88 rfl ?_
                  refine z_getR dX6_read_89 fX6_194_4 i12_2 ka12 ?_
                  refine z_iload 4 dX6_read_92 rfl ?_
                  refine z_iconst dX6_read_94 ?_
                  refine z_iadd dX6_read_95 ?_
                  refine z_iald (r := I2) dX6_read_96 is16 ka16 (wI2) (by omega) ?_
                  refine z_vV dX6_read_97 lX6_180 (by decide) ka0 io0 rfl (ct_X6_seeMore en (upR (upR (upR M 7 r7) 8 r8) 0 r0) r0 r7 r8 rfl rfl rfl _ _ (by omega)) rfl rfl (by exact Nat.le_of_ble_eq_true rfl) ?_
                  rw [uu3 (a := 7) (b0 := 8) (b1 := 0) (by decide) (by decide)]
                  rw [uu2 (a := 8) (b0 := 0) (by decide)]
                  rw [uu1 (a := 0)]
                  refine z_iinc (fun y => [(0, rf en 0), (1, vi s), (2, rf en 12), (3, vi y), (4, vi x4)]) [1, 2, 3, 0, 4] 3 dX6_read_100 rfl (by decide) (fun _ => rfl) (fun x3_100 e3_100 => ?_)
                  refine z_iinc (fun y => [(0, rf en 0), (1, vi s), (2, rf en 12), (3, vi x3_100), (4, vi y)]) [1, 2, 3, 4, 0] 4 dX6_read_103 rfl (by decide) (fun _ => rfl) (fun x4_103 e4_103 => ?_)
                  refine z_goto (tgt := 35) dX6_read_106 rfl ?_
                  exact uih35 x3_100 x4_103 (up r7 (r0 8) (I2 x4)) (up r8 (r0 8) (I2 (x4 + 1))) (up r0 8 (r0 8 + 1)) (by omega) (⟨by rw [e3_100, uo8, uq2]; exact rdQ0_s uq1 (by omega) (by omega) (by omega) (by rw [← uq2]; exact uc74), by omega, by rw [uo8, e3_100, uq3, up_up]; congr 1; omega⟩)
                ·
                  refine z_goto (tgt := 109) dX6_read_77 rfl ?_
                  refine z_iload_n 3 dX6_read_109 rfl ?_
                  exact z_iret C dX6_read_110 rfl ⟨_, rfl, Or.inr (Or.inr ⟨⟨by omega, by rw [ux_s]; exact uc21⟩, r7, r8, by rw [ux_s, uy_s]; exact ⟨uq1, Or.inr (Or.inr (by rw [Int.zero_add, ← uq2]; exact uc74))⟩, by rw [uq3]⟩)⟩
        refine Z.eqM (upR_id (k := 7) wQ7) ?_
        refine Z.eqM (upR_id (k := 8) wQ8) ?_
        refine Z.eqM (upR_id (k := 0) wO0) ?_
        exact uL35 _ x3_31 x4_33 Q7 Q8 O0 (Nat.lt_succ_self _) (⟨⟨by omega, fun uk ua ub => absurd ub (by omega), fun uj ua => rfl⟩, by omega, by rw [e3_31, Int.add_zero, up_id]⟩)
      ·
        refine z_aload_n 0 dX6_read_24 rfl ?_
        refine z_iconst dX6_read_25 ?_
        refine z_vI dX6_read_26 lX6_190 (by decide) ka0 io0 rfl (ct_X6_found en M O0 wO0 (1)) rfl rfl (by exact Nat.le_of_ble_eq_true rfl) ?_
        exact z_iret C dX6_read_29 rfl ⟨_, rfl, Or.inr (Or.inl ⟨⟨by omega, by rw [ux_s]; exact uc21⟩, rfl, rfl⟩)⟩
    ·
      have ux_s : M (10 + s.toNat) = S3 := by rw [show s.toNat = 3 by omega]; exact wS3
      have uy_s : M (14 + s.toNat) = I3 := by rw [show s.toNat = 3 by omega]; exact wI3
      have uz_s : s.toNat = 3 := by omega
      refine z_aald 3 dX6_read_15 ka9 (by omega) (by decide) ?_
      refine z_astore_n [(0, rf en 0), (1, vi s), (2, rf en 13)] [1, 2, 0] dX6_read_16 (by decide) rfl ?_
      refine z_aload_n 2 dX6_read_17 rfl ?_
      refine z_vI dX6_read_18 lX6_186 (by decide) ka13 io13 rfl (ct_X4_isLost_13 en M S3 wS3 (by omega)) rfl rfl (by exact Nat.le_of_ble_eq_true rfl) ?_
      refine z_ifeq_b (tgt := 30) dX6_read_21 rfl (fun uc21 => ?_) (fun uc21 => ?_)
      ·
        refine z_iconst dX6_read_30 ?_
        refine z_istore_n (fun y => [(0, rf en 0), (1, vi s), (2, rf en 13), (3, vi y)]) [1, 2, 3, 0] dX6_read_31 (by decide) (fun _ => rfl) (fun x3_31 e3_31 => ?_)
        refine z_iconst dX6_read_32 ?_
        refine z_istore (fun y => [(0, rf en 0), (1, vi s), (2, rf en 13), (3, vi x3_31), (4, vi y)]) [1, 2, 3, 4, 0] dX6_read_33 (by decide) (fun _ => rfl) (fun x4_33 e4_33 => ?_)
        have uL35 : ∀ (fu : Nat) (x3 : Int) (x4 : Int) (r7 : Int → Int) (r8 : Int → Int) (r0 : Int → Int), (60 - x4).toNat < fu → (rdQ0 I3 0 (S3 1) (sgC Q7 Q8) (O0 8) x3 (sgC r7 r8) ∧ x4 = 2 * x3 ∧ r0 = up O0 8 (O0 8 + x3)) → Z en kA cx mX6_read (upR (upR (upR M 7 r7) 8 r8) 0 r0) 35 [(0, rf en 0), (1, vi s), (2, rf en 13), (3, vi x3), (4, vi x4)] [] := by
          intro fu
          induction fu with
          | zero => intro x3 x4 r7 r8 r0 uhf; exact absurd uhf (Nat.not_lt_zero _)
          | succ fu uih35 =>
            intro x3 x4 r7 r8 r0 uf35 uI35
            obtain ⟨uq1, uq2, uq3⟩ := uI35
            have uqr := uq1.1
            have uo8 : r0 8 = O0 8 + x3 := by rw [uq3, up_s]
            refine z_iload 4 dX6_read_35 rfl ?_
            refine z_iconst dX6_read_37 ?_
            refine z_iadd dX6_read_38 ?_
            refine z_aload_n 2 dX6_read_39 rfl ?_
            refine z_getI (r := S3) 1 rfl dX6_read_40 fX6_193_4 i13_1 ka13 (wS3) ?_
            refine z_icmp_ge (tgt := 109) dX6_read_43 rfl (by omega) (fun uc43 => ?_) (fun uc43 => ?_)
            ·
              refine z_iload_n 3 dX6_read_109 rfl ?_
              exact z_iret C dX6_read_110 rfl ⟨_, rfl, Or.inr (Or.inr ⟨⟨by omega, by rw [ux_s]; exact uc21⟩, r7, r8, by rw [ux_s, uy_s]; exact ⟨uq1, Or.inl (by omega)⟩, by rw [uq3]⟩)⟩
            ·
              refine z_aload_n 0 dX6_read_46 rfl ?_
              refine z_getI (r := r0) 8 rfl dX6_read_47 fX6_177_5 i0_8 ka0 (rfl) ?_
              refine z_bipush dX6_read_50 rfl ?_
              refine z_icmp_ge (tgt := 109) dX6_read_52 rfl (by omega) (fun uc52 => ?_) (fun uc52 => ?_)
              ·
                refine z_iload_n 3 dX6_read_109 rfl ?_
                exact z_iret C dX6_read_110 rfl ⟨_, rfl, Or.inr (Or.inr ⟨⟨by omega, by rw [ux_s]; exact uc21⟩, r7, r8, by rw [ux_s, uy_s]; exact ⟨uq1, Or.inr (Or.inl (by omega))⟩, by rw [uq3]⟩)⟩
              ·
                refine z_aload_n 2 dX6_read_55 rfl ?_
                refine z_getR dX6_read_56 fX6_194_4 i13_2 ka13 ?_
                refine z_iload 4 dX6_read_59 rfl ?_
                refine z_iald (r := I3) dX6_read_61 is17 ka17 (wI3) (by omega) ?_
                refine z_aload_n 2 dX6_read_62 rfl ?_
                refine z_getR dX6_read_63 fX6_194_4 i13_2 ka13 ?_
                refine z_iload 4 dX6_read_66 rfl ?_
                refine z_iconst dX6_read_68 ?_
                refine z_iadd dX6_read_69 ?_
                refine z_iald (r := I3) dX6_read_70 is17 ka17 (wI3) (by omega) ?_
                have ui1 := hI x4 (by omega) (by omega)
                have ui2 := hI (x4 + 1) (by omega) (by omega)
                refine z_sI dX6_read_71 lX6_174 (by decide) (ct_X6_maySee en (upR (upR (upR M 7 r7) 8 r8) 0 r0) _ _ (by omega)) rfl rfl (by exact Nat.le_of_ble_eq_true rfl) ?_
                refine z_ifne_b (tgt := 80) dX6_read_74 rfl (fun uc74 => ?_) (fun uc74 => ?_)
                ·
                  refine z_aload_n 0 dX6_read_80 rfl ?_
                  refine z_aload_n 2 dX6_read_81 rfl ?_
                  refine z_getR dX6_read_82 fX6_194_4 i13_2 ka13 ?_
                  refine z_iload 4 dX6_read_85 rfl ?_
                  refine z_iald (r := I3) dX6_read_87 is17 ka17 (wI3) (by omega) ?_
                  refine z_aload_n 2 dX6_read_88 rfl ?_
                  refine z_getR dX6_read_89 fX6_194_4 i13_2 ka13 ?_
                  refine z_iload 4 dX6_read_92 rfl ?_
                  refine z_iconst dX6_read_94 ?_
                  refine z_iadd dX6_read_95 ?_
                  refine z_iald (r := I3) dX6_read_96 is17 ka17 (wI3) (by omega) ?_
                  refine z_vV dX6_read_97 lX6_180 (by decide) ka0 io0 rfl (ct_X6_seeMore en (upR (upR (upR M 7 r7) 8 r8) 0 r0) r0 r7 r8 rfl rfl rfl _ _ (by omega)) rfl rfl (by exact Nat.le_of_ble_eq_true rfl) ?_
                  rw [uu3 (a := 7) (b0 := 8) (b1 := 0) (by decide) (by decide)]
                  rw [uu2 (a := 8) (b0 := 0) (by decide)]
                  rw [uu1 (a := 0)]
                  refine z_iinc (fun y => [(0, rf en 0), (1, vi s), (2, rf en 13), (3, vi y), (4, vi x4)]) [1, 2, 3, 0, 4] 3 dX6_read_100 rfl (by decide) (fun _ => rfl) (fun x3_100 e3_100 => ?_)
                  refine z_iinc (fun y => [(0, rf en 0), (1, vi s), (2, rf en 13), (3, vi x3_100), (4, vi y)]) [1, 2, 3, 4, 0] 4 dX6_read_103 rfl (by decide) (fun _ => rfl) (fun x4_103 e4_103 => ?_)
                  refine z_goto (tgt := 35) dX6_read_106 rfl ?_
                  exact uih35 x3_100 x4_103 (up r7 (r0 8) (I3 x4)) (up r8 (r0 8) (I3 (x4 + 1))) (up r0 8 (r0 8 + 1)) (by omega) (⟨by rw [e3_100, uo8, uq2]; exact rdQ0_s uq1 (by omega) (by omega) (by omega) (by rw [← uq2]; exact uc74), by omega, by rw [uo8, e3_100, uq3, up_up]; congr 1; omega⟩)
                ·
                  refine z_goto (tgt := 109) dX6_read_77 rfl ?_
                  refine z_iload_n 3 dX6_read_109 rfl ?_
                  exact z_iret C dX6_read_110 rfl ⟨_, rfl, Or.inr (Or.inr ⟨⟨by omega, by rw [ux_s]; exact uc21⟩, r7, r8, by rw [ux_s, uy_s]; exact ⟨uq1, Or.inr (Or.inr (by rw [Int.zero_add, ← uq2]; exact uc74))⟩, by rw [uq3]⟩)⟩
        refine Z.eqM (upR_id (k := 7) wQ7) ?_
        refine Z.eqM (upR_id (k := 8) wQ8) ?_
        refine Z.eqM (upR_id (k := 0) wO0) ?_
        exact uL35 _ x3_31 x4_33 Q7 Q8 O0 (Nat.lt_succ_self _) (⟨⟨by omega, fun uk ua ub => absurd ub (by omega), fun uj ua => rfl⟩, by omega, by rw [e3_31, Int.add_zero, up_id]⟩)
      ·
        refine z_aload_n 0 dX6_read_24 rfl ?_
        refine z_iconst dX6_read_25 ?_
        refine z_vI dX6_read_26 lX6_190 (by decide) ka0 io0 rfl (ct_X6_found en M O0 wO0 (1)) rfl rfl (by exact Nat.le_of_ble_eq_true rfl) ?_
        exact z_iret C dX6_read_29 rfl ⟨_, rfl, Or.inr (Or.inl ⟨⟨by omega, by rw [ux_s]; exact uc21⟩, rfl, rfl⟩)⟩
  ·
    refine z_bipush dX6_read_7 rfl ?_
    exact z_iret C dX6_read_9 rfl ⟨_, rfl, Or.inl ⟨by omega, rfl, rfl⟩⟩
