/-! what was seen -/
abbrev okS (p w : Int) : Prop := (0 ≤ p ∧ p ≤ 7) ∧ (0 ≤ w ∧ w ≤ 1)
/-- x pairs of the items from a on were taken to those seen, from c on; r is the row then -/
def rdP0 (I : Int → Int) (a sz : Int) (Sg : Int → Int) (c x : Int) (r : Int → Int) : Prop := (0 ≤ x ∧ 2 * x ≤ sz ∧ c + x ≤ 8) ∧ (∀ k, 0 ≤ k → k < x → okS (I (a + 2 * k)) (I (a + 2 * k + 1)) ∧ r (2 * (c + k)) = I (a + 2 * k) ∧ r (2 * (c + k) + 1) = I (a + 2 * k + 1)) ∧ ∀ j, 0 ≤ j → j < 2 * c → r j = Sg j
def rdP (I : Int → Int) (a sz : Int) (Sg : Int → Int) (c x : Int) (r : Int → Int) : Prop := rdP0 I a sz Sg c x r ∧ (sz < 2 * x + 2 ∨ c + x = 8 ∨ ¬ okS (I (a + 2 * x)) (I (a + 2 * x + 1)))
/-! the greatest number that hear alike -/
def hl (T W : Int → Int) (tw sm : Int) : Nat → List Int
  | 0 => []
  | n + 1 => hl T W tw sm n ++ (if bitq sm n then [hA (up T 0 n) W tw] else [])
theorem hl_len (T W : Int → Int) (tw sm : Int) : ∀ n, (hl T W tw sm n).length ≤ n
  | 0 => by simp [hl]
  | n + 1 => by
    have := hl_len T W tw sm n
    unfold hl
    split <;> simp <;> omega
def cntL (L : List Int) (c : Int) : Nat → Int
  | 0 => 0
  | n + 1 => cntL L c n + (if c = L.getD n 0 then 1 else 0)
theorem cntL_rg (L : List Int) (c : Int) : ∀ n : Nat, 0 ≤ cntL L c n ∧ cntL L c n ≤ n
  | 0 => by simp [cntL]
  | n + 1 => by
    have := cntL_rg L c n
    unfold cntL
    split <;> omega
def mstL (L : List Int) : Nat → Int
  | 0 => 0
  | n + 1 => if mstL L n < cntL L (L.getD n 0) L.length then cntL L (L.getD n 0) L.length else mstL L n
theorem mstL_rg (L : List Int) : ∀ n, 0 ≤ mstL L n ∧ mstL L n ≤ L.length
  | 0 => by simp [mstL]
  | n + 1 => by
    have := mstL_rg L n
    have := cntL_rg L (L.getD n 0) L.length
    unfold mstL
    split <;> omega
def maO (T W : Int → Int) (tw sm : Int) : Int := mstL (hl T W tw sm 8) (hl T W tw sm 8).length
theorem maO_rg (T W : Int → Int) (tw sm : Int) : 0 ≤ maO T W tw sm ∧ maO T W tw sm ≤ 8 := by
  have h1 := mstL_rg (hl T W tw sm 8) (hl T W tw sm 8).length
  have h2 := hl_len T W tw sm 8
  unfold maO; omega
theorem getD_app (l : List Int) (a : Int) (i : Nat) : (l ++ [a]).getD i 0 = if i < l.length then l.getD i 0 else if i = l.length then a else 0 := by
  rcases Nat.lt_trichotomy i l.length with h | h | h
  · rw [if_pos h]; simp [List.getD, List.getElem?_append_left h]
  · subst h; simp [List.getD]
  · rw [if_neg (by omega), if_neg (by omega)]
    simp only [List.getD]
    rw [List.getElem?_eq_none (by simp; omega)]
    rfl
theorem hl_mem {T W : Int → Int} (hT : tOK T) (hW : wOK W) {tw sm : Int} (ht : 0 ≤ tw ∧ tw ≤ 7) : ∀ n : Nat, n ≤ 8 → ∀ v ∈ hl T W tw sm n, 0 ≤ v ∧ v ≤ 9999
  | 0, _, v, h => by simp [hl] at h
  | n + 1, hn, v, h => by
    unfold hl at h
    rcases List.mem_append.mp h with h | h
    · exact hl_mem hT hW ht n (by omega) v h
    · split at h
      · rw [List.mem_singleton.mp h]; exact hA_rg (tOK_0 hT (by omega)) hW ht
      · simp at h
theorem hl_rg {T W : Int → Int} (hT : tOK T) (hW : wOK W) {tw sm x4 : Int} (ht : 0 ≤ tw ∧ tw ≤ 7) {r : Int → Int} (h3 : x4 = ((hl T W tw sm (8 : Int).toNat).length : Int)) (h4 : ∀ i : Nat, (i : Int) < x4 → r i = (hl T W tw sm (8 : Int).toNat).getD i 0) : ∀ j, 0 ≤ j → j < x4 → 0 ≤ r j ∧ r j ≤ 9999 := by
  intro j h1 h2
  have h5 := h4 j.toNat (by omega)
  rw [tnC h1] at h5
  rw [h5]
  have hl9 : j.toNat < (hl T W tw sm (8 : Int).toNat).length := by omega
  have e : (hl T W tw sm (8 : Int).toNat).getD j.toNat 0 = (hl T W tw sm (8 : Int).toNat)[j.toNat] := by rw [List.getD_eq_getElem?_getD, List.getElem?_eq_getElem hl9]; rfl
  rw [e]
  exact hl_mem hT hW ht 8 (by omega) _ (List.getElem_mem hl9)
def akS (T W : Int → Int) (sm : Int) : Nat → Int × Int
  | 0 => (0, maO T W 0 sm)
  | n + 1 => (if maO T W ((n : Int) + 1) sm < (akS T W sm n).2 then (n : Int) + 1 else (akS T W sm n).1, min (maO T W ((n : Int) + 1) sm) (akS T W sm n).2)
def akO (T W P : Int → Int) (np : Int) (Sg : Int → Int) (ns : Nat) : Int := (akS T W (fiS T W P np Sg ns 0 8 : Int) 7).1
set_option maxRecDepth 100000 in
theorem ct_X7_seen (en : zE) (M : zW) (O : Int → Int) (Sg : Int → Int) (wO : M 37 = O) (wSg : M 51 = Sg) (p : Int) (wn : Int) (h0 : -2147483648 ≤ p ∧ p < 2147483648 ∧ -2147483648 ≤ wn ∧ wn < 2147483648 ∧ 0 ≤ O 16 ∧ O 16 ≤ 8) : Ct en kA yX7_seen mX7_seen [rf en 37, vi p, vi wn] M (pX (fun x N => (¬ okS p wn ∧ x = -2 ∧ M = N) ∨ ((okS p wn ∧ O 16 = 8) ∧ x = -4 ∧ M = N) ∨ ((okS p wn ∧ O 16 < 8) ∧ x = O 16 + 1 ∧ ∃ r51 r37 : Int → Int, r51 = up (up Sg (2 * O 16) p) (2 * O 16 + 1) wn ∧ r37 = up O 16 (O 16 + 1) ∧ upR (upR M 51 r51) 37 r37 = N))) := by
  refine Ct.of (by decide +kernel) rfl [(0, rf en 37), (1, vi p), (2, vi wn)] rfl (Nat.le_of_ble_eq_true rfl) (fun cx C => ?_)
  refine z_iload_n 1 dX7_seen_0 rfl ?_
  refine z_i2l dX7_seen_1 (by omega) ?_
  refine z_lconst (v := 0) dX7_seen_2 rfl ?_
  refine z_ldc2 (n := 7) dX7_seen_3 kX7_110 rfl ?_
  refine z_sI dX7_seen_6 lX7_57 (by decide) (ct_X7_in en M _ (0) (7) (by omega)) rfl rfl (by exact Nat.le_of_ble_eq_true rfl) ?_
  refine z_ifeq_b (tgt := 19) dX7_seen_9 rfl (fun uc9 => ?_) (fun uc9 => ?_)
  ·
    refine z_bipush dX7_seen_19 rfl ?_
    exact z_iret C dX7_seen_21 rfl ⟨_, rfl, Or.inl ⟨by omega, rfl, rfl⟩⟩
  ·
    refine z_iload_n 2 dX7_seen_12 rfl ?_
    refine z_sI dX7_seen_13 lX7_86 (by decide) (ct_X7_isTwo en M _ (by omega)) rfl rfl (by exact Nat.le_of_ble_eq_true rfl) ?_
    refine z_ifne_b (tgt := 22) dX7_seen_16 rfl (fun uc16 => ?_) (fun uc16 => ?_)
    ·
      refine z_aload_n 0 dX7_seen_22 rfl ?_
      refine z_getI (r := O) 16 rfl dX7_seen_23 fX7_194_6 i37_16 ka37 (wO) ?_
      refine z_bipush dX7_seen_26 rfl ?_
      refine z_icmp_ne (tgt := 34) dX7_seen_28 rfl (by omega) (fun uc28 => ?_) (fun uc28 => ?_)
      ·
        refine z_aload_n 0 dX7_seen_34 rfl ?_
        refine z_getR dX7_seen_35 fX7_49_6 i37_17 ka37 ?_
        refine z_iconst dX7_seen_38 ?_
        refine z_aload_n 0 dX7_seen_39 rfl ?_
        refine z_getI (r := O) 16 rfl dX7_seen_40 fX7_194_6 i37_16 ka37 (wO) ?_
        refine z_imul dX7_seen_43 ?_
        refine z_iload_n 1 dX7_seen_44 rfl ?_
        refine z_iast (r := Sg) dX7_seen_45 is51 ka51 (wSg) (by omega) (fun r51_45 f51_45 => ?_)
        refine z_aload_n 0 dX7_seen_46 rfl ?_
        refine z_getR dX7_seen_47 fX7_49_6 i37_17 ka37 ?_
        refine z_iconst dX7_seen_50 ?_
        refine z_aload_n 0 dX7_seen_51 rfl ?_
        refine z_getI (r := O) 16 rfl dX7_seen_52 fX7_194_6 i37_16 ka37 (wO) ?_
        refine z_imul dX7_seen_55 ?_
        refine z_iconst dX7_seen_56 ?_
        refine z_iadd dX7_seen_57 ?_
        refine z_iload_n 2 dX7_seen_58 rfl ?_
        refine z_iast' (r := r51_45) (fun r => (upR M 51 r)) dX7_seen_59 is51 ka51 (rfl) (by omega) (fun _ => uu1) (fun r51_59 f51_59 => ?_)
        refine z_aload_n 0 dX7_seen_60 rfl ?_
        refine z_dup_a dX7_seen_61 ?_
        refine z_getI (r := O) 16 rfl dX7_seen_62 fX7_194_6 i37_16 ka37 (wO) ?_
        refine z_iconst dX7_seen_65 ?_
        refine z_iadd dX7_seen_66 ?_
        refine z_putI (r := O) 16 rfl dX7_seen_67 pfX7_194_6 i37_16 ka37 (wO) (fun r37_67 f37_67 => ?_)
        refine z_aload_n 0 dX7_seen_70 rfl ?_
        refine z_getI (r := r37_67) 16 rfl dX7_seen_71 fX7_194_6 i37_16 ka37 (rfl) ?_
        exact z_iret C dX7_seen_74 rfl ⟨_, rfl, Or.inr (Or.inr ⟨by omega, by rw [f37_67, up_s], r51_59, r37_67, by rw [f51_59, f51_45], f37_67, rfl⟩)⟩
      ·
        refine z_bipush dX7_seen_31 rfl ?_
        exact z_iret C dX7_seen_33 rfl ⟨_, rfl, Or.inr (Or.inl ⟨by omega, rfl, rfl⟩)⟩
    ·
      refine z_bipush dX7_seen_19 rfl ?_
      exact z_iret C dX7_seen_21 rfl ⟨_, rfl, Or.inl ⟨by omega, rfl, rfl⟩⟩
set_option maxRecDepth 100000 in
theorem ct_X7_forget (en : zE) (M : zW) (O : Int → Int) (wO : M 37 = O) : Ct en kA yX7_forget mX7_forget [rf en 37] M (pI (O 16) (upR M 37 (up O 16 0))) := by
  refine Ct.of (by decide +kernel) rfl [(0, rf en 37)] rfl (Nat.le_of_ble_eq_true rfl) (fun cx C => ?_)
  refine z_aload_n 0 dX7_forget_0 rfl ?_
  refine z_getI (r := O) 16 rfl dX7_forget_1 fX7_194_6 i37_16 ka37 (wO) ?_
  refine z_istore_n (fun y => [(0, rf en 37), (1, vi y)]) [1, 0] dX7_forget_4 (by decide) (fun _ => rfl) (fun x1_4 e1_4 => ?_)
  refine z_aload_n 0 dX7_forget_5 rfl ?_
  refine z_iconst dX7_forget_6 ?_
  refine z_putI (r := O) 16 rfl dX7_forget_7 pfX7_194_6 i37_16 ka37 (wO) (fun r37_7 f37_7 => ?_)
  refine z_iload_n 1 dX7_forget_10 rfl ?_
  exact z_iret C dX7_forget_11 rfl ⟨congrArg (fun z => some (vi z)) (by omega), by rw [f37_7]⟩
set_option maxRecDepth 100000 in
theorem ct_X7_read (en : zE) (M : zW) (O : Int → Int) (F : Int → Int) (S : Int → Int) (I : Int → Int) (Sg : Int → Int) (wO : M 37 = O) (wF : M 38 = F) (wS : M 39 = S) (wI : M 40 = I) (wSg : M 51 = Sg) (s : Int) (h0 : -2147483648 ≤ s ∧ s < 2147483648 ∧ 0 ≤ O 16 ∧ O 16 ≤ 8) (hF : ∀ j, 0 ≤ j → j < 4 → -1 ≤ F j ∧ F j ≤ 2) (hS : ∀ j, 0 ≤ j → j < 4 → 0 ≤ S j ∧ S j ≤ 60) (hI : ∀ j, 0 ≤ j → j < 240 → -2147483648 ≤ I j ∧ I j ≤ 2147483647) : Ct en kA yX7_read mX7_read [rf en 37, vi s] M (pX (fun x N => ((¬ (0 ≤ s ∧ s ≤ 3)) ∧ x = -2 ∧ M = N) ∨ (((0 ≤ s ∧ s ≤ 3) ∧ F s < 0) ∧ x = -11 ∧ upR M 37 (up O 4 1) = N) ∨ (((0 ≤ s ∧ s ≤ 3) ∧ 0 ≤ F s) ∧ ∃ r51 : Int → Int, rdP I (60 * s) (S s) Sg (O 16) x r51 ∧ upR (upR M 51 r51) 37 (up O 16 (O 16 + x)) = N))) := by
  refine Ct.of (by decide +kernel) rfl [(0, rf en 37), (1, vi s)] rfl (Nat.le_of_ble_eq_true rfl) (fun cx C => ?_)
  refine z_iload_n 1 dX7_read_0 rfl ?_
  refine z_sI dX7_read_1 lX7_67 (by decide) (ct_X7_isSheet en M _ (by omega)) rfl rfl (by exact Nat.le_of_ble_eq_true rfl) ?_
  refine z_ifne_b (tgt := 10) dX7_read_4 rfl (fun uc4 => ?_) (fun uc4 => ?_)
  ·
    refine z_aload_n 0 dX7_read_10 rfl ?_
    refine z_getR dX7_read_11 fX7_7_6 i37_0 ka37 ?_
    refine z_iload_n 1 dX7_read_14 rfl ?_
    refine z_ialdB (r := F) dX7_read_15 is38 ka38 (wF) (by omega) (hF) (fun uy15 ug15 ub15 => ?_)
    refine z_if_ge (tgt := 25) dX7_read_16 rfl (by omega) (fun uc16 => ?_) (fun uc16 => ?_)
    ·
      have uq7 := hS s (by omega) (by omega)
      refine z_iconst dX7_read_25 ?_
      refine z_istore_n (fun y => [(0, rf en 37), (1, vi s), (2, vi y)]) [1, 2, 0] dX7_read_26 (by decide) (fun _ => rfl) (fun x2_26 e2_26 => ?_)
      refine z_iconst dX7_read_27 ?_
      refine z_istore_n (fun y => [(0, rf en 37), (1, vi s), (2, vi x2_26), (3, vi y)]) [1, 2, 3, 0] dX7_read_28 (by decide) (fun _ => rfl) (fun x3_28 e3_28 => ?_)
      have uL29 : ∀ (fu : Nat) (x2 : Int) (x3 : Int) (r51 : Int → Int) (r37 : Int → Int), (2 * (S s - x2) + x3).toNat < fu → (rdP0 I (60 * s) (S s) Sg (O 16) x2 r51 ∧ r37 = up O 16 (O 16 + x2) ∧ (x3 = 1 ∨ (x3 = 0 ∧ (O 16 + x2 = 8 ∨ ¬ okS (I (60 * s + 2 * x2)) (I (60 * s + 2 * x2 + 1)))))) → Z en kA cx mX7_read (upR (upR M 51 r51) 37 r37) 29 [(0, rf en 37), (1, vi s), (2, vi x2), (3, vi x3)] [] := by
        intro fu
        induction fu with
        | zero => intro x2 x3 r51 r37 uhf; exact absurd uhf (Nat.not_lt_zero _)
        | succ fu uih29 =>
          intro x2 x3 r51 r37 uf29 uI29
          obtain ⟨⟨uq1, uq2, uq3⟩, uq4, uq5⟩ := uI29
          have uq6 : r37 16 = O 16 + x2 := by rw [uq4, up_s]
          have uq7 := hS s (by omega) (by omega)
          refine z_iload_n 3 dX7_read_29 rfl ?_
          refine z_if_eq (tgt := 103) dX7_read_30 rfl (by omega) (fun uc30 => ?_) (fun uc30 => ?_)
          ·
            refine z_iload_n 2 dX7_read_103 rfl ?_
            exact z_iret C dX7_read_104 rfl ⟨_, rfl, Or.inr (Or.inr ⟨by omega, r51, ⟨⟨uq1, uq2, uq3⟩, (uq5.elim (fun uz => by omega) (fun uz => Or.inr uz.2))⟩, by rw [uq4]⟩)⟩
          ·
            refine z_iconst dX7_read_33 ?_
            refine z_iload_n 2 dX7_read_34 rfl ?_
            refine z_imul dX7_read_35 ?_
            refine z_iconst dX7_read_36 ?_
            refine z_iadd dX7_read_37 ?_
            refine z_aload_n 0 dX7_read_38 rfl ?_
            refine z_getR dX7_read_39 fX7_13_6 i37_1 ka37 ?_
            refine z_iload_n 1 dX7_read_42 rfl ?_
            refine z_iald (r := S) dX7_read_43 is39 ka39 (wS) (by omega) ?_
            refine z_icmp_gt (tgt := 103) dX7_read_44 rfl (by omega) (fun uc44 => ?_) (fun uc44 => ?_)
            ·
              refine z_iload_n 2 dX7_read_103 rfl ?_
              exact z_iret C dX7_read_104 rfl ⟨_, rfl, Or.inr (Or.inr ⟨by omega, r51, ⟨⟨uq1, uq2, uq3⟩, Or.inl (by omega)⟩, by rw [uq4]⟩)⟩
            ·
              have ui1 := hI (60 * s + 2 * x2) (by omega) (by omega)
              have ui2 := hI (60 * s + 2 * x2 + 1) (by omega) (by omega)
              have uq8 : O 16 + x2 ≤ 8 := by omega
              refine z_aload_n 0 dX7_read_47 rfl ?_
              refine z_aload_n 0 dX7_read_48 rfl ?_
              refine z_getR dX7_read_49 fX7_16_6 i37_2 ka37 ?_
              refine z_bipush dX7_read_52 rfl ?_
              refine z_iload_n 1 dX7_read_54 rfl ?_
              refine z_imul dX7_read_55 ?_
              refine z_iconst dX7_read_56 ?_
              refine z_iload_n 2 dX7_read_57 rfl ?_
              refine z_imul dX7_read_58 ?_
              refine z_iadd dX7_read_59 ?_
              refine z_iald (r := I) dX7_read_60 is40 ka40 (wI) (by omega) ?_
              refine z_aload_n 0 dX7_read_61 rfl ?_
              refine z_getR dX7_read_62 fX7_16_6 i37_2 ka37 ?_
              refine z_bipush dX7_read_65 rfl ?_
              refine z_iload_n 1 dX7_read_67 rfl ?_
              refine z_imul dX7_read_68 ?_
              refine z_iconst dX7_read_69 ?_
              refine z_iload_n 2 dX7_read_70 rfl ?_
              refine z_imul dX7_read_71 ?_
              refine z_iadd dX7_read_72 ?_
              refine z_iconst dX7_read_73 ?_
              refine z_iadd dX7_read_74 ?_
              refine z_iald (r := I) dX7_read_75 is40 ka40 (wI) (by omega) ?_
              refine z_vX dX7_read_76 lX7_197 (by decide) ka37 io37 rfl (ct_X7_seen en (upR (upR M 51 r51) 37 r37) r37 r51 rfl rfl _ _ (by omega)) rfl rfl (by exact Nat.le_of_ble_eq_true rfl) (fun uv76 uN76 uh76 => ?_)
              rcases uh76 with ⟨uk76, rfl, rfl⟩ | ⟨uk76, rfl, rfl⟩ | ⟨uk76, ux76, r51_76, r37_76, uf51_76, uf37_76, rfl⟩
              ·
                refine z_if_lt (tgt := 86) dX7_read_79 rfl (by omega) (fun _ => ?_) (fun z => absurd z (by decide))
                refine z_iconst dX7_read_86 ?_
                refine z_istore_n (fun y => [(0, rf en 37), (1, vi s), (2, vi x2), (3, vi y)]) [1, 2, 3, 0] dX7_read_87 (by decide) (fun _ => rfl) (fun x3_87 e3_87 => ?_)
                refine z_iload_n 2 dX7_read_88 rfl ?_
                refine z_iload_n 3 dX7_read_89 rfl ?_
                refine z_if_eq (tgt := 97) dX7_read_90 rfl (by omega) (fun uc90 => ?_) (fun uc90 => ?_)
                · first
                  | (exfalso; omega)
                  |
                      refine z_iconst dX7_read_97 ?_
                      refine z_iadd dX7_read_98 ?_
                      refine z_istore_n (fun y => [(0, rf en 37), (1, vi s), (2, vi y), (3, vi x3_87)]) [1, 2, 0, 3] dX7_read_99 (by decide) (fun _ => rfl) (fun x2_99 e2_99 => ?_)
                      refine z_goto (tgt := 29) dX7_read_100 rfl ?_
                      exact uih29 x2_99 x3_87 r51 r37 (by omega) (⟨⟨by omega, fun uk ua ub => uq2 uk ua (by omega), uq3⟩, by rw [uq4, show x2_99 = x2 by omega], Or.inr ⟨by omega, Or.inr (by rw [show x2_99 = x2 by omega]; exact uk76)⟩⟩)
                · first
                  | (exfalso; omega)
                  |
                      refine z_iconst dX7_read_93 ?_
                      refine z_goto (tgt := 98) dX7_read_94 rfl ?_
                      refine z_iadd dX7_read_98 ?_
                      refine z_istore_n (fun y => [(0, rf en 37), (1, vi s), (2, vi y), (3, vi x3_87)]) [1, 2, 0, 3] dX7_read_99 (by decide) (fun _ => rfl) (fun x2_99 e2_99 => ?_)
                      refine z_goto (tgt := 29) dX7_read_100 rfl ?_
                      exact uih29 x2_99 x3_87 r51 r37 (by omega) (⟨⟨by omega, fun uk ua ub => uq2 uk ua (by omega), uq3⟩, by rw [uq4, show x2_99 = x2 by omega], Or.inr ⟨by omega, Or.inr (by rw [show x2_99 = x2 by omega]; exact uk76)⟩⟩)
              ·
                refine z_if_lt (tgt := 86) dX7_read_79 rfl (by omega) (fun _ => ?_) (fun z => absurd z (by decide))
                refine z_iconst dX7_read_86 ?_
                refine z_istore_n (fun y => [(0, rf en 37), (1, vi s), (2, vi x2), (3, vi y)]) [1, 2, 3, 0] dX7_read_87 (by decide) (fun _ => rfl) (fun x3_87 e3_87 => ?_)
                refine z_iload_n 2 dX7_read_88 rfl ?_
                refine z_iload_n 3 dX7_read_89 rfl ?_
                refine z_if_eq (tgt := 97) dX7_read_90 rfl (by omega) (fun uc90 => ?_) (fun uc90 => ?_)
                · first
                  | (exfalso; omega)
                  |
                      refine z_iconst dX7_read_97 ?_
                      refine z_iadd dX7_read_98 ?_
                      refine z_istore_n (fun y => [(0, rf en 37), (1, vi s), (2, vi y), (3, vi x3_87)]) [1, 2, 0, 3] dX7_read_99 (by decide) (fun _ => rfl) (fun x2_99 e2_99 => ?_)
                      refine z_goto (tgt := 29) dX7_read_100 rfl ?_
                      exact uih29 x2_99 x3_87 r51 r37 (by omega) (⟨⟨by omega, fun uk ua ub => uq2 uk ua (by omega), uq3⟩, by rw [uq4, show x2_99 = x2 by omega], Or.inr ⟨by omega, Or.inl (by omega)⟩⟩)
                · first
                  | (exfalso; omega)
                  |
                      refine z_iconst dX7_read_93 ?_
                      refine z_goto (tgt := 98) dX7_read_94 rfl ?_
                      refine z_iadd dX7_read_98 ?_
                      refine z_istore_n (fun y => [(0, rf en 37), (1, vi s), (2, vi y), (3, vi x3_87)]) [1, 2, 0, 3] dX7_read_99 (by decide) (fun _ => rfl) (fun x2_99 e2_99 => ?_)
                      refine z_goto (tgt := 29) dX7_read_100 rfl ?_
                      exact uih29 x2_99 x3_87 r51 r37 (by omega) (⟨⟨by omega, fun uk ua ub => uq2 uk ua (by omega), uq3⟩, by rw [uq4, show x2_99 = x2 by omega], Or.inr ⟨by omega, Or.inl (by omega)⟩⟩)
              ·
                rw [uu2 (a := 51) (b0 := 37) (by decide)]
                rw [uu1 (a := 37)]
                refine z_if_lt (tgt := 86) dX7_read_79 rfl (by omega) (fun uc79 => ?_) (fun uc79 => ?_)
                · first
                  | (exfalso; omega)
                  |
                      refine z_iconst dX7_read_86 ?_
                      refine z_istore_n (fun y => [(0, rf en 37), (1, vi s), (2, vi x2), (3, vi y)]) [1, 2, 3, 0] dX7_read_87 (by decide) (fun _ => rfl) (fun x3_87 e3_87 => ?_)
                      refine z_iload_n 2 dX7_read_88 rfl ?_
                      refine z_iload_n 3 dX7_read_89 rfl ?_
                      refine z_if_eq (tgt := 97) dX7_read_90 rfl (by omega) (fun uc90 => ?_) (fun uc90 => ?_)
                      · first
                        | (exfalso; omega)
                        |
                            refine z_iconst dX7_read_97 ?_
                            refine z_iadd dX7_read_98 ?_
                            refine z_istore_n (fun y => [(0, rf en 37), (1, vi s), (2, vi y), (3, vi x3_87)]) [1, 2, 0, 3] dX7_read_99 (by decide) (fun _ => rfl) (fun x2_99 e2_99 => ?_)
                            refine z_goto (tgt := 29) dX7_read_100 rfl ?_
                            exact uih29 x2_99 x3_87 r51_76 r37_76 (by omega) (⟨⟨by omega, fun uk ua ub => if uz : uk = x2 then (by rw [uz, uf51_76, uq6]; exact ⟨uk76.1, by rw [up_n _ _ (by omega), up_s], by rw [up_s]⟩) else (by have ug := uq2 uk ua (by omega); rw [uf51_76, uq6, up_n _ _ (by omega), up_n _ _ (by omega), up_n _ _ (by omega), up_n _ _ (by omega)]; exact ug), fun uj ua ub => by rw [uf51_76, uq6, up_n _ _ (by omega), up_n _ _ (by omega)]; exact uq3 uj ua ub⟩, by rw [uf37_76, uq6, uq4, up_up]; congr 1; omega, Or.inl e3_87⟩)
                      · first
                        | (exfalso; omega)
                        |
                            refine z_iconst dX7_read_93 ?_
                            refine z_goto (tgt := 98) dX7_read_94 rfl ?_
                            refine z_iadd dX7_read_98 ?_
                            refine z_istore_n (fun y => [(0, rf en 37), (1, vi s), (2, vi y), (3, vi x3_87)]) [1, 2, 0, 3] dX7_read_99 (by decide) (fun _ => rfl) (fun x2_99 e2_99 => ?_)
                            refine z_goto (tgt := 29) dX7_read_100 rfl ?_
                            exact uih29 x2_99 x3_87 r51_76 r37_76 (by omega) (⟨⟨by omega, fun uk ua ub => if uz : uk = x2 then (by rw [uz, uf51_76, uq6]; exact ⟨uk76.1, by rw [up_n _ _ (by omega), up_s], by rw [up_s]⟩) else (by have ug := uq2 uk ua (by omega); rw [uf51_76, uq6, up_n _ _ (by omega), up_n _ _ (by omega), up_n _ _ (by omega), up_n _ _ (by omega)]; exact ug), fun uj ua ub => by rw [uf51_76, uq6, up_n _ _ (by omega), up_n _ _ (by omega)]; exact uq3 uj ua ub⟩, by rw [uf37_76, uq6, uq4, up_up]; congr 1; omega, Or.inl e3_87⟩)
                · first
                  | (exfalso; omega)
                  |
                      refine z_iconst dX7_read_82 ?_
                      refine z_goto (tgt := 87) dX7_read_83 rfl ?_
                      refine z_istore_n (fun y => [(0, rf en 37), (1, vi s), (2, vi x2), (3, vi y)]) [1, 2, 3, 0] dX7_read_87 (by decide) (fun _ => rfl) (fun x3_87 e3_87 => ?_)
                      refine z_iload_n 2 dX7_read_88 rfl ?_
                      refine z_iload_n 3 dX7_read_89 rfl ?_
                      refine z_if_eq (tgt := 97) dX7_read_90 rfl (by omega) (fun uc90 => ?_) (fun uc90 => ?_)
                      · first
                        | (exfalso; omega)
                        |
                            refine z_iconst dX7_read_97 ?_
                            refine z_iadd dX7_read_98 ?_
                            refine z_istore_n (fun y => [(0, rf en 37), (1, vi s), (2, vi y), (3, vi x3_87)]) [1, 2, 0, 3] dX7_read_99 (by decide) (fun _ => rfl) (fun x2_99 e2_99 => ?_)
                            refine z_goto (tgt := 29) dX7_read_100 rfl ?_
                            exact uih29 x2_99 x3_87 r51_76 r37_76 (by omega) (⟨⟨by omega, fun uk ua ub => if uz : uk = x2 then (by rw [uz, uf51_76, uq6]; exact ⟨uk76.1, by rw [up_n _ _ (by omega), up_s], by rw [up_s]⟩) else (by have ug := uq2 uk ua (by omega); rw [uf51_76, uq6, up_n _ _ (by omega), up_n _ _ (by omega), up_n _ _ (by omega), up_n _ _ (by omega)]; exact ug), fun uj ua ub => by rw [uf51_76, uq6, up_n _ _ (by omega), up_n _ _ (by omega)]; exact uq3 uj ua ub⟩, by rw [uf37_76, uq6, uq4, up_up]; congr 1; omega, Or.inl e3_87⟩)
                      · first
                        | (exfalso; omega)
                        |
                            refine z_iconst dX7_read_93 ?_
                            refine z_goto (tgt := 98) dX7_read_94 rfl ?_
                            refine z_iadd dX7_read_98 ?_
                            refine z_istore_n (fun y => [(0, rf en 37), (1, vi s), (2, vi y), (3, vi x3_87)]) [1, 2, 0, 3] dX7_read_99 (by decide) (fun _ => rfl) (fun x2_99 e2_99 => ?_)
                            refine z_goto (tgt := 29) dX7_read_100 rfl ?_
                            exact uih29 x2_99 x3_87 r51_76 r37_76 (by omega) (⟨⟨by omega, fun uk ua ub => if uz : uk = x2 then (by rw [uz, uf51_76, uq6]; exact ⟨uk76.1, by rw [up_n _ _ (by omega), up_s], by rw [up_s]⟩) else (by have ug := uq2 uk ua (by omega); rw [uf51_76, uq6, up_n _ _ (by omega), up_n _ _ (by omega), up_n _ _ (by omega), up_n _ _ (by omega)]; exact ug), fun uj ua ub => by rw [uf51_76, uq6, up_n _ _ (by omega), up_n _ _ (by omega)]; exact uq3 uj ua ub⟩, by rw [uf37_76, uq6, uq4, up_up]; congr 1; omega, Or.inl e3_87⟩)
      refine Z.eqM (upR_id (k := 51) wSg) ?_
      refine Z.eqM (upR_id (k := 37) wO) ?_
      exact uL29 _ x2_26 x3_28 Sg O (Nat.lt_succ_self _) (⟨⟨by omega, fun uk ua ub => absurd ub (by omega), fun uj ua ub => rfl⟩, by rw [e2_26, Int.add_zero, up_id], Or.inl e3_28⟩)
    ·
      refine z_aload_n 0 dX7_read_19 rfl ?_
      refine z_iconst dX7_read_20 ?_
      refine z_vI dX7_read_21 lX7_73 (by decide) ka37 io37 rfl (ct_X7_finds en M O wO (1)) rfl rfl (by exact Nat.le_of_ble_eq_true rfl) ?_
      exact z_iret C dX7_read_24 rfl ⟨_, rfl, Or.inr (Or.inl ⟨by omega, rfl, rfl⟩)⟩
  ·
    refine z_bipush dX7_read_7 rfl ?_
    exact z_iret C dX7_read_9 rfl ⟨_, rfl, Or.inl ⟨by omega, rfl, rfl⟩⟩
set_option maxRecDepth 100000 in
theorem ct_X7_isSeen (en : zE) (M : zW) (O : Int → Int) (P : Int → Int) (T : Int → Int) (W : Int → Int) (C0 : Int → Int) (E0 : Int → Int) (G0 : Int → Int) (Sg : Int → Int) (wO : M 37 = O) (wP : M 45 = P) (wT : M 46 = T) (wW : M 47 = W) (wC0 : M 48 = C0) (wE0 : M 49 = E0) (wG0 : M 50 = G0) (wSg : M 51 = Sg) (hT : tOK T) (hW : wOK W) (hP : pOK P (O 9)) (hn : 0 ≤ O 9 ∧ O 9 ≤ 8) (hG : ∀ j, 0 ≤ j → j < 16 → 0 ≤ Sg j ∧ Sg j ≤ 7) (ho : 0 ≤ O 16 ∧ O 16 ≤ 8) : Ct en kA yX7_isSeen mX7_isSeen [rf en 37] M (pX (fun x N => ∃ r48 r49 r50 : Int → Int, (∀ q, 0 ≤ q → q < O 9 → r48 q = coO T W P (O 9) q) ∧ (∀ q, 0 ≤ q → q < O 9 → r49 q = enO T W P (O 9) q) ∧ (∀ q, 0 ≤ q → q < O 9 → r50 q = riO T W P (O 9) q) ∧ x = snO T W P (O 9) Sg (O 16).toNat ∧ upR (upR (upR M 48 r48) 49 r49) 50 r50 = N)) := by
  refine Ct.of (by decide +kernel) rfl [(0, rf en 37)] rfl (Nat.le_of_ble_eq_true rfl) (fun cx C => ?_)
  refine z_aload_n 0 dX7_isSeen_0 rfl ?_
  refine z_vN dX7_isSeen_1 lX7_170 (by decide) ka37 io37 rfl (ct_X7_lives en M O P T W C0 E0 G0 wO wP wT wW wC0 wE0 wG0 (by assumption) (by assumption) (by assumption) (by omega)) rfl rfl (by exact Nat.le_of_ble_eq_true rfl) (fun uN1 uh1 => ?_)
  obtain ⟨r48_1, r49_1, r50_1, ul1_1, ul2_1, ul3_1, rfl⟩ := uh1
  refine z_iconst dX7_isSeen_4 ?_
  refine z_istore_n (fun y => [(0, rf en 37), (1, vi y)]) [1, 0] dX7_isSeen_5 (by decide) (fun _ => rfl) (fun uy uhy => ?_)
  subst uhy
  refine z_iconst dX7_isSeen_6 ?_
  refine z_istore_n (fun y => [(0, rf en 37), (1, vi (1)), (2, vi y)]) [1, 2, 0] dX7_isSeen_7 (by decide) (fun _ => rfl) (fun uy uhy => ?_)
  subst uhy
  have uL8 : ∀ (fu : Nat) (x1 : Int) (x2 : Int), (O 16 - x2).toNat < fu → (0 ≤ x2 ∧ x2 ≤ O 16 ∧ x1 = snO T W P (O 9) Sg x2.toNat) → Z en kA cx mX7_isSeen (upR (upR (upR M 48 r48_1) 49 r49_1) 50 r50_1) 8 [(0, rf en 37), (1, vi x1), (2, vi x2)] [] := by
    intro fu
    induction fu with
    | zero => intro x1 x2 uhf; exact absurd uhf (Nat.not_lt_zero _)
    | succ fu uih8 =>
      intro x1 x2 uf8 uI8
      obtain ⟨uq1, uq2, uq3⟩ := uI8
      have uq4 := snO_01 T W P (O 9) Sg x2.toNat
      have uzx : x1 = 0 ∨ x1 = 1 := by rw [uq3]; exact uq4
      refine z_iload_n 2 dX7_isSeen_8 rfl ?_
      refine z_aload_n 0 dX7_isSeen_9 rfl ?_
      refine z_getI (r := O) 16 rfl dX7_isSeen_10 fX7_194_6 i37_16 ka37 (wO) ?_
      refine z_icmp_ge (tgt := 81) dX7_isSeen_13 rfl (by omega) (fun uc13 => ?_) (fun uc13 => ?_)
      ·
        refine z_iload_n 1 dX7_isSeen_81 rfl ?_
        exact z_zret C dX7_isSeen_82 rfl (uzx) ⟨_, rfl, ⟨r48_1, r49_1, r50_1, ul1_1, ul2_1, ul3_1, by rw [uq3, show x2 = O 16 by omega], rfl⟩⟩
      ·
        have ui1 := hG (2 * x2) (by omega) (by omega)
        have ui2 := hG (2 * x2 + 1) (by omega) (by omega)
        refine z_aload_n 0 dX7_isSeen_16 rfl ?_
        refine z_getR dX7_isSeen_17 fX7_49_6 i37_17 ka37 ?_
        refine z_iconst dX7_isSeen_20 ?_
        refine z_iload_n 2 dX7_isSeen_21 rfl ?_
        refine z_imul dX7_isSeen_22 ?_
        refine z_iald (r := Sg) dX7_isSeen_23 is51 ka51 (wSg) (by omega) ?_
        refine z_istore_n (fun y => [(0, rf en 37), (1, vi x1), (2, vi x2), (3, vi y)]) [1, 2, 3, 0] dX7_isSeen_24 (by decide) (fun _ => rfl) (fun x3_24 e3_24 => ?_)
        refine z_aload_n 0 dX7_isSeen_25 rfl ?_
        refine z_iload_n 3 dX7_isSeen_26 rfl ?_
        refine z_vI dX7_isSeen_27 lX7_112 (by decide) ka37 io37 rfl (ct_X7_isPerson en (upR (upR (upR M 48 r48_1) 49 r49_1) 50 r50_1) O wO _ (by omega)) rfl rfl (by exact Nat.le_of_ble_eq_true rfl) ?_
        refine z_ifeq_b (tgt := 47) dX7_isSeen_30 rfl (fun uc30 => ?_) (fun uc30 => ?_)
        ·
          refine z_iconst dX7_isSeen_47 ?_
          refine z_istore (fun y => [(0, rf en 37), (1, vi x1), (2, vi x2), (3, vi x3_24), (4, vi y)]) [1, 2, 3, 4, 0] dX7_isSeen_48 (by decide) (fun _ => rfl) (fun uy uhy => ?_)
          subst uhy
          have ue1 : (if (0 ≤ Sg (2 * x2) ∧ Sg (2 * x2) ≤ O 9 - 1) ∧ enO T W P (O 9) (Sg (2 * x2)) = 1 then (1 : Int) else 0) = 0 := by rw [if_neg (fun uz => uc30 (by rw [e3_24]; exact uz.1))]
          refine z_iload_n 1 dX7_isSeen_50 rfl ?_
          refine z_if_eq (tgt := 73) dX7_isSeen_51 rfl (by omega) (fun uc51 => ?_) (fun uc51 => ?_)
          ·
            refine z_iconst dX7_isSeen_73 ?_
            refine z_istore_n (fun y => [(0, rf en 37), (1, vi y), (2, vi x2), (3, vi x3_24), (4, vi (0))]) [1, 0, 2, 3, 4] dX7_isSeen_74 (by decide) (fun _ => rfl) (fun uy uhy => ?_)
            subst uhy
            refine z_iinc (fun y => [(0, rf en 37), (1, vi (0)), (2, vi y), (3, vi x3_24), (4, vi (0))]) [1, 2, 0, 3, 4] 2 dX7_isSeen_75 rfl (by decide) (fun _ => rfl) (fun x2_75 e2_75 => ?_)
            refine z_goto (tgt := 8) dX7_isSeen_78 rfl ?_
            refine z_lv [0, 1, 2] [(0, rf en 37), (1, vi (0)), (2, vi x2_75)] rfl ?_
            exact uih8 (0) x2_75 (by omega) (⟨by omega, by omega, by rw [e2_75, tnS uq1, snO, tnC uq1, ← uq3, ue1]; rw [if_neg (fun uz => absurd uz.1 (by omega))]⟩)
          ·
            refine z_iload 4 dX7_isSeen_54 rfl ?_
            refine z_aload_n 0 dX7_isSeen_56 rfl ?_
            refine z_getR dX7_isSeen_57 fX7_49_6 i37_17 ka37 ?_
            refine z_iconst dX7_isSeen_60 ?_
            refine z_iload_n 2 dX7_isSeen_61 rfl ?_
            refine z_imul dX7_isSeen_62 ?_
            refine z_iconst dX7_isSeen_63 ?_
            refine z_iadd dX7_isSeen_64 ?_
            refine z_iald (r := Sg) dX7_isSeen_65 is51 ka51 (wSg) (by omega) ?_
            refine z_icmp_ne (tgt := 73) dX7_isSeen_66 rfl (by omega) (fun uc66 => ?_) (fun uc66 => ?_)
            ·
              refine z_iconst dX7_isSeen_73 ?_
              refine z_istore_n (fun y => [(0, rf en 37), (1, vi y), (2, vi x2), (3, vi x3_24), (4, vi (0))]) [1, 0, 2, 3, 4] dX7_isSeen_74 (by decide) (fun _ => rfl) (fun uy uhy => ?_)
              subst uhy
              refine z_iinc (fun y => [(0, rf en 37), (1, vi (0)), (2, vi y), (3, vi x3_24), (4, vi (0))]) [1, 2, 0, 3, 4] 2 dX7_isSeen_75 rfl (by decide) (fun _ => rfl) (fun x2_75 e2_75 => ?_)
              refine z_goto (tgt := 8) dX7_isSeen_78 rfl ?_
              refine z_lv [0, 1, 2] [(0, rf en 37), (1, vi (0)), (2, vi x2_75)] rfl ?_
              exact uih8 (0) x2_75 (by omega) (⟨by omega, by omega, by rw [e2_75, tnS uq1, snO, tnC uq1, ← uq3, ue1]; rw [if_neg (fun uz => uc66 uz.2)]⟩)
            ·
              refine z_iconst dX7_isSeen_69 ?_
              refine z_goto (tgt := 74) dX7_isSeen_70 rfl ?_
              refine z_istore_n (fun y => [(0, rf en 37), (1, vi y), (2, vi x2), (3, vi x3_24), (4, vi (0))]) [1, 0, 2, 3, 4] dX7_isSeen_74 (by decide) (fun _ => rfl) (fun uy uhy => ?_)
              subst uhy
              refine z_iinc (fun y => [(0, rf en 37), (1, vi (1)), (2, vi y), (3, vi x3_24), (4, vi (0))]) [1, 2, 0, 3, 4] 2 dX7_isSeen_75 rfl (by decide) (fun _ => rfl) (fun x2_75 e2_75 => ?_)
              refine z_goto (tgt := 8) dX7_isSeen_78 rfl ?_
              refine z_lv [0, 1, 2] [(0, rf en 37), (1, vi (1)), (2, vi x2_75)] rfl ?_
              exact uih8 (1) x2_75 (by omega) (⟨by omega, by omega, by rw [e2_75, tnS uq1, snO, tnC uq1, ← uq3, ue1]; rw [if_pos ⟨by omega, uc66⟩]⟩)
        ·
          have ud1 := ul2_1 x3_24 (by omega) (by omega)
          have ud2 := enO_rg T W P (O 9) x3_24
          refine z_aload_n 0 dX7_isSeen_33 rfl ?_
          refine z_getR dX7_isSeen_34 fX7_43_6 i37_14 ka37 ?_
          refine z_iload_n 3 dX7_isSeen_37 rfl ?_
          refine z_iald (r := r49_1) dX7_isSeen_38 is49 ka49 (rfl) (by omega) ?_
          refine z_iconst dX7_isSeen_39 ?_
          refine z_icmp_ne (tgt := 47) dX7_isSeen_40 rfl (by omega) (fun uc40 => ?_) (fun uc40 => ?_)
          ·
            refine z_iconst dX7_isSeen_47 ?_
            refine z_istore (fun y => [(0, rf en 37), (1, vi x1), (2, vi x2), (3, vi x3_24), (4, vi y)]) [1, 2, 3, 4, 0] dX7_isSeen_48 (by decide) (fun _ => rfl) (fun uy uhy => ?_)
            subst uhy
            have ue1 : (if (0 ≤ Sg (2 * x2) ∧ Sg (2 * x2) ≤ O 9 - 1) ∧ enO T W P (O 9) (Sg (2 * x2)) = 1 then (1 : Int) else 0) = 0 := by rw [if_neg (fun uz => uc40 (by rw [ud1, e3_24]; exact uz.2))]
            refine z_iload_n 1 dX7_isSeen_50 rfl ?_
            refine z_if_eq (tgt := 73) dX7_isSeen_51 rfl (by omega) (fun uc51 => ?_) (fun uc51 => ?_)
            ·
              refine z_iconst dX7_isSeen_73 ?_
              refine z_istore_n (fun y => [(0, rf en 37), (1, vi y), (2, vi x2), (3, vi x3_24), (4, vi (0))]) [1, 0, 2, 3, 4] dX7_isSeen_74 (by decide) (fun _ => rfl) (fun uy uhy => ?_)
              subst uhy
              refine z_iinc (fun y => [(0, rf en 37), (1, vi (0)), (2, vi y), (3, vi x3_24), (4, vi (0))]) [1, 2, 0, 3, 4] 2 dX7_isSeen_75 rfl (by decide) (fun _ => rfl) (fun x2_75 e2_75 => ?_)
              refine z_goto (tgt := 8) dX7_isSeen_78 rfl ?_
              refine z_lv [0, 1, 2] [(0, rf en 37), (1, vi (0)), (2, vi x2_75)] rfl ?_
              exact uih8 (0) x2_75 (by omega) (⟨by omega, by omega, by rw [e2_75, tnS uq1, snO, tnC uq1, ← uq3, ue1]; rw [if_neg (fun uz => absurd uz.1 (by omega))]⟩)
            ·
              refine z_iload 4 dX7_isSeen_54 rfl ?_
              refine z_aload_n 0 dX7_isSeen_56 rfl ?_
              refine z_getR dX7_isSeen_57 fX7_49_6 i37_17 ka37 ?_
              refine z_iconst dX7_isSeen_60 ?_
              refine z_iload_n 2 dX7_isSeen_61 rfl ?_
              refine z_imul dX7_isSeen_62 ?_
              refine z_iconst dX7_isSeen_63 ?_
              refine z_iadd dX7_isSeen_64 ?_
              refine z_iald (r := Sg) dX7_isSeen_65 is51 ka51 (wSg) (by omega) ?_
              refine z_icmp_ne (tgt := 73) dX7_isSeen_66 rfl (by omega) (fun uc66 => ?_) (fun uc66 => ?_)
              ·
                refine z_iconst dX7_isSeen_73 ?_
                refine z_istore_n (fun y => [(0, rf en 37), (1, vi y), (2, vi x2), (3, vi x3_24), (4, vi (0))]) [1, 0, 2, 3, 4] dX7_isSeen_74 (by decide) (fun _ => rfl) (fun uy uhy => ?_)
                subst uhy
                refine z_iinc (fun y => [(0, rf en 37), (1, vi (0)), (2, vi y), (3, vi x3_24), (4, vi (0))]) [1, 2, 0, 3, 4] 2 dX7_isSeen_75 rfl (by decide) (fun _ => rfl) (fun x2_75 e2_75 => ?_)
                refine z_goto (tgt := 8) dX7_isSeen_78 rfl ?_
                refine z_lv [0, 1, 2] [(0, rf en 37), (1, vi (0)), (2, vi x2_75)] rfl ?_
                exact uih8 (0) x2_75 (by omega) (⟨by omega, by omega, by rw [e2_75, tnS uq1, snO, tnC uq1, ← uq3, ue1]; rw [if_neg (fun uz => uc66 uz.2)]⟩)
              ·
                refine z_iconst dX7_isSeen_69 ?_
                refine z_goto (tgt := 74) dX7_isSeen_70 rfl ?_
                refine z_istore_n (fun y => [(0, rf en 37), (1, vi y), (2, vi x2), (3, vi x3_24), (4, vi (0))]) [1, 0, 2, 3, 4] dX7_isSeen_74 (by decide) (fun _ => rfl) (fun uy uhy => ?_)
                subst uhy
                refine z_iinc (fun y => [(0, rf en 37), (1, vi (1)), (2, vi y), (3, vi x3_24), (4, vi (0))]) [1, 2, 0, 3, 4] 2 dX7_isSeen_75 rfl (by decide) (fun _ => rfl) (fun x2_75 e2_75 => ?_)
                refine z_goto (tgt := 8) dX7_isSeen_78 rfl ?_
                refine z_lv [0, 1, 2] [(0, rf en 37), (1, vi (1)), (2, vi x2_75)] rfl ?_
                exact uih8 (1) x2_75 (by omega) (⟨by omega, by omega, by rw [e2_75, tnS uq1, snO, tnC uq1, ← uq3, ue1]; rw [if_pos ⟨by omega, uc66⟩]⟩)
          ·
            refine z_iconst dX7_isSeen_43 ?_
            refine z_goto (tgt := 48) dX7_isSeen_44 rfl ?_
            refine z_istore (fun y => [(0, rf en 37), (1, vi x1), (2, vi x2), (3, vi x3_24), (4, vi y)]) [1, 2, 3, 4, 0] dX7_isSeen_48 (by decide) (fun _ => rfl) (fun uy uhy => ?_)
            subst uhy
            have ue1 : (if (0 ≤ Sg (2 * x2) ∧ Sg (2 * x2) ≤ O 9 - 1) ∧ enO T W P (O 9) (Sg (2 * x2)) = 1 then (1 : Int) else 0) = 1 := by rw [if_pos ⟨by rw [← e3_24]; exact uc30, by rw [← e3_24, ← ud1]; exact uc40⟩]
            refine z_iload_n 1 dX7_isSeen_50 rfl ?_
            refine z_if_eq (tgt := 73) dX7_isSeen_51 rfl (by omega) (fun uc51 => ?_) (fun uc51 => ?_)
            ·
              refine z_iconst dX7_isSeen_73 ?_
              refine z_istore_n (fun y => [(0, rf en 37), (1, vi y), (2, vi x2), (3, vi x3_24), (4, vi (1))]) [1, 0, 2, 3, 4] dX7_isSeen_74 (by decide) (fun _ => rfl) (fun uy uhy => ?_)
              subst uhy
              refine z_iinc (fun y => [(0, rf en 37), (1, vi (0)), (2, vi y), (3, vi x3_24), (4, vi (1))]) [1, 2, 0, 3, 4] 2 dX7_isSeen_75 rfl (by decide) (fun _ => rfl) (fun x2_75 e2_75 => ?_)
              refine z_goto (tgt := 8) dX7_isSeen_78 rfl ?_
              refine z_lv [0, 1, 2] [(0, rf en 37), (1, vi (0)), (2, vi x2_75)] rfl ?_
              exact uih8 (0) x2_75 (by omega) (⟨by omega, by omega, by rw [e2_75, tnS uq1, snO, tnC uq1, ← uq3, ue1]; rw [if_neg (fun uz => absurd uz.1 (by omega))]⟩)
            ·
              refine z_iload 4 dX7_isSeen_54 rfl ?_
              refine z_aload_n 0 dX7_isSeen_56 rfl ?_
              refine z_getR dX7_isSeen_57 fX7_49_6 i37_17 ka37 ?_
              refine z_iconst dX7_isSeen_60 ?_
              refine z_iload_n 2 dX7_isSeen_61 rfl ?_
              refine z_imul dX7_isSeen_62 ?_
              refine z_iconst dX7_isSeen_63 ?_
              refine z_iadd dX7_isSeen_64 ?_
              refine z_iald (r := Sg) dX7_isSeen_65 is51 ka51 (wSg) (by omega) ?_
              refine z_icmp_ne (tgt := 73) dX7_isSeen_66 rfl (by omega) (fun uc66 => ?_) (fun uc66 => ?_)
              ·
                refine z_iconst dX7_isSeen_73 ?_
                refine z_istore_n (fun y => [(0, rf en 37), (1, vi y), (2, vi x2), (3, vi x3_24), (4, vi (1))]) [1, 0, 2, 3, 4] dX7_isSeen_74 (by decide) (fun _ => rfl) (fun uy uhy => ?_)
                subst uhy
                refine z_iinc (fun y => [(0, rf en 37), (1, vi (0)), (2, vi y), (3, vi x3_24), (4, vi (1))]) [1, 2, 0, 3, 4] 2 dX7_isSeen_75 rfl (by decide) (fun _ => rfl) (fun x2_75 e2_75 => ?_)
                refine z_goto (tgt := 8) dX7_isSeen_78 rfl ?_
                refine z_lv [0, 1, 2] [(0, rf en 37), (1, vi (0)), (2, vi x2_75)] rfl ?_
                exact uih8 (0) x2_75 (by omega) (⟨by omega, by omega, by rw [e2_75, tnS uq1, snO, tnC uq1, ← uq3, ue1]; rw [if_neg (fun uz => uc66 uz.2)]⟩)
              ·
                refine z_iconst dX7_isSeen_69 ?_
                refine z_goto (tgt := 74) dX7_isSeen_70 rfl ?_
                refine z_istore_n (fun y => [(0, rf en 37), (1, vi y), (2, vi x2), (3, vi x3_24), (4, vi (1))]) [1, 0, 2, 3, 4] dX7_isSeen_74 (by decide) (fun _ => rfl) (fun uy uhy => ?_)
                subst uhy
                refine z_iinc (fun y => [(0, rf en 37), (1, vi (1)), (2, vi y), (3, vi x3_24), (4, vi (1))]) [1, 2, 0, 3, 4] 2 dX7_isSeen_75 rfl (by decide) (fun _ => rfl) (fun x2_75 e2_75 => ?_)
                refine z_goto (tgt := 8) dX7_isSeen_78 rfl ?_
                refine z_lv [0, 1, 2] [(0, rf en 37), (1, vi (1)), (2, vi x2_75)] rfl ?_
                exact uih8 (1) x2_75 (by omega) (⟨by omega, by omega, by rw [e2_75, tnS uq1, snO, tnC uq1, ← uq3, ue1]; rw [if_pos ⟨by omega, uc66⟩]⟩)
  exact uL8 _ 1 0 (Nat.lt_succ_self _) (⟨by omega, by omega, rfl⟩)
set_option maxRecDepth 100000 in
theorem ct_X7_fitsBy (en : zE) (M : zW) (O : Int → Int) (P : Int → Int) (T : Int → Int) (W : Int → Int) (C0 : Int → Int) (E0 : Int → Int) (G0 : Int → Int) (Sg : Int → Int) (wO : M 37 = O) (wP : M 45 = P) (wT : M 46 = T) (wW : M 47 = W) (wC0 : M 48 = C0) (wE0 : M 49 = E0) (wG0 : M 50 = G0) (wSg : M 51 = Sg) (wh : Int) (hT : tOK T) (hW : wOK W) (hP : pOK P (O 9)) (hn : 0 ≤ O 9 ∧ O 9 ≤ 8) (hG : ∀ j, 0 ≤ j → j < 16 → 0 ≤ Sg j ∧ Sg j ≤ 7) (ho : 0 ≤ O 16 ∧ O 16 ≤ 8) (h0 : -2147483648 ≤ wh ∧ wh < 2147483648) : Ct en kA yX7_fitsBy mX7_fitsBy [rf en 37, vi wh] M (pX (fun x N => ∃ r48 r49 r50 : Int → Int, x = (if wh = 0 then (fiS T W P (O 9) Sg (O 16).toNat 2 10 : Int) else (fiS T W P (O 9) Sg (O 16).toNat 0 8 : Int)) ∧ upR (upR (upR M 48 r48) 49 r49) 50 r50 = N)) := by
  refine Ct.of (by decide +kernel) rfl [(0, rf en 37), (1, vi wh)] rfl (Nat.le_of_ble_eq_true rfl) (fun cx C => ?_)
  refine z_iload_n 1 dX7_fitsBy_0 rfl ?_
  refine z_if_ne (tgt := 8) dX7_fitsBy_1 rfl (by omega) (fun uc1 => ?_) (fun uc1 => ?_)
  ·
    refine z_iconst dX7_fitsBy_8 ?_
    refine z_istore_n (fun y => [(0, rf en 37), (1, vi wh), (2, vi y)]) [1, 2, 0] dX7_fitsBy_9 (by decide) (fun _ => rfl) (fun uy uhy => ?_)
    subst uhy
    refine z_aload_n 0 dX7_fitsBy_10 rfl ?_
    refine z_getR dX7_fitsBy_11 fX7_34_6 i37_11 ka37 ?_
    refine z_iload_n 2 dX7_fitsBy_14 rfl ?_
    refine z_iald (r := T) dX7_fitsBy_15 is46 ka46 (wT) (by omega) ?_
    refine z_istore_n (fun y => [(0, rf en 37), (1, vi wh), (2, vi (0)), (3, vi y)]) [1, 2, 3, 0] dX7_fitsBy_16 (by decide) (fun _ => rfl) (fun x3_16 e3_16 => ?_)
    refine z_iconst dX7_fitsBy_17 ?_
    refine z_istore (fun y => [(0, rf en 37), (1, vi wh), (2, vi (0)), (3, vi x3_16), (4, vi y)]) [1, 2, 3, 4, 0] dX7_fitsBy_18 (by decide) (fun _ => rfl) (fun uy uhy => ?_)
    subst uhy
    refine z_iconst dX7_fitsBy_20 ?_
    refine z_istore (fun y => [(0, rf en 37), (1, vi wh), (2, vi (0)), (3, vi x3_16), (4, vi (0)), (5, vi y)]) [1, 2, 3, 4, 5, 0] dX7_fitsBy_21 (by decide) (fun _ => rfl) (fun uy uhy => ?_)
    subst uhy
    have uL23 : ∀ (fu : Nat) (x4 : Int) (x5 : Int) (r46 : Int → Int) (r48 : Int → Int) (r49 : Int → Int) (r50 : Int → Int), (10 - x5).toNat < fu → (0 ≤ x5 ∧ x5 ≤ 8 ∧ x4 = fiS T W P (O 9) Sg (O 16).toNat 0 x5.toNat ∧ ∀ v, up r46 0 v = up T 0 v) → Z en kA cx mX7_fitsBy (upR (upR (upR (upR M 46 r46) 48 r48) 49 r49) 50 r50) 23 [(0, rf en 37), (1, vi wh), (2, vi (0)), (3, vi x3_16), (4, vi x4), (5, vi x5)] [] := by
      intro fu
      induction fu with
      | zero => intro x4 x5 r46 r48 r49 r50 uhf; exact absurd uhf (Nat.not_lt_zero _)
      | succ fu uih23 =>
        intro x4 x5 r46 r48 r49 r50 uf23 uI23
        obtain ⟨uq1, uq2, uq3, uqr⟩ := uI23
        have uq4 := fiS_k T W P (O 9) Sg (O 16).toNat 0 (n := x5.toNat) (by omega)
        have uq5 := p2_rg x5.toNat (by omega)
        refine z_iload 5 dX7_fitsBy_23 rfl ?_
        refine z_iload_n 1 dX7_fitsBy_25 rfl ?_
        refine z_if_ne (tgt := 34) dX7_fitsBy_26 rfl (by omega) (fun uc26 => ?_) (fun uc26 => ?_)
        · first
          | (exfalso; omega)
          |
              refine z_bipush dX7_fitsBy_34 rfl ?_
              refine z_icmp_ge (tgt := 73) dX7_fitsBy_36 rfl (by omega) (fun uc36 => ?_) (fun uc36 => ?_)
              ·
                refine z_aload_n 0 dX7_fitsBy_73 rfl ?_
                refine z_getR dX7_fitsBy_74 fX7_34_6 i37_11 ka37 ?_
                refine z_iload_n 2 dX7_fitsBy_77 rfl ?_
                refine z_iload_n 3 dX7_fitsBy_78 rfl ?_
                refine z_iast' (r := r46) (fun r => (upR (upR (upR (upR M 46 r) 48 r48) 49 r49) 50 r50)) dX7_fitsBy_79 is46 ka46 (rfl) (by omega) (fun _ => uu4 (by decide) (by decide) (by decide)) (fun r46_79 f46_79 => ?_)
                refine z_iload 4 dX7_fitsBy_80 rfl ?_
                exact z_iret C dX7_fitsBy_82 rfl ⟨_, rfl, ⟨r48, r49, r50, by rw [if_neg uc1, uq3, show x5 = 8 by omega]; rfl, by rw [f46_79, e3_16, up_back uqr, upR_id wT]⟩⟩
              ·
                refine z_aload_n 0 dX7_fitsBy_39 rfl ?_
                refine z_getR dX7_fitsBy_40 fX7_34_6 i37_11 ka37 ?_
                refine z_iload_n 2 dX7_fitsBy_43 rfl ?_
                refine z_iload 5 dX7_fitsBy_44 rfl ?_
                refine z_iast' (r := r46) (fun r => (upR (upR (upR (upR M 46 r) 48 r48) 49 r49) 50 r50)) dX7_fitsBy_46 is46 ka46 (rfl) (by omega) (fun _ => uu4 (by decide) (by decide) (by decide)) (fun r46_46 f46_46 => ?_)
                have ut : r46_46 = up T 0 x5 := by rw [f46_46]; exact uqr x5
                have uT : tOK r46_46 := by rw [ut]; exact tOK_0 hT (by omega)
                refine z_iload 4 dX7_fitsBy_47 rfl ?_
                refine z_aload_n 0 dX7_fitsBy_49 rfl ?_
                refine z_vX dX7_fitsBy_50 lX7_200 (by decide) ka37 io37 rfl (ct_X7_isSeen en (upR (upR (upR (upR M 46 r46_46) 48 r48) 49 r49) 50 r50) O P r46_46 W r48 r49 r50 Sg wO wP rfl wW rfl rfl rfl wSg (by assumption) (by assumption) (by assumption) (by omega) (by assumption) (by omega)) rfl rfl (by exact Nat.le_of_ble_eq_true rfl) (fun uv50 uN50 uh50 => ?_)
                obtain ⟨r48_50, r49_50, r50_50, ul1_50, ul2_50, ul3_50, uw_50, rfl⟩ := uh50
                have uwr_50 := snO_01 r46_46 W P (O 9) Sg (O 16).toNat
                rw [uu3 (a := 48) (b0 := 49) (b1 := 50) (by decide) (by decide)]
                rw [uu2 (a := 49) (b0 := 50) (by decide)]
                rw [uu1 (a := 50)]
                refine z_if_eq (tgt := 63) dX7_fitsBy_53 rfl (by omega) (fun uc53 => ?_) (fun uc53 => ?_)
                ·
                  refine z_iconst dX7_fitsBy_63 ?_
                  refine z_ior dX7_fitsBy_64 (by omega) ?_
                  refine z_istore (fun y => [(0, rf en 37), (1, vi wh), (2, vi (0)), (3, vi x3_16), (4, vi y), (5, vi x5)]) [1, 2, 3, 4, 0, 5] dX7_fitsBy_65 (by decide) (fun _ => rfl) (fun x4_65 e4_65 => ?_)
                  refine z_iinc (fun y => [(0, rf en 37), (1, vi wh), (2, vi (0)), (3, vi x3_16), (4, vi x4_65), (5, vi y)]) [1, 2, 3, 4, 5, 0] 5 dX7_fitsBy_67 rfl (by decide) (fun _ => rfl) (fun x5_67 e5_67 => ?_)
                  refine z_goto (tgt := 23) dX7_fitsBy_70 rfl ?_
                  have uqv : ∀ uv, up r46_46 0 uv = up T 0 uv := fun uv => by rw [ut, up_up]
                  exact uih23 x4_65 x5_67 r46_46 r48_50 r49_50 r50_50 (by omega) (⟨by omega, by omega, by rw [e5_67, tnS uq1, fiS, tnC uq1, e4_65, uq3, Int.toNat_natCast]; rw [if_neg (by rw [← ut, ← uw_50]; omega)]; rfl, uqv⟩)
                ·
                  refine z_iconst dX7_fitsBy_56 ?_
                  refine z_iload 5 dX7_fitsBy_57 rfl ?_
                  refine z_ishl dX7_fitsBy_59 (by omega) ?_
                  refine z_goto (tgt := 64) dX7_fitsBy_60 rfl ?_
                  refine z_ior dX7_fitsBy_64 (by omega) ?_
                  refine z_istore (fun y => [(0, rf en 37), (1, vi wh), (2, vi (0)), (3, vi x3_16), (4, vi y), (5, vi x5)]) [1, 2, 3, 4, 0, 5] dX7_fitsBy_65 (by decide) (fun _ => rfl) (fun x4_65 e4_65 => ?_)
                  refine z_iinc (fun y => [(0, rf en 37), (1, vi wh), (2, vi (0)), (3, vi x3_16), (4, vi x4_65), (5, vi y)]) [1, 2, 3, 4, 5, 0] 5 dX7_fitsBy_67 rfl (by decide) (fun _ => rfl) (fun x5_67 e5_67 => ?_)
                  refine z_goto (tgt := 23) dX7_fitsBy_70 rfl ?_
                  have uqv : ∀ uv, up r46_46 0 uv = up T 0 uv := fun uv => by rw [ut, up_up]
                  exact uih23 x4_65 x5_67 r46_46 r48_50 r49_50 r50_50 (by omega) (⟨by omega, by omega, by rw [e5_67, tnS uq1, fiS, tnC uq1, e4_65, uq3, Int.toNat_natCast]; rw [if_pos (by rw [← ut, ← uw_50]; omega), Int.one_mul, p2_nat], uqv⟩)
        · first
          | (exfalso; omega)
          |
              refine z_bipush dX7_fitsBy_29 rfl ?_
              refine z_goto (tgt := 36) dX7_fitsBy_31 rfl ?_
              refine z_icmp_ge (tgt := 73) dX7_fitsBy_36 rfl (by omega) (fun uc36 => ?_) (fun uc36 => ?_)
              ·
                refine z_aload_n 0 dX7_fitsBy_73 rfl ?_
                refine z_getR dX7_fitsBy_74 fX7_34_6 i37_11 ka37 ?_
                refine z_iload_n 2 dX7_fitsBy_77 rfl ?_
                refine z_iload_n 3 dX7_fitsBy_78 rfl ?_
                refine z_iast' (r := r46) (fun r => (upR (upR (upR (upR M 46 r) 48 r48) 49 r49) 50 r50)) dX7_fitsBy_79 is46 ka46 (rfl) (by omega) (fun _ => uu4 (by decide) (by decide) (by decide)) (fun r46_79 f46_79 => ?_)
                refine z_iload 4 dX7_fitsBy_80 rfl ?_
                exact z_iret C dX7_fitsBy_82 rfl ⟨_, rfl, ⟨r48, r49, r50, by rw [if_neg uc1, uq3, show x5 = 8 by omega]; rfl, by rw [f46_79, e3_16, up_back uqr, upR_id wT]⟩⟩
              ·
                refine z_aload_n 0 dX7_fitsBy_39 rfl ?_
                refine z_getR dX7_fitsBy_40 fX7_34_6 i37_11 ka37 ?_
                refine z_iload_n 2 dX7_fitsBy_43 rfl ?_
                refine z_iload 5 dX7_fitsBy_44 rfl ?_
                refine z_iast' (r := r46) (fun r => (upR (upR (upR (upR M 46 r) 48 r48) 49 r49) 50 r50)) dX7_fitsBy_46 is46 ka46 (rfl) (by omega) (fun _ => uu4 (by decide) (by decide) (by decide)) (fun r46_46 f46_46 => ?_)
                have ut : r46_46 = up T 0 x5 := by rw [f46_46]; exact uqr x5
                have uT : tOK r46_46 := by rw [ut]; exact tOK_0 hT (by omega)
                refine z_iload 4 dX7_fitsBy_47 rfl ?_
                refine z_aload_n 0 dX7_fitsBy_49 rfl ?_
                refine z_vX dX7_fitsBy_50 lX7_200 (by decide) ka37 io37 rfl (ct_X7_isSeen en (upR (upR (upR (upR M 46 r46_46) 48 r48) 49 r49) 50 r50) O P r46_46 W r48 r49 r50 Sg wO wP rfl wW rfl rfl rfl wSg (by assumption) (by assumption) (by assumption) (by omega) (by assumption) (by omega)) rfl rfl (by exact Nat.le_of_ble_eq_true rfl) (fun uv50 uN50 uh50 => ?_)
                obtain ⟨r48_50, r49_50, r50_50, ul1_50, ul2_50, ul3_50, uw_50, rfl⟩ := uh50
                have uwr_50 := snO_01 r46_46 W P (O 9) Sg (O 16).toNat
                rw [uu3 (a := 48) (b0 := 49) (b1 := 50) (by decide) (by decide)]
                rw [uu2 (a := 49) (b0 := 50) (by decide)]
                rw [uu1 (a := 50)]
                refine z_if_eq (tgt := 63) dX7_fitsBy_53 rfl (by omega) (fun uc53 => ?_) (fun uc53 => ?_)
                ·
                  refine z_iconst dX7_fitsBy_63 ?_
                  refine z_ior dX7_fitsBy_64 (by omega) ?_
                  refine z_istore (fun y => [(0, rf en 37), (1, vi wh), (2, vi (0)), (3, vi x3_16), (4, vi y), (5, vi x5)]) [1, 2, 3, 4, 0, 5] dX7_fitsBy_65 (by decide) (fun _ => rfl) (fun x4_65 e4_65 => ?_)
                  refine z_iinc (fun y => [(0, rf en 37), (1, vi wh), (2, vi (0)), (3, vi x3_16), (4, vi x4_65), (5, vi y)]) [1, 2, 3, 4, 5, 0] 5 dX7_fitsBy_67 rfl (by decide) (fun _ => rfl) (fun x5_67 e5_67 => ?_)
                  refine z_goto (tgt := 23) dX7_fitsBy_70 rfl ?_
                  have uqv : ∀ uv, up r46_46 0 uv = up T 0 uv := fun uv => by rw [ut, up_up]
                  exact uih23 x4_65 x5_67 r46_46 r48_50 r49_50 r50_50 (by omega) (⟨by omega, by omega, by rw [e5_67, tnS uq1, fiS, tnC uq1, e4_65, uq3, Int.toNat_natCast]; rw [if_neg (by rw [← ut, ← uw_50]; omega)]; rfl, uqv⟩)
                ·
                  refine z_iconst dX7_fitsBy_56 ?_
                  refine z_iload 5 dX7_fitsBy_57 rfl ?_
                  refine z_ishl dX7_fitsBy_59 (by omega) ?_
                  refine z_goto (tgt := 64) dX7_fitsBy_60 rfl ?_
                  refine z_ior dX7_fitsBy_64 (by omega) ?_
                  refine z_istore (fun y => [(0, rf en 37), (1, vi wh), (2, vi (0)), (3, vi x3_16), (4, vi y), (5, vi x5)]) [1, 2, 3, 4, 0, 5] dX7_fitsBy_65 (by decide) (fun _ => rfl) (fun x4_65 e4_65 => ?_)
                  refine z_iinc (fun y => [(0, rf en 37), (1, vi wh), (2, vi (0)), (3, vi x3_16), (4, vi x4_65), (5, vi y)]) [1, 2, 3, 4, 5, 0] 5 dX7_fitsBy_67 rfl (by decide) (fun _ => rfl) (fun x5_67 e5_67 => ?_)
                  refine z_goto (tgt := 23) dX7_fitsBy_70 rfl ?_
                  have uqv : ∀ uv, up r46_46 0 uv = up T 0 uv := fun uv => by rw [ut, up_up]
                  exact uih23 x4_65 x5_67 r46_46 r48_50 r49_50 r50_50 (by omega) (⟨by omega, by omega, by rw [e5_67, tnS uq1, fiS, tnC uq1, e4_65, uq3, Int.toNat_natCast]; rw [if_pos (by rw [← ut, ← uw_50]; omega), Int.one_mul, p2_nat], uqv⟩)
    refine Z.eqM (upR_id (k := 46) wT) ?_
    refine Z.eqM (upR_id (k := 48) wC0) ?_
    refine Z.eqM (upR_id (k := 49) wE0) ?_
    refine Z.eqM (upR_id (k := 50) wG0) ?_
    exact uL23 _ 0 0 T C0 E0 G0 (Nat.lt_succ_self _) (⟨by omega, by omega, rfl, fun uv => rfl⟩)
  ·
    refine z_iconst dX7_fitsBy_4 ?_
    refine z_goto (tgt := 9) dX7_fitsBy_5 rfl ?_
    refine z_istore_n (fun y => [(0, rf en 37), (1, vi wh), (2, vi y)]) [1, 2, 0] dX7_fitsBy_9 (by decide) (fun _ => rfl) (fun uy uhy => ?_)
    subst uhy
    refine z_aload_n 0 dX7_fitsBy_10 rfl ?_
    refine z_getR dX7_fitsBy_11 fX7_34_6 i37_11 ka37 ?_
    refine z_iload_n 2 dX7_fitsBy_14 rfl ?_
    refine z_iald (r := T) dX7_fitsBy_15 is46 ka46 (wT) (by omega) ?_
    refine z_istore_n (fun y => [(0, rf en 37), (1, vi wh), (2, vi (2)), (3, vi y)]) [1, 2, 3, 0] dX7_fitsBy_16 (by decide) (fun _ => rfl) (fun x3_16 e3_16 => ?_)
    refine z_iconst dX7_fitsBy_17 ?_
    refine z_istore (fun y => [(0, rf en 37), (1, vi wh), (2, vi (2)), (3, vi x3_16), (4, vi y)]) [1, 2, 3, 4, 0] dX7_fitsBy_18 (by decide) (fun _ => rfl) (fun uy uhy => ?_)
    subst uhy
    refine z_iconst dX7_fitsBy_20 ?_
    refine z_istore (fun y => [(0, rf en 37), (1, vi wh), (2, vi (2)), (3, vi x3_16), (4, vi (0)), (5, vi y)]) [1, 2, 3, 4, 5, 0] dX7_fitsBy_21 (by decide) (fun _ => rfl) (fun uy uhy => ?_)
    subst uhy
    have uL23 : ∀ (fu : Nat) (x4 : Int) (x5 : Int) (r46 : Int → Int) (r48 : Int → Int) (r49 : Int → Int) (r50 : Int → Int), (10 - x5).toNat < fu → (0 ≤ x5 ∧ x5 ≤ 10 ∧ x4 = fiS T W P (O 9) Sg (O 16).toNat 2 x5.toNat ∧ ∀ v, up r46 2 v = up T 2 v) → Z en kA cx mX7_fitsBy (upR (upR (upR (upR M 46 r46) 48 r48) 49 r49) 50 r50) 23 [(0, rf en 37), (1, vi wh), (2, vi (2)), (3, vi x3_16), (4, vi x4), (5, vi x5)] [] := by
      intro fu
      induction fu with
      | zero => intro x4 x5 r46 r48 r49 r50 uhf; exact absurd uhf (Nat.not_lt_zero _)
      | succ fu uih23 =>
        intro x4 x5 r46 r48 r49 r50 uf23 uI23
        obtain ⟨uq1, uq2, uq3, uqr⟩ := uI23
        have uq4 := fiS_k T W P (O 9) Sg (O 16).toNat 2 (n := x5.toNat) (by omega)
        have uq5 := p2_rg x5.toNat (by omega)
        refine z_iload 5 dX7_fitsBy_23 rfl ?_
        refine z_iload_n 1 dX7_fitsBy_25 rfl ?_
        refine z_if_ne (tgt := 34) dX7_fitsBy_26 rfl (by omega) (fun uc26 => ?_) (fun uc26 => ?_)
        · first
          | (exfalso; omega)
          |
              refine z_bipush dX7_fitsBy_34 rfl ?_
              refine z_icmp_ge (tgt := 73) dX7_fitsBy_36 rfl (by omega) (fun uc36 => ?_) (fun uc36 => ?_)
              ·
                refine z_aload_n 0 dX7_fitsBy_73 rfl ?_
                refine z_getR dX7_fitsBy_74 fX7_34_6 i37_11 ka37 ?_
                refine z_iload_n 2 dX7_fitsBy_77 rfl ?_
                refine z_iload_n 3 dX7_fitsBy_78 rfl ?_
                refine z_iast' (r := r46) (fun r => (upR (upR (upR (upR M 46 r) 48 r48) 49 r49) 50 r50)) dX7_fitsBy_79 is46 ka46 (rfl) (by omega) (fun _ => uu4 (by decide) (by decide) (by decide)) (fun r46_79 f46_79 => ?_)
                refine z_iload 4 dX7_fitsBy_80 rfl ?_
                exact z_iret C dX7_fitsBy_82 rfl ⟨_, rfl, ⟨r48, r49, r50, by rw [if_pos uc1, uq3, show x5 = 10 by omega]; rfl, by rw [f46_79, e3_16, up_back uqr, upR_id wT]⟩⟩
              ·
                refine z_aload_n 0 dX7_fitsBy_39 rfl ?_
                refine z_getR dX7_fitsBy_40 fX7_34_6 i37_11 ka37 ?_
                refine z_iload_n 2 dX7_fitsBy_43 rfl ?_
                refine z_iload 5 dX7_fitsBy_44 rfl ?_
                refine z_iast' (r := r46) (fun r => (upR (upR (upR (upR M 46 r) 48 r48) 49 r49) 50 r50)) dX7_fitsBy_46 is46 ka46 (rfl) (by omega) (fun _ => uu4 (by decide) (by decide) (by decide)) (fun r46_46 f46_46 => ?_)
                have ut : r46_46 = up T 2 x5 := by rw [f46_46]; exact uqr x5
                have uT : tOK r46_46 := by rw [ut]; exact tOK_2 hT (by omega)
                refine z_iload 4 dX7_fitsBy_47 rfl ?_
                refine z_aload_n 0 dX7_fitsBy_49 rfl ?_
                refine z_vX dX7_fitsBy_50 lX7_200 (by decide) ka37 io37 rfl (ct_X7_isSeen en (upR (upR (upR (upR M 46 r46_46) 48 r48) 49 r49) 50 r50) O P r46_46 W r48 r49 r50 Sg wO wP rfl wW rfl rfl rfl wSg (by assumption) (by assumption) (by assumption) (by omega) (by assumption) (by omega)) rfl rfl (by exact Nat.le_of_ble_eq_true rfl) (fun uv50 uN50 uh50 => ?_)
                obtain ⟨r48_50, r49_50, r50_50, ul1_50, ul2_50, ul3_50, uw_50, rfl⟩ := uh50
                have uwr_50 := snO_01 r46_46 W P (O 9) Sg (O 16).toNat
                rw [uu3 (a := 48) (b0 := 49) (b1 := 50) (by decide) (by decide)]
                rw [uu2 (a := 49) (b0 := 50) (by decide)]
                rw [uu1 (a := 50)]
                refine z_if_eq (tgt := 63) dX7_fitsBy_53 rfl (by omega) (fun uc53 => ?_) (fun uc53 => ?_)
                ·
                  refine z_iconst dX7_fitsBy_63 ?_
                  refine z_ior dX7_fitsBy_64 (by omega) ?_
                  refine z_istore (fun y => [(0, rf en 37), (1, vi wh), (2, vi (2)), (3, vi x3_16), (4, vi y), (5, vi x5)]) [1, 2, 3, 4, 0, 5] dX7_fitsBy_65 (by decide) (fun _ => rfl) (fun x4_65 e4_65 => ?_)
                  refine z_iinc (fun y => [(0, rf en 37), (1, vi wh), (2, vi (2)), (3, vi x3_16), (4, vi x4_65), (5, vi y)]) [1, 2, 3, 4, 5, 0] 5 dX7_fitsBy_67 rfl (by decide) (fun _ => rfl) (fun x5_67 e5_67 => ?_)
                  refine z_goto (tgt := 23) dX7_fitsBy_70 rfl ?_
                  have uqv : ∀ uv, up r46_46 2 uv = up T 2 uv := fun uv => by rw [ut, up_up]
                  exact uih23 x4_65 x5_67 r46_46 r48_50 r49_50 r50_50 (by omega) (⟨by omega, by omega, by rw [e5_67, tnS uq1, fiS, tnC uq1, e4_65, uq3, Int.toNat_natCast]; rw [if_neg (by rw [← ut, ← uw_50]; omega)]; rfl, uqv⟩)
                ·
                  refine z_iconst dX7_fitsBy_56 ?_
                  refine z_iload 5 dX7_fitsBy_57 rfl ?_
                  refine z_ishl dX7_fitsBy_59 (by omega) ?_
                  refine z_goto (tgt := 64) dX7_fitsBy_60 rfl ?_
                  refine z_ior dX7_fitsBy_64 (by omega) ?_
                  refine z_istore (fun y => [(0, rf en 37), (1, vi wh), (2, vi (2)), (3, vi x3_16), (4, vi y), (5, vi x5)]) [1, 2, 3, 4, 0, 5] dX7_fitsBy_65 (by decide) (fun _ => rfl) (fun x4_65 e4_65 => ?_)
                  refine z_iinc (fun y => [(0, rf en 37), (1, vi wh), (2, vi (2)), (3, vi x3_16), (4, vi x4_65), (5, vi y)]) [1, 2, 3, 4, 5, 0] 5 dX7_fitsBy_67 rfl (by decide) (fun _ => rfl) (fun x5_67 e5_67 => ?_)
                  refine z_goto (tgt := 23) dX7_fitsBy_70 rfl ?_
                  have uqv : ∀ uv, up r46_46 2 uv = up T 2 uv := fun uv => by rw [ut, up_up]
                  exact uih23 x4_65 x5_67 r46_46 r48_50 r49_50 r50_50 (by omega) (⟨by omega, by omega, by rw [e5_67, tnS uq1, fiS, tnC uq1, e4_65, uq3, Int.toNat_natCast]; rw [if_pos (by rw [← ut, ← uw_50]; omega), Int.one_mul, p2_nat], uqv⟩)
        · first
          | (exfalso; omega)
          |
              refine z_bipush dX7_fitsBy_29 rfl ?_
              refine z_goto (tgt := 36) dX7_fitsBy_31 rfl ?_
              refine z_icmp_ge (tgt := 73) dX7_fitsBy_36 rfl (by omega) (fun uc36 => ?_) (fun uc36 => ?_)
              ·
                refine z_aload_n 0 dX7_fitsBy_73 rfl ?_
                refine z_getR dX7_fitsBy_74 fX7_34_6 i37_11 ka37 ?_
                refine z_iload_n 2 dX7_fitsBy_77 rfl ?_
                refine z_iload_n 3 dX7_fitsBy_78 rfl ?_
                refine z_iast' (r := r46) (fun r => (upR (upR (upR (upR M 46 r) 48 r48) 49 r49) 50 r50)) dX7_fitsBy_79 is46 ka46 (rfl) (by omega) (fun _ => uu4 (by decide) (by decide) (by decide)) (fun r46_79 f46_79 => ?_)
                refine z_iload 4 dX7_fitsBy_80 rfl ?_
                exact z_iret C dX7_fitsBy_82 rfl ⟨_, rfl, ⟨r48, r49, r50, by rw [if_pos uc1, uq3, show x5 = 10 by omega]; rfl, by rw [f46_79, e3_16, up_back uqr, upR_id wT]⟩⟩
              ·
                refine z_aload_n 0 dX7_fitsBy_39 rfl ?_
                refine z_getR dX7_fitsBy_40 fX7_34_6 i37_11 ka37 ?_
                refine z_iload_n 2 dX7_fitsBy_43 rfl ?_
                refine z_iload 5 dX7_fitsBy_44 rfl ?_
                refine z_iast' (r := r46) (fun r => (upR (upR (upR (upR M 46 r) 48 r48) 49 r49) 50 r50)) dX7_fitsBy_46 is46 ka46 (rfl) (by omega) (fun _ => uu4 (by decide) (by decide) (by decide)) (fun r46_46 f46_46 => ?_)
                have ut : r46_46 = up T 2 x5 := by rw [f46_46]; exact uqr x5
                have uT : tOK r46_46 := by rw [ut]; exact tOK_2 hT (by omega)
                refine z_iload 4 dX7_fitsBy_47 rfl ?_
                refine z_aload_n 0 dX7_fitsBy_49 rfl ?_
                refine z_vX dX7_fitsBy_50 lX7_200 (by decide) ka37 io37 rfl (ct_X7_isSeen en (upR (upR (upR (upR M 46 r46_46) 48 r48) 49 r49) 50 r50) O P r46_46 W r48 r49 r50 Sg wO wP rfl wW rfl rfl rfl wSg (by assumption) (by assumption) (by assumption) (by omega) (by assumption) (by omega)) rfl rfl (by exact Nat.le_of_ble_eq_true rfl) (fun uv50 uN50 uh50 => ?_)
                obtain ⟨r48_50, r49_50, r50_50, ul1_50, ul2_50, ul3_50, uw_50, rfl⟩ := uh50
                have uwr_50 := snO_01 r46_46 W P (O 9) Sg (O 16).toNat
                rw [uu3 (a := 48) (b0 := 49) (b1 := 50) (by decide) (by decide)]
                rw [uu2 (a := 49) (b0 := 50) (by decide)]
                rw [uu1 (a := 50)]
                refine z_if_eq (tgt := 63) dX7_fitsBy_53 rfl (by omega) (fun uc53 => ?_) (fun uc53 => ?_)
                ·
                  refine z_iconst dX7_fitsBy_63 ?_
                  refine z_ior dX7_fitsBy_64 (by omega) ?_
                  refine z_istore (fun y => [(0, rf en 37), (1, vi wh), (2, vi (2)), (3, vi x3_16), (4, vi y), (5, vi x5)]) [1, 2, 3, 4, 0, 5] dX7_fitsBy_65 (by decide) (fun _ => rfl) (fun x4_65 e4_65 => ?_)
                  refine z_iinc (fun y => [(0, rf en 37), (1, vi wh), (2, vi (2)), (3, vi x3_16), (4, vi x4_65), (5, vi y)]) [1, 2, 3, 4, 5, 0] 5 dX7_fitsBy_67 rfl (by decide) (fun _ => rfl) (fun x5_67 e5_67 => ?_)
                  refine z_goto (tgt := 23) dX7_fitsBy_70 rfl ?_
                  have uqv : ∀ uv, up r46_46 2 uv = up T 2 uv := fun uv => by rw [ut, up_up]
                  exact uih23 x4_65 x5_67 r46_46 r48_50 r49_50 r50_50 (by omega) (⟨by omega, by omega, by rw [e5_67, tnS uq1, fiS, tnC uq1, e4_65, uq3, Int.toNat_natCast]; rw [if_neg (by rw [← ut, ← uw_50]; omega)]; rfl, uqv⟩)
                ·
                  refine z_iconst dX7_fitsBy_56 ?_
                  refine z_iload 5 dX7_fitsBy_57 rfl ?_
                  refine z_ishl dX7_fitsBy_59 (by omega) ?_
                  refine z_goto (tgt := 64) dX7_fitsBy_60 rfl ?_
                  refine z_ior dX7_fitsBy_64 (by omega) ?_
                  refine z_istore (fun y => [(0, rf en 37), (1, vi wh), (2, vi (2)), (3, vi x3_16), (4, vi y), (5, vi x5)]) [1, 2, 3, 4, 0, 5] dX7_fitsBy_65 (by decide) (fun _ => rfl) (fun x4_65 e4_65 => ?_)
                  refine z_iinc (fun y => [(0, rf en 37), (1, vi wh), (2, vi (2)), (3, vi x3_16), (4, vi x4_65), (5, vi y)]) [1, 2, 3, 4, 5, 0] 5 dX7_fitsBy_67 rfl (by decide) (fun _ => rfl) (fun x5_67 e5_67 => ?_)
                  refine z_goto (tgt := 23) dX7_fitsBy_70 rfl ?_
                  have uqv : ∀ uv, up r46_46 2 uv = up T 2 uv := fun uv => by rw [ut, up_up]
                  exact uih23 x4_65 x5_67 r46_46 r48_50 r49_50 r50_50 (by omega) (⟨by omega, by omega, by rw [e5_67, tnS uq1, fiS, tnC uq1, e4_65, uq3, Int.toNat_natCast]; rw [if_pos (by rw [← ut, ← uw_50]; omega), Int.one_mul, p2_nat], uqv⟩)
    refine Z.eqM (upR_id (k := 46) wT) ?_
    refine Z.eqM (upR_id (k := 48) wC0) ?_
    refine Z.eqM (upR_id (k := 49) wE0) ?_
    refine Z.eqM (upR_id (k := 50) wG0) ?_
    exact uL23 _ 0 0 T C0 E0 G0 (Nat.lt_succ_self _) (⟨by omega, by omega, rfl, fun uv => rfl⟩)
set_option maxRecDepth 100000 in
theorem ct_X7_mostAlike (en : zE) (M : zW) (T : Int → Int) (W : Int → Int) (V : Int → Int) (wT : M 46 = T) (wW : M 47 = W) (wV : M 52 = V) (tw : Int) (sm : Int) (hT : tOK T) (hW : wOK W) (h0 : 0 ≤ tw ∧ tw ≤ 7 ∧ 0 ≤ sm ∧ sm ≤ 255) : Ct en kA yX7_mostAlike mX7_mostAlike [rf en 37, vi tw, vi sm] M (pX (fun x N => ∃ r52 : Int → Int, x = maO T W tw sm ∧ upR M 52 r52 = N)) := by
  refine Ct.of (by decide +kernel) rfl [(0, rf en 37), (1, vi tw), (2, vi sm)] rfl (Nat.le_of_ble_eq_true rfl) (fun cx C => ?_)
  refine z_aload_n 0 dX7_mostAlike_0 rfl ?_
  refine z_getR dX7_mostAlike_1 fX7_34_6 i37_11 ka37 ?_
  refine z_iconst dX7_mostAlike_4 ?_
  refine z_iald (r := T) dX7_mostAlike_5 is46 ka46 (wT) (by omega) ?_
  refine z_istore_n (fun y => [(0, rf en 37), (1, vi tw), (2, vi sm), (3, vi y)]) [1, 2, 3, 0] dX7_mostAlike_6 (by decide) (fun _ => rfl) (fun x3_6 e3_6 => ?_)
  refine z_iconst dX7_mostAlike_7 ?_
  refine z_istore (fun y => [(0, rf en 37), (1, vi tw), (2, vi sm), (3, vi x3_6), (4, vi y)]) [1, 2, 3, 4, 0] dX7_mostAlike_8 (by decide) (fun _ => rfl) (fun uy uhy => ?_)
  subst uhy
  refine z_iconst dX7_mostAlike_10 ?_
  refine z_istore (fun y => [(0, rf en 37), (1, vi tw), (2, vi sm), (3, vi x3_6), (4, vi (0)), (5, vi y)]) [1, 2, 3, 4, 5, 0] dX7_mostAlike_11 (by decide) (fun _ => rfl) (fun uy uhy => ?_)
  subst uhy
  have uL13 : ∀ (fu : Nat) (x4 : Int) (x5 : Int) (r46 : Int → Int) (r52 : Int → Int), (8 - x5).toNat < fu → (0 ≤ x5 ∧ x5 ≤ 8 ∧ x4 = (hl T W tw sm x5.toNat).length ∧ (∀ i : Nat, (i : Int) < x4 → r52 i = (hl T W tw sm x5.toNat).getD i 0) ∧ ∀ v, up r46 0 v = up T 0 v) → Z en kA cx mX7_mostAlike (upR (upR M 46 r46) 52 r52) 13 [(0, rf en 37), (1, vi tw), (2, vi sm), (3, vi x3_6), (4, vi x4), (5, vi x5)] [] := by
    intro fu
    induction fu with
    | zero => intro x4 x5 r46 r52 uhf; exact absurd uhf (Nat.not_lt_zero _)
    | succ fu uih13 =>
      intro x4 x5 r46 r52 uf13 uI13
      obtain ⟨uq1, uq2, uq3, uq4, uqr⟩ := uI13
      have uq5 := hl_len T W tw sm x5.toNat
      refine z_iload 5 dX7_mostAlike_13 rfl ?_
      refine z_bipush dX7_mostAlike_15 rfl ?_
      refine z_icmp_ge (tgt := 58) dX7_mostAlike_17 rfl (by omega) (fun uc17 => ?_) (fun uc17 => ?_)
      ·
        have uq14 : x5 = 8 := by omega
        subst uq14
        have uql : ((hl T W tw sm 8).length : Int) = x4 := uq3.symm
        have uql2 := hl_len T W tw sm 8
        refine z_aload_n 0 dX7_mostAlike_58 rfl ?_
        refine z_getR dX7_mostAlike_59 fX7_34_6 i37_11 ka37 ?_
        refine z_iconst dX7_mostAlike_62 ?_
        refine z_iload_n 3 dX7_mostAlike_63 rfl ?_
        refine z_iast' (r := r46) (fun r => (upR (upR M 46 r) 52 r52)) dX7_mostAlike_64 is46 ka46 (rfl) (by omega) (fun _ => uu2 (by decide)) (fun r46_64 f46_64 => ?_)
        have uqb : ∀ uj, 0 ≤ uj → uj < x4 → 0 ≤ r52 uj ∧ r52 uj ≤ 9999 := hl_rg hT hW (by omega) uq3 uq4
        refine z_iconst dX7_mostAlike_65 ?_
        refine z_istore (fun y => [(0, rf en 37), (1, vi tw), (2, vi sm), (3, vi x3_6), (4, vi x4), (5, vi y)]) [1, 2, 3, 4, 5, 0] dX7_mostAlike_66 (by decide) (fun _ => rfl) (fun uy uhy => ?_)
        subst uhy
        refine z_iconst dX7_mostAlike_68 ?_
        refine z_istore (fun y => [(0, rf en 37), (1, vi tw), (2, vi sm), (3, vi x3_6), (4, vi x4), (5, vi (0)), (6, vi y)]) [1, 2, 3, 4, 5, 6, 0] dX7_mostAlike_69 (by decide) (fun _ => rfl) (fun uy uhy => ?_)
        subst uhy
        have uL71 : ∀ (fu : Nat) (x5 : Int) (x6 : Int), (x4 - x6).toNat < fu → (0 ≤ x6 ∧ x6 ≤ x4 ∧ x5 = mstL (hl T W tw sm 8) x6.toNat) → Z en kA cx mX7_mostAlike (upR (upR M 46 r46_64) 52 r52) 71 [(0, rf en 37), (1, vi tw), (2, vi sm), (3, vi x3_6), (4, vi x4), (5, vi x5), (6, vi x6)] [] := by
          intro fu
          induction fu with
          | zero => intro x5 x6 uhf; exact absurd uhf (Nat.not_lt_zero _)
          | succ fu uih71 =>
            intro x5 x6 uf71 uI71
            obtain ⟨uq6, uq7, uq8⟩ := uI71
            have uq9 := mstL_rg (hl T W tw sm 8) x6.toNat
            refine z_iload 6 dX7_mostAlike_71 rfl ?_
            refine z_iload 4 dX7_mostAlike_73 rfl ?_
            refine z_icmp_ge (tgt := 146) dX7_mostAlike_75 rfl (by omega) (fun uc75 => ?_) (fun uc75 => ?_)
            ·
              refine z_iload 5 dX7_mostAlike_146 rfl ?_
              exact z_iret C dX7_mostAlike_148 rfl ⟨_, rfl, ⟨r52, by rw [uq8, maO]; congr 1; have uz : x4 = ((hl T W tw sm 8).length : Int) := uq3; omega, by rw [f46_64, e3_6, up_back uqr, upR_id wT]⟩⟩
            ·
              refine z_iconst dX7_mostAlike_78 ?_
              refine z_istore (fun y => [(0, rf en 37), (1, vi tw), (2, vi sm), (3, vi x3_6), (4, vi x4), (5, vi x5), (6, vi x6), (7, vi y)]) [1, 2, 3, 4, 5, 6, 7, 0] dX7_mostAlike_79 (by decide) (fun _ => rfl) (fun uy uhy => ?_)
              subst uhy
              refine z_iconst dX7_mostAlike_81 ?_
              refine z_istore (fun y => [(0, rf en 37), (1, vi tw), (2, vi sm), (3, vi x3_6), (4, vi x4), (5, vi x5), (6, vi x6), (7, vi (0)), (8, vi y)]) [1, 2, 3, 4, 5, 6, 7, 8, 0] dX7_mostAlike_82 (by decide) (fun _ => rfl) (fun uy uhy => ?_)
              subst uhy
              have uL84 : ∀ (fu : Nat) (x7 : Int) (x8 : Int), (x4 - x8).toNat < fu → (0 ≤ x8 ∧ x8 ≤ x4 ∧ x7 = cntL (hl T W tw sm 8) ((hl T W tw sm 8).getD x6.toNat 0) x8.toNat) → Z en kA cx mX7_mostAlike (upR (upR M 46 r46_64) 52 r52) 84 [(0, rf en 37), (1, vi tw), (2, vi sm), (3, vi x3_6), (4, vi x4), (5, vi x5), (6, vi x6), (7, vi x7), (8, vi x8)] [] := by
                intro fu
                induction fu with
                | zero => intro x7 x8 uhf; exact absurd uhf (Nat.not_lt_zero _)
                | succ fu uih84 =>
                  intro x7 x8 uf84 uI84
                  obtain ⟨uq10, uq11, uq12⟩ := uI84
                  have uq13 := cntL_rg (hl T W tw sm 8) ((hl T W tw sm 8).getD x6.toNat 0) x8.toNat
                  refine z_iload 8 dX7_mostAlike_84 rfl ?_
                  refine z_iload 4 dX7_mostAlike_86 rfl ?_
                  refine z_icmp_ge (tgt := 124) dX7_mostAlike_88 rfl (by omega) (fun uc88 => ?_) (fun uc88 => ?_)
                  ·
                    have uqc : x7 = cntL (hl T W tw sm 8) ((hl T W tw sm 8).getD x6.toNat 0) (hl T W tw sm 8).length := by rw [uq12]; congr 1; have uz : x4 = ((hl T W tw sm 8).length : Int) := uq3; omega
                    refine z_iload 7 dX7_mostAlike_124 rfl ?_
                    refine z_iload 5 dX7_mostAlike_126 rfl ?_
                    refine z_icmp_le (tgt := 136) dX7_mostAlike_128 rfl (by omega) (fun uc128 => ?_) (fun uc128 => ?_)
                    ·
                      refine z_iload 5 dX7_mostAlike_136 rfl ?_
                      refine z_istore (fun y => [(0, rf en 37), (1, vi tw), (2, vi sm), (3, vi x3_6), (4, vi x4), (5, vi y), (6, vi x6), (7, vi x7), (8, vi x8)]) [1, 2, 3, 4, 5, 0, 6, 7, 8] dX7_mostAlike_138 (by decide) (fun _ => rfl) (fun x5_138 e5_138 => ?_)
                      refine z_iinc (fun y => [(0, rf en 37), (1, vi tw), (2, vi sm), (3, vi x3_6), (4, vi x4), (5, vi x5_138), (6, vi y), (7, vi x7), (8, vi x8)]) [1, 2, 3, 4, 5, 6, 0, 7, 8] 6 dX7_mostAlike_140 rfl (by decide) (fun _ => rfl) (fun x6_140 e6_140 => ?_)
                      refine z_goto (tgt := 71) dX7_mostAlike_143 rfl ?_
                      refine z_lv [0, 1, 2, 3, 4, 5, 6] [(0, rf en 37), (1, vi tw), (2, vi sm), (3, vi x3_6), (4, vi x4), (5, vi x5_138), (6, vi x6_140)] rfl ?_
                      exact uih71 x5_138 x6_140 (by omega) (⟨by omega, by omega, by rw [e6_140, tnS uq6, mstL, e5_138, ← uq8, ← uqc]; rw [if_neg (by omega)]⟩)
                    ·
                      refine z_iload 7 dX7_mostAlike_131 rfl ?_
                      refine z_goto (tgt := 138) dX7_mostAlike_133 rfl ?_
                      refine z_istore (fun y => [(0, rf en 37), (1, vi tw), (2, vi sm), (3, vi x3_6), (4, vi x4), (5, vi y), (6, vi x6), (7, vi x7), (8, vi x8)]) [1, 2, 3, 4, 5, 0, 6, 7, 8] dX7_mostAlike_138 (by decide) (fun _ => rfl) (fun x5_138 e5_138 => ?_)
                      refine z_iinc (fun y => [(0, rf en 37), (1, vi tw), (2, vi sm), (3, vi x3_6), (4, vi x4), (5, vi x5_138), (6, vi y), (7, vi x7), (8, vi x8)]) [1, 2, 3, 4, 5, 6, 0, 7, 8] 6 dX7_mostAlike_140 rfl (by decide) (fun _ => rfl) (fun x6_140 e6_140 => ?_)
                      refine z_goto (tgt := 71) dX7_mostAlike_143 rfl ?_
                      refine z_lv [0, 1, 2, 3, 4, 5, 6] [(0, rf en 37), (1, vi tw), (2, vi sm), (3, vi x3_6), (4, vi x4), (5, vi x5_138), (6, vi x6_140)] rfl ?_
                      exact uih71 x5_138 x6_140 (by omega) (⟨by omega, by omega, by rw [e6_140, tnS uq6, mstL, e5_138, ← uq8, ← uqc]; rw [if_pos (by omega)]⟩)
                  ·
                    have ug1 : r52 x6 = (hl T W tw sm 8).getD x6.toNat 0 := by have ug := uq4 x6.toNat (by omega); rw [tnC (by omega)] at ug; exact ug
                    have ug2 : r52 x8 = (hl T W tw sm 8).getD x8.toNat 0 := by have ug := uq4 x8.toNat (by omega); rw [tnC (by omega)] at ug; exact ug
                    have ug3 := uqb x6 (by omega) (by omega)
                    have ug4 := uqb x8 (by omega) (by omega)
                    refine z_iload 7 dX7_mostAlike_91 rfl ?_
                    refine z_aload_n 0 dX7_mostAlike_93 rfl ?_
                    refine z_getR dX7_mostAlike_94 fX7_52_6 i37_18 ka37 ?_
                    refine z_iload 6 dX7_mostAlike_97 rfl ?_
                    refine z_iald (r := r52) dX7_mostAlike_99 is52 ka52 (rfl) (by omega) ?_
                    refine z_aload_n 0 dX7_mostAlike_100 rfl ?_
                    refine z_getR dX7_mostAlike_101 fX7_52_6 i37_18 ka37 ?_
                    refine z_iload 8 dX7_mostAlike_104 rfl ?_
                    refine z_iald (r := r52) dX7_mostAlike_106 is52 ka52 (rfl) (by omega) ?_
                    refine z_icmp_ne (tgt := 114) dX7_mostAlike_107 rfl (by omega) (fun uc107 => ?_) (fun uc107 => ?_)
                    ·
                      refine z_iconst dX7_mostAlike_114 ?_
                      refine z_iadd dX7_mostAlike_115 ?_
                      refine z_istore (fun y => [(0, rf en 37), (1, vi tw), (2, vi sm), (3, vi x3_6), (4, vi x4), (5, vi x5), (6, vi x6), (7, vi y), (8, vi x8)]) [1, 2, 3, 4, 5, 6, 7, 0, 8] dX7_mostAlike_116 (by decide) (fun _ => rfl) (fun x7_116 e7_116 => ?_)
                      refine z_iinc (fun y => [(0, rf en 37), (1, vi tw), (2, vi sm), (3, vi x3_6), (4, vi x4), (5, vi x5), (6, vi x6), (7, vi x7_116), (8, vi y)]) [1, 2, 3, 4, 5, 6, 7, 8, 0] 8 dX7_mostAlike_118 rfl (by decide) (fun _ => rfl) (fun x8_118 e8_118 => ?_)
                      refine z_goto (tgt := 84) dX7_mostAlike_121 rfl ?_
                      exact uih84 x7_116 x8_118 (by omega) (⟨by omega, by omega, by rw [e8_118, tnS uq10, cntL, e7_116, ← uq12, ← ug1, ← ug2]; rw [if_neg uc107]⟩)
                    ·
                      refine z_iconst dX7_mostAlike_110 ?_
                      refine z_goto (tgt := 115) dX7_mostAlike_111 rfl ?_
                      refine z_iadd dX7_mostAlike_115 ?_
                      refine z_istore (fun y => [(0, rf en 37), (1, vi tw), (2, vi sm), (3, vi x3_6), (4, vi x4), (5, vi x5), (6, vi x6), (7, vi y), (8, vi x8)]) [1, 2, 3, 4, 5, 6, 7, 0, 8] dX7_mostAlike_116 (by decide) (fun _ => rfl) (fun x7_116 e7_116 => ?_)
                      refine z_iinc (fun y => [(0, rf en 37), (1, vi tw), (2, vi sm), (3, vi x3_6), (4, vi x4), (5, vi x5), (6, vi x6), (7, vi x7_116), (8, vi y)]) [1, 2, 3, 4, 5, 6, 7, 8, 0] 8 dX7_mostAlike_118 rfl (by decide) (fun _ => rfl) (fun x8_118 e8_118 => ?_)
                      refine z_goto (tgt := 84) dX7_mostAlike_121 rfl ?_
                      exact uih84 x7_116 x8_118 (by omega) (⟨by omega, by omega, by rw [e8_118, tnS uq10, cntL, e7_116, ← uq12, ← ug1, ← ug2]; rw [if_pos uc107]⟩)
              exact uL84 _ 0 0 (Nat.lt_succ_self _) (⟨by omega, by omega, rfl⟩)
        exact uL71 _ 0 0 (Nat.lt_succ_self _) (⟨by omega, by omega, rfl⟩)
      ·
        refine z_iload_n 2 dX7_mostAlike_20 rfl ?_
        refine z_iload 5 dX7_mostAlike_21 rfl ?_
        refine z_sI dX7_mostAlike_23 lX7_121 (by decide) (ct_X7_isIn en (upR (upR M 46 r46) 52 r52) _ _ (by omega) (by omega)) rfl rfl (by exact Nat.le_of_ble_eq_true rfl) ?_
        refine z_ifeq_b (tgt := 52) dX7_mostAlike_26 rfl (fun uc26 => ?_) (fun uc26 => ?_)
        ·
          refine z_iinc (fun y => [(0, rf en 37), (1, vi tw), (2, vi sm), (3, vi x3_6), (4, vi x4), (5, vi y)]) [1, 2, 3, 4, 5, 0] 5 dX7_mostAlike_52 rfl (by decide) (fun _ => rfl) (fun x5_52 e5_52 => ?_)
          refine z_goto (tgt := 13) dX7_mostAlike_55 rfl ?_
          exact uih13 x4 x5_52 r46 r52 (by omega) (⟨by omega, by omega, by rw [e5_52, tnS uq1, hl, tnC uq1, if_neg uc26, List.append_nil]; exact uq3, fun ui ua => by rw [e5_52, tnS uq1, hl, tnC uq1, if_neg uc26, List.append_nil]; exact uq4 ui ua, uqr⟩)
        ·
          refine z_aload_n 0 dX7_mostAlike_29 rfl ?_
          refine z_getR dX7_mostAlike_30 fX7_34_6 i37_11 ka37 ?_
          refine z_iconst dX7_mostAlike_33 ?_
          refine z_iload 5 dX7_mostAlike_34 rfl ?_
          refine z_iast' (r := r46) (fun r => (upR (upR M 46 r) 52 r52)) dX7_mostAlike_36 is46 ka46 (rfl) (by omega) (fun _ => uu2 (by decide)) (fun r46_36 f46_36 => ?_)
          have ut : r46_36 = up T 0 x5 := by rw [f46_36]; exact uqr x5
          have uT : tOK r46_36 := by rw [ut]; exact tOK_0 hT (by omega)
          refine z_aload_n 0 dX7_mostAlike_37 rfl ?_
          refine z_getR dX7_mostAlike_38 fX7_52_6 i37_18 ka37 ?_
          refine z_iload 4 dX7_mostAlike_41 rfl ?_
          refine z_aload_n 0 dX7_mostAlike_43 rfl ?_
          refine z_iload_n 1 dX7_mostAlike_44 rfl ?_
          refine z_vI dX7_mostAlike_45 lX7_141 (by decide) ka37 io37 rfl (ct_X7_hearsAt en (upR (upR M 46 r46_36) 52 r52) r46_36 W rfl wW _ (by assumption) (by assumption) (by omega)) rfl rfl (by exact Nat.le_of_ble_eq_true rfl) ?_
          refine z_iast' (r := r52) (fun r => (upR (upR M 46 r46_36) 52 r)) dX7_mostAlike_48 is52 ka52 (rfl) (by omega) (fun _ => uu1) (fun r52_48 f52_48 => ?_)
          refine z_iinc (fun y => [(0, rf en 37), (1, vi tw), (2, vi sm), (3, vi x3_6), (4, vi y), (5, vi x5)]) [1, 2, 3, 4, 0, 5] 4 dX7_mostAlike_49 rfl (by decide) (fun _ => rfl) (fun x4_49 e4_49 => ?_)
          refine z_iinc (fun y => [(0, rf en 37), (1, vi tw), (2, vi sm), (3, vi x3_6), (4, vi x4_49), (5, vi y)]) [1, 2, 3, 4, 5, 0] 5 dX7_mostAlike_52 rfl (by decide) (fun _ => rfl) (fun x5_52 e5_52 => ?_)
          refine z_goto (tgt := 13) dX7_mostAlike_55 rfl ?_
          exact uih13 x4_49 x5_52 r46_36 r52_48 (by omega) (⟨by omega, by omega, by rw [e5_52, tnS uq1, hl, tnC uq1, if_pos uc26, List.length_append]; simp; omega, fun ui ua => by rw [e5_52, tnS uq1, hl, tnC uq1, if_pos uc26, getD_app, f52_48]; by_cases uz : (ui : Int) = x4; (· rw [uz, up_s, if_neg (by omega), if_pos (by omega), ut]); (· rw [up_n _ _ uz, if_pos (by omega)]; exact uq4 ui (by omega)), fun uv => by rw [ut, up_up]⟩)
  refine Z.eqM (upR_id (k := 46) wT) ?_
  refine Z.eqM (upR_id (k := 52) wV) ?_
  exact uL13 _ 0 0 T V (Nat.lt_succ_self _) (⟨by omega, by omega, rfl, fun ui ua => absurd ua (by omega), fun uv => rfl⟩)
set_option maxRecDepth 100000 in
theorem ct_X7_askNow (en : zE) (M : zW) (O : Int → Int) (P : Int → Int) (T : Int → Int) (W : Int → Int) (C0 : Int → Int) (E0 : Int → Int) (G0 : Int → Int) (Sg : Int → Int) (V : Int → Int) (wO : M 37 = O) (wP : M 45 = P) (wT : M 46 = T) (wW : M 47 = W) (wC0 : M 48 = C0) (wE0 : M 49 = E0) (wG0 : M 50 = G0) (wSg : M 51 = Sg) (wV : M 52 = V) (hT : tOK T) (hW : wOK W) (hP : pOK P (O 9)) (hn : 0 ≤ O 9 ∧ O 9 ≤ 8) (hG : ∀ j, 0 ≤ j → j < 16 → 0 ≤ Sg j ∧ Sg j ≤ 7) (ho : 0 ≤ O 16 ∧ O 16 ≤ 8) : Ct en kA yX7_askNow mX7_askNow [rf en 37] M (pX (fun x N => ∃ r48 r49 r50 r52 : Int → Int, x = akO T W P (O 9) Sg (O 16).toNat ∧ upR (upR (upR (upR M 48 r48) 49 r49) 50 r50) 52 r52 = N)) := by
  refine Ct.of (by decide +kernel) rfl [(0, rf en 37)] rfl (Nat.le_of_ble_eq_true rfl) (fun cx C => ?_)
  refine z_aload_n 0 dX7_askNow_0 rfl ?_
  refine z_iconst dX7_askNow_1 ?_
  refine z_vX dX7_askNow_2 lX7_204 (by decide) ka37 io37 rfl (ct_X7_fitsBy en M O P T W C0 E0 G0 Sg wO wP wT wW wC0 wE0 wG0 wSg (1) (by assumption) (by assumption) (by assumption) (by omega) (by assumption) (by omega) (by omega)) rfl rfl (by exact Nat.le_of_ble_eq_true rfl) (fun uv2 uN2 uh2 => ?_)
  obtain ⟨r48_2, r49_2, r50_2, uw_2, rfl⟩ := uh2
  refine z_istore_n (fun y => [(0, rf en 37), (1, vi y)]) [1, 0] dX7_askNow_5 (by decide) (fun _ => rfl) (fun x1_5 e1_5 => ?_)
  refine z_iconst dX7_askNow_6 ?_
  refine z_istore_n (fun y => [(0, rf en 37), (1, vi x1_5), (2, vi y)]) [1, 2, 0] dX7_askNow_7 (by decide) (fun _ => rfl) (fun uy uhy => ?_)
  subst uhy
  have uf := fiS_lt T W P (O 9) Sg (O 16).toNat 0 8
  have ux1 : x1_5 = fiS T W P (O 9) Sg (O 16).toNat 0 8 := by rw [e1_5, uw_2]; rfl
  refine z_aload_n 0 dX7_askNow_8 rfl ?_
  refine z_iconst dX7_askNow_9 ?_
  refine z_iload_n 1 dX7_askNow_10 rfl ?_
  refine z_vX dX7_askNow_11 lX7_207 (by decide) ka37 io37 rfl (ct_X7_mostAlike en (upR (upR (upR M 48 r48_2) 49 r49_2) 50 r50_2) T W V wT wW wV (0) _ (by assumption) (by assumption) (by omega)) rfl rfl (by exact Nat.le_of_ble_eq_true rfl) (fun uv11 uN11 uh11 => ?_)
  obtain ⟨r52_11, uw_11, rfl⟩ := uh11
  refine z_istore_n (fun y => [(0, rf en 37), (1, vi x1_5), (2, vi (0)), (3, vi y)]) [1, 2, 3, 0] dX7_askNow_14 (by decide) (fun _ => rfl) (fun x3_14 e3_14 => ?_)
  have um := maO_rg T W 0 x1_5
  refine z_iconst dX7_askNow_15 ?_
  refine z_istore (fun y => [(0, rf en 37), (1, vi x1_5), (2, vi (0)), (3, vi x3_14), (4, vi y)]) [1, 2, 3, 4, 0] dX7_askNow_16 (by decide) (fun _ => rfl) (fun uy uhy => ?_)
  subst uhy
  have uL18 : ∀ (fu : Nat) (x2 : Int) (x3 : Int) (x4 : Int) (r52 : Int → Int), (8 - x4).toNat < fu → ((1 ≤ x4 ∧ x4 ≤ 8 ∧ 0 ≤ x2 ∧ x2 ≤ 7 ∧ 0 ≤ x3 ∧ x3 ≤ 8) ∧ akS T W x1_5 (x4 - 1).toNat = (x2, x3)) → Z en kA cx mX7_askNow (upR (upR (upR (upR M 48 r48_2) 49 r49_2) 50 r50_2) 52 r52) 18 [(0, rf en 37), (1, vi x1_5), (2, vi x2), (3, vi x3), (4, vi x4)] [] := by
    intro fu
    induction fu with
    | zero => intro x2 x3 x4 r52 uhf; exact absurd uhf (Nat.not_lt_zero _)
    | succ fu uih18 =>
      intro x2 x3 x4 r52 uf18 uI18
      obtain ⟨uq1, uq3⟩ := uI18
      refine z_iload 4 dX7_askNow_18 rfl ?_
      refine z_bipush dX7_askNow_20 rfl ?_
      refine z_icmp_ge (tgt := 60) dX7_askNow_22 rfl (by omega) (fun uc22 => ?_) (fun uc22 => ?_)
      ·
        refine z_iload_n 2 dX7_askNow_60 rfl ?_
        exact z_iret C dX7_askNow_61 rfl ⟨_, rfl, ⟨r48_2, r49_2, r50_2, r52, by rw [akO, ← ux1]; rw [show x4 = 8 by omega] at uq3; rw [show akS T W x1_5 7 = (x2, x3) from uq3], rfl⟩⟩
      ·
        refine z_aload_n 0 dX7_askNow_25 rfl ?_
        refine z_iload 4 dX7_askNow_26 rfl ?_
        refine z_iload_n 1 dX7_askNow_28 rfl ?_
        refine z_vX dX7_askNow_29 lX7_207 (by decide) ka37 io37 rfl (ct_X7_mostAlike en (upR (upR (upR (upR M 48 r48_2) 49 r49_2) 50 r50_2) 52 r52) T W r52 wT wW rfl _ _ (by assumption) (by assumption) (by omega)) rfl rfl (by exact Nat.le_of_ble_eq_true rfl) (fun uv29 uN29 uh29 => ?_)
        obtain ⟨r52_29, uw_29, rfl⟩ := uh29
        rw [uu1 (a := 52)]
        refine z_istore (fun y => [(0, rf en 37), (1, vi x1_5), (2, vi x2), (3, vi x3), (4, vi x4), (5, vi y)]) [1, 2, 3, 4, 5, 0] dX7_askNow_32 (by decide) (fun _ => rfl) (fun x5_32 e5_32 => ?_)
        have um2 := maO_rg T W x4 x1_5
        refine z_iload 5 dX7_askNow_34 rfl ?_
        refine z_iload_n 3 dX7_askNow_36 rfl ?_
        refine z_icmp_ge (tgt := 45) dX7_askNow_37 rfl (by omega) (fun uc37 => ?_) (fun uc37 => ?_)
        ·
          refine z_iload_n 2 dX7_askNow_45 rfl ?_
          refine z_istore_n (fun y => [(0, rf en 37), (1, vi x1_5), (2, vi y), (3, vi x3), (4, vi x4), (5, vi x5_32)]) [1, 2, 0, 3, 4, 5] dX7_askNow_46 (by decide) (fun _ => rfl) (fun x2_46 e2_46 => ?_)
          refine z_iload 5 dX7_askNow_47 rfl ?_
          refine z_iload_n 3 dX7_askNow_49 rfl ?_
          refine z_sI dX7_askNow_50 lX7_125 (by decide) (ct_X7_lesser en (upR (upR (upR (upR M 48 r48_2) 49 r49_2) 50 r50_2) 52 r52_29) _ _ (by omega)) rfl rfl (by exact Nat.le_of_ble_eq_true rfl) ?_
          refine z_istore_n (fun y => [(0, rf en 37), (1, vi x1_5), (2, vi x2_46), (3, vi y), (4, vi x4), (5, vi x5_32)]) [1, 2, 3, 0, 4, 5] dX7_askNow_53 (by decide) (fun _ => rfl) (fun x3_53 e3_53 => ?_)
          refine z_iinc (fun y => [(0, rf en 37), (1, vi x1_5), (2, vi x2_46), (3, vi x3_53), (4, vi y), (5, vi x5_32)]) [1, 2, 3, 4, 0, 5] 4 dX7_askNow_54 rfl (by decide) (fun _ => rfl) (fun x4_54 e4_54 => ?_)
          refine z_goto (tgt := 18) dX7_askNow_57 rfl ?_
          refine z_lv [0, 1, 2, 3, 4] [(0, rf en 37), (1, vi x1_5), (2, vi x2_46), (3, vi x3_53), (4, vi x4_54)] rfl ?_
          have uqs : (x4_54 - 1).toNat = (x4 - 1).toNat + 1 := by omega
          have uqt : (((x4 - 1).toNat : Nat) : Int) + 1 = x4 := by omega
          exact uih18 x2_46 x3_53 x4_54 r52_29 (by omega) (⟨by omega, by rw [uqs, akS, uqt, uq3, e2_46, e3_53, ← uw_29, ← e5_32]; rw [if_neg (show ¬ x5_32 < x3 by omega)]⟩)
        ·
          refine z_iload 4 dX7_askNow_40 rfl ?_
          refine z_goto (tgt := 46) dX7_askNow_42 rfl ?_
          refine z_istore_n (fun y => [(0, rf en 37), (1, vi x1_5), (2, vi y), (3, vi x3), (4, vi x4), (5, vi x5_32)]) [1, 2, 0, 3, 4, 5] dX7_askNow_46 (by decide) (fun _ => rfl) (fun x2_46 e2_46 => ?_)
          refine z_iload 5 dX7_askNow_47 rfl ?_
          refine z_iload_n 3 dX7_askNow_49 rfl ?_
          refine z_sI dX7_askNow_50 lX7_125 (by decide) (ct_X7_lesser en (upR (upR (upR (upR M 48 r48_2) 49 r49_2) 50 r50_2) 52 r52_29) _ _ (by omega)) rfl rfl (by exact Nat.le_of_ble_eq_true rfl) ?_
          refine z_istore_n (fun y => [(0, rf en 37), (1, vi x1_5), (2, vi x2_46), (3, vi y), (4, vi x4), (5, vi x5_32)]) [1, 2, 3, 0, 4, 5] dX7_askNow_53 (by decide) (fun _ => rfl) (fun x3_53 e3_53 => ?_)
          refine z_iinc (fun y => [(0, rf en 37), (1, vi x1_5), (2, vi x2_46), (3, vi x3_53), (4, vi y), (5, vi x5_32)]) [1, 2, 3, 4, 0, 5] 4 dX7_askNow_54 rfl (by decide) (fun _ => rfl) (fun x4_54 e4_54 => ?_)
          refine z_goto (tgt := 18) dX7_askNow_57 rfl ?_
          refine z_lv [0, 1, 2, 3, 4] [(0, rf en 37), (1, vi x1_5), (2, vi x2_46), (3, vi x3_53), (4, vi x4_54)] rfl ?_
          have uqs : (x4_54 - 1).toNat = (x4 - 1).toNat + 1 := by omega
          have uqt : (((x4 - 1).toNat : Nat) : Int) + 1 = x4 := by omega
          exact uih18 x2_46 x3_53 x4_54 r52_29 (by omega) (⟨by omega, by rw [uqs, akS, uqt, uq3, e2_46, e3_53, ← uw_29, ← e5_32]; rw [if_pos (show x5_32 < x3 by omega)]⟩)
  exact uL18 _ 0 x3_14 1 r52_11 (Nat.lt_succ_self _) (⟨by omega, by rw [e3_14, uw_11]; rfl⟩)
