/-! the class's ways -/
def sS (W : Int → Int) (a b d : Int) : Int → Int := up W (a * 8 + b) (min (W (a * 8 + b)) d)
def gD (W : Int → Int) : Nat → Int → Int
  | 0 => W
  | n + 1 => up (gD W n) ((n : Int) * 8 + n) 0
def gR (F G D W : Int → Int) : Nat → Int → Int
  | 0 => W
  | n + 1 => sS (sS (gR F G D W n) (F n) (G n) (D n)) (G n) (F n) (D n)
def sK (o : Int) (W : Int → Int) (k : Int) : Int → Int := up W k (min (W k) (W (8 * (k / 8) + o) + W (8 * o + k % 8)))
def gK (o : Int) (W : Int → Int) : Nat → Int → Int
  | 0 => W
  | n + 1 => sK o (gK o W n) n
def gB (W : Int → Int) : Nat → Int → Int
  | 0 => W
  | n + 1 => gK n (gB W n) 64
def gA (F G D W : Int → Int) (n : Nat) : Int → Int := gB (gR F G D (gD (fil (fun _ => 1000) W 0 64) 8) n) 8
theorem gD_s (W : Int → Int) {x : Int} (h : 0 ≤ x) : gD W (x + 1).toNat = up (gD W x.toNat) (x * 8 + x) 0 := by rw [tnS h, gD, tnC h]
theorem gR_s (F G D W : Int → Int) {x : Int} (h : 0 ≤ x) : gR F G D W (x + 1).toNat = sS (sS (gR F G D W x.toNat) (F x) (G x) (D x)) (G x) (F x) (D x) := by rw [tnS h, gR, tnC h]
theorem gK_s (o : Int) (W : Int → Int) {x : Int} (h : 0 ≤ x) : gK o W (x + 1).toNat = sK o (gK o W x.toNat) x := by rw [tnS h, gK, tnC h]
theorem gB_s (W : Int → Int) {x : Int} (h : 0 ≤ x) : gB W (x + 1).toNat = gK x (gB W x.toNat) 64 := by rw [tnS h, gB, tnC h]
abbrev wB (W : Int → Int) : Prop := ∀ j, 0 ≤ j → j < 64 → 0 ≤ W j ∧ W j ≤ 1000
theorem wB_up {W : Int → Int} (h : wB W) {k v : Int} (hv : 0 ≤ v ∧ v ≤ 1000) : wB (up W k v) := by
  intro j h1 h2
  by_cases hj : j = k
  · subst hj; rw [up_s]; exact hv
  · rw [up_n _ _ hj]; exact h j h1 h2
theorem sS_ok {W : Int → Int} {a b d : Int} (ha : 0 ≤ a ∧ a ≤ 7) (hb : 0 ≤ b ∧ b ≤ 7) (hd : 0 ≤ d) (h : wB W) : wB (sS W a b d) := by
  have := h (a * 8 + b) (by omega) (by omega)
  exact wB_up h (by omega)
theorem gD_ok {W : Int → Int} (h : wB W) : ∀ n : Nat, wB (gD W n)
  | 0 => h
  | n + 1 => wB_up (gD_ok h n) (by omega)
theorem gR_ok {F G D W : Int → Int} {c : Int} (hR : rdOK (tR F G D) c) (h : wB W) : ∀ n : Nat, (n : Int) ≤ c → wB (gR F G D W n)
  | 0, _ => h
  | n + 1, hn => by
    have ih := gR_ok hR h n (by omega)
    obtain ⟨a, b, c1, -⟩ := hR n (by omega) (by omega)
    rw [tR_0] at a
    rw [tR_1] at b
    rw [tR_2] at c1
    exact sS_ok b a (by omega) (sS_ok a b (by omega) ih)
theorem gK_ok {b : Int} {W : Int → Int} (hb : 0 ≤ b ∧ b < 8) (h : wB W) : ∀ n : Nat, n ≤ 64 → wB (gK b W n)
  | 0, _ => h
  | n + 1, hn => by
    have ih := gK_ok hb h n (by omega)
    have h1 := ih n (by omega) (by omega)
    have h2 := ih (8 * ((n : Int) / 8) + b) (by omega) (by omega)
    have h3 := ih (8 * b + (n : Int) % 8) (by omega) (by omega)
    exact wB_up ih (by omega)
theorem gB_ok {W : Int → Int} (h : wB W) : ∀ n : Nat, n ≤ 8 → wB (gB W n)
  | 0, _ => h
  | n + 1, hn => gK_ok (by omega) (gB_ok h n (by omega)) 64 (by omega)
theorem g0_ok (W : Int → Int) : wB (fil (fun _ => 1000) W 0 64) := fun j h1 h2 => by rw [fil_in _ _ (by omega)]; omega
theorem gA_ok {F G D W : Int → Int} {c : Int} (hR : rdOK (tR F G D) c) (hc : 0 ≤ c) : wB (gA F G D W c.toNat) := gB_ok (gR_ok hR (gD_ok (g0_ok W) 8) _ (by omega)) 8 (by omega)
set_option maxRecDepth 100000 in
theorem ct_X3_between (en : zE) (M : zW) (W : Int → Int) (wW : M 22 = W) (a : Int) (b : Int) (h0 : (0 ≤ a ∧ a ≤ 7) ∧ (0 ≤ b ∧ b ≤ 7)) (hW : wB W) : Ct en kA yX3_between mX3_between [rf en 1, vi a, vi b] M (pI ((if 1000 ≤ W (a * 8 + b) then -1 else W (a * 8 + b))) M) := by
  refine Ct.of (by decide +kernel) rfl [(0, rf en 1), (1, vi a), (2, vi b)] rfl (Nat.le_of_ble_eq_true rfl) (fun cx C => ?_)
  refine z_aload_n 0 dX3_between_0 rfl ?_
  refine z_getR dX3_between_1 fX3_21_3 i1_8 ka1 ?_
  refine z_iload_n 1 dX3_between_4 rfl ?_
  refine z_bipush dX3_between_5 rfl ?_
  refine z_imul dX3_between_7 ?_
  refine z_iload_n 2 dX3_between_8 rfl ?_
  refine z_iadd dX3_between_9 ?_
  refine z_iald (r := W) dX3_between_10 is22 ka22 (wW) (by omega) ?_
  have uw := hW (a * 8 + b) (by omega) (by omega)
  refine z_istore_n (fun y => [(0, rf en 1), (1, vi a), (2, vi b), (3, vi y)]) [1, 2, 3, 0] dX3_between_11 (by decide) (fun _ => rfl) (fun x3_11 e3_11 => ?_)
  refine z_iload_n 3 dX3_between_12 rfl ?_
  refine z_sipush dX3_between_13 rfl ?_
  refine z_icmp_lt (tgt := 23) dX3_between_16 rfl (by omega) (fun uc16 => ?_) (fun uc16 => ?_)
  ·
    refine z_iload_n 3 dX3_between_23 rfl ?_
    exact z_iret C dX3_between_24 rfl ⟨congrArg (fun z => some (vi z)) (by split <;> omega), rfl⟩
  ·
    refine z_iconst dX3_between_19 ?_
    refine z_goto (tgt := 24) dX3_between_20 rfl ?_
    exact z_iret C dX3_between_24 rfl ⟨congrArg (fun z => some (vi z)) (by split <;> omega), rfl⟩
set_option maxRecDepth 100000 in
theorem ct_X3_shorten (en : zE) (M : zW) (ks : List Nat) (k1 : 1 ∈ ks) (k22 : 22 ∈ ks) (W : Int → Int) (wW : M 22 = W) (a : Int) (b : Int) (d : Int) (h0 : (0 ≤ a ∧ a ≤ 7) ∧ (0 ≤ b ∧ b ≤ 7) ∧ -2147483648 ≤ d ∧ d < 2147483648) (hW : wB W) : Ct en ks yX3_shorten mX3_shorten [rf en 1, vi a, vi b, vi d] M (pV (upR M 22 (sS W a b d))) := by
  refine Ct.of (by decide +kernel) rfl [(0, rf en 1), (1, vi a), (2, vi b), (3, vi d)] rfl (Nat.le_of_ble_eq_true rfl) (fun cx C => ?_)
  refine z_iload_n 1 dX3_shorten_0 rfl ?_
  refine z_bipush dX3_shorten_1 rfl ?_
  refine z_imul dX3_shorten_3 ?_
  refine z_iload_n 2 dX3_shorten_4 rfl ?_
  refine z_iadd dX3_shorten_5 ?_
  refine z_istore (fun y => [(0, rf en 1), (1, vi a), (2, vi b), (3, vi d), (4, vi y)]) [1, 2, 3, 4, 0] dX3_shorten_6 (by decide) (fun _ => rfl) (fun x4_6 e4_6 => ?_)
  refine z_aload_n 0 dX3_shorten_8 rfl ?_
  refine z_getR dX3_shorten_9 fX3_21_3 i1_8 k1 ?_
  refine z_iload 4 dX3_shorten_12 rfl ?_
  refine z_aload_n 0 dX3_shorten_14 rfl ?_
  refine z_getR dX3_shorten_15 fX3_21_3 i1_8 k1 ?_
  refine z_iload 4 dX3_shorten_18 rfl ?_
  refine z_iald (r := W) dX3_shorten_20 is22 k22 (wW) (by omega) ?_
  have uw := hW (a * 8 + b) (by omega) (by omega)
  rw [e4_6]
  refine z_iload_n 3 dX3_shorten_21 rfl ?_
  refine z_mmin dX3_shorten_22 lX3_56 (by omega) (by decide) (Nat.le_of_ble_eq_true rfl) ?_
  refine z_iast (r := W) dX3_shorten_25 is22 k22 (wW) (by omega) (fun r22_25 f22_25 => ?_)
  exact z_vret C dX3_shorten_26 rfl ⟨rfl, by rw [f22_25]; rfl⟩
set_option maxRecDepth 100000 in
theorem ct_X3_goOver (en : zE) (M : zW) (ks : List Nat) (k1 : 1 ∈ ks) (k22 : 22 ∈ ks) (W : Int → Int) (wW : M 22 = W) (o : Int) (h0 : 0 ≤ o ∧ o ≤ 7) (hW : wB W) : Ct en ks yX3_goOver mX3_goOver [rf en 1, vi o] M (pV (upR M 22 (gK o W 64))) := by
  refine Ct.of (by decide +kernel) rfl [(0, rf en 1), (1, vi o)] rfl (Nat.le_of_ble_eq_true rfl) (fun cx C => ?_)
  refine z_iconst dX3_goOver_0 ?_
  refine z_istore_n (fun y => [(0, rf en 1), (1, vi o), (2, vi y)]) [1, 2, 0] dX3_goOver_1 (by decide) (fun _ => rfl) (fun x2_1 e2_1 => ?_)
  have uL2 : ∀ (fu : Nat) (x2 : Int) (r22 : Int → Int), (8 - x2).toNat < fu → (0 ≤ x2 ∧ x2 ≤ 8 ∧ r22 = gK o W (8 * x2).toNat) → Z en ks cx mX3_goOver (upR M 22 r22) 2 [(0, rf en 1), (1, vi o), (2, vi x2)] [] := by
    intro fu
    induction fu with
    | zero => intro x2 r22 uhf; exact absurd uhf (Nat.not_lt_zero _)
    | succ fu uih2 =>
      intro x2 r22 uf2 uI2
      obtain ⟨uq1, uq2, uq3⟩ := uI2
      refine z_iload_n 2 dX3_goOver_2 rfl ?_
      refine z_bipush dX3_goOver_3 rfl ?_
      refine z_icmp_ge (tgt := 57) dX3_goOver_5 rfl (by omega) (fun uc5 => ?_) (fun uc5 => ?_)
      ·
        exact z_vret C dX3_goOver_57 rfl ⟨rfl, by rw [uq3, show x2 = 8 by omega]; rfl⟩
      ·
        refine z_iconst dX3_goOver_8 ?_
        refine z_istore_n (fun y => [(0, rf en 1), (1, vi o), (2, vi x2), (3, vi y)]) [1, 2, 3, 0] dX3_goOver_9 (by decide) (fun _ => rfl) (fun x3_9 e3_9 => ?_)
        have uL10 : ∀ (fu : Nat) (x3 : Int) (r22 : Int → Int), (8 - x3).toNat < fu → (0 ≤ x3 ∧ x3 ≤ 8 ∧ r22 = gK o W (8 * x2 + x3).toNat) → Z en ks cx mX3_goOver (upR M 22 r22) 10 [(0, rf en 1), (1, vi o), (2, vi x2), (3, vi x3)] [] := by
          intro fu
          induction fu with
          | zero => intro x3 r22 uhf; exact absurd uhf (Nat.not_lt_zero _)
          | succ fu uih10 =>
            intro x3 r22 uf10 uI10
            obtain ⟨uq4, uq5, uq6⟩ := uI10
            refine z_iload_n 3 dX3_goOver_10 rfl ?_
            refine z_bipush dX3_goOver_11 rfl ?_
            refine z_icmp_ge (tgt := 51) dX3_goOver_13 rfl (by omega) (fun uc13 => ?_) (fun uc13 => ?_)
            ·
              refine z_iinc (fun y => [(0, rf en 1), (1, vi o), (2, vi y), (3, vi x3)]) [1, 2, 0, 3] 2 dX3_goOver_51 rfl (by decide) (fun _ => rfl) (fun x2_51 e2_51 => ?_)
              refine z_goto (tgt := 2) dX3_goOver_54 rfl ?_
              refine z_lv [0, 1, 2] [(0, rf en 1), (1, vi o), (2, vi x2_51)] rfl ?_
              exact uih2 x2_51 r22 (by omega) (⟨by omega, by omega, by rw [uq6, e2_51, show 8 * x2 + x3 = 8 * (x2 + 1) by omega]⟩)
            ·
              have ub : wB r22 := by rw [uq6]; exact gK_ok (by omega) hW _ (by omega)
              have ub1 := ub (x2 * 8 + o) (by omega) (by omega)
              have ub2 := ub (o * 8 + x3) (by omega) (by omega)
              refine z_aload_n 0 dX3_goOver_16 rfl ?_
              refine z_iload_n 2 dX3_goOver_17 rfl ?_
              refine z_iload_n 3 dX3_goOver_18 rfl ?_
              refine z_aload_n 0 dX3_goOver_19 rfl ?_
              refine z_getR dX3_goOver_20 fX3_21_3 i1_8 k1 ?_
              refine z_iload_n 2 dX3_goOver_23 rfl ?_
              refine z_bipush dX3_goOver_24 rfl ?_
              refine z_imul dX3_goOver_26 ?_
              refine z_iload_n 1 dX3_goOver_27 rfl ?_
              refine z_iadd dX3_goOver_28 ?_
              refine z_iald (r := r22) dX3_goOver_29 is22 k22 (rfl) (by omega) ?_
              refine z_aload_n 0 dX3_goOver_30 rfl ?_
              refine z_getR dX3_goOver_31 fX3_21_3 i1_8 k1 ?_
              refine z_iload_n 1 dX3_goOver_34 rfl ?_
              refine z_bipush dX3_goOver_35 rfl ?_
              refine z_imul dX3_goOver_37 ?_
              refine z_iload_n 3 dX3_goOver_38 rfl ?_
              refine z_iadd dX3_goOver_39 ?_
              refine z_iald (r := r22) dX3_goOver_40 is22 k22 (rfl) (by omega) ?_
              refine z_iadd dX3_goOver_41 ?_
              refine z_vV dX3_goOver_42 lX3_49 (by decide) k1 io1 rfl (ct_X3_shorten en (upR M 22 r22) ks k1 k22 r22 rfl _ _ _ (by omega) (by assumption)) rfl rfl (by exact Nat.le_of_ble_eq_true rfl) ?_
              rw [uu1 (a := 22)]
              refine z_iinc (fun y => [(0, rf en 1), (1, vi o), (2, vi x2), (3, vi y)]) [1, 2, 3, 0] 3 dX3_goOver_45 rfl (by decide) (fun _ => rfl) (fun x3_45 e3_45 => ?_)
              refine z_goto (tgt := 10) dX3_goOver_48 rfl ?_
              exact uih10 x3_45 (sS r22 x2 x3 (r22 (x2 * 8 + o) + r22 (o * 8 + x3))) (by omega) (⟨by omega, by omega, by rw [e3_45, show 8 * x2 + (x3 + 1) = 8 * x2 + x3 + 1 by omega, gK_s _ _ (by omega), ← uq6]; unfold sS sK; rw [show x2 * 8 + x3 = 8 * x2 + x3 by omega, show (8 * x2 + x3) / 8 = x2 by omega, show (8 * x2 + x3) % 8 = x3 by omega, show x2 * 8 + o = 8 * x2 + o by omega, show o * 8 + x3 = 8 * o + x3 by omega]⟩)
        exact uL10 _ x3_9 r22 (Nat.lt_succ_self _) (⟨by omega, by omega, by rw [uq3, e3_9, Int.add_zero]⟩)
  refine Z.eqM (upR_id (k := 22) wW) ?_
  exact uL2 _ x2_1 W (Nat.lt_succ_self _) (⟨by omega, by omega, by rw [e2_1]; rfl⟩)
set_option maxRecDepth 100000 in
theorem ct_X3_measure (en : zE) (M : zW) (ks : List Nat) (k1 : 1 ∈ ks) (k19 : 19 ∈ ks) (k20 : 20 ∈ ks) (k21 : 21 ∈ ks) (k22 : 22 ∈ ks) (O1 : Int → Int) (F : Int → Int) (G : Int → Int) (D : Int → Int) (W : Int → Int) (wO1 : M 1 = O1) (wF : M 19 = F) (wG : M 20 = G) (wD : M 21 = D) (wW : M 22 = W) (hO : 0 ≤ O1 4 ∧ O1 4 ≤ 12) (hR : rdOK (tR F G D) (O1 4)) : Ct en ks yX3_measure mX3_measure [rf en 1] M (pV (upR M 22 (gA F G D W (O1 4).toNat))) := by
  refine Ct.of (by decide +kernel) rfl [(0, rf en 1)] rfl (Nat.le_of_ble_eq_true rfl) (fun cx C => ?_)
  refine z_aload_n 0 dX3_measure_0 rfl ?_
  refine z_getR dX3_measure_1 fX3_21_3 i1_8 k1 ?_
  refine z_sipush dX3_measure_4 rfl ?_
  refine z_sV dX3_measure_7 lX3_39 (by decide) (ct_J7_fill_53178_22 en M ks k22 W wW (1000)) rfl rfl (by exact Nat.le_of_ble_eq_true rfl) ?_
  refine z_iconst dX3_measure_10 ?_
  refine z_istore_n (fun y => [(0, rf en 1), (1, vi y)]) [1, 0] dX3_measure_11 (by decide) (fun _ => rfl) (fun x1_11 e1_11 => ?_)
  have uL12 : ∀ (fu : Nat) (x1 : Int) (r22 : Int → Int), (8 - x1).toNat < fu → (0 ≤ x1 ∧ x1 ≤ 8 ∧ r22 = gD (fil (fun _ => 1000) W 0 64) x1.toNat) → Z en ks cx mX3_measure (upR M 22 r22) 12 [(0, rf en 1), (1, vi x1)] [] := by
    intro fu
    induction fu with
    | zero => intro x1 r22 uhf; exact absurd uhf (Nat.not_lt_zero _)
    | succ fu uih12 =>
      intro x1 r22 uf12 uI12
      obtain ⟨uq1, uq2, uq3⟩ := uI12
      refine z_iload_n 1 dX3_measure_12 rfl ?_
      refine z_bipush dX3_measure_13 rfl ?_
      refine z_icmp_ge (tgt := 36) dX3_measure_15 rfl (by omega) (fun uc15 => ?_) (fun uc15 => ?_)
      ·
        refine z_iconst dX3_measure_36 ?_
        refine z_istore_n (fun y => [(0, rf en 1), (1, vi y)]) [1, 0] dX3_measure_37 (by decide) (fun _ => rfl) (fun x1_37 e1_37 => ?_)
        have uL38 : ∀ (fu : Nat) (x1 : Int) (r22 : Int → Int), (O1 4 - x1).toNat < fu → (0 ≤ x1 ∧ x1 ≤ O1 4 ∧ r22 = gR F G D (gD (fil (fun _ => 1000) W 0 64) 8) x1.toNat) → Z en ks cx mX3_measure (upR M 22 r22) 38 [(0, rf en 1), (1, vi x1)] [] := by
          intro fu
          induction fu with
          | zero => intro x1 r22 uhf; exact absurd uhf (Nat.not_lt_zero _)
          | succ fu uih38 =>
            intro x1 r22 uf38 uI38
            obtain ⟨uq1, uq2, uq4⟩ := uI38
            refine z_iload_n 1 dX3_measure_38 rfl ?_
            refine z_aload_n 0 dX3_measure_39 rfl ?_
            refine z_getI (r := O1) 4 rfl dX3_measure_40 fX3_45_3 i1_4 k1 (wO1) ?_
            refine z_icmp_ge (tgt := 96) dX3_measure_43 rfl (by omega) (fun uc43 => ?_) (fun uc43 => ?_)
            ·
              refine z_iconst dX3_measure_96 ?_
              refine z_istore_n (fun y => [(0, rf en 1), (1, vi y)]) [1, 0] dX3_measure_97 (by decide) (fun _ => rfl) (fun x1_97 e1_97 => ?_)
              have uL98 : ∀ (fu : Nat) (x1 : Int) (r22 : Int → Int), (8 - x1).toNat < fu → (0 ≤ x1 ∧ x1 ≤ 8 ∧ r22 = gB (gR F G D (gD (fil (fun _ => 1000) W 0 64) 8) (O1 4).toNat) x1.toNat) → Z en ks cx mX3_measure (upR M 22 r22) 98 [(0, rf en 1), (1, vi x1)] [] := by
                intro fu
                induction fu with
                | zero => intro x1 r22 uhf; exact absurd uhf (Nat.not_lt_zero _)
                | succ fu uih98 =>
                  intro x1 r22 uf98 uI98
                  obtain ⟨uq1, uq2, uq5⟩ := uI98
                  refine z_iload_n 1 dX3_measure_98 rfl ?_
                  refine z_bipush dX3_measure_99 rfl ?_
                  refine z_icmp_ge (tgt := 115) dX3_measure_101 rfl (by omega) (fun uc101 => ?_) (fun uc101 => ?_)
                  ·
                    exact z_vret C dX3_measure_115 rfl ⟨rfl, by rw [uq5, show x1 = 8 by omega]; rfl⟩
                  ·
                    have ub : wB r22 := by rw [uq5]; exact gB_ok (gR_ok hR (gD_ok (g0_ok W) 8) _ (by omega)) _ (by omega)
                    refine z_aload_n 0 dX3_measure_104 rfl ?_
                    refine z_iload_n 1 dX3_measure_105 rfl ?_
                    refine z_vV dX3_measure_106 lX3_53 (by decide) k1 io1 rfl (ct_X3_goOver en (upR M 22 r22) ks k1 k22 r22 rfl _ (by omega) (by assumption)) rfl rfl (by exact Nat.le_of_ble_eq_true rfl) ?_
                    rw [uu1 (a := 22)]
                    refine z_iinc (fun y => [(0, rf en 1), (1, vi y)]) [1, 0] 1 dX3_measure_109 rfl (by decide) (fun _ => rfl) (fun x1_109 e1_109 => ?_)
                    refine z_goto (tgt := 98) dX3_measure_112 rfl ?_
                    exact uih98 x1_109 (gK x1 r22 64) (by omega) (⟨by omega, by omega, by rw [e1_109, gB_s _ uq1, ← uq5]⟩)
              exact uL98 _ x1_97 r22 (Nat.lt_succ_self _) (⟨by omega, by omega, by rw [uq4, e1_97, show x1 = O1 4 by omega]; rfl⟩)
            ·
              have uh := hR x1 uq1 (by omega)
              rw [tR_0, tR_1, tR_2] at uh
              have ub : wB r22 := by rw [uq4]; exact gR_ok hR (gD_ok (g0_ok W) 8) _ (by omega)
              refine z_aload_n 0 dX3_measure_46 rfl ?_
              refine z_aload_n 0 dX3_measure_47 rfl ?_
              refine z_getR dX3_measure_48 fX3_9_3 i1_5 k1 ?_
              refine z_iload_n 1 dX3_measure_51 rfl ?_
              refine z_iald (r := F) dX3_measure_52 is19 k19 (wF) (by omega) ?_
              refine z_aload_n 0 dX3_measure_53 rfl ?_
              refine z_getR dX3_measure_54 fX3_15_3 i1_6 k1 ?_
              refine z_iload_n 1 dX3_measure_57 rfl ?_
              refine z_iald (r := G) dX3_measure_58 is20 k20 (wG) (by omega) ?_
              refine z_aload_n 0 dX3_measure_59 rfl ?_
              refine z_getR dX3_measure_60 fX3_18_3 i1_7 k1 ?_
              refine z_iload_n 1 dX3_measure_63 rfl ?_
              refine z_iald (r := D) dX3_measure_64 is21 k21 (wD) (by omega) ?_
              refine z_vV dX3_measure_65 lX3_49 (by decide) k1 io1 rfl (ct_X3_shorten en (upR M 22 r22) ks k1 k22 r22 rfl _ _ _ (by omega) (by assumption)) rfl rfl (by exact Nat.le_of_ble_eq_true rfl) ?_
              rw [uu1 (a := 22)]
              have ub2 : wB (sS r22 (F x1) (G x1) (D x1)) := sS_ok uh.1 uh.2.1 (by omega) ub
              refine z_aload_n 0 dX3_measure_68 rfl ?_
              refine z_aload_n 0 dX3_measure_69 rfl ?_
              refine z_getR dX3_measure_70 fX3_15_3 i1_6 k1 ?_
              refine z_iload_n 1 dX3_measure_73 rfl ?_
              refine z_iald (r := G) dX3_measure_74 is20 k20 (wG) (by omega) ?_
              refine z_aload_n 0 dX3_measure_75 rfl ?_
              refine z_getR dX3_measure_76 fX3_9_3 i1_5 k1 ?_
              refine z_iload_n 1 dX3_measure_79 rfl ?_
              refine z_iald (r := F) dX3_measure_80 is19 k19 (wF) (by omega) ?_
              refine z_aload_n 0 dX3_measure_81 rfl ?_
              refine z_getR dX3_measure_82 fX3_18_3 i1_7 k1 ?_
              refine z_iload_n 1 dX3_measure_85 rfl ?_
              refine z_iald (r := D) dX3_measure_86 is21 k21 (wD) (by omega) ?_
              refine z_vV dX3_measure_87 lX3_49 (by decide) k1 io1 rfl (ct_X3_shorten en (upR M 22 (sS r22 (F x1) (G x1) (D x1))) ks k1 k22 (sS r22 (F x1) (G x1) (D x1)) rfl _ _ _ (by omega) (by assumption)) rfl rfl (by exact Nat.le_of_ble_eq_true rfl) ?_
              rw [uu1 (a := 22)]
              refine z_iinc (fun y => [(0, rf en 1), (1, vi y)]) [1, 0] 1 dX3_measure_90 rfl (by decide) (fun _ => rfl) (fun x1_90 e1_90 => ?_)
              refine z_goto (tgt := 38) dX3_measure_93 rfl ?_
              exact uih38 x1_90 (sS (sS r22 (F x1) (G x1) (D x1)) (G x1) (F x1) (D x1)) (by omega) (⟨by omega, by omega, by rw [e1_90, gR_s _ _ _ _ uq1, ← uq4]⟩)
        exact uL38 _ x1_37 r22 (Nat.lt_succ_self _) (⟨by omega, by omega, by rw [uq3, e1_37, show x1 = 8 by omega]; rfl⟩)
      ·
        refine z_aload_n 0 dX3_measure_18 rfl ?_
        refine z_getR dX3_measure_19 fX3_21_3 i1_8 k1 ?_
        refine z_iload_n 1 dX3_measure_22 rfl ?_
        refine z_bipush dX3_measure_23 rfl ?_
        refine z_imul dX3_measure_25 ?_
        refine z_iload_n 1 dX3_measure_26 rfl ?_
        refine z_iadd dX3_measure_27 ?_
        refine z_iconst dX3_measure_28 ?_
        refine z_iast' (r := r22) (fun r => (upR M 22 r)) dX3_measure_29 is22 k22 (rfl) (by omega) (fun _ => uu1) (fun r22_29 f22_29 => ?_)
        refine z_iinc (fun y => [(0, rf en 1), (1, vi y)]) [1, 0] 1 dX3_measure_30 rfl (by decide) (fun _ => rfl) (fun x1_30 e1_30 => ?_)
        refine z_goto (tgt := 12) dX3_measure_33 rfl ?_
        exact uih12 x1_30 r22_29 (by omega) (⟨by omega, by omega, by rw [f22_29, e1_30, gD_s _ uq1, ← uq3]⟩)
  exact uL12 _ x1_11 (fil (fun _ => (1000)) W 0 64) (Nat.lt_succ_self _) (⟨by omega, by omega, by rw [e1_11]; rfl⟩)
/-- what reading a text anew leaves: roads -/
def rdN (M : zW) (O B W : Int → Int) (N : zW) : Prop := ∃ (r19 r20 r21 : Int → Int) (v : Int), rdF B (O 2) v ∧ (v = -1 → raIT B r19 r20 r21 (O 2)) ∧ upR (upR (upR (upR (upR M 1 (up (up O 3 v) 4 (rCnt (O 2) v))) 19 r19) 20 r20) 21 r21) 22 (gA r19 r20 r21 W (rCnt (O 2) v).toNat) = N
/-- persons -/
def pdN (M : zW) (O B : Int → Int) (N : zW) : Prop := ∃ (r24 r25 r26 r27 r28 : Int → Int) (v : Int), pdF B (O 2) v ∧ (v = -1 → paIT B r24 r25 r26 r27 r28 (O 2)) ∧ upR (upR (upR (upR (upR (upR M 2 (up (up O 3 v) 4 (pCnt (O 2) v))) 24 r24) 25 r25) 26 r26) 27 r27) 28 r28 = N
set_option maxRecDepth 100000 in
theorem ct_X3_readAnew (en : zE) (M : zW) (O1 : Int → Int) (Bc : Int → Int) (F : Int → Int) (G : Int → Int) (D : Int → Int) (W : Int → Int) (wO1 : M 1 = O1) (wBc : M 18 = Bc) (wF : M 19 = F) (wG : M 20 = G) (wD : M 21 = D) (wW : M 22 = W) (hO : O1 0 = 3 ∧ 0 ≤ O1 2 ∧ O1 2 ≤ 47) (hB : ∀ j, 0 ≤ j → j < O1 2 → 0 ≤ Bc j ∧ Bc j ≤ 255) : Ct en kA yX3_readAnew mX3_readAnew [rf en 1] M (pN (rdN M O1 Bc W)) := by
  refine Ct.of (by decide +kernel) rfl [(0, rf en 1)] rfl (Nat.le_of_ble_eq_true rfl) (fun cx C => ?_)
  refine z_aload_n 0 dX3_readAnew_0 rfl ?_
  refine z_pN dX3_readAnew_1 lX3_36 (by decide) ka1 io1 rfl (ct_X5_readAnew_1 en M O1 Bc F G D wO1 wBc wF wG wD (by assumption) (by assumption)) rfl rfl (by exact Nat.le_of_ble_eq_true rfl) (fun uN1 uh1 => ?_)
  obtain ⟨r19_1, r20_1, r21_1, uv1, uf1, ut1, rfl⟩ := uh1
  have uc := rd_cnt hO.2 uf1
  have uk := rd_ok hO.2 uf1 ut1
  have uk4 : up (up O1 3 uv1) 4 (rCnt (O1 2) uv1) 4 = rCnt (O1 2) uv1 := up_s _ _ _
  refine z_aload_n 0 dX3_readAnew_4 rfl ?_
  refine z_vV dX3_readAnew_5 lX3_24 (by decide) ka1 io1 rfl (ct_X3_measure en (upR (upR (upR (upR M 1 (up (up O1 3 uv1) 4 (rCnt (O1 2) uv1))) 19 r19_1) 20 r20_1) 21 r21_1) kA ka1 ka19 ka20 ka21 ka22 (up (up O1 3 uv1) 4 (rCnt (O1 2) uv1)) r19_1 r20_1 r21_1 W rfl rfl rfl rfl wW (by rw [uk4]; omega) (by rw [uk4]; exact uk)) rfl rfl (by exact Nat.le_of_ble_eq_true rfl) ?_
  exact z_vret C dX3_readAnew_8 rfl ⟨rfl, ⟨r19_1, r20_1, r21_1, uv1, uf1, ut1, by rw [uk4]⟩⟩
set_option maxRecDepth 100000 in
theorem ct_X5_append_1 (en : zE) (M : zW) (O1 : Int → Int) (Bc : Int → Int) (F : Int → Int) (G : Int → Int) (D : Int → Int) (W : Int → Int) (wO1 : M 1 = O1) (wBc : M 18 = Bc) (wF : M 19 = F) (wG : M 20 = G) (wD : M 21 = D) (wW : M 22 = W) (b : Int) (hO : O1 0 = 3 ∧ 0 ≤ O1 2 ∧ O1 2 ≤ 47) (hB : ∀ j, 0 ≤ j → j < O1 2 → 0 ≤ Bc j ∧ Bc j ≤ 255) (hs : O1 2 < 47) (hb : 0 ≤ b ∧ b ≤ 255) : Ct en kA yX5_append mX5_append [rf en 1, vi b] M (pN (rdN (upR (upR M 18 (up Bc (O1 2) b)) 1 (up O1 2 (O1 2 + 1))) (up O1 2 (O1 2 + 1)) (up Bc (O1 2) b) W)) := by
  refine Ct.of (by decide +kernel) rfl [(0, rf en 1), (1, vi b)] rfl (Nat.le_of_ble_eq_true rfl) (fun cx C => ?_)
  refine z_aload_n 0 dX5_append_0 rfl ?_
  refine z_getI (r := O1) 2 rfl dX5_append_1 fX5_22_3 i1_2 ka1 (wO1) ?_
  refine z_bipush dX5_append_4 rfl ?_
  refine z_icmp_ge (tgt := 33) dX5_append_6 rfl (by omega) (fun uc6 => absurd uc6 (by omega)) (fun uc6 => ?_)
  refine z_aload_n 0 dX5_append_9 rfl ?_
  refine z_getR dX5_append_10 fX5_9_3 i1_1 ka1 ?_
  refine z_aload_n 0 dX5_append_13 rfl ?_
  refine z_getI (r := O1) 2 rfl dX5_append_14 fX5_22_3 i1_2 ka1 (wO1) ?_
  refine z_iload_n 1 dX5_append_17 rfl ?_
  refine z_iast (r := Bc) dX5_append_18 is18 ka18 (wBc) (by omega) (fun r18_18 f18_18 => ?_)
  refine z_aload_n 0 dX5_append_19 rfl ?_
  refine z_dup_a dX5_append_20 ?_
  refine z_getI (r := O1) 2 rfl dX5_append_21 fX5_22_3 i1_2 ka1 (wO1) ?_
  refine z_iconst dX5_append_24 ?_
  refine z_iadd dX5_append_25 ?_
  refine z_putI (r := O1) 2 rfl dX5_append_26 pfX5_22_3 i1_2 ka1 (wO1) (fun r1_26 f1_26 => ?_)
  refine z_aload_n 0 dX5_append_29 rfl ?_
  refine z_uN dX5_append_30 lX5_25_1 (by decide) ka1 io1 rfl (ct_X3_readAnew en (upR (upR M 18 r18_18) 1 r1_26) r1_26 r18_18 F G D W rfl rfl wF wG wD wW (by rw [f1_26, up_n _ _ (by decide), up_s]; omega) (by rw [f1_26, up_s, f18_18]; intro uj ua ub; by_cases uz : uj = O1 2; (rw [uz, up_s]; exact hb); (rw [up_n _ _ uz]; exact hB uj ua (by omega)))) rfl rfl (by exact Nat.le_of_ble_eq_true rfl) (fun uN30 uh30 => ?_)
  exact z_vret C dX5_append_33 rfl ⟨rfl, by rw [← f1_26, ← f18_18]; exact uh30⟩
set_option maxRecDepth 100000 in
theorem ct_X5_cutTo_1 (en : zE) (M : zW) (O1 : Int → Int) (Bc : Int → Int) (F : Int → Int) (G : Int → Int) (D : Int → Int) (W : Int → Int) (wO1 : M 1 = O1) (wBc : M 18 = Bc) (wF : M 19 = F) (wG : M 20 = G) (wD : M 21 = D) (wW : M 22 = W) (n : Int) (hO : O1 0 = 3 ∧ 0 ≤ O1 2 ∧ O1 2 ≤ 47) (hB : ∀ j, 0 ≤ j → j < O1 2 → 0 ≤ Bc j ∧ Bc j ≤ 255) (hn : -2147483648 ≤ n ∧ n < 2147483648) : Ct en kA yX5_cutTo mX5_cutTo [rf en 1, vi n] M (pN (rdN (upR M 1 (up O1 2 (max 0 (min n (O1 2))))) (up O1 2 (max 0 (min n (O1 2)))) Bc W)) := by
  refine Ct.of (by decide +kernel) rfl [(0, rf en 1), (1, vi n)] rfl (Nat.le_of_ble_eq_true rfl) (fun cx C => ?_)
  refine z_aload_n 0 dX5_cutTo_0 rfl ?_
  refine z_iconst dX5_cutTo_1 ?_
  refine z_iload_n 1 dX5_cutTo_2 rfl ?_
  refine z_aload_n 0 dX5_cutTo_3 rfl ?_
  refine z_getI (r := O1) 2 rfl dX5_cutTo_4 fX5_22_3 i1_2 ka1 (wO1) ?_
  refine z_mmin dX5_cutTo_7 lX5_28 (by omega) (by decide) (Nat.le_of_ble_eq_true rfl) ?_
  refine z_mmax dX5_cutTo_10 lX5_34 (by omega) (by decide) (Nat.le_of_ble_eq_true rfl) ?_
  refine z_putI (r := O1) 2 rfl dX5_cutTo_13 pfX5_22_3 i1_2 ka1 (wO1) (fun r1_13 f1_13 => ?_)
  refine z_aload_n 0 dX5_cutTo_16 rfl ?_
  refine z_uN dX5_cutTo_17 lX5_25_1 (by decide) ka1 io1 rfl (ct_X3_readAnew en (upR M 1 r1_13) r1_13 Bc F G D W rfl wBc wF wG wD wW (by rw [f1_13, up_n _ _ (by decide), up_s]; omega) (by rw [f1_13, up_s]; intro uj ua ub; exact hB uj ua (by omega))) rfl rfl (by exact Nat.le_of_ble_eq_true rfl) (fun uN17 uh17 => ?_)
  exact z_vret C dX5_cutTo_20 rfl ⟨rfl, by rw [← f1_13]; exact uh17⟩
set_option maxRecDepth 100000 in
theorem ct_X5_append_2 (en : zE) (M : zW) (O1 : Int → Int) (Bc : Int → Int) (A : Int → Int) (G : Int → Int) (K : Int → Int) (H : Int → Int) (S : Int → Int) (wO1 : M 2 = O1) (wBc : M 23 = Bc) (wA : M 24 = A) (wG : M 25 = G) (wK : M 26 = K) (wH : M 27 = H) (wS : M 28 = S) (b : Int) (hO : O1 0 = 5 ∧ 0 ≤ O1 2 ∧ O1 2 ≤ 47) (hB : ∀ j, 0 ≤ j → j < O1 2 → 0 ≤ Bc j ∧ Bc j ≤ 255) (hs : O1 2 < 47) (hb : 0 ≤ b ∧ b ≤ 255) : Ct en kA yX5_append mX5_append [rf en 2, vi b] M (pN (pdN (upR (upR M 23 (up Bc (O1 2) b)) 2 (up O1 2 (O1 2 + 1))) (up O1 2 (O1 2 + 1)) (up Bc (O1 2) b))) := by
  refine Ct.of (by decide +kernel) rfl [(0, rf en 2), (1, vi b)] rfl (Nat.le_of_ble_eq_true rfl) (fun cx C => ?_)
  refine z_aload_n 0 dX5_append_0 rfl ?_
  refine z_getI (r := O1) 2 rfl dX5_append_1 fX5_22_2 i2_2 ka2 (wO1) ?_
  refine z_bipush dX5_append_4 rfl ?_
  refine z_icmp_ge (tgt := 33) dX5_append_6 rfl (by omega) (fun uc6 => absurd uc6 (by omega)) (fun uc6 => ?_)
  refine z_aload_n 0 dX5_append_9 rfl ?_
  refine z_getR dX5_append_10 fX5_9_2 i2_1 ka2 ?_
  refine z_aload_n 0 dX5_append_13 rfl ?_
  refine z_getI (r := O1) 2 rfl dX5_append_14 fX5_22_2 i2_2 ka2 (wO1) ?_
  refine z_iload_n 1 dX5_append_17 rfl ?_
  refine z_iast (r := Bc) dX5_append_18 is23 ka23 (wBc) (by omega) (fun r23_18 f23_18 => ?_)
  refine z_aload_n 0 dX5_append_19 rfl ?_
  refine z_dup_a dX5_append_20 ?_
  refine z_getI (r := O1) 2 rfl dX5_append_21 fX5_22_2 i2_2 ka2 (wO1) ?_
  refine z_iconst dX5_append_24 ?_
  refine z_iadd dX5_append_25 ?_
  refine z_putI (r := O1) 2 rfl dX5_append_26 pfX5_22_2 i2_2 ka2 (wO1) (fun r2_26 f2_26 => ?_)
  refine z_aload_n 0 dX5_append_29 rfl ?_
  refine z_uN dX5_append_30 lX5_25_2 (by decide) ka2 io2 rfl (ct_X5_readAnew_2 en (upR (upR M 23 r23_18) 2 r2_26) r2_26 r23_18 A G K H S rfl rfl wA wG wK wH wS (by rw [f2_26, up_n _ _ (by decide), up_s]; omega) (by rw [f2_26, up_s, f23_18]; intro uj ua ub; by_cases uz : uj = O1 2; (rw [uz, up_s]; exact hb); (rw [up_n _ _ uz]; exact hB uj ua (by omega)))) rfl rfl (by exact Nat.le_of_ble_eq_true rfl) (fun uN30 uh30 => ?_)
  exact z_vret C dX5_append_33 rfl ⟨rfl, by rw [← f2_26, ← f23_18]; exact uh30⟩
set_option maxRecDepth 100000 in
theorem ct_X5_cutTo_2 (en : zE) (M : zW) (O1 : Int → Int) (Bc : Int → Int) (A : Int → Int) (G : Int → Int) (K : Int → Int) (H : Int → Int) (S : Int → Int) (wO1 : M 2 = O1) (wBc : M 23 = Bc) (wA : M 24 = A) (wG : M 25 = G) (wK : M 26 = K) (wH : M 27 = H) (wS : M 28 = S) (n : Int) (hO : O1 0 = 5 ∧ 0 ≤ O1 2 ∧ O1 2 ≤ 47) (hB : ∀ j, 0 ≤ j → j < O1 2 → 0 ≤ Bc j ∧ Bc j ≤ 255) (hn : -2147483648 ≤ n ∧ n < 2147483648) : Ct en kA yX5_cutTo mX5_cutTo [rf en 2, vi n] M (pN (pdN (upR M 2 (up O1 2 (max 0 (min n (O1 2))))) (up O1 2 (max 0 (min n (O1 2)))) Bc)) := by
  refine Ct.of (by decide +kernel) rfl [(0, rf en 2), (1, vi n)] rfl (Nat.le_of_ble_eq_true rfl) (fun cx C => ?_)
  refine z_aload_n 0 dX5_cutTo_0 rfl ?_
  refine z_iconst dX5_cutTo_1 ?_
  refine z_iload_n 1 dX5_cutTo_2 rfl ?_
  refine z_aload_n 0 dX5_cutTo_3 rfl ?_
  refine z_getI (r := O1) 2 rfl dX5_cutTo_4 fX5_22_2 i2_2 ka2 (wO1) ?_
  refine z_mmin dX5_cutTo_7 lX5_28 (by omega) (by decide) (Nat.le_of_ble_eq_true rfl) ?_
  refine z_mmax dX5_cutTo_10 lX5_34 (by omega) (by decide) (Nat.le_of_ble_eq_true rfl) ?_
  refine z_putI (r := O1) 2 rfl dX5_cutTo_13 pfX5_22_2 i2_2 ka2 (wO1) (fun r2_13 f2_13 => ?_)
  refine z_aload_n 0 dX5_cutTo_16 rfl ?_
  refine z_uN dX5_cutTo_17 lX5_25_2 (by decide) ka2 io2 rfl (ct_X5_readAnew_2 en (upR M 2 r2_13) r2_13 Bc A G K H S rfl wBc wA wG wK wH wS (by rw [f2_13, up_n _ _ (by decide), up_s]; omega) (by rw [f2_13, up_s]; intro uj ua ub; exact hB uj ua (by omega))) rfl rfl (by exact Nat.le_of_ble_eq_true rfl) (fun uN17 uh17 => ?_)
  exact z_vret C dX5_cutTo_20 rfl ⟨rfl, by rw [← f2_13]; exact uh17⟩
