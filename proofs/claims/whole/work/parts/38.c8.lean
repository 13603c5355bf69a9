/-! whom to ask; reigns -/
def cBn (K : Int → Int) (sm a : Int) : Nat → Int
  | 0 => 0
  | n + 1 => cBn K sm a n + (if bitq sm n ∧ K n = K a then 1 else 0)
def mCx (K : Int → Int) (sm : Int) : Nat → Int
  | 0 => 0
  | n + 1 => max (mCx K sm n) (if bitq sm n then cBn K sm n 8 else 0)
theorem cBn_rg (K : Int → Int) (sm a : Int) : ∀ n : Nat, 0 ≤ cBn K sm a n ∧ cBn K sm a n ≤ n
  | 0 => by simp [cBn]
  | n + 1 => by
    have := cBn_rg K sm a n
    rw [cBn]; split <;> omega
theorem mCx_rg (K : Int → Int) (sm : Int) : ∀ n : Nat, 0 ≤ mCx K sm n ∧ mCx K sm n ≤ 8
  | 0 => by simp [mCx]
  | n + 1 => by
    have := mCx_rg K sm n
    have := cBn_rg K sm n 8
    rw [mCx]; split <;> omega
theorem cBn_s (K : Int → Int) (sm a : Int) {x : Int} (h : 0 ≤ x) : cBn K sm a (x + 1).toNat = cBn K sm a x.toNat + (if bitq sm x ∧ K x = K a then 1 else 0) := by rw [tnS h, cBn, tnC h]
theorem mCx_s (K : Int → Int) (sm : Int) {x : Int} (h : 0 ≤ x) : mCx K sm (x + 1).toNat = max (mCx K sm x.toNat) (if bitq sm x then cBn K sm x 8 else 0) := by rw [tnS h, mCx, tnC h]
def kyC (c : Int → Int) (t : Int) : Int → Int := fun b => if 1000 ≤ c (b * 8 + t) then -1 else c (b * 8 + t)
theorem kyC_rg {c : Int → Int} (hc : wB c) {t b : Int} (ht : 0 ≤ t ∧ t ≤ 7) (hb : 0 ≤ b ∧ b ≤ 7) : -1 ≤ kyC c t b ∧ kyC c t b ≤ 1000 := by
  have := hc (b * 8 + t) (by omega) (by omega)
  unfold kyC; split <;> omega
def akM (mu : Int → Int) : Nat → Int × Int
  | 0 => (0, mu 0)
  | n + 1 => (if mu ((n : Int) + 1) < (akM mu n).2 then (n : Int) + 1 else (akM mu n).1, min (mu ((n : Int) + 1)) (akM mu n).2)
def AKR (mu : Int → Int) (n x2 x3 : Int) : Prop := (n = 0 ∧ x2 = 0 ∧ x3 = 1000) ∨ (0 < n ∧ x2 = (akM mu (n - 1).toNat).1 ∧ x3 = (akM mu (n - 1).toNat).2 ∧ (0 ≤ x2 ∧ x2 ≤ 7) ∧ (0 ≤ x3 ∧ x3 ≤ 8))
theorem AKR_s {mu : Int → Int} {n x2 x3 m : Int} (hn : 0 ≤ n ∧ n ≤ 7) (h : AKR mu n x2 x3) (hm : m = mu n) (hr : 0 ≤ m ∧ m ≤ 8) : AKR mu (n + 1) (if m < x3 then n else x2) (if m < x3 then m else x3) := by
  refine Or.inr ⟨by omega, ?_⟩
  rw [show n + 1 - 1 = n by omega]
  rcases h with ⟨a, b, c⟩ | ⟨a, b, c, d, e⟩
  · subst a
    rw [if_pos (by omega), if_pos (by omega)]
    exact ⟨rfl, hm, by omega, by omega⟩
  · have e1 : n.toNat = (n - 1).toNat + 1 := by omega
    have e2 : (((n - 1).toNat : Nat) : Int) + 1 = n := by omega
    rw [e1, akM, e2, ← hm, ← b, ← c]
    refine ⟨rfl, ?_, ?_, ?_⟩
    · show _ = min m x3
      split <;> omega
    · split <;> omega
    · split <;> omega
theorem rg_q {T U : Int → Int} (h1 : U 1 = T 1) (h4 : U 4 = T 4) (h5 : U 5 = T 5) (a b c : Int) : Tq (up (up (up U 0 a) 3 b) 2 c) (up (up (up T 0 a) 3 b) 2 c) := fun j i1 i2 => by
  have hj : j = 0 ∨ j = 1 ∨ j = 2 ∨ j = 3 ∨ j = 4 ∨ j = 5 := by omega
  rcases hj with rfl | rfl | rfl | rfl | rfl | rfl <;> simp [up, h1, h4, h5]
theorem noA_t {T U : Int → Int} (h : Tq T U) (W : Int → Int) : noA T W = noA U W := by
  funext t
  unfold noA
  rw [hA_t h, lwA_t h]
theorem rgS_s (T W P : Int → Int) (np s tw : Int) {x : Int} (h : 0 ≤ x) : rgS T W P np s tw (x + 1).toNat = rgS T W P np s tw x.toNat + rgV T W P np s tw x.toNat := by rw [tnS h, rgS]
set_option maxRecDepth 100000 in
theorem ct_X6_mostAlike (en : zE) (M : zW) (c : Int → Int) (wc : M 22 = c) (t : Int) (sm : Int) (h0 : (0 ≤ t ∧ t ≤ 7) ∧ (0 ≤ sm ∧ sm ≤ 1023)) (hc : wB c) : Ct en kA yX6_mostAlike mX6_mostAlike [rf en 0, vi t, vi sm] M (pI (mCx (kyC c t) sm 8) M) := by
  refine Ct.of (by decide +kernel) rfl [(0, rf en 0), (1, vi t), (2, vi sm)] rfl (Nat.le_of_ble_eq_true rfl) (fun cx C => ?_)
  refine z_iconst dX6_mostAlike_0 ?_
  refine z_istore_n (fun y => [(0, rf en 0), (1, vi t), (2, vi sm), (3, vi y)]) [1, 2, 3, 0] dX6_mostAlike_1 (by decide) (fun _ => rfl) (fun x3_1 e3_1 => ?_)
  refine z_iconst dX6_mostAlike_2 ?_
  refine z_istore (fun y => [(0, rf en 0), (1, vi t), (2, vi sm), (3, vi x3_1), (4, vi y)]) [1, 2, 3, 4, 0] dX6_mostAlike_3 (by decide) (fun _ => rfl) (fun x4_3 e4_3 => ?_)
  have uL5 : ∀ (fu : Nat) (x3 : Int) (x4 : Int), (8 - x4).toNat < fu → (0 ≤ x4 ∧ x4 ≤ 8 ∧ x3 = mCx (kyC c t) sm x4.toNat) → Z en kA cx mX6_mostAlike M 5 [(0, rf en 0), (1, vi t), (2, vi sm), (3, vi x3), (4, vi x4)] [] := by
    intro fu
    induction fu with
    | zero => intro x3 x4 uhf; exact absurd uhf (Nat.not_lt_zero _)
    | succ fu uih5 =>
      intro x3 x4 uf5 uI5
      obtain ⟨uq1, uq2, uq3⟩ := uI5
      have uqr := mCx_rg (kyC c t) sm x4.toNat
      refine z_iload 4 dX6_mostAlike_5 rfl ?_
      refine z_bipush dX6_mostAlike_7 rfl ?_
      refine z_icmp_ge (tgt := 92) dX6_mostAlike_9 rfl (by omega) (fun uc9 => ?_) (fun uc9 => ?_)
      ·
        refine z_iload_n 3 dX6_mostAlike_92 rfl ?_
        exact z_iret C dX6_mostAlike_93 rfl ⟨congrArg (fun z => some (vi z)) (by rw [uq3, show x4 = 8 by omega]; rfl), rfl⟩
      ·
        refine z_iconst dX6_mostAlike_12 ?_
        refine z_istore (fun y => [(0, rf en 0), (1, vi t), (2, vi sm), (3, vi x3), (4, vi x4), (5, vi y)]) [1, 2, 3, 4, 5, 0] dX6_mostAlike_13 (by decide) (fun _ => rfl) (fun x5_13 e5_13 => ?_)
        refine z_iconst dX6_mostAlike_15 ?_
        refine z_istore (fun y => [(0, rf en 0), (1, vi t), (2, vi sm), (3, vi x3), (4, vi x4), (5, vi x5_13), (6, vi y)]) [1, 2, 3, 4, 5, 6, 0] dX6_mostAlike_16 (by decide) (fun _ => rfl) (fun x6_16 e6_16 => ?_)
        have uL18 : ∀ (fu : Nat) (x5 : Int) (x6 : Int), (8 - x6).toNat < fu → (0 ≤ x6 ∧ x6 ≤ 8 ∧ x5 = cBn (kyC c t) sm x4 x6.toNat) → Z en kA cx mX6_mostAlike M 18 [(0, rf en 0), (1, vi t), (2, vi sm), (3, vi x3), (4, vi x4), (5, vi x5), (6, vi x6)] [] := by
          intro fu
          induction fu with
          | zero => intro x5 x6 uhf; exact absurd uhf (Nat.not_lt_zero _)
          | succ fu uih18 =>
            intro x5 x6 uf18 uI18
            obtain ⟨uq4, uq5, uq6⟩ := uI18
            have uqs := cBn_rg (kyC c t) sm x4 x6.toNat
            refine z_iload 6 dX6_mostAlike_18 rfl ?_
            refine z_bipush dX6_mostAlike_20 rfl ?_
            refine z_icmp_ge (tgt := 66) dX6_mostAlike_22 rfl (by omega) (fun uc22 => ?_) (fun uc22 => ?_)
            ·
              refine z_iload_n 3 dX6_mostAlike_66 rfl ?_
              refine z_iload_n 2 dX6_mostAlike_67 rfl ?_
              refine z_iload 4 dX6_mostAlike_68 rfl ?_
              refine z_sI dX6_mostAlike_70 lX6_336 (by decide) (ct_X6_hasBit en M _ _ (by omega) (by omega)) rfl rfl (by exact Nat.le_of_ble_eq_true rfl) ?_
              refine z_ifeq_b (tgt := 81) dX6_mostAlike_73 rfl (fun uc73 => ?_) (fun uc73 => ?_)
              ·
                refine z_iconst dX6_mostAlike_81 ?_
                refine z_mmax dX6_mostAlike_82 lX6_227 (by omega) (by decide) (Nat.le_of_ble_eq_true rfl) ?_
                refine z_istore_n (fun y => [(0, rf en 0), (1, vi t), (2, vi sm), (3, vi y), (4, vi x4), (5, vi x5), (6, vi x6)]) [1, 2, 3, 0, 4, 5, 6] dX6_mostAlike_85 (by decide) (fun _ => rfl) (fun x3_85 e3_85 => ?_)
                refine z_iinc (fun y => [(0, rf en 0), (1, vi t), (2, vi sm), (3, vi x3_85), (4, vi y), (5, vi x5), (6, vi x6)]) [1, 2, 3, 4, 0, 5, 6] 4 dX6_mostAlike_86 rfl (by decide) (fun _ => rfl) (fun x4_86 e4_86 => ?_)
                refine z_goto (tgt := 5) dX6_mostAlike_89 rfl ?_
                refine z_lv [0, 1, 2, 3, 4] [(0, rf en 0), (1, vi t), (2, vi sm), (3, vi x3_85), (4, vi x4_86)] rfl ?_
                exact uih5 x3_85 x4_86 (by omega) (⟨by omega, by omega, by rw [e3_85, e4_86, mCx_s _ _ uq1, ← uq3, if_neg uc73]⟩)
              ·
                refine z_iload 5 dX6_mostAlike_76 rfl ?_
                refine z_goto (tgt := 82) dX6_mostAlike_78 rfl ?_
                refine z_mmax dX6_mostAlike_82 lX6_227 (by omega) (by decide) (Nat.le_of_ble_eq_true rfl) ?_
                refine z_istore_n (fun y => [(0, rf en 0), (1, vi t), (2, vi sm), (3, vi y), (4, vi x4), (5, vi x5), (6, vi x6)]) [1, 2, 3, 0, 4, 5, 6] dX6_mostAlike_85 (by decide) (fun _ => rfl) (fun x3_85 e3_85 => ?_)
                refine z_iinc (fun y => [(0, rf en 0), (1, vi t), (2, vi sm), (3, vi x3_85), (4, vi y), (5, vi x5), (6, vi x6)]) [1, 2, 3, 4, 0, 5, 6] 4 dX6_mostAlike_86 rfl (by decide) (fun _ => rfl) (fun x4_86 e4_86 => ?_)
                refine z_goto (tgt := 5) dX6_mostAlike_89 rfl ?_
                refine z_lv [0, 1, 2, 3, 4] [(0, rf en 0), (1, vi t), (2, vi sm), (3, vi x3_85), (4, vi x4_86)] rfl ?_
                exact uih5 x3_85 x4_86 (by omega) (⟨by omega, by omega, by rw [e3_85, e4_86, mCx_s _ _ uq1, ← uq3, if_pos uc73, uq6, show x6 = 8 by omega]; rfl⟩)
            ·
              refine z_iload_n 2 dX6_mostAlike_25 rfl ?_
              refine z_iload 6 dX6_mostAlike_26 rfl ?_
              refine z_sI dX6_mostAlike_28 lX6_336 (by decide) (ct_X6_hasBit en M _ _ (by omega) (by omega)) rfl rfl (by exact Nat.le_of_ble_eq_true rfl) ?_
              refine z_ifeq_b (tgt := 60) dX6_mostAlike_31 rfl (fun uc31 => ?_) (fun uc31 => ?_)
              ·
                refine z_iinc (fun y => [(0, rf en 0), (1, vi t), (2, vi sm), (3, vi x3), (4, vi x4), (5, vi x5), (6, vi y)]) [1, 2, 3, 4, 5, 6, 0] 6 dX6_mostAlike_60 rfl (by decide) (fun _ => rfl) (fun x6_60 e6_60 => ?_)
                refine z_goto (tgt := 18) dX6_mostAlike_63 rfl ?_
                exact uih18 x5 x6_60 (by omega) (⟨by omega, by omega, by rw [e6_60, cBn_s _ _ _ uq4, ← uq6, if_neg (fun uz => uc31 uz.1), Int.add_zero]⟩)
              ·
                refine z_aload_n 0 dX6_mostAlike_34 rfl ?_
                refine z_getR dX6_mostAlike_35 fX6_10_5 i0_0 ka0 ?_
                refine z_iload 6 dX6_mostAlike_38 rfl ?_
                refine z_iload_n 1 dX6_mostAlike_40 rfl ?_
                refine z_vI dX6_mostAlike_41 lX6_122 (by decide) ka1 io1 rfl (ct_X3_between en M c wc _ _ (by omega) (by assumption)) rfl rfl (by exact Nat.le_of_ble_eq_true rfl) ?_
                refine z_aload_n 0 dX6_mostAlike_44 rfl ?_
                refine z_getR dX6_mostAlike_45 fX6_10_5 i0_0 ka0 ?_
                refine z_iload 4 dX6_mostAlike_48 rfl ?_
                refine z_iload_n 1 dX6_mostAlike_50 rfl ?_
                refine z_vI dX6_mostAlike_51 lX6_122 (by decide) ka1 io1 rfl (ct_X3_between en M c wc _ _ (by omega) (by assumption)) rfl rfl (by exact Nat.le_of_ble_eq_true rfl) ?_
                have uk1 : -1 ≤ (if 1000 ≤ c (x6 * 8 + t) then -1 else c (x6 * 8 + t)) ∧ (if 1000 ≤ c (x6 * 8 + t) then -1 else c (x6 * 8 + t)) ≤ 1000 := kyC_rg hc (by omega) (by omega)
                have uk2 : -1 ≤ (if 1000 ≤ c (x4 * 8 + t) then -1 else c (x4 * 8 + t)) ∧ (if 1000 ≤ c (x4 * 8 + t) then -1 else c (x4 * 8 + t)) ≤ 1000 := kyC_rg hc (by omega) (by omega)
                refine z_icmp_ne (tgt := 60) dX6_mostAlike_54 rfl (by omega) (fun uc54 => ?_) (fun uc54 => ?_)
                ·
                  refine z_iinc (fun y => [(0, rf en 0), (1, vi t), (2, vi sm), (3, vi x3), (4, vi x4), (5, vi x5), (6, vi y)]) [1, 2, 3, 4, 5, 6, 0] 6 dX6_mostAlike_60 rfl (by decide) (fun _ => rfl) (fun x6_60 e6_60 => ?_)
                  refine z_goto (tgt := 18) dX6_mostAlike_63 rfl ?_
                  exact uih18 x5 x6_60 (by omega) (⟨by omega, by omega, by rw [e6_60, cBn_s _ _ _ uq4, ← uq6, if_neg (fun uz => uc54 uz.2), Int.add_zero]⟩)
                ·
                  refine z_iinc (fun y => [(0, rf en 0), (1, vi t), (2, vi sm), (3, vi x3), (4, vi x4), (5, vi y), (6, vi x6)]) [1, 2, 3, 4, 5, 0, 6] 5 dX6_mostAlike_57 rfl (by decide) (fun _ => rfl) (fun x5_57 e5_57 => ?_)
                  refine z_iinc (fun y => [(0, rf en 0), (1, vi t), (2, vi sm), (3, vi x3), (4, vi x4), (5, vi x5_57), (6, vi y)]) [1, 2, 3, 4, 5, 6, 0] 6 dX6_mostAlike_60 rfl (by decide) (fun _ => rfl) (fun x6_60 e6_60 => ?_)
                  refine z_goto (tgt := 18) dX6_mostAlike_63 rfl ?_
                  exact uih18 x5_57 x6_60 (by omega) (⟨by omega, by omega, by rw [e6_60, cBn_s _ _ _ uq4, ← uq6, if_pos ⟨uc31, uc54⟩, e5_57]⟩)
        exact uL18 _ x5_13 x6_16 (Nat.lt_succ_self _) (⟨by omega, by omega, by rw [e5_13, e6_16]; rfl⟩)
  exact uL5 _ x3_1 x4_3 (Nat.lt_succ_self _) (⟨by omega, by omega, by rw [e3_1, e4_3]; rfl⟩)
set_option maxRecDepth 100000 in
theorem ct_X6_ask (en : zE) (M : zW) (O0 : Int → Int) (O2 : Int → Int) (T : Int → Int) (T4 : Int → Int) (O5 : Int → Int) (Q7 : Int → Int) (Q8 : Int → Int) (c : Int → Int) (A : Int → Int) (G : Int → Int) (K : Int → Int) (H : Int → Int) (S : Int → Int) (P0 : Int → Int) (Hd : Int → Int) (Lw : Int → Int) (C0 : Int → Int) (E0 : Int → Int) (R0 : Int → Int) (wO0 : M 0 = O0) (wO2 : M 2 = O2) (wT : M 3 = T) (wT4 : M 4 = T4) (wO5 : M 5 = O5) (wQ7 : M 7 = Q7) (wQ8 : M 8 = Q8) (wc : M 22 = c) (wA : M 24 = A) (wG : M 25 = G) (wK : M 26 = K) (wH : M 27 = H) (wS : M 28 = S) (wP0 : M 29 = P0) (wHd : M 30 = Hd) (wLw : M 31 = Lw) (wC0 : M 32 = C0) (wE0 : M 33 = E0) (wR0 : M 34 = R0) (hT : tOK T) (hc : wB c) (hP : (0 ≤ O2 4 ∧ O2 4 ≤ 8) ∧ pOK (tP A G K H S) (O2 4)) (hs : (0 ≤ O0 8 ∧ O0 8 ≤ 8) ∧ ∀ j, 0 ≤ j → j < O0 8 → (0 ≤ Q7 j ∧ Q7 j ≤ 7) ∧ (0 ≤ Q8 j ∧ Q8 j ≤ 1)) : Ct en kA yX6_ask mX6_ask [rf en 0] M (pX (fun x N => x = (akM (fun t => mCx (kyC c t) (fiS T (cW c) (tP A G K H S) (O2 4) (sgC Q7 Q8) (O0 8).toNat 0 8 : Int) 8) 7).1 ∧ kc M N)) := by
  refine Ct.of (by decide +kernel) rfl [(0, rf en 0)] rfl (Nat.le_of_ble_eq_true rfl) (fun cx C => ?_)
  refine z_aload_n 0 dX6_ask_0 rfl ?_
  refine z_iconst dX6_ask_1 ?_
  refine z_vX dX6_ask_2 lX6_196 (by decide) ka0 io0 rfl (ct_X6_fitting en M O0 O2 T T4 O5 Q7 Q8 c A G K H S P0 Hd Lw C0 E0 R0 wO0 wO2 wT wT4 wO5 wQ7 wQ8 wc wA wG wK wH wS wP0 wHd wLw wC0 wE0 wR0 (0) (by omega) (by assumption) (by assumption) (by assumption) (by assumption)) rfl rfl (by exact Nat.le_of_ble_eq_true rfl) (fun uv2 uN2 uh2 => ?_)
  obtain ⟨uw_2, uk_2⟩ := uh2
  have uc22 : uN2 22 = c := (uk_2 22 (by decide)).trans wc
  refine z_istore_n (fun y => [(0, rf en 0), (1, vi y)]) [1, 0] dX6_ask_5 (by decide) (fun _ => rfl) (fun x1_5 e1_5 => ?_)
  have uw5 : x1_5 = (fiS T (cW c) (tP A G K H S) (O2 4) (sgC Q7 Q8) (O0 8).toNat 0 8 : Int) := e1_5.trans uw_2
  have uwl := fiS_k T (cW c) (tP A G K H S) (O2 4) (sgC Q7 Q8) (O0 8).toNat 0 (n := 8) (by omega)
  refine z_iconst dX6_ask_6 ?_
  refine z_istore_n (fun y => [(0, rf en 0), (1, vi x1_5), (2, vi y)]) [1, 2, 0] dX6_ask_7 (by decide) (fun _ => rfl) (fun x2_7 e2_7 => ?_)
  refine z_sipush dX6_ask_8 rfl ?_
  refine z_istore_n (fun y => [(0, rf en 0), (1, vi x1_5), (2, vi x2_7), (3, vi y)]) [1, 2, 3, 0] dX6_ask_11 (by decide) (fun _ => rfl) (fun x3_11 e3_11 => ?_)
  refine z_iconst dX6_ask_12 ?_
  refine z_istore (fun y => [(0, rf en 0), (1, vi x1_5), (2, vi x2_7), (3, vi x3_11), (4, vi y)]) [1, 2, 3, 4, 0] dX6_ask_13 (by decide) (fun _ => rfl) (fun x4_13 e4_13 => ?_)
  have uL15 : ∀ (fu : Nat) (x2 : Int) (x3 : Int) (x4 : Int), (8 - x4).toNat < fu → (0 ≤ x4 ∧ x4 ≤ 8 ∧ AKR (fun t => mCx (kyC c t) x1_5 8) x4 x2 x3) → Z en kA cx mX6_ask uN2 15 [(0, rf en 0), (1, vi x1_5), (2, vi x2), (3, vi x3), (4, vi x4)] [] := by
    intro fu
    induction fu with
    | zero => intro x2 x3 x4 uhf; exact absurd uhf (Nat.not_lt_zero _)
    | succ fu uih15 =>
      intro x2 x3 x4 uf15 uI15
      obtain ⟨uq1, uq2, uq3⟩ := uI15
      have uqr : (0 ≤ x2 ∧ x2 ≤ 7) ∧ (0 ≤ x3 ∧ x3 ≤ 1000) := by rcases uq3 with uz | uz <;> omega
      refine z_iload 4 dX6_ask_15 rfl ?_
      refine z_bipush dX6_ask_17 rfl ?_
      refine z_icmp_ge (tgt := 49) dX6_ask_19 rfl (by omega) (fun uc19 => ?_) (fun uc19 => ?_)
      ·
        refine z_iload_n 2 dX6_ask_49 rfl ?_
        exact z_iret C dX6_ask_50 rfl ⟨_, rfl, ⟨by rcases uq3 with uz | uz; omega; rw [show x4 = 8 by omega, uw5] at uz; exact uz.2.1, uk_2⟩⟩
      ·
        refine z_aload_n 0 dX6_ask_22 rfl ?_
        refine z_iload 4 dX6_ask_23 rfl ?_
        refine z_iload_n 1 dX6_ask_25 rfl ?_
        refine z_vI dX6_ask_26 lX6_199 (by decide) ka0 io0 rfl (ct_X6_mostAlike en uN2 c uc22 _ _ (by omega) (by assumption)) rfl rfl (by exact Nat.le_of_ble_eq_true rfl) ?_
        refine z_istore (fun y => [(0, rf en 0), (1, vi x1_5), (2, vi x2), (3, vi x3), (4, vi x4), (5, vi y)]) [1, 2, 3, 4, 5, 0] dX6_ask_29 (by decide) (fun _ => rfl) (fun x5_29 e5_29 => ?_)
        have umr := mCx_rg (kyC c x4) x1_5 8
        have uas := AKR_s (mu := (fun t => mCx (kyC c t) x1_5 8)) (m := x5_29) ⟨uq1, by omega⟩ uq3 e5_29 (by omega)
        refine z_iload 5 dX6_ask_31 rfl ?_
        refine z_iload_n 3 dX6_ask_33 rfl ?_
        refine z_icmp_ge (tgt := 43) dX6_ask_34 rfl (by omega) (fun uc34 => ?_) (fun uc34 => ?_)
        ·
          refine z_iinc (fun y => [(0, rf en 0), (1, vi x1_5), (2, vi x2), (3, vi x3), (4, vi y), (5, vi x5_29)]) [1, 2, 3, 4, 0, 5] 4 dX6_ask_43 rfl (by decide) (fun _ => rfl) (fun x4_43 e4_43 => ?_)
          refine z_goto (tgt := 15) dX6_ask_46 rfl ?_
          refine z_lv [0, 1, 2, 3, 4] [(0, rf en 0), (1, vi x1_5), (2, vi x2), (3, vi x3), (4, vi x4_43)] rfl ?_
          exact uih15 x2 x3 x4_43 (by omega) (⟨by omega, by omega, by rw [e4_43]; rw [if_neg (by omega), if_neg (by omega)] at uas; exact uas⟩)
        ·
          refine z_iload 4 dX6_ask_37 rfl ?_
          refine z_istore_n (fun y => [(0, rf en 0), (1, vi x1_5), (2, vi y), (3, vi x3), (4, vi x4), (5, vi x5_29)]) [1, 2, 0, 3, 4, 5] dX6_ask_39 (by decide) (fun _ => rfl) (fun x2_39 e2_39 => ?_)
          refine z_iload 5 dX6_ask_40 rfl ?_
          refine z_istore_n (fun y => [(0, rf en 0), (1, vi x1_5), (2, vi x2_39), (3, vi y), (4, vi x4), (5, vi x5_29)]) [1, 2, 3, 0, 4, 5] dX6_ask_42 (by decide) (fun _ => rfl) (fun x3_42 e3_42 => ?_)
          refine z_iinc (fun y => [(0, rf en 0), (1, vi x1_5), (2, vi x2_39), (3, vi x3_42), (4, vi y), (5, vi x5_29)]) [1, 2, 3, 4, 0, 5] 4 dX6_ask_43 rfl (by decide) (fun _ => rfl) (fun x4_43 e4_43 => ?_)
          refine z_goto (tgt := 15) dX6_ask_46 rfl ?_
          refine z_lv [0, 1, 2, 3, 4] [(0, rf en 0), (1, vi x1_5), (2, vi x2_39), (3, vi x3_42), (4, vi x4_43)] rfl ?_
          exact uih15 x2_39 x3_42 x4_43 (by omega) (⟨by omega, by omega, by rw [e4_43, e2_39, e3_42]; rw [if_pos uc34, if_pos uc34] at uas; exact uas⟩)
  exact uL15 _ x2_7 x3_11 x4_13 (Nat.lt_succ_self _) (⟨by omega, by omega, Or.inl ⟨by omega, by omega, by omega⟩⟩)
set_option maxRecDepth 100000 in
theorem ct_X6_reigns (en : zE) (M : zW) (O2 : Int → Int) (T : Int → Int) (T4 : Int → Int) (O5 : Int → Int) (c : Int → Int) (A : Int → Int) (G : Int → Int) (K : Int → Int) (H : Int → Int) (S : Int → Int) (P0 : Int → Int) (Hd : Int → Int) (Lw : Int → Int) (C0 : Int → Int) (E0 : Int → Int) (R0 : Int → Int) (wO2 : M 2 = O2) (wT : M 3 = T) (wT4 : M 4 = T4) (wO5 : M 5 = O5) (wc : M 22 = c) (wA : M 24 = A) (wG : M 25 = G) (wK : M 26 = K) (wH : M 27 = H) (wS : M 28 = S) (wP0 : M 29 = P0) (wHd : M 30 = Hd) (wLw : M 31 = Lw) (wC0 : M 32 = C0) (wE0 : M 33 = E0) (wR0 : M 34 = R0) (sd : Int) (n : Int) (tw : Int) (h0 : -2147483648 ≤ n ∧ n < 2147483648 ∧ -2147483648 ≤ tw ∧ tw < 2147483648) (hT : tOK T) (hc : wB c) (hP : (0 ≤ O2 4 ∧ O2 4 ≤ 8) ∧ pOK (tP A G K H S) (O2 4)) : Ct en kA yX6_reigns mX6_reigns [rf en 0, vi sd, vi n, vi tw] M (pX (fun x N => x = (if (1 ≤ n ∧ n ≤ 20) ∧ (tw = -1 ∨ (0 ≤ tw ∧ tw ≤ 7)) then rgS T (cW c) (tP A G K H S) (O2 4) sd tw n.toNat else -2) ∧ kc M N)) := by
  refine Ct.of (by decide +kernel) rfl [(0, rf en 0), (1, vi sd), (2, vi n), (3, vi tw)] rfl (Nat.le_of_ble_eq_true rfl) (fun cx C => ?_)
  refine z_iload_n 2 dX6_reigns_0 rfl ?_
  refine z_iconst dX6_reigns_1 ?_
  refine z_icmp_lt (tgt := 23) dX6_reigns_2 rfl (by omega) (fun uc2 => ?_) (fun uc2 => ?_)
  ·
    refine z_bipush dX6_reigns_23 rfl ?_
    exact z_iret C dX6_reigns_25 rfl ⟨_, rfl, ⟨(if_neg (by omega)).symm, (kc_r M)⟩⟩
  ·
    refine z_iload_n 2 dX6_reigns_5 rfl ?_
    refine z_bipush dX6_reigns_6 rfl ?_
    refine z_icmp_gt (tgt := 23) dX6_reigns_8 rfl (by omega) (fun uc8 => ?_) (fun uc8 => ?_)
    ·
      refine z_bipush dX6_reigns_23 rfl ?_
      exact z_iret C dX6_reigns_25 rfl ⟨_, rfl, ⟨(if_neg (by omega)).symm, (kc_r M)⟩⟩
    ·
      refine z_iload_n 3 dX6_reigns_11 rfl ?_
      refine z_iconst dX6_reigns_12 ?_
      refine z_icmp_eq (tgt := 26) dX6_reigns_13 rfl (by omega) (fun uc13 => ?_) (fun uc13 => ?_)
      ·
        refine z_aload_n 0 dX6_reigns_26 rfl ?_
        refine z_getR dX6_reigns_27 fX6_27_5 i0_2 ka0 ?_
        refine z_iconst dX6_reigns_30 ?_
        refine z_aload_n 0 dX6_reigns_31 rfl ?_
        refine z_getR dX6_reigns_32 fX6_30_5 i0_3 ka0 ?_
        refine z_iconst dX6_reigns_35 ?_
        refine z_aload_n 0 dX6_reigns_36 rfl ?_
        refine z_getR dX6_reigns_37 fX6_27_5 i0_2 ka0 ?_
        refine z_alenI dX6_reigns_40 is3 ka3 ?_
        refine z_copy (f := T) (g := T4) rfl dX6_reigns_41 is3 is4 ka3 ka4 (wT) (wT4) (by omega) (Nat.le_of_ble_eq_true rfl) (Nat.le_of_ble_eq_true rfl) (fun r4_41 f4_41 => ?_)
        refine z_iload_n 1 dX6_reigns_44 rfl ?_
        refine z_istore (fun y => [(0, rf en 0), (1, vi sd), (2, vi n), (3, vi tw), (4, vi y)]) [1, 2, 3, 4, 0] dX6_reigns_45 (by decide) (fun _ => rfl) (fun x4_45 e4_45 => ?_)
        refine z_iconst dX6_reigns_47 ?_
        refine z_istore (fun y => [(0, rf en 0), (1, vi sd), (2, vi n), (3, vi tw), (4, vi x4_45), (5, vi y)]) [1, 2, 3, 4, 5, 0] dX6_reigns_48 (by decide) (fun _ => rfl) (fun x5_48 e5_48 => ?_)
        refine z_iconst dX6_reigns_50 ?_
        refine z_istore (fun y => [(0, rf en 0), (1, vi sd), (2, vi n), (3, vi tw), (4, vi x4_45), (5, vi x5_48), (6, vi y)]) [1, 2, 3, 4, 5, 6, 0] dX6_reigns_51 (by decide) (fun _ => rfl) (fun x6_51 e6_51 => ?_)
        have uL53 : ∀ (fu : Nat) (x4 : Int) (x5 : Int) (x6 : Int) (r4 : Int → Int) (r5 : Int → Int) (r29 : Int → Int) (r30 : Int → Int) (r31 : Int → Int) (r32 : Int → Int) (r33 : Int → Int) (r34 : Int → Int), (n - x6).toNat < fu → (0 ≤ x6 ∧ x6 ≤ n ∧ x4 = sdN sd (3 * x6.toNat) ∧ x5 = rgS T (cW c) (tP A G K H S) (O2 4) sd tw x6.toNat ∧ r4 1 = T 1 ∧ r4 4 = T 4 ∧ r4 5 = T 5) → Z en kA cx mX6_reigns (upR (upR (upR (upR (upR (upR (upR (upR M 4 r4) 30 r30) 5 r5) 31 r31) 32 r32) 33 r33) 34 r34) 29 r29) 53 [(0, rf en 0), (1, vi sd), (2, vi n), (3, vi tw), (4, vi x4), (5, vi x5), (6, vi x6)] [] := by
          intro fu
          induction fu with
          | zero => intro x4 x5 x6 r4 r5 r29 r30 r31 r32 r33 r34 uhf; exact absurd uhf (Nat.not_lt_zero _)
          | succ fu uih53 =>
            intro x4 x5 x6 r4 r5 r29 r30 r31 r32 r33 r34 uf53 uI53
            obtain ⟨uq1, uq2, uq3, uq4, uq5, uq6, uq7⟩ := uI53
            refine z_iload 6 dX6_reigns_53 rfl ?_
            refine z_iload_n 2 dX6_reigns_55 rfl ?_
            refine z_icmp_ge (tgt := 168) dX6_reigns_56 rfl (by omega) (fun uc56 => ?_) (fun uc56 => ?_)
            ·
              refine z_iload 5 dX6_reigns_168 rfl ?_
              exact z_iret C dX6_reigns_170 rfl ⟨_, rfl, ⟨by rw [if_pos (by omega), uq4, show x6 = n by omega], (kc_u (by decide) (kc_u (by decide) (kc_u (by decide) (kc_u (by decide) (kc_u (by decide) (kc_u (by decide) (kc_u (by decide) (kc_u (by decide) (kc_r M)))))))))⟩⟩
            ·
              refine z_iload 4 dX6_reigns_59 rfl ?_
              refine z_sI dX6_reigns_61 lX6_221 (by decide) (ct_X6_nextSeed en (upR (upR (upR (upR (upR (upR (upR (upR M 4 r4) 30 r30) 5 r5) 31 r31) 32 r32) 33 r33) 34 r34) 29 r29) _) rfl rfl (by exact Nat.le_of_ble_eq_true rfl) ?_
              refine z_istore (fun y => [(0, rf en 0), (1, vi sd), (2, vi n), (3, vi tw), (4, vi y), (5, vi x5), (6, vi x6)]) [1, 2, 3, 4, 0, 5, 6] dX6_reigns_64 (by decide) (fun _ => rfl) (fun x4_64 e4_64 => ?_)
              refine z_aload_n 0 dX6_reigns_66 rfl ?_
              refine z_getR dX6_reigns_67 fX6_30_5 i0_3 ka0 ?_
              refine z_iconst dX6_reigns_70 ?_
              refine z_iload 4 dX6_reigns_71 rfl ?_
              refine z_bipush dX6_reigns_73 rfl ?_
              refine z_sI dX6_reigns_75 lX6_224 (by decide) (ct_X6_lot en (upR (upR (upR (upR (upR (upR (upR (upR M 4 r4) 30 r30) 5 r5) 31 r31) 32 r32) 33 r33) 34 r34) 29 r29) _ (8) (by omega)) rfl rfl (by exact Nat.le_of_ble_eq_true rfl) ?_
              refine z_iast' (r := r4) (fun r => (upR (upR (upR (upR (upR (upR (upR (upR M 4 r) 30 r30) 5 r5) 31 r31) 32 r32) 33 r33) 34 r34) 29 r29)) dX6_reigns_78 is4 ka4 (rfl) (by omega) (fun _ => uu8 (by decide) (by decide) (by decide) (by decide) (by decide) (by decide) (by decide)) (fun r4_78 f4_78 => ?_)
              refine z_iload 4 dX6_reigns_79 rfl ?_
              refine z_sI dX6_reigns_81 lX6_221 (by decide) (ct_X6_nextSeed en (upR (upR (upR (upR (upR (upR (upR (upR M 4 r4_78) 30 r30) 5 r5) 31 r31) 32 r32) 33 r33) 34 r34) 29 r29) _) rfl rfl (by exact Nat.le_of_ble_eq_true rfl) ?_
              refine z_istore (fun y => [(0, rf en 0), (1, vi sd), (2, vi n), (3, vi tw), (4, vi y), (5, vi x5), (6, vi x6)]) [1, 2, 3, 4, 0, 5, 6] dX6_reigns_84 (by decide) (fun _ => rfl) (fun x4_84 e4_84 => ?_)
              refine z_aload_n 0 dX6_reigns_86 rfl ?_
              refine z_getR dX6_reigns_87 fX6_30_5 i0_3 ka0 ?_
              refine z_iconst dX6_reigns_90 ?_
              refine z_iload 4 dX6_reigns_91 rfl ?_
              refine z_bipush dX6_reigns_93 rfl ?_
              refine z_sI dX6_reigns_95 lX6_224 (by decide) (ct_X6_lot en (upR (upR (upR (upR (upR (upR (upR (upR M 4 r4_78) 30 r30) 5 r5) 31 r31) 32 r32) 33 r33) 34 r34) 29 r29) _ (8) (by omega)) rfl rfl (by exact Nat.le_of_ble_eq_true rfl) ?_
              refine z_iast' (r := r4_78) (fun r => (upR (upR (upR (upR (upR (upR (upR (upR M 4 r) 30 r30) 5 r5) 31 r31) 32 r32) 33 r33) 34 r34) 29 r29)) dX6_reigns_98 is4 ka4 (rfl) (by omega) (fun _ => uu8 (by decide) (by decide) (by decide) (by decide) (by decide) (by decide) (by decide)) (fun r4_98 f4_98 => ?_)
              refine z_iload 4 dX6_reigns_99 rfl ?_
              refine z_sI dX6_reigns_101 lX6_221 (by decide) (ct_X6_nextSeed en (upR (upR (upR (upR (upR (upR (upR (upR M 4 r4_98) 30 r30) 5 r5) 31 r31) 32 r32) 33 r33) 34 r34) 29 r29) _) rfl rfl (by exact Nat.le_of_ble_eq_true rfl) ?_
              refine z_istore (fun y => [(0, rf en 0), (1, vi sd), (2, vi n), (3, vi tw), (4, vi y), (5, vi x5), (6, vi x6)]) [1, 2, 3, 4, 0, 5, 6] dX6_reigns_104 (by decide) (fun _ => rfl) (fun x4_104 e4_104 => ?_)
              refine z_aload_n 0 dX6_reigns_106 rfl ?_
              refine z_getR dX6_reigns_107 fX6_30_5 i0_3 ka0 ?_
              refine z_iconst dX6_reigns_110 ?_
              refine z_iload 4 dX6_reigns_111 rfl ?_
              refine z_bipush dX6_reigns_113 rfl ?_
              refine z_sI dX6_reigns_115 lX6_224 (by decide) (ct_X6_lot en (upR (upR (upR (upR (upR (upR (upR (upR M 4 r4_98) 30 r30) 5 r5) 31 r31) 32 r32) 33 r33) 34 r34) 29 r29) _ (10) (by omega)) rfl rfl (by exact Nat.le_of_ble_eq_true rfl) ?_
              refine z_iast' (r := r4_98) (fun r => (upR (upR (upR (upR (upR (upR (upR (upR M 4 r) 30 r30) 5 r5) 31 r31) 32 r32) 33 r33) 34 r34) 29 r29)) dX6_reigns_118 is4 ka4 (rfl) (by omega) (fun _ => uu8 (by decide) (by decide) (by decide) (by decide) (by decide) (by decide) (by decide)) (fun r4_118 f4_118 => ?_)
              have ud1 : x4_64 = lotS (sdN sd (3 * x6.toNat)) := by rw [e4_64, uq3]
              have ud2 : x4_84 = lotS (sdN sd (3 * x6.toNat + 1)) := by rw [e4_84, ud1]; rfl
              have ud3 : x4_104 = lotS (sdN sd (3 * x6.toNat + 2)) := by rw [e4_104, ud2]; rfl
              have ur4 : r4_118 = up (up (up r4 0 (lotV (sdN sd (3 * x6.toNat)) 8)) 3 (lotV (sdN sd (3 * x6.toNat + 1)) 8)) 2 (lotV (sdN sd (3 * x6.toNat + 2)) 10) := by rw [f4_118, f4_98, f4_78, ud1, ud2, ud3]; rfl
              have utq : Tq r4_118 (up (up (up T 0 (lotV (sdN sd (3 * x6.toNat)) 8)) 3 (lotV (sdN sd (3 * x6.toNat + 1)) 8)) 2 (lotV (sdN sd (3 * x6.toNat + 2)) 10)) := by rw [ur4]; exact rg_q uq5 uq6 uq7 _ _ _
              have uU : tOK (up (up (up T 0 (lotV (sdN sd (3 * x6.toNat)) 8)) 3 (lotV (sdN sd (3 * x6.toNat + 1)) 8)) 2 (lotV (sdN sd (3 * x6.toNat + 2)) 10)) := by have ul1 := lotV_rg (sdN sd (3 * x6.toNat)) (m := 8) (by omega); have ul2 := lotV_rg (sdN sd (3 * x6.toNat + 1)) (m := 8) (by omega); have ul3 := lotV_rg (sdN sd (3 * x6.toNat + 2)) (m := 10) (by omega); exact tOK_2 (tOK_3 (tOK_0 hT (by omega)) (by omega)) (by omega)
              refine z_aload_n 0 dX6_reigns_119 rfl ?_
              refine z_getR dX6_reigns_120 fX6_38_5 i0_4 ka0 ?_
              refine z_aload_n 0 dX6_reigns_123 rfl ?_
              refine z_getR dX6_reigns_124 fX6_30_5 i0_3 ka0 ?_
              refine z_vN dX6_reigns_127 lX6_126 (by decide) ka5 io5 rfl (ct_X1_follow_4 en (upR (upR (upR (upR (upR (upR (upR (upR M 4 r4_118) 30 r30) 5 r5) 31 r31) 32 r32) 33 r33) 34 r34) 29 r29) O2 r4_118 r5 c A G K H S r29 r30 r31 r32 r33 r34 wO2 rfl rfl wc wA wG wK wH wS rfl rfl rfl rfl rfl rfl (Tq_ok utq uU) hc hP) rfl rfl (by exact Nat.le_of_ble_eq_true rfl) (fun uN127 uh127 => ?_)
              obtain ⟨r5_127, r29_127, r30_127, r31_127, r32_127, r33_127, r34_127, uF, uF5, rfl⟩ := uh127
              rw [uu7 (a := 30) (b0 := 5) (b1 := 31) (b2 := 32) (b3 := 33) (b4 := 34) (b5 := 29) (by decide) (by decide) (by decide) (by decide) (by decide) (by decide)]
              rw [uu6 (a := 5) (b0 := 31) (b1 := 32) (b2 := 33) (b3 := 34) (b4 := 29) (by decide) (by decide) (by decide) (by decide) (by decide)]
              rw [uu5 (a := 31) (b0 := 32) (b1 := 33) (b2 := 34) (b3 := 29) (by decide) (by decide) (by decide) (by decide)]
              rw [uu4 (a := 32) (b0 := 33) (b1 := 34) (b2 := 29) (by decide) (by decide) (by decide)]
              rw [uu3 (a := 33) (b0 := 34) (b1 := 29) (by decide) (by decide)]
              rw [uu2 (a := 34) (b0 := 29) (by decide)]
              rw [uu1 (a := 29)]
              have uG := Flw_t utq uF
              have uFr := Flw.rg uU hc hP uG
              have uG7 := uG.2.2.2.2.2.2.1
              refine z_iload 5 dX6_reigns_130 rfl ?_
              refine z_iload_n 3 dX6_reigns_132 rfl ?_
              refine z_iconst dX6_reigns_133 ?_
              refine z_icmp_ne (tgt := 147) dX6_reigns_134 rfl (by omega) (fun uc134 => ?_) (fun uc134 => ?_)
              ·
                refine z_iconst dX6_reigns_147 ?_
                refine z_aload_n 0 dX6_reigns_148 rfl ?_
                refine z_getR dX6_reigns_149 fX6_38_5 i0_4 ka0 ?_
                refine z_iload_n 3 dX6_reigns_152 rfl ?_
                refine z_vI dX6_reigns_153 lX6_136 (by decide) ka5 io5 rfl (ct_X1_lawless en (upR (upR (upR (upR (upR (upR (upR (upR M 4 r4_118) 30 r30_127) 5 r5_127) 31 r31_127) 32 r32_127) 33 r33_127) 34 r34_127) 29 r29_127) r30_127 r31_127 rfl rfl _ (by omega) (uFr.1 tw (by omega) (by omega))) rfl rfl (by exact Nat.le_of_ble_eq_true rfl) ?_
                have unr := noA_rg uU (cW_ok hc) (t := tw) (by omega)
                have uno := noA_l uU hc (t := tw) (by omega)
                rw [← uG.1 tw (by omega) (by omega), ← uG.2.1 tw (by omega) (by omega)] at uno
                rw [uno]
                refine z_mmax dX6_reigns_156 lX6_227 (by omega) (by decide) (Nat.le_of_ble_eq_true rfl) ?_
                have unl : max 0 (noA (up (up (up T 0 (lotV (sdN sd (3 * x6.toNat)) 8)) 3 (lotV (sdN sd (3 * x6.toNat + 1)) 8)) 2 (lotV (sdN sd (3 * x6.toNat + 2)) 10)) (cW c) tw) = if noA (up (up (up T 0 (lotV (sdN sd (3 * x6.toNat)) 8)) 3 (lotV (sdN sd (3 * x6.toNat + 1)) 8)) 2 (lotV (sdN sd (3 * x6.toNat + 2)) 10)) (cW c) tw = -1 then 0 else noA (up (up (up T 0 (lotV (sdN sd (3 * x6.toNat)) 8)) 3 (lotV (sdN sd (3 * x6.toNat + 1)) 8)) 2 (lotV (sdN sd (3 * x6.toNat + 2)) 10)) (cW c) tw := by split <;> omega
                refine z_iadd dX6_reigns_159 ?_
                refine z_istore (fun y => [(0, rf en 0), (1, vi sd), (2, vi n), (3, vi tw), (4, vi x4_104), (5, vi y), (6, vi x6)]) [1, 2, 3, 4, 5, 0, 6] dX6_reigns_160 (by decide) (fun _ => rfl) (fun x5_160 e5_160 => ?_)
                refine z_iinc (fun y => [(0, rf en 0), (1, vi sd), (2, vi n), (3, vi tw), (4, vi x4_104), (5, vi x5_160), (6, vi y)]) [1, 2, 3, 4, 5, 6, 0] 6 dX6_reigns_162 rfl (by decide) (fun _ => rfl) (fun x6_162 e6_162 => ?_)
                refine z_goto (tgt := 53) dX6_reigns_165 rfl ?_
                exact uih53 x4_104 x5_160 x6_162 r4_118 r5_127 r29_127 r30_127 r31_127 r32_127 r33_127 r34_127 (by omega) (⟨by omega, by omega, by rw [e4_104, e4_84, e4_64, uq3, e6_162, show 3 * (x6 + 1).toNat = 3 * x6.toNat + 1 + 1 + 1 by omega]; rfl, by rw [e5_160, uq4, e6_162, rgS_s _ _ _ _ _ _ uq1]; congr 1; unfold rgV rgT; rw [if_neg uc134]; exact unl, by rw [ur4, up_n _ _ (by decide), up_n _ _ (by decide), up_n _ _ (by decide)]; exact uq5, by rw [ur4, up_n _ _ (by decide), up_n _ _ (by decide), up_n _ _ (by decide)]; exact uq6, by rw [ur4, up_n _ _ (by decide), up_n _ _ (by decide), up_n _ _ (by decide)]; exact uq7⟩)
              ·
                refine z_aload_n 0 dX6_reigns_137 rfl ?_
                refine z_getR dX6_reigns_138 fX6_38_5 i0_4 ka0 ?_
                refine z_getI (r := r5_127) 9 rfl dX6_reigns_141 fX6_155_1 i5_9 ka5 (rfl) ?_
                refine z_goto (tgt := 159) dX6_reigns_144 rfl ?_
                skip
                refine z_iadd dX6_reigns_159 ?_
                refine z_istore (fun y => [(0, rf en 0), (1, vi sd), (2, vi n), (3, vi tw), (4, vi x4_104), (5, vi y), (6, vi x6)]) [1, 2, 3, 4, 5, 0, 6] dX6_reigns_160 (by decide) (fun _ => rfl) (fun x5_160 e5_160 => ?_)
                refine z_iinc (fun y => [(0, rf en 0), (1, vi sd), (2, vi n), (3, vi tw), (4, vi x4_104), (5, vi x5_160), (6, vi y)]) [1, 2, 3, 4, 5, 6, 0] 6 dX6_reigns_162 rfl (by decide) (fun _ => rfl) (fun x6_162 e6_162 => ?_)
                refine z_goto (tgt := 53) dX6_reigns_165 rfl ?_
                exact uih53 x4_104 x5_160 x6_162 r4_118 r5_127 r29_127 r30_127 r31_127 r32_127 r33_127 r34_127 (by omega) (⟨by omega, by omega, by rw [e4_104, e4_84, e4_64, uq3, e6_162, show 3 * (x6 + 1).toNat = 3 * x6.toNat + 1 + 1 + 1 by omega]; rfl, by rw [e5_160, uq4, e6_162, rgS_s _ _ _ _ _ _ uq1]; congr 1; unfold rgV rgT; rw [if_pos uc134]; exact uG7, by rw [ur4, up_n _ _ (by decide), up_n _ _ (by decide), up_n _ _ (by decide)]; exact uq5, by rw [ur4, up_n _ _ (by decide), up_n _ _ (by decide), up_n _ _ (by decide)]; exact uq6, by rw [ur4, up_n _ _ (by decide), up_n _ _ (by decide), up_n _ _ (by decide)]; exact uq7⟩)
        refine Z.eqM (upR_id (k := 30) wHd) ?_
        refine Z.eqM (upR_id (k := 5) wO5) ?_
        refine Z.eqM (upR_id (k := 31) wLw) ?_
        refine Z.eqM (upR_id (k := 32) wC0) ?_
        refine Z.eqM (upR_id (k := 33) wE0) ?_
        refine Z.eqM (upR_id (k := 34) wR0) ?_
        refine Z.eqM (upR_id (k := 29) wP0) ?_
        exact uL53 _ x4_45 x5_48 x6_51 r4_41 O5 P0 Hd Lw C0 E0 R0 (Nat.lt_succ_self _) (⟨by omega, by omega, by rw [e4_45, e6_51]; rfl, by rw [e5_48, e6_51]; rfl, by rw [f4_41]; exact cpy_q T T4 1 (by decide) (by decide), by rw [f4_41]; exact cpy_q T T4 4 (by decide) (by decide), by rw [f4_41]; exact cpy_q T T4 5 (by decide) (by decide)⟩)
      ·
        refine z_iload_n 3 dX6_reigns_16 rfl ?_
        refine z_sI dX6_reigns_17 lX6_119 (by decide) (ct_X6_isTown en M _ (by omega)) rfl rfl (by exact Nat.le_of_ble_eq_true rfl) ?_
        refine z_ifne_b (tgt := 26) dX6_reigns_20 rfl (fun uc20 => ?_) (fun uc20 => ?_)
        ·
          refine z_aload_n 0 dX6_reigns_26 rfl ?_
          refine z_getR dX6_reigns_27 fX6_27_5 i0_2 ka0 ?_
          refine z_iconst dX6_reigns_30 ?_
          refine z_aload_n 0 dX6_reigns_31 rfl ?_
          refine z_getR dX6_reigns_32 fX6_30_5 i0_3 ka0 ?_
          refine z_iconst dX6_reigns_35 ?_
          refine z_aload_n 0 dX6_reigns_36 rfl ?_
          refine z_getR dX6_reigns_37 fX6_27_5 i0_2 ka0 ?_
          refine z_alenI dX6_reigns_40 is3 ka3 ?_
          refine z_copy (f := T) (g := T4) rfl dX6_reigns_41 is3 is4 ka3 ka4 (wT) (wT4) (by omega) (Nat.le_of_ble_eq_true rfl) (Nat.le_of_ble_eq_true rfl) (fun r4_41 f4_41 => ?_)
          refine z_iload_n 1 dX6_reigns_44 rfl ?_
          refine z_istore (fun y => [(0, rf en 0), (1, vi sd), (2, vi n), (3, vi tw), (4, vi y)]) [1, 2, 3, 4, 0] dX6_reigns_45 (by decide) (fun _ => rfl) (fun x4_45 e4_45 => ?_)
          refine z_iconst dX6_reigns_47 ?_
          refine z_istore (fun y => [(0, rf en 0), (1, vi sd), (2, vi n), (3, vi tw), (4, vi x4_45), (5, vi y)]) [1, 2, 3, 4, 5, 0] dX6_reigns_48 (by decide) (fun _ => rfl) (fun x5_48 e5_48 => ?_)
          refine z_iconst dX6_reigns_50 ?_
          refine z_istore (fun y => [(0, rf en 0), (1, vi sd), (2, vi n), (3, vi tw), (4, vi x4_45), (5, vi x5_48), (6, vi y)]) [1, 2, 3, 4, 5, 6, 0] dX6_reigns_51 (by decide) (fun _ => rfl) (fun x6_51 e6_51 => ?_)
          have uL53 : ∀ (fu : Nat) (x4 : Int) (x5 : Int) (x6 : Int) (r4 : Int → Int) (r5 : Int → Int) (r29 : Int → Int) (r30 : Int → Int) (r31 : Int → Int) (r32 : Int → Int) (r33 : Int → Int) (r34 : Int → Int), (n - x6).toNat < fu → (0 ≤ x6 ∧ x6 ≤ n ∧ x4 = sdN sd (3 * x6.toNat) ∧ x5 = rgS T (cW c) (tP A G K H S) (O2 4) sd tw x6.toNat ∧ r4 1 = T 1 ∧ r4 4 = T 4 ∧ r4 5 = T 5) → Z en kA cx mX6_reigns (upR (upR (upR (upR (upR (upR (upR (upR M 4 r4) 30 r30) 5 r5) 31 r31) 32 r32) 33 r33) 34 r34) 29 r29) 53 [(0, rf en 0), (1, vi sd), (2, vi n), (3, vi tw), (4, vi x4), (5, vi x5), (6, vi x6)] [] := by
            intro fu
            induction fu with
            | zero => intro x4 x5 x6 r4 r5 r29 r30 r31 r32 r33 r34 uhf; exact absurd uhf (Nat.not_lt_zero _)
            | succ fu uih53 =>
              intro x4 x5 x6 r4 r5 r29 r30 r31 r32 r33 r34 uf53 uI53
              obtain ⟨uq1, uq2, uq3, uq4, uq5, uq6, uq7⟩ := uI53
              refine z_iload 6 dX6_reigns_53 rfl ?_
              refine z_iload_n 2 dX6_reigns_55 rfl ?_
              refine z_icmp_ge (tgt := 168) dX6_reigns_56 rfl (by omega) (fun uc56 => ?_) (fun uc56 => ?_)
              ·
                refine z_iload 5 dX6_reigns_168 rfl ?_
                exact z_iret C dX6_reigns_170 rfl ⟨_, rfl, ⟨by rw [if_pos (by omega), uq4, show x6 = n by omega], (kc_u (by decide) (kc_u (by decide) (kc_u (by decide) (kc_u (by decide) (kc_u (by decide) (kc_u (by decide) (kc_u (by decide) (kc_u (by decide) (kc_r M)))))))))⟩⟩
              ·
                refine z_iload 4 dX6_reigns_59 rfl ?_
                refine z_sI dX6_reigns_61 lX6_221 (by decide) (ct_X6_nextSeed en (upR (upR (upR (upR (upR (upR (upR (upR M 4 r4) 30 r30) 5 r5) 31 r31) 32 r32) 33 r33) 34 r34) 29 r29) _) rfl rfl (by exact Nat.le_of_ble_eq_true rfl) ?_
                refine z_istore (fun y => [(0, rf en 0), (1, vi sd), (2, vi n), (3, vi tw), (4, vi y), (5, vi x5), (6, vi x6)]) [1, 2, 3, 4, 0, 5, 6] dX6_reigns_64 (by decide) (fun _ => rfl) (fun x4_64 e4_64 => ?_)
                refine z_aload_n 0 dX6_reigns_66 rfl ?_
                refine z_getR dX6_reigns_67 fX6_30_5 i0_3 ka0 ?_
                refine z_iconst dX6_reigns_70 ?_
                refine z_iload 4 dX6_reigns_71 rfl ?_
                refine z_bipush dX6_reigns_73 rfl ?_
                refine z_sI dX6_reigns_75 lX6_224 (by decide) (ct_X6_lot en (upR (upR (upR (upR (upR (upR (upR (upR M 4 r4) 30 r30) 5 r5) 31 r31) 32 r32) 33 r33) 34 r34) 29 r29) _ (8) (by omega)) rfl rfl (by exact Nat.le_of_ble_eq_true rfl) ?_
                refine z_iast' (r := r4) (fun r => (upR (upR (upR (upR (upR (upR (upR (upR M 4 r) 30 r30) 5 r5) 31 r31) 32 r32) 33 r33) 34 r34) 29 r29)) dX6_reigns_78 is4 ka4 (rfl) (by omega) (fun _ => uu8 (by decide) (by decide) (by decide) (by decide) (by decide) (by decide) (by decide)) (fun r4_78 f4_78 => ?_)
                refine z_iload 4 dX6_reigns_79 rfl ?_
                refine z_sI dX6_reigns_81 lX6_221 (by decide) (ct_X6_nextSeed en (upR (upR (upR (upR (upR (upR (upR (upR M 4 r4_78) 30 r30) 5 r5) 31 r31) 32 r32) 33 r33) 34 r34) 29 r29) _) rfl rfl (by exact Nat.le_of_ble_eq_true rfl) ?_
                refine z_istore (fun y => [(0, rf en 0), (1, vi sd), (2, vi n), (3, vi tw), (4, vi y), (5, vi x5), (6, vi x6)]) [1, 2, 3, 4, 0, 5, 6] dX6_reigns_84 (by decide) (fun _ => rfl) (fun x4_84 e4_84 => ?_)
                refine z_aload_n 0 dX6_reigns_86 rfl ?_
                refine z_getR dX6_reigns_87 fX6_30_5 i0_3 ka0 ?_
                refine z_iconst dX6_reigns_90 ?_
                refine z_iload 4 dX6_reigns_91 rfl ?_
                refine z_bipush dX6_reigns_93 rfl ?_
                refine z_sI dX6_reigns_95 lX6_224 (by decide) (ct_X6_lot en (upR (upR (upR (upR (upR (upR (upR (upR M 4 r4_78) 30 r30) 5 r5) 31 r31) 32 r32) 33 r33) 34 r34) 29 r29) _ (8) (by omega)) rfl rfl (by exact Nat.le_of_ble_eq_true rfl) ?_
                refine z_iast' (r := r4_78) (fun r => (upR (upR (upR (upR (upR (upR (upR (upR M 4 r) 30 r30) 5 r5) 31 r31) 32 r32) 33 r33) 34 r34) 29 r29)) dX6_reigns_98 is4 ka4 (rfl) (by omega) (fun _ => uu8 (by decide) (by decide) (by decide) (by decide) (by decide) (by decide) (by decide)) (fun r4_98 f4_98 => ?_)
                refine z_iload 4 dX6_reigns_99 rfl ?_
                refine z_sI dX6_reigns_101 lX6_221 (by decide) (ct_X6_nextSeed en (upR (upR (upR (upR (upR (upR (upR (upR M 4 r4_98) 30 r30) 5 r5) 31 r31) 32 r32) 33 r33) 34 r34) 29 r29) _) rfl rfl (by exact Nat.le_of_ble_eq_true rfl) ?_
                refine z_istore (fun y => [(0, rf en 0), (1, vi sd), (2, vi n), (3, vi tw), (4, vi y), (5, vi x5), (6, vi x6)]) [1, 2, 3, 4, 0, 5, 6] dX6_reigns_104 (by decide) (fun _ => rfl) (fun x4_104 e4_104 => ?_)
                refine z_aload_n 0 dX6_reigns_106 rfl ?_
                refine z_getR dX6_reigns_107 fX6_30_5 i0_3 ka0 ?_
                refine z_iconst dX6_reigns_110 ?_
                refine z_iload 4 dX6_reigns_111 rfl ?_
                refine z_bipush dX6_reigns_113 rfl ?_
                refine z_sI dX6_reigns_115 lX6_224 (by decide) (ct_X6_lot en (upR (upR (upR (upR (upR (upR (upR (upR M 4 r4_98) 30 r30) 5 r5) 31 r31) 32 r32) 33 r33) 34 r34) 29 r29) _ (10) (by omega)) rfl rfl (by exact Nat.le_of_ble_eq_true rfl) ?_
                refine z_iast' (r := r4_98) (fun r => (upR (upR (upR (upR (upR (upR (upR (upR M 4 r) 30 r30) 5 r5) 31 r31) 32 r32) 33 r33) 34 r34) 29 r29)) dX6_reigns_118 is4 ka4 (rfl) (by omega) (fun _ => uu8 (by decide) (by decide) (by decide) (by decide) (by decide) (by decide) (by decide)) (fun r4_118 f4_118 => ?_)
                have ud1 : x4_64 = lotS (sdN sd (3 * x6.toNat)) := by rw [e4_64, uq3]
                have ud2 : x4_84 = lotS (sdN sd (3 * x6.toNat + 1)) := by rw [e4_84, ud1]; rfl
                have ud3 : x4_104 = lotS (sdN sd (3 * x6.toNat + 2)) := by rw [e4_104, ud2]; rfl
                have ur4 : r4_118 = up (up (up r4 0 (lotV (sdN sd (3 * x6.toNat)) 8)) 3 (lotV (sdN sd (3 * x6.toNat + 1)) 8)) 2 (lotV (sdN sd (3 * x6.toNat + 2)) 10) := by rw [f4_118, f4_98, f4_78, ud1, ud2, ud3]; rfl
                have utq : Tq r4_118 (up (up (up T 0 (lotV (sdN sd (3 * x6.toNat)) 8)) 3 (lotV (sdN sd (3 * x6.toNat + 1)) 8)) 2 (lotV (sdN sd (3 * x6.toNat + 2)) 10)) := by rw [ur4]; exact rg_q uq5 uq6 uq7 _ _ _
                have uU : tOK (up (up (up T 0 (lotV (sdN sd (3 * x6.toNat)) 8)) 3 (lotV (sdN sd (3 * x6.toNat + 1)) 8)) 2 (lotV (sdN sd (3 * x6.toNat + 2)) 10)) := by have ul1 := lotV_rg (sdN sd (3 * x6.toNat)) (m := 8) (by omega); have ul2 := lotV_rg (sdN sd (3 * x6.toNat + 1)) (m := 8) (by omega); have ul3 := lotV_rg (sdN sd (3 * x6.toNat + 2)) (m := 10) (by omega); exact tOK_2 (tOK_3 (tOK_0 hT (by omega)) (by omega)) (by omega)
                refine z_aload_n 0 dX6_reigns_119 rfl ?_
                refine z_getR dX6_reigns_120 fX6_38_5 i0_4 ka0 ?_
                refine z_aload_n 0 dX6_reigns_123 rfl ?_
                refine z_getR dX6_reigns_124 fX6_30_5 i0_3 ka0 ?_
                refine z_vN dX6_reigns_127 lX6_126 (by decide) ka5 io5 rfl (ct_X1_follow_4 en (upR (upR (upR (upR (upR (upR (upR (upR M 4 r4_118) 30 r30) 5 r5) 31 r31) 32 r32) 33 r33) 34 r34) 29 r29) O2 r4_118 r5 c A G K H S r29 r30 r31 r32 r33 r34 wO2 rfl rfl wc wA wG wK wH wS rfl rfl rfl rfl rfl rfl (Tq_ok utq uU) hc hP) rfl rfl (by exact Nat.le_of_ble_eq_true rfl) (fun uN127 uh127 => ?_)
                obtain ⟨r5_127, r29_127, r30_127, r31_127, r32_127, r33_127, r34_127, uF, uF5, rfl⟩ := uh127
                rw [uu7 (a := 30) (b0 := 5) (b1 := 31) (b2 := 32) (b3 := 33) (b4 := 34) (b5 := 29) (by decide) (by decide) (by decide) (by decide) (by decide) (by decide)]
                rw [uu6 (a := 5) (b0 := 31) (b1 := 32) (b2 := 33) (b3 := 34) (b4 := 29) (by decide) (by decide) (by decide) (by decide) (by decide)]
                rw [uu5 (a := 31) (b0 := 32) (b1 := 33) (b2 := 34) (b3 := 29) (by decide) (by decide) (by decide) (by decide)]
                rw [uu4 (a := 32) (b0 := 33) (b1 := 34) (b2 := 29) (by decide) (by decide) (by decide)]
                rw [uu3 (a := 33) (b0 := 34) (b1 := 29) (by decide) (by decide)]
                rw [uu2 (a := 34) (b0 := 29) (by decide)]
                rw [uu1 (a := 29)]
                have uG := Flw_t utq uF
                have uFr := Flw.rg uU hc hP uG
                have uG7 := uG.2.2.2.2.2.2.1
                refine z_iload 5 dX6_reigns_130 rfl ?_
                refine z_iload_n 3 dX6_reigns_132 rfl ?_
                refine z_iconst dX6_reigns_133 ?_
                refine z_icmp_ne (tgt := 147) dX6_reigns_134 rfl (by omega) (fun uc134 => ?_) (fun uc134 => ?_)
                ·
                  refine z_iconst dX6_reigns_147 ?_
                  refine z_aload_n 0 dX6_reigns_148 rfl ?_
                  refine z_getR dX6_reigns_149 fX6_38_5 i0_4 ka0 ?_
                  refine z_iload_n 3 dX6_reigns_152 rfl ?_
                  refine z_vI dX6_reigns_153 lX6_136 (by decide) ka5 io5 rfl (ct_X1_lawless en (upR (upR (upR (upR (upR (upR (upR (upR M 4 r4_118) 30 r30_127) 5 r5_127) 31 r31_127) 32 r32_127) 33 r33_127) 34 r34_127) 29 r29_127) r30_127 r31_127 rfl rfl _ (by omega) (uFr.1 tw (by omega) (by omega))) rfl rfl (by exact Nat.le_of_ble_eq_true rfl) ?_
                  have unr := noA_rg uU (cW_ok hc) (t := tw) (by omega)
                  have uno := noA_l uU hc (t := tw) (by omega)
                  rw [← uG.1 tw (by omega) (by omega), ← uG.2.1 tw (by omega) (by omega)] at uno
                  rw [uno]
                  refine z_mmax dX6_reigns_156 lX6_227 (by omega) (by decide) (Nat.le_of_ble_eq_true rfl) ?_
                  have unl : max 0 (noA (up (up (up T 0 (lotV (sdN sd (3 * x6.toNat)) 8)) 3 (lotV (sdN sd (3 * x6.toNat + 1)) 8)) 2 (lotV (sdN sd (3 * x6.toNat + 2)) 10)) (cW c) tw) = if noA (up (up (up T 0 (lotV (sdN sd (3 * x6.toNat)) 8)) 3 (lotV (sdN sd (3 * x6.toNat + 1)) 8)) 2 (lotV (sdN sd (3 * x6.toNat + 2)) 10)) (cW c) tw = -1 then 0 else noA (up (up (up T 0 (lotV (sdN sd (3 * x6.toNat)) 8)) 3 (lotV (sdN sd (3 * x6.toNat + 1)) 8)) 2 (lotV (sdN sd (3 * x6.toNat + 2)) 10)) (cW c) tw := by split <;> omega
                  refine z_iadd dX6_reigns_159 ?_
                  refine z_istore (fun y => [(0, rf en 0), (1, vi sd), (2, vi n), (3, vi tw), (4, vi x4_104), (5, vi y), (6, vi x6)]) [1, 2, 3, 4, 5, 0, 6] dX6_reigns_160 (by decide) (fun _ => rfl) (fun x5_160 e5_160 => ?_)
                  refine z_iinc (fun y => [(0, rf en 0), (1, vi sd), (2, vi n), (3, vi tw), (4, vi x4_104), (5, vi x5_160), (6, vi y)]) [1, 2, 3, 4, 5, 6, 0] 6 dX6_reigns_162 rfl (by decide) (fun _ => rfl) (fun x6_162 e6_162 => ?_)
                  refine z_goto (tgt := 53) dX6_reigns_165 rfl ?_
                  exact uih53 x4_104 x5_160 x6_162 r4_118 r5_127 r29_127 r30_127 r31_127 r32_127 r33_127 r34_127 (by omega) (⟨by omega, by omega, by rw [e4_104, e4_84, e4_64, uq3, e6_162, show 3 * (x6 + 1).toNat = 3 * x6.toNat + 1 + 1 + 1 by omega]; rfl, by rw [e5_160, uq4, e6_162, rgS_s _ _ _ _ _ _ uq1]; congr 1; unfold rgV rgT; rw [if_neg uc134]; exact unl, by rw [ur4, up_n _ _ (by decide), up_n _ _ (by decide), up_n _ _ (by decide)]; exact uq5, by rw [ur4, up_n _ _ (by decide), up_n _ _ (by decide), up_n _ _ (by decide)]; exact uq6, by rw [ur4, up_n _ _ (by decide), up_n _ _ (by decide), up_n _ _ (by decide)]; exact uq7⟩)
                ·
                  refine z_aload_n 0 dX6_reigns_137 rfl ?_
                  refine z_getR dX6_reigns_138 fX6_38_5 i0_4 ka0 ?_
                  refine z_getI (r := r5_127) 9 rfl dX6_reigns_141 fX6_155_1 i5_9 ka5 (rfl) ?_
                  refine z_goto (tgt := 159) dX6_reigns_144 rfl ?_
                  skip
                  refine z_iadd dX6_reigns_159 ?_
                  refine z_istore (fun y => [(0, rf en 0), (1, vi sd), (2, vi n), (3, vi tw), (4, vi x4_104), (5, vi y), (6, vi x6)]) [1, 2, 3, 4, 5, 0, 6] dX6_reigns_160 (by decide) (fun _ => rfl) (fun x5_160 e5_160 => ?_)
                  refine z_iinc (fun y => [(0, rf en 0), (1, vi sd), (2, vi n), (3, vi tw), (4, vi x4_104), (5, vi x5_160), (6, vi y)]) [1, 2, 3, 4, 5, 6, 0] 6 dX6_reigns_162 rfl (by decide) (fun _ => rfl) (fun x6_162 e6_162 => ?_)
                  refine z_goto (tgt := 53) dX6_reigns_165 rfl ?_
                  exact uih53 x4_104 x5_160 x6_162 r4_118 r5_127 r29_127 r30_127 r31_127 r32_127 r33_127 r34_127 (by omega) (⟨by omega, by omega, by rw [e4_104, e4_84, e4_64, uq3, e6_162, show 3 * (x6 + 1).toNat = 3 * x6.toNat + 1 + 1 + 1 by omega]; rfl, by rw [e5_160, uq4, e6_162, rgS_s _ _ _ _ _ _ uq1]; congr 1; unfold rgV rgT; rw [if_pos uc134]; exact uG7, by rw [ur4, up_n _ _ (by decide), up_n _ _ (by decide), up_n _ _ (by decide)]; exact uq5, by rw [ur4, up_n _ _ (by decide), up_n _ _ (by decide), up_n _ _ (by decide)]; exact uq6, by rw [ur4, up_n _ _ (by decide), up_n _ _ (by decide), up_n _ _ (by decide)]; exact uq7⟩)
          refine Z.eqM (upR_id (k := 30) wHd) ?_
          refine Z.eqM (upR_id (k := 5) wO5) ?_
          refine Z.eqM (upR_id (k := 31) wLw) ?_
          refine Z.eqM (upR_id (k := 32) wC0) ?_
          refine Z.eqM (upR_id (k := 33) wE0) ?_
          refine Z.eqM (upR_id (k := 34) wR0) ?_
          refine Z.eqM (upR_id (k := 29) wP0) ?_
          exact uL53 _ x4_45 x5_48 x6_51 r4_41 O5 P0 Hd Lw C0 E0 R0 (Nat.lt_succ_self _) (⟨by omega, by omega, by rw [e4_45, e6_51]; rfl, by rw [e5_48, e6_51]; rfl, by rw [f4_41]; exact cpy_q T T4 1 (by decide) (by decide), by rw [f4_41]; exact cpy_q T T4 4 (by decide) (by decide), by rw [f4_41]; exact cpy_q T T4 5 (by decide) (by decide)⟩)
        ·
          refine z_bipush dX6_reigns_23 rfl ?_
          exact z_iret C dX6_reigns_25 rfl ⟨_, rfl, ⟨(if_neg (by omega)).symm, (kc_r M)⟩⟩
