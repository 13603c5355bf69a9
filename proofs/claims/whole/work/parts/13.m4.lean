/-! ways, by the reference: from road to road, then over each town -/
def wI (k : Int) : Int := if k / 8 = k % 8 then 0 else 9999
def stD (Rd : Int → Int) (op : Int) (W : Int → Int) (r : Int) : Int := if bitq op r then min (Rd (3 * r + 2)) (W (8 * Rd (3 * r) + Rd (3 * r + 1))) else W (8 * Rd (3 * r) + Rd (3 * r + 1))
def stR (Rd : Int → Int) (op : Int) (W : Int → Int) (r : Int) : Int → Int := up (up W (8 * Rd (3 * r) + Rd (3 * r + 1)) (stD Rd op W r)) (8 * Rd (3 * r + 1) + Rd (3 * r)) (stD Rd op W r)
def fwR (Rd : Int → Int) (op : Int) (W0 : Int → Int) : Nat → Int → Int
  | 0 => fil wI W0 0 64
  | n + 1 => stR Rd op (fwR Rd op W0 n) n
def stK (b : Int) (W : Int → Int) (k : Int) : Int → Int := up W k (min (W k) (min (W (8 * (k / 8) + b) + W (8 * b + k % 8)) 9999))
def fwK (b : Int) (W : Int → Int) : Nat → Int → Int
  | 0 => W
  | n + 1 => stK b (fwK b W n) n
def fwB (W : Int → Int) : Nat → Int → Int
  | 0 => W
  | n + 1 => fwK n (fwB W n) 64
def fwA (Rd : Int → Int) (op : Int) (W0 : Int → Int) (n : Nat) : Int → Int := fwB (fwR Rd op W0 n) 8
theorem tnS {x : Int} (h : 0 ≤ x) : (x + 1).toNat = x.toNat + 1 := by omega
theorem tnC {x : Int} (h : 0 ≤ x) : ((x.toNat : Nat) : Int) = x := Int.toNat_of_nonneg h
theorem fwR_s (Rd : Int → Int) (op : Int) (W0 : Int → Int) {x : Int} (h : 0 ≤ x) : fwR Rd op W0 (x + 1).toNat = stR Rd op (fwR Rd op W0 x.toNat) x := by rw [tnS h, fwR, tnC h]
theorem fwK_s (b : Int) (W : Int → Int) {x : Int} (h : 0 ≤ x) : fwK b W (x + 1).toNat = stK b (fwK b W x.toNat) x := by rw [tnS h, fwK, tnC h]
theorem fwB_s (W : Int → Int) {x : Int} (h : 0 ≤ x) : fwB W (x + 1).toNat = fwK x (fwB W x.toNat) 64 := by rw [tnS h, fwB, tnC h]
abbrev wOK (W : Int → Int) : Prop := ∀ j, 0 ≤ j → j < 64 → 0 ≤ W j ∧ W j ≤ 9999
abbrev rdOK (Rd : Int → Int) (n : Int) : Prop := ∀ q, 0 ≤ q → q < n → (0 ≤ Rd (3 * q) ∧ Rd (3 * q) ≤ 7) ∧ (0 ≤ Rd (3 * q + 1) ∧ Rd (3 * q + 1) ≤ 7) ∧ (1 ≤ Rd (3 * q + 2) ∧ Rd (3 * q + 2) ≤ 9) ∧ Rd (3 * q) ≠ Rd (3 * q + 1)
theorem wOK_up {W : Int → Int} (h : wOK W) {k v : Int} (hv : 0 ≤ v ∧ v ≤ 9999) : wOK (up W k v) := by
  intro j h1 h2
  by_cases hj : j = k
  · subst hj; rw [up_s]; exact hv
  · rw [up_n _ _ hj]; exact h j h1 h2
theorem fwR_ok {Rd : Int → Int} {op : Int} {W0 : Int → Int} {c : Int} (hR : rdOK Rd c) : ∀ n : Nat, (n : Int) ≤ c → wOK (fwR Rd op W0 n)
  | 0, _ => fun j h1 h2 => by rw [fwR, fil_in _ _ (by omega)]; unfold wI; split <;> omega
  | n + 1, hn => by
    have ih := fwR_ok (op := op) (W0 := W0) hR n (by omega)
    obtain ⟨a, b, c1, -⟩ := hR n (by omega) (by omega)
    have hd : 0 ≤ stD Rd op (fwR Rd op W0 n) n ∧ stD Rd op (fwR Rd op W0 n) n ≤ 9999 := by
      have := ih (8 * Rd (3 * n) + Rd (3 * n + 1)) (by omega) (by omega)
      unfold stD; split <;> omega
    exact wOK_up (wOK_up ih hd) hd
theorem fwK_ok {b : Int} {W : Int → Int} (hb : 0 ≤ b ∧ b < 8) (h : wOK W) : ∀ n : Nat, n ≤ 64 → wOK (fwK b W n)
  | 0, _ => h
  | n + 1, hn => by
    have ih := fwK_ok hb h n (by omega)
    have h1 := ih n (by omega) (by omega)
    have h2 := ih (8 * ((n : Int) / 8) + b) (by omega) (by omega)
    have h3 := ih (8 * b + (n : Int) % 8) (by omega) (by omega)
    exact wOK_up ih (by omega)
theorem fwB_ok {W : Int → Int} (h : wOK W) : ∀ n : Nat, n ≤ 8 → wOK (fwB W n)
  | 0, _ => h
  | n + 1, hn => fwK_ok (by omega) (fwB_ok h n (by omega)) 64 (by omega)
theorem fwA_ok {Rd : Int → Int} {op : Int} {W0 : Int → Int} {c : Int} (hR : rdOK Rd c) (hc : 0 ≤ c) : wOK (fwA Rd op W0 c.toNat) := fwB_ok (fwR_ok hR _ (by omega)) 8 (by omega)
set_option maxRecDepth 100000 in
theorem ct_X7_findWays (en : zE) (M : zW) (O : Int → Int) (R : Int → Int) (W : Int → Int) (wO : M 37 = O) (wR : M 44 = R) (wW : M 47 = W) (op : Int) (h0 : 0 ≤ op ∧ op ≤ 4095 ∧ 0 ≤ O 7 ∧ O 7 ≤ 12) (hR : rdOK R (O 7)) : Ct en kA yX7_findWays mX7_findWays [rf en 37, vi op] M (pV (upR M 47 (fwA R op W (O 7).toNat))) := by
  refine Ct.of (by decide +kernel) rfl [(0, rf en 37), (1, vi op)] rfl (Nat.le_of_ble_eq_true rfl) (fun cx C => ?_)
  refine z_iconst dX7_findWays_0 ?_
  refine z_istore_n (fun y => [(0, rf en 37), (1, vi op), (2, vi y)]) [1, 2, 0] dX7_findWays_1 (by decide) (fun _ => rfl) (fun x2_1 e2_1 => ?_)
  have uL2 : ∀ (fu : Nat) (x2 : Int) (r47 : Int → Int), (64 - x2).toNat < fu → (0 ≤ x2 ∧ x2 ≤ 64 ∧ r47 = fil wI W 0 x2) → Z en kA cx mX7_findWays (upR M 47 r47) 2 [(0, rf en 37), (1, vi op), (2, vi x2)] [] := by
    intro fu
    induction fu with
    | zero => intro x2 r47 uhf; exact absurd uhf (Nat.not_lt_zero _)
    | succ fu uih2 =>
      intro x2 r47 uf2 uI2
      obtain ⟨uq1, uq2, uq3⟩ := uI2
      refine z_iload_n 2 dX7_findWays_2 rfl ?_
      refine z_bipush dX7_findWays_3 rfl ?_
      refine z_icmp_ge (tgt := 38) dX7_findWays_5 rfl (by omega) (fun uc5 => ?_) (fun uc5 => ?_)
      ·
        refine z_iconst dX7_findWays_38 ?_
        refine z_istore_n (fun y => [(0, rf en 37), (1, vi op), (2, vi y)]) [1, 2, 0] dX7_findWays_39 (by decide) (fun _ => rfl) (fun x2_39 e2_39 => ?_)
        have uL40 : ∀ (fu : Nat) (x2 : Int) (r47 : Int → Int), (O 7 - x2).toNat < fu → (0 ≤ x2 ∧ x2 ≤ O 7 ∧ r47 = fwR R op W x2.toNat) → Z en kA cx mX7_findWays (upR M 47 r47) 40 [(0, rf en 37), (1, vi op), (2, vi x2)] [] := by
          intro fu
          induction fu with
          | zero => intro x2 r47 uhf; exact absurd uhf (Nat.not_lt_zero _)
          | succ fu uih40 =>
            intro x2 r47 uf40 uI40
            obtain ⟨uq1, uq2, uq3⟩ := uI40
            have ub : wOK r47 := by rw [uq3]; exact fwR_ok hR _ (by omega)
            refine z_iload_n 2 dX7_findWays_40 rfl ?_
            refine z_aload_n 0 dX7_findWays_41 rfl ?_
            refine z_getI (r := O) 7 rfl dX7_findWays_42 fX7_91_6 i37_7 ka37 (wO) ?_
            refine z_icmp_ge (tgt := 153) dX7_findWays_45 rfl (by omega) (fun uc45 => ?_) (fun uc45 => ?_)
            ·
              refine z_iconst dX7_findWays_153 ?_
              refine z_istore_n (fun y => [(0, rf en 37), (1, vi op), (2, vi y)]) [1, 2, 0] dX7_findWays_154 (by decide) (fun _ => rfl) (fun x2_154 e2_154 => ?_)
              have uL155 : ∀ (fu : Nat) (x2 : Int) (r47 : Int → Int), (8 - x2).toNat < fu → (0 ≤ x2 ∧ x2 ≤ 8 ∧ r47 = fwB (fwR R op W (O 7).toNat) x2.toNat) → Z en kA cx mX7_findWays (upR M 47 r47) 155 [(0, rf en 37), (1, vi op), (2, vi x2)] [] := by
                intro fu
                induction fu with
                | zero => intro x2 r47 uhf; exact absurd uhf (Nat.not_lt_zero _)
                | succ fu uih155 =>
                  intro x2 r47 uf155 uI155
                  obtain ⟨uq1, uq2, uq5⟩ := uI155
                  refine z_iload_n 2 dX7_findWays_155 rfl ?_
                  refine z_bipush dX7_findWays_156 rfl ?_
                  refine z_icmp_ge (tgt := 235) dX7_findWays_158 rfl (by omega) (fun uc158 => ?_) (fun uc158 => ?_)
                  ·
                    exact z_vret C dX7_findWays_235 rfl ⟨rfl, by rw [uq5, show x2 = 8 by omega]; rfl⟩
                  ·
                    refine z_iconst dX7_findWays_161 ?_
                    refine z_istore_n (fun y => [(0, rf en 37), (1, vi op), (2, vi x2), (3, vi y)]) [1, 2, 3, 0] dX7_findWays_162 (by decide) (fun _ => rfl) (fun x3_162 e3_162 => ?_)
                    have uL163 : ∀ (fu : Nat) (x3 : Int) (r47 : Int → Int), (64 - x3).toNat < fu → (0 ≤ x3 ∧ x3 ≤ 64 ∧ r47 = fwK x2 (fwB (fwR R op W (O 7).toNat) x2.toNat) x3.toNat) → Z en kA cx mX7_findWays (upR M 47 r47) 163 [(0, rf en 37), (1, vi op), (2, vi x2), (3, vi x3)] [] := by
                      intro fu
                      induction fu with
                      | zero => intro x3 r47 uhf; exact absurd uhf (Nat.not_lt_zero _)
                      | succ fu uih163 =>
                        intro x3 r47 uf163 uI163
                        obtain ⟨uq7, uq8, uq6⟩ := uI163
                        refine z_iload_n 3 dX7_findWays_163 rfl ?_
                        refine z_bipush dX7_findWays_164 rfl ?_
                        refine z_icmp_ge (tgt := 229) dX7_findWays_166 rfl (by omega) (fun uc166 => ?_) (fun uc166 => ?_)
                        ·
                          refine z_iinc (fun y => [(0, rf en 37), (1, vi op), (2, vi y), (3, vi x3)]) [1, 2, 0, 3] 2 dX7_findWays_229 rfl (by decide) (fun _ => rfl) (fun x2_229 e2_229 => ?_)
                          refine z_goto (tgt := 155) dX7_findWays_232 rfl ?_
                          refine z_lv [0, 1, 2] [(0, rf en 37), (1, vi op), (2, vi x2_229)] rfl ?_
                          exact uih155 x2_229 r47 (by omega) (⟨by omega, by omega, by rw [uq6, e2_229, fwB_s _ uq1, show x3 = 64 by omega]; rfl⟩)
                        ·
                          have ub : wOK r47 := by rw [uq6]; exact fwK_ok (by omega) (fwB_ok (fwR_ok hR _ (by omega)) _ (by omega)) _ (by omega)
                          have ub1 := ub (8 * (x3 / 8) + x2) (by omega) (by omega)
                          have ub2 := ub (8 * x2 + x3 % 8) (by omega) (by omega)
                          have ub3 := ub x3 (by omega) (by omega)
                          refine z_aload_n 0 dX7_findWays_169 rfl ?_
                          refine z_getR dX7_findWays_170 fX7_37_6 i37_12 ka37 ?_
                          refine z_bipush dX7_findWays_173 rfl ?_
                          refine z_iload_n 3 dX7_findWays_175 rfl ?_
                          refine z_bipush dX7_findWays_176 rfl ?_
                          refine z_idiv dX7_findWays_178 (by omega) ?_
                          refine z_imul dX7_findWays_179 ?_
                          refine z_iload_n 2 dX7_findWays_180 rfl ?_
                          refine z_iadd dX7_findWays_181 ?_
                          refine z_iald (r := r47) dX7_findWays_182 is47 ka47 (rfl) (by omega) ?_
                          refine z_aload_n 0 dX7_findWays_183 rfl ?_
                          refine z_getR dX7_findWays_184 fX7_37_6 i37_12 ka37 ?_
                          refine z_bipush dX7_findWays_187 rfl ?_
                          refine z_iload_n 2 dX7_findWays_189 rfl ?_
                          refine z_imul dX7_findWays_190 ?_
                          refine z_iload_n 3 dX7_findWays_191 rfl ?_
                          refine z_bipush dX7_findWays_192 rfl ?_
                          refine z_irem dX7_findWays_194 (by omega) ?_
                          refine z_iadd dX7_findWays_195 ?_
                          refine z_iald (r := r47) dX7_findWays_196 is47 ka47 (rfl) (by omega) ?_
                          refine z_iadd dX7_findWays_197 ?_
                          refine z_istore (fun y => [(0, rf en 37), (1, vi op), (2, vi x2), (3, vi x3), (4, vi y)]) [1, 2, 3, 4, 0] dX7_findWays_198 (by decide) (fun _ => rfl) (fun x4_198 e4_198 => ?_)
                          refine z_aload_n 0 dX7_findWays_200 rfl ?_
                          refine z_getR dX7_findWays_201 fX7_37_6 i37_12 ka37 ?_
                          refine z_iload_n 3 dX7_findWays_204 rfl ?_
                          refine z_aload_n 0 dX7_findWays_205 rfl ?_
                          refine z_getR dX7_findWays_206 fX7_37_6 i37_12 ka37 ?_
                          refine z_iload_n 3 dX7_findWays_209 rfl ?_
                          refine z_iald (r := r47) dX7_findWays_210 is47 ka47 (rfl) (by omega) ?_
                          refine z_iload 4 dX7_findWays_211 rfl ?_
                          refine z_sipush dX7_findWays_213 rfl ?_
                          refine z_sI dX7_findWays_216 lX7_125 (by decide) (ct_X7_lesser en (upR M 47 r47) _ (9999) (by omega)) rfl rfl (by exact Nat.le_of_ble_eq_true rfl) ?_
                          refine z_sI dX7_findWays_219 lX7_125 (by decide) (ct_X7_lesser en (upR M 47 r47) _ _ (by omega)) rfl rfl (by exact Nat.le_of_ble_eq_true rfl) ?_
                          refine z_iast' (r := r47) (fun r => (upR M 47 r)) dX7_findWays_222 is47 ka47 (rfl) (by omega) (fun _ => uu1) (fun r47_222 f47_222 => ?_)
                          refine z_iinc (fun y => [(0, rf en 37), (1, vi op), (2, vi x2), (3, vi y), (4, vi x4_198)]) [1, 2, 3, 0, 4] 3 dX7_findWays_223 rfl (by decide) (fun _ => rfl) (fun x3_223 e3_223 => ?_)
                          refine z_goto (tgt := 163) dX7_findWays_226 rfl ?_
                          refine z_lv [0, 1, 2, 3] [(0, rf en 37), (1, vi op), (2, vi x2), (3, vi x3_223)] rfl ?_
                          exact uih163 x3_223 r47_222 (by omega) (⟨by omega, by omega, by rw [f47_222, e3_223, fwK_s _ _ uq7, ← uq6, e4_198]; rfl⟩)
                    exact uL163 _ x3_162 r47 (Nat.lt_succ_self _) (⟨by omega, by omega, by rw [uq5, e3_162]; rfl⟩)
              exact uL155 _ x2_154 r47 (Nat.lt_succ_self _) (⟨by omega, by omega, by rw [uq3, e2_154, show x2 = O 7 by omega]; rfl⟩)
            ·
              have uh1 := hR x2 uq1 (by omega)
              refine z_aload_n 0 dX7_findWays_48 rfl ?_
              refine z_getR dX7_findWays_49 fX7_28_6 i37_8 ka37 ?_
              refine z_iconst dX7_findWays_52 ?_
              refine z_iload_n 2 dX7_findWays_53 rfl ?_
              refine z_imul dX7_findWays_54 ?_
              refine z_iald (r := R) dX7_findWays_55 is44 ka44 (wR) (by omega) ?_
              refine z_istore_n (fun y => [(0, rf en 37), (1, vi op), (2, vi x2), (3, vi y)]) [1, 2, 3, 0] dX7_findWays_56 (by decide) (fun _ => rfl) (fun x3_56 e3_56 => ?_)
              refine z_aload_n 0 dX7_findWays_57 rfl ?_
              refine z_getR dX7_findWays_58 fX7_28_6 i37_8 ka37 ?_
              refine z_iconst dX7_findWays_61 ?_
              refine z_iload_n 2 dX7_findWays_62 rfl ?_
              refine z_imul dX7_findWays_63 ?_
              refine z_iconst dX7_findWays_64 ?_
              refine z_iadd dX7_findWays_65 ?_
              refine z_iald (r := R) dX7_findWays_66 is44 ka44 (wR) (by omega) ?_
              refine z_istore (fun y => [(0, rf en 37), (1, vi op), (2, vi x2), (3, vi x3_56), (4, vi y)]) [1, 2, 3, 4, 0] dX7_findWays_67 (by decide) (fun _ => rfl) (fun x4_67 e4_67 => ?_)
              refine z_iload_n 1 dX7_findWays_69 rfl ?_
              refine z_iload_n 2 dX7_findWays_70 rfl ?_
              refine z_sI dX7_findWays_71 lX7_121 (by decide) (ct_X7_isIn en (upR M 47 r47) _ _ (by omega) (by omega)) rfl rfl (by exact Nat.le_of_ble_eq_true rfl) ?_
              refine z_ifeq_b (tgt := 105) dX7_findWays_74 rfl (fun uc74 => ?_) (fun uc74 => ?_)
              ·
                have ub1 := ub (8 * x3_56 + x4_67) (by omega) (by omega)
                refine z_aload_n 0 dX7_findWays_105 rfl ?_
                refine z_getR dX7_findWays_106 fX7_37_6 i37_12 ka37 ?_
                refine z_bipush dX7_findWays_109 rfl ?_
                refine z_iload_n 3 dX7_findWays_111 rfl ?_
                refine z_imul dX7_findWays_112 ?_
                refine z_iload 4 dX7_findWays_113 rfl ?_
                refine z_iadd dX7_findWays_115 ?_
                refine z_iald (r := r47) dX7_findWays_116 is47 ka47 (rfl) (by omega) ?_
                refine z_istore (fun y => [(0, rf en 37), (1, vi op), (2, vi x2), (3, vi x3_56), (4, vi x4_67), (5, vi y)]) [1, 2, 3, 4, 5, 0] dX7_findWays_117 (by decide) (fun _ => rfl) (fun x5_117 e5_117 => ?_)
                have ue5 : x5_117 = stD R op r47 x2 := by unfold stD; rw [e5_117, e3_56, e4_67]; first | rw [if_pos uc74] | rw [if_neg uc74]
                refine z_aload_n 0 dX7_findWays_119 rfl ?_
                refine z_getR dX7_findWays_120 fX7_37_6 i37_12 ka37 ?_
                refine z_bipush dX7_findWays_123 rfl ?_
                refine z_iload_n 3 dX7_findWays_125 rfl ?_
                refine z_imul dX7_findWays_126 ?_
                refine z_iload 4 dX7_findWays_127 rfl ?_
                refine z_iadd dX7_findWays_129 ?_
                refine z_iload 5 dX7_findWays_130 rfl ?_
                refine z_iast' (r := r47) (fun r => (upR M 47 r)) dX7_findWays_132 is47 ka47 (rfl) (by omega) (fun _ => uu1) (fun r47_132 f47_132 => ?_)
                refine z_aload_n 0 dX7_findWays_133 rfl ?_
                refine z_getR dX7_findWays_134 fX7_37_6 i37_12 ka37 ?_
                refine z_bipush dX7_findWays_137 rfl ?_
                refine z_iload 4 dX7_findWays_139 rfl ?_
                refine z_imul dX7_findWays_141 ?_
                refine z_iload_n 3 dX7_findWays_142 rfl ?_
                refine z_iadd dX7_findWays_143 ?_
                refine z_iload 5 dX7_findWays_144 rfl ?_
                refine z_iast' (r := r47_132) (fun r => (upR M 47 r)) dX7_findWays_146 is47 ka47 (rfl) (by omega) (fun _ => uu1) (fun r47_146 f47_146 => ?_)
                refine z_iinc (fun y => [(0, rf en 37), (1, vi op), (2, vi y), (3, vi x3_56), (4, vi x4_67), (5, vi x5_117)]) [1, 2, 0, 3, 4, 5] 2 dX7_findWays_147 rfl (by decide) (fun _ => rfl) (fun x2_147 e2_147 => ?_)
                refine z_goto (tgt := 40) dX7_findWays_150 rfl ?_
                refine z_lv [0, 1, 2] [(0, rf en 37), (1, vi op), (2, vi x2_147)] rfl ?_
                exact uih40 x2_147 r47_146 (by omega) (⟨by omega, by omega, by rw [f47_146, f47_132, ue5, e3_56, e4_67, e2_147, fwR_s _ _ _ uq1, ← uq3]; rfl⟩)
              ·
                refine z_aload_n 0 dX7_findWays_77 rfl ?_
                refine z_getR dX7_findWays_78 fX7_28_6 i37_8 ka37 ?_
                refine z_iconst dX7_findWays_81 ?_
                refine z_iload_n 2 dX7_findWays_82 rfl ?_
                refine z_imul dX7_findWays_83 ?_
                refine z_iconst dX7_findWays_84 ?_
                refine z_iadd dX7_findWays_85 ?_
                refine z_iald (r := R) dX7_findWays_86 is44 ka44 (wR) (by omega) ?_
                have ub1 := ub (8 * x3_56 + x4_67) (by omega) (by omega)
                refine z_aload_n 0 dX7_findWays_87 rfl ?_
                refine z_getR dX7_findWays_88 fX7_37_6 i37_12 ka37 ?_
                refine z_bipush dX7_findWays_91 rfl ?_
                refine z_iload_n 3 dX7_findWays_93 rfl ?_
                refine z_imul dX7_findWays_94 ?_
                refine z_iload 4 dX7_findWays_95 rfl ?_
                refine z_iadd dX7_findWays_97 ?_
                refine z_iald (r := r47) dX7_findWays_98 is47 ka47 (rfl) (by omega) ?_
                refine z_sI dX7_findWays_99 lX7_125 (by decide) (ct_X7_lesser en (upR M 47 r47) _ _ (by omega)) rfl rfl (by exact Nat.le_of_ble_eq_true rfl) ?_
                refine z_goto (tgt := 117) dX7_findWays_102 rfl ?_
                refine z_istore (fun y => [(0, rf en 37), (1, vi op), (2, vi x2), (3, vi x3_56), (4, vi x4_67), (5, vi y)]) [1, 2, 3, 4, 5, 0] dX7_findWays_117 (by decide) (fun _ => rfl) (fun x5_117 e5_117 => ?_)
                have ue5 : x5_117 = stD R op r47 x2 := by unfold stD; rw [e5_117, e3_56, e4_67]; first | rw [if_pos uc74] | rw [if_neg uc74]
                refine z_aload_n 0 dX7_findWays_119 rfl ?_
                refine z_getR dX7_findWays_120 fX7_37_6 i37_12 ka37 ?_
                refine z_bipush dX7_findWays_123 rfl ?_
                refine z_iload_n 3 dX7_findWays_125 rfl ?_
                refine z_imul dX7_findWays_126 ?_
                refine z_iload 4 dX7_findWays_127 rfl ?_
                refine z_iadd dX7_findWays_129 ?_
                refine z_iload 5 dX7_findWays_130 rfl ?_
                refine z_iast' (r := r47) (fun r => (upR M 47 r)) dX7_findWays_132 is47 ka47 (rfl) (by omega) (fun _ => uu1) (fun r47_132 f47_132 => ?_)
                refine z_aload_n 0 dX7_findWays_133 rfl ?_
                refine z_getR dX7_findWays_134 fX7_37_6 i37_12 ka37 ?_
                refine z_bipush dX7_findWays_137 rfl ?_
                refine z_iload 4 dX7_findWays_139 rfl ?_
                refine z_imul dX7_findWays_141 ?_
                refine z_iload_n 3 dX7_findWays_142 rfl ?_
                refine z_iadd dX7_findWays_143 ?_
                refine z_iload 5 dX7_findWays_144 rfl ?_
                refine z_iast' (r := r47_132) (fun r => (upR M 47 r)) dX7_findWays_146 is47 ka47 (rfl) (by omega) (fun _ => uu1) (fun r47_146 f47_146 => ?_)
                refine z_iinc (fun y => [(0, rf en 37), (1, vi op), (2, vi y), (3, vi x3_56), (4, vi x4_67), (5, vi x5_117)]) [1, 2, 0, 3, 4, 5] 2 dX7_findWays_147 rfl (by decide) (fun _ => rfl) (fun x2_147 e2_147 => ?_)
                refine z_goto (tgt := 40) dX7_findWays_150 rfl ?_
                refine z_lv [0, 1, 2] [(0, rf en 37), (1, vi op), (2, vi x2_147)] rfl ?_
                exact uih40 x2_147 r47_146 (by omega) (⟨by omega, by omega, by rw [f47_146, f47_132, ue5, e3_56, e4_67, e2_147, fwR_s _ _ _ uq1, ← uq3]; rfl⟩)
        exact uL40 _ x2_39 r47 (Nat.lt_succ_self _) (⟨by omega, by omega, by rw [uq3, e2_39, show x2 = 64 by omega]; rfl⟩)
      ·
        refine z_aload_n 0 dX7_findWays_8 rfl ?_
        refine z_getR dX7_findWays_9 fX7_37_6 i37_12 ka37 ?_
        refine z_iload_n 2 dX7_findWays_12 rfl ?_
        refine z_iload_n 2 dX7_findWays_13 rfl ?_
        refine z_bipush dX7_findWays_14 rfl ?_
        refine z_idiv dX7_findWays_16 (by omega) ?_
        refine z_iload_n 2 dX7_findWays_17 rfl ?_
        refine z_bipush dX7_findWays_18 rfl ?_
        refine z_irem dX7_findWays_20 (by omega) ?_
        refine z_icmp_ne (tgt := 28) dX7_findWays_21 rfl (by omega) (fun uc21 => ?_) (fun uc21 => ?_)
        ·
          refine z_sipush dX7_findWays_28 rfl ?_
          refine z_iast' (r := r47) (fun r => (upR M 47 r)) dX7_findWays_31 is47 ka47 (rfl) (by omega) (fun _ => uu1) (fun r47_31 f47_31 => ?_)
          refine z_iinc (fun y => [(0, rf en 37), (1, vi op), (2, vi y)]) [1, 2, 0] 2 dX7_findWays_32 rfl (by decide) (fun _ => rfl) (fun x2_32 e2_32 => ?_)
          refine z_goto (tgt := 2) dX7_findWays_35 rfl ?_
          have uq4 := fil_s wI W 0 x2 uq1 rfl
          rw [Int.zero_add] at uq4
          exact uih2 x2_32 r47_31 (by omega) (⟨by omega, by omega, by rw [f47_31, uq3, e2_32, ← uq4]; unfold wI; first | rw [if_pos uc21] | rw [if_neg uc21]⟩)
        ·
          refine z_iconst dX7_findWays_24 ?_
          refine z_goto (tgt := 31) dX7_findWays_25 rfl ?_
          refine z_iast' (r := r47) (fun r => (upR M 47 r)) dX7_findWays_31 is47 ka47 (rfl) (by omega) (fun _ => uu1) (fun r47_31 f47_31 => ?_)
          refine z_iinc (fun y => [(0, rf en 37), (1, vi op), (2, vi y)]) [1, 2, 0] 2 dX7_findWays_32 rfl (by decide) (fun _ => rfl) (fun x2_32 e2_32 => ?_)
          refine z_goto (tgt := 2) dX7_findWays_35 rfl ?_
          have uq4 := fil_s wI W 0 x2 uq1 rfl
          rw [Int.zero_add] at uq4
          exact uih2 x2_32 r47_31 (by omega) (⟨by omega, by omega, by rw [f47_31, uq3, e2_32, ← uq4]; unfold wI; first | rw [if_pos uc21] | rw [if_neg uc21]⟩)
  refine Z.eqM (upR_id (k := 47) wW) ?_
  exact uL2 _ x2_1 W (Nat.lt_succ_self _) (⟨by omega, by omega, by rw [e2_1, fil_0]⟩)
/-- what the reference's find() leaves: counts, roads, persons, ways, as the texts say -/
def Fnd (B Y : Int → Int) (nr np : Int) (Rd P Wy : Int → Int) : Prop := ∃ v1 v2, rdF B (Y 0) v1 ∧ nr = rCnt (Y 0) v1 ∧ (v1 = -1 → ∀ j, 0 ≤ j → j < Y 0 → j % 4 < 3 → Rd (3 * (j / 4) + j % 4) = rV B j) ∧ pdF (fun i => B (48 + i)) (Y 1) v2 ∧ np = pCnt (Y 1) v2 ∧ (v2 = -1 → ∀ j, 0 ≤ j → j < Y 1 → j % 6 < 5 → P (5 * (j / 6) + j % 6) = pVl (fun i => B (48 + i)) j) ∧ ∃ W0, Wy = fwA Rd 4095 W0 nr.toNat
abbrev pOK (P : Int → Int) (np : Int) : Prop := ∀ q, 0 ≤ q → q < np → (0 ≤ P (5 * q) ∧ P (5 * q) ≤ 7) ∧ (0 ≤ P (5 * q + 1) ∧ P (5 * q + 1) ≤ 9) ∧ (0 ≤ P (5 * q + 2) ∧ P (5 * q + 2) ≤ 2) ∧ (0 ≤ P (5 * q + 3) ∧ P (5 * q + 3) ≤ 9) ∧ (-1 ≤ P (5 * q + 4) ∧ P (5 * q + 4) ≤ 7)
theorem rd_cnt {B : Int → Int} {n v : Int} (hn : 0 ≤ n ∧ n ≤ 47) (h : rdF B n v) : 0 ≤ rCnt n v ∧ rCnt n v ≤ 12 ∧ (0 < rCnt n v → v = -1 ∧ 4 * rCnt n v = n + 1) := by
  unfold rCnt
  rcases h with ⟨a, _, _, _⟩ | ⟨a, b, c, _⟩ | ⟨a, b, _⟩ <;> (split <;> omega)
theorem pd_cnt {B : Int → Int} {n v : Int} (hn : 0 ≤ n ∧ n ≤ 47) (h : pdF B n v) : 0 ≤ pCnt n v ∧ pCnt n v ≤ 8 ∧ (0 < pCnt n v → v = -1 ∧ 6 * pCnt n v = n + 1) := by
  unfold pCnt
  rcases h with ⟨a, _, _, _⟩ | ⟨a, b, c, _⟩ | ⟨a, b, _⟩ <;> (split <;> omega)
theorem rd_no {B : Int → Int} {n v : Int} (h : rdF B n v) (hv : v = -1) : ∀ j, 0 ≤ j → j < n → ¬ rBad B j := by
  rcases h with ⟨a, _, _, _⟩ | ⟨a, b, c, d⟩ | ⟨a, b, d⟩
  · omega
  · exact d
  · exact d
theorem pd_no {B : Int → Int} {n v : Int} (h : pdF B n v) (hv : v = -1) : ∀ j, 0 ≤ j → j < n → ¬ pBad B j := by
  rcases h with ⟨a, _, _, _⟩ | ⟨a, b, c, d⟩ | ⟨a, b, d⟩
  · omega
  · exact d
  · exact d
theorem rV_a {B : Int → Int} {i : Int} (h : ¬ rBad B i) (hi : i % 4 = 0 ∨ i % 4 = 1) : 0 ≤ rV B i ∧ rV B i ≤ 7 := by
  have h1 : ¬ rV B i < 0 := fun z => h (Or.inl z)
  have h3 := wthn_rg (B i) 97 104 (by omega)
  unfold rV at *
  rw [if_neg (by omega), if_neg (by omega)] at *
  omega
theorem rV_d {B : Int → Int} {i : Int} (h : ¬ rBad B i) (hi : i % 4 = 2) : 1 ≤ rV B i ∧ rV B i ≤ 9 := by
  have h1 : ¬ rV B i < 0 := fun z => h (Or.inl z)
  unfold rV at *
  rw [if_neg (by omega), if_pos hi] at *
  unfold wthn at *
  split at h1 <;> split <;> omega
theorem rd_ok {B Rd : Int → Int} {n v : Int} (hn : 0 ≤ n ∧ n ≤ 47) (h : rdF B n v) (hr : v = -1 → ∀ j, 0 ≤ j → j < n → j % 4 < 3 → Rd (3 * (j / 4) + j % 4) = rV B j) : rdOK Rd (rCnt n v) := by
  intro q h1 h2
  obtain ⟨c1, c2, c3⟩ := rd_cnt hn h
  obtain ⟨c4, c5⟩ := c3 (by omega)
  have hno := rd_no h c4
  have e0 := hr c4 (4 * q) (by omega) (by omega) (by omega)
  have e1 := hr c4 (4 * q + 1) (by omega) (by omega) (by omega)
  have e2 := hr c4 (4 * q + 2) (by omega) (by omega) (by omega)
  rw [show 3 * (4 * q / 4) + 4 * q % 4 = 3 * q by omega] at e0
  rw [show 3 * ((4 * q + 1) / 4) + (4 * q + 1) % 4 = 3 * q + 1 by omega] at e1
  rw [show 3 * ((4 * q + 2) / 4) + (4 * q + 2) % 4 = 3 * q + 2 by omega] at e2
  have b0 := rV_a (hno (4 * q) (by omega) (by omega)) (by omega)
  have b1 := rV_a (hno (4 * q + 1) (by omega) (by omega)) (by omega)
  have b2 := rV_d (hno (4 * q + 2) (by omega) (by omega)) (by omega)
  have b3 : rV B (4 * q + 1) ≠ rV B (4 * q) := fun z => hno (4 * q + 1) (by omega) (by omega) (Or.inr ⟨by omega, by rw [show 4 * q + 1 - 1 = 4 * q by omega]; exact z⟩)
  rw [e0, e1, e2]
  exact ⟨b0, b1, b2, fun z => b3 z.symm⟩
theorem pV_rg {B : Int → Int} {i : Int} (h : ¬ pBad B i) : (i % 6 = 0 → 0 ≤ pVl B i ∧ pVl B i ≤ 7) ∧ (i % 6 = 1 → 0 ≤ pVl B i ∧ pVl B i ≤ 9) ∧ (i % 6 = 2 → 0 ≤ pVl B i ∧ pVl B i ≤ 2) ∧ (i % 6 = 3 → 0 ≤ pVl B i ∧ pVl B i ≤ 9) ∧ (i % 6 = 4 → -1 ≤ pVl B i ∧ pVl B i ≤ 7) := by
  have h1 : ¬ tel (i % 6) (B i) = -9 := h
  have e : pVl B i = tel (i % 6) (B i) := rfl
  rw [e]
  refine ⟨fun hk => ?_, fun hk => ?_, fun hk => ?_, fun hk => ?_, fun hk => ?_⟩ <;> rw [hk] at h1 ⊢
  · have e1 : tel 0 (B i) = wthn (B i) 97 104 := rfl
    rw [e1] at h1 ⊢
    unfold wthn at *
    split at h1 <;> split <;> omega
  · have e1 : tel 1 (B i) = wthn (B i) 48 57 := rfl
    rw [e1] at h1 ⊢
    unfold wthn at *
    split at h1 <;> split <;> omega
  · have e1 : tel 2 (B i) = (if B i = 111 then 0 else if B i = 98 then 1 else if B i = 99 then 2 else -9) := rfl
    rw [e1] at h1 ⊢
    by_cases a : B i = 111
    · rw [if_pos a]; omega
    · rw [if_neg a] at h1 ⊢
      by_cases b : B i = 98
      · rw [if_pos b]; omega
      · rw [if_neg b] at h1 ⊢
        by_cases c : B i = 99
        · rw [if_pos c]; omega
        · rw [if_neg c] at h1; exact absurd rfl h1
  · have e1 : tel 3 (B i) = wthn (B i) 48 57 := rfl
    rw [e1] at h1 ⊢
    unfold wthn at *
    split at h1 <;> split <;> omega
  · have e1 : tel 4 (B i) = (if B i = 46 then -1 else wthn (B i) 97 104) := rfl
    rw [e1] at h1 ⊢
    by_cases a : B i = 46
    · rw [if_pos a]; omega
    · rw [if_neg a] at h1 ⊢
      unfold wthn at *
      split at h1 <;> split <;> omega
theorem pd_ok {B P : Int → Int} {n v : Int} (hn : 0 ≤ n ∧ n ≤ 47) (h : pdF B n v) (hr : v = -1 → ∀ j, 0 ≤ j → j < n → j % 6 < 5 → P (5 * (j / 6) + j % 6) = pVl B j) : pOK P (pCnt n v) := by
  intro q h1 h2
  obtain ⟨c1, c2, c3⟩ := pd_cnt hn h
  obtain ⟨c4, c5⟩ := c3 (by omega)
  have hno := pd_no h c4
  have e0 := hr c4 (6 * q) (by omega) (by omega) (by omega)
  have e1 := hr c4 (6 * q + 1) (by omega) (by omega) (by omega)
  have e2 := hr c4 (6 * q + 2) (by omega) (by omega) (by omega)
  have e3 := hr c4 (6 * q + 3) (by omega) (by omega) (by omega)
  have e4 := hr c4 (6 * q + 4) (by omega) (by omega) (by omega)
  rw [show 5 * (6 * q / 6) + 6 * q % 6 = 5 * q by omega] at e0
  rw [show 5 * ((6 * q + 1) / 6) + (6 * q + 1) % 6 = 5 * q + 1 by omega] at e1
  rw [show 5 * ((6 * q + 2) / 6) + (6 * q + 2) % 6 = 5 * q + 2 by omega] at e2
  rw [show 5 * ((6 * q + 3) / 6) + (6 * q + 3) % 6 = 5 * q + 3 by omega] at e3
  rw [show 5 * ((6 * q + 4) / 6) + (6 * q + 4) % 6 = 5 * q + 4 by omega] at e4
  rw [e0, e1, e2, e3, e4]
  exact ⟨(pV_rg (hno _ (by omega) (by omega))).1 (by omega), (pV_rg (hno _ (by omega) (by omega))).2.1 (by omega), (pV_rg (hno _ (by omega) (by omega))).2.2.1 (by omega), (pV_rg (hno _ (by omega) (by omega))).2.2.2.1 (by omega), (pV_rg (hno _ (by omega) (by omega))).2.2.2.2 (by omega)⟩
theorem Fnd.rg {B Y Rd P Wy : Int → Int} {nr np : Int} (hY : ∀ j, 0 ≤ j → j < 2 → 0 ≤ Y j ∧ Y j ≤ 47) (h : Fnd B Y nr np Rd P Wy) : (0 ≤ nr ∧ nr ≤ 12) ∧ (0 ≤ np ∧ np ≤ 8) ∧ rdOK Rd nr ∧ pOK P np ∧ wOK Wy := by
  obtain ⟨v1, v2, a1, rfl, a3, b1, rfl, b3, W0, rfl⟩ := h
  have y0 := hY 0 (by omega) (by omega)
  have y1 := hY 1 (by omega) (by omega)
  obtain ⟨c1, c2, -⟩ := rd_cnt y0 a1
  obtain ⟨d1, d2, -⟩ := pd_cnt y1 b1
  exact ⟨⟨c1, c2⟩, ⟨d1, d2⟩, rd_ok y0 a1 a3, pd_ok y1 b1 b3, fwA_ok (rd_ok y0 a1 a3) c1⟩
set_option maxRecDepth 100000 in
theorem ct_X7_find (en : zE) (M : zW) (O : Int → Int) (B : Int → Int) (Y : Int → Int) (R : Int → Int) (P : Int → Int) (W : Int → Int) (wO : M 37 = O) (wB : M 42 = B) (wY : M 43 = Y) (wR : M 44 = R) (wP : M 45 = P) (wW : M 47 = W) (hB : ∀ j, 0 ≤ j → j < 96 → 0 ≤ B j ∧ B j ≤ 255) (hY : ∀ j, 0 ≤ j → j < 2 → 0 ≤ Y j ∧ Y j ≤ 47) : Ct en kA yX7_find mX7_find [rf en 37] M (pN (fun N => ∃ (nr np : Int) (Rd P2 Wy : Int → Int), Fnd B Y nr np Rd P2 Wy ∧ upR (upR (upR (upR M 37 (up (up O 7 nr) 9 np)) 44 Rd) 45 P2) 47 Wy = N)) := by
  refine Ct.of (by decide +kernel) rfl [(0, rf en 37)] rfl (Nat.le_of_ble_eq_true rfl) (fun cx C => ?_)
  refine z_aload_n 0 dX7_find_0 rfl ?_
  refine z_vX dX7_find_1 lX7_103 (by decide) ka37 io37 rfl (ct_X7_readsRoads en M O B Y R wO wB wY wR (hB) (hY)) rfl rfl (by exact Nat.le_of_ble_eq_true rfl) (fun uv1 uN1 uh1 => ?_)
  obtain ⟨r44_1, uhr1, uhs1, rfl⟩ := uh1
  refine z_pop dX7_find_4 ?_
  refine z_aload_n 0 dX7_find_5 rfl ?_
  refine z_vX dX7_find_6 lX7_107 (by decide) ka37 io37 rfl (ct_X7_readsPersons en (upR (upR M 37 (up O 7 (rCnt (Y 0) uv1))) 44 r44_1) (up O 7 (rCnt (Y 0) uv1)) B Y P rfl wB wY wP (hB) (hY)) rfl rfl (by exact Nat.le_of_ble_eq_true rfl) (fun uv6 uN6 uh6 => ?_)
  obtain ⟨r45_6, uhr6, uhs6, rfl⟩ := uh6
  rw [uu2 (a := 37) (b0 := 44) (by decide)]
  refine z_pop dX7_find_9 ?_
  have uy0 := hY 0 (by omega) (by omega)
  have uy1 := hY 1 (by omega) (by omega)
  have uc1 := rd_cnt uy0 uhr1
  have uk1 : up (up O 7 (rCnt (Y 0) uv1)) 9 (pCnt (Y 1) uv6) 7 = rCnt (Y 0) uv1 := by rw [up_n _ _ (by omega), up_s]
  have uk2 := rd_ok uy0 uhr1 uhs1
  refine z_aload_n 0 dX7_find_10 rfl ?_
  refine z_sipush dX7_find_11 rfl ?_
  refine z_vV dX7_find_14 lX7_128 (by decide) ka37 io37 rfl (ct_X7_findWays en (upR (upR (upR M 37 (up (up O 7 (rCnt (Y 0) uv1)) 9 (pCnt (Y 1) uv6))) 44 r44_1) 45 r45_6) (up (up O 7 (rCnt (Y 0) uv1)) 9 (pCnt (Y 1) uv6)) r44_1 W rfl rfl wW (4095) (by rw [uk1]; omega) (by rw [uk1]; exact uk2)) rfl rfl (by exact Nat.le_of_ble_eq_true rfl) ?_
  exact z_vret C dX7_find_17 rfl ⟨rfl, ⟨rCnt (Y 0) uv1, pCnt (Y 1) uv6, r44_1, r45_6, _, ⟨uv1, uv6, uhr1, rfl, uhs1, uhr6, rfl, uhs6, W, by rw [uk1]⟩, rfl⟩⟩
