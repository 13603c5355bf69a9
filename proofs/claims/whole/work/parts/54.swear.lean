/-! the fewest towns that must swear -/
abbrev sub8 (w s : Nat) : Prop := ∀ t : Nat, t < 8 → bitq (w : Int) (t : Int) → bitq (s : Int) (t : Int)
theorem en_bit (T V P : Int → Int) (np s p : Int) : enO (up T 5 s) V P np p = 1 ↔ enO (up T 5 0) V P np p = 1 ∧ ¬ bitq s (P (5 * P (5 * p + 4))) := by
  have h : hA (up T 5 s) V = hA (up T 5 0) V := rfl
  have l : lwA (up T 5 s) V = lwA (up T 5 0) V := rfl
  have c : coO (up T 5 s) V P np = coO (up T 5 0) V P np := rfl
  have z : ¬ bitq 0 (P (5 * P (5 * p + 4))) := by show ¬ (0 : Int) / 2 ^ _ % 2 = 1; rw [Int.zero_ediv]; decide
  unfold enO enC
  rw [h, l, c, up_s, up_s]
  by_cases q1 : coO (up T 5 0) V P np p = 9999
  · rw [if_pos q1, if_pos q1]; exact ⟨fun y => absurd y (by decide), fun y => absurd y.1 (by decide)⟩
  · rw [if_neg q1, if_neg q1]
    by_cases q2 : lwA (up T 5 0) V (P (5 * P (5 * p + 4))) ≤ coO (up T 5 0) V P np p
    · rw [if_pos (Or.inl q2), if_pos (Or.inl q2)]; exact ⟨fun y => absurd y (by decide), fun y => absurd y.1 (by decide)⟩
    · rw [if_neg (show ¬ (lwA (up T 5 0) V (P (5 * P (5 * p + 4))) ≤ coO (up T 5 0) V P np p ∨ bitq 0 (P (5 * P (5 * p + 4)))) from fun y => y.elim q2 z)]
      by_cases q3 : bitq s (P (5 * P (5 * p + 4)))
      · rw [if_pos (Or.inr q3)]; exact ⟨fun y => absurd y (by decide), fun y => absurd q3 y.2⟩
      · rw [if_neg (show ¬ (lwA (up T 5 0) V (P (5 * P (5 * p + 4))) ≤ coO (up T 5 0) V P np p ∨ bitq s (P (5 * P (5 * p + 4)))) from fun y => y.elim q2 q3)]
        exact ⟨fun y => ⟨y, q3⟩, fun y => y.1⟩
theorem wnO_0 (T V P : Int → Int) (np : Int) : ∀ n : Nat, wnO T V P np n = 0 ↔ ∀ p : Nat, p < n → enO T V P np p ≠ 1
  | 0 => ⟨fun _ p h => absurd h (Nat.not_lt_zero p), fun _ => rfl⟩
  | n + 1 => by
    have ih := wnO_0 T V P np n
    have r := wnO_rg T V P np n
    rw [wnO]
    by_cases q : enO T V P np n = 1
    · rw [if_pos q]
      exact ⟨fun z => by omega, fun z => absurd q (z n (Nat.lt_succ_self n))⟩
    · rw [if_neg q, Int.add_zero, ih]
      refine ⟨fun z p hp => ?_, fun z p hp => z p (by omega)⟩
      by_cases e : p = n
      · rw [e]; exact q
      · exact z p (by omega)
theorem twS_bit {E A S : Int → Int} (h : ∀ j, 0 ≤ j → j < 8 → E j = 1 → 0 ≤ A (S j) ∧ A (S j) ≤ 7) : ∀ n : Nat, n ≤ 8 → ∀ t : Nat, t < 8 → (bitq (twS E A S n : Int) (t : Int) ↔ ∃ p : Nat, p < n ∧ E p = 1 ∧ A (S p) = t)
  | 0, _, t, _ => ⟨fun z => by exfalso; revert z; show ¬ (0 : Int) / 2 ^ _ % 2 = 1; rw [Int.zero_ediv]; decide, fun ⟨p, hp, _⟩ => absurd hp (Nat.not_lt_zero p)⟩
  | n + 1, hn, t, ht => by
    have ih := twS_bit h n (by omega) t ht
    have lt := twS_lt h n (by omega)
    rw [twS]
    by_cases q : E n = 1
    · have hq := h n (by omega) (by omega) q
      rw [if_pos q, bit_or (twS E A S n) (by omega) (A (S n)).toNat (by omega) t ht, ih]
      constructor
      · rintro (⟨p, a, b⟩ | e)
        · exact ⟨p, by omega, b⟩
        · exact ⟨n, Nat.lt_succ_self n, q, by omega⟩
      · rintro ⟨p, a, b, c⟩
        by_cases e : p = n
        · subst e; right; omega
        · left; exact ⟨p, by omega, b, c⟩
    · rw [if_neg q, ih]
      constructor
      · rintro ⟨p, a, b⟩; exact ⟨p, by omega, b⟩
      · rintro ⟨p, a, b, c⟩
        by_cases e : p = n
        · subst e; exact absurd b q
        · exact ⟨p, by omega, b, c⟩
theorem sub_and : ∀ w : Nat, w < 256 → ∀ s : Nat, s < 256 → (w &&& s = w) → pcn w ≤ pcn s ∧ (pcn s ≤ pcn w → s = w) := by decide +kernel
theorem bit_tb (w t : Nat) : bitq (w : Int) (t : Int) ↔ w.testBit t = true := by
  show (w : Int) / 2 ^ ((t : Int).toNat) % 2 = 1 ↔ _
  rw [Int.toNat_natCast, Nat.testBit_eq_decide_div_mod_eq, decide_eq_true_eq]
  have : ((w : Int) / 2 ^ t % 2) = ((w / 2 ^ t % 2 : Nat) : Int) := by simp
  rw [this]
  omega
theorem sub_pcn {w s : Nat} (hw : w < 256) (hs : s < 256) (h : sub8 w s) : pcn w ≤ pcn s ∧ (pcn s ≤ pcn w → s = w) := by
  refine sub_and w hw s hs (Nat.eq_of_testBit_eq fun i => ?_)
  rw [Nat.testBit_and]
  by_cases q : i < 8
  · have := h i q
    rw [bit_tb, bit_tb] at this
    cases e : w.testBit i with
    | false => rfl
    | true => rw [this e]; rfl
  · have : w.testBit i = false := Nat.testBit_lt_two_pow (Nat.lt_of_lt_of_le hw ((Nat.pow_le_pow_right (by decide) (show 8 ≤ i by omega) : 2 ^ 8 ≤ 2 ^ i)))
    rw [this]; rfl
theorem sw_valid {T c A G K H S : Int → Int} (hT : tOK T) (hc : wB c) {np : Int} (hP : (0 ≤ np ∧ np ≤ 8) ∧ pOK (tP A G K H S) np) {s : Nat} (hs : s < 256) : wns (up T 5 (s : Int)) (cW c) (tP A G K H S) np = 0 ↔ sub8 (twS (enX (up T 5 0) (cW c) (tP A G K H S) np) A S 8) s := by
  have win : ∀ j, 0 ≤ j → j < 8 → enX (up T 5 0) (cW c) (tP A G K H S) np j = 1 → 0 ≤ A (S j) ∧ A (S j) ≤ 7 := fun j a b z => by
    have h1 := enX_win (tOK_5 hT (v := 0) (by omega)) hc hP.2 ⟨a, b⟩ z
    have h2 := tP_np hP.2 (q := S j) (by omega) (by omega)
    omega
  unfold wns
  rw [wnO_0]
  constructor
  · intro h t ht hb
    obtain ⟨p, p1, p2, p3⟩ := (twS_bit win 8 (Nat.le_refl 8) t ht).mp hb
    have h1 := enX_win (tOK_5 hT (v := 0) (by omega)) hc hP.2 (p := (p : Int)) (by omega) p2
    have h2 := h p (by omega)
    by_cases q : bitq (s : Int) (t : Int)
    · exact q
    · exact absurd ((en_bit T (cW c) (tP A G K H S) np s p).mpr ⟨h1.2.1, by rw [tP_4, tP_0, p3]; exact q⟩) h2
  · intro h p hp he
    have h1 := (en_bit T (cW c) (tP A G K H S) np s p).mp he
    have e1 : enX (up T 5 0) (cW c) (tP A G K H S) np p = 1 := by unfold enX; rw [if_pos (by omega)]; exact h1.1
    have w := win p (by omega) (by omega) e1
    have b := h (A (S p)).toNat (by omega) ((twS_bit win 8 (Nat.le_refl 8) _ (by omega)).mpr ⟨p, by omega, e1, by omega⟩)
    have h2 := h1.2
    rw [tP_4, tP_0] at h2
    rw [tnC w.1] at b
    exact h2 b
theorem sw_loop {T V P : Int → Int} {np : Int} {w : Nat} (hw : w < 256) (hv : ∀ s : Nat, s < 256 → (wns (up T 5 (s : Int)) V P np = 0 ↔ sub8 w s)) : ∀ k : Nat, k ≤ 255 → ∃ x : Nat, x < 256 ∧ swS T V P np k = x ∧ sub8 w x ∧ (255 - k ≤ w → x = w)
  | 0, _ => ⟨255, by decide, rfl, fun t ht _ => by
      have : ∀ t : Nat, t < 8 → bitq ((255 : Nat) : Int) (t : Int) := by decide +kernel
      exact this t ht, fun h => by omega⟩
  | k + 1, hk => by
    obtain ⟨x, x1, x2, x3, x4⟩ := sw_loop hw hv k (by omega)
    have e : (254 - (k : Int)) = ((254 - k : Nat) : Int) := by omega
    rw [swS, x2, e, Int.toNat_natCast, Int.toNat_natCast]
    have v := hv (254 - k) (by omega)
    by_cases q : pcn (254 - k) ≤ pcn x ∧ wns (up T 5 ((254 - k : Nat) : Int)) V P np = 0
    · rw [if_pos q]
      have sv := v.mp q.2
      refine ⟨254 - k, by omega, rfl, sv, fun h => ?_⟩
      by_cases y : 255 - k ≤ w
      · have xw := x4 y
        have := (sub_pcn hw (by omega) sv).2 (by rw [xw] at q; exact q.1)
        omega
      · omega
    · rw [if_neg q]
      refine ⟨x, x1, rfl, x3, fun h => ?_⟩
      by_cases y : 255 - k ≤ w
      · exact x4 y
      · have e2 : w = 254 - k := by omega
        exfalso
        refine q ⟨?_, v.mpr (by rw [← e2]; exact fun _ _ z => z)⟩
        rw [← e2]
        exact (sub_pcn hw x1 x3).1
theorem sw_ok {T c A G K H S : Int → Int} (hT : tOK T) (hc : wB c) {np : Int} (hP : (0 ≤ np ∧ np ≤ 8) ∧ pOK (tP A G K H S) np) : swS T (cW c) (tP A G K H S) np 255 = (twS (enX (up T 5 0) (cW c) (tP A G K H S) np) A S 8 : Int) ∧ pcw (twS (enX (up T 5 0) (cW c) (tP A G K H S) np) A S 8) = pcn (swS T (cW c) (tP A G K H S) np 255).toNat := by
  have win : ∀ j, 0 ≤ j → j < 8 → enX (up T 5 0) (cW c) (tP A G K H S) np j = 1 → 0 ≤ A (S j) ∧ A (S j) ≤ 7 := fun j a b z => by
    have h1 := enX_win (tOK_5 hT (v := 0) (by omega)) hc hP.2 ⟨a, b⟩ z
    have h2 := tP_np hP.2 (q := S j) (by omega) (by omega)
    omega
  have lt := twS_lt win 8 (Nat.le_refl 8)
  obtain ⟨x, x1, x2, x3, x4⟩ := sw_loop (T := T) (V := cW c) (P := tP A G K H S) (np := np) (w := twS (enX (up T 5 0) (cW c) (tP A G K H S) np) A S 8) (by omega) (fun s hs => sw_valid hT hc hP hs) 255 (Nat.le_refl 255)
  have e := x4 (by omega)
  rw [x2, e]
  refine ⟨rfl, ?_⟩
  rw [Int.toNat_natCast]
  unfold pcw
  rw [Nat.mod_eq_of_lt (by omega), Nat.div_eq_of_lt (by omega)]
  rfl
