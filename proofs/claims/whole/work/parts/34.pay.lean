/-! riches: the class pays winners alone, in the same order -/
def csel (C Pd : Int → Int) : Nat → Int
  | 0 => -1
  | p + 1 => if Pd p = 0 ∧ (csel C Pd p = -1 ∨ C p < C (csel C Pd p)) then p else csel C Pd p
theorem csel_s (C Pd : Int → Int) {x : Int} (h : 0 ≤ x) : csel C Pd (x + 1).toNat = if Pd x = 0 ∧ (csel C Pd x.toNat = -1 ∨ C x < C (csel C Pd x.toNat)) then x else csel C Pd x.toNat := by rw [tnS h, csel, tnC h]
theorem csel_at (C Pd : Int → Int) : ∀ m : Nat, (csel C Pd m = -1 ∧ ∀ p : Int, 0 ≤ p → p < m → Pd p ≠ 0) ∨ ((0 ≤ csel C Pd m ∧ csel C Pd m < m) ∧ Pd (csel C Pd m) = 0)
  | 0 => Or.inl ⟨rfl, fun p h1 h2 => absurd h2 (by omega)⟩
  | m + 1 => by
    rw [csel]
    by_cases q : Pd (m : Int) = 0 ∧ (csel C Pd m = -1 ∨ C (m : Int) < C (csel C Pd m))
    · rw [if_pos q]
      exact Or.inr ⟨by omega, q.1⟩
    · rw [if_neg q]
      rcases csel_at C Pd m with ⟨a, b⟩ | ⟨a, b⟩
      · refine Or.inl ⟨a, fun p h1 h2 => ?_⟩
        by_cases z : p = m
        · subst z; exact fun y => q ⟨y, Or.inl a⟩
        · exact b p h1 (by omega)
      · exact Or.inr ⟨by omega, b⟩
theorem csel_min (C Pd : Int → Int) : ∀ m : Nat, 0 ≤ csel C Pd m → ∀ p : Int, 0 ≤ p → p < m → Pd p = 0 → p ≠ csel C Pd m → C (csel C Pd m) < C p ∨ (C (csel C Pd m) = C p ∧ csel C Pd m < p)
  | 0 => fun h => absurd h (by show ¬ (0 : Int) ≤ -1; decide)
  | m + 1 => by
    intro h p h1 h2 h3 h4
    have at_ := csel_at C Pd m
    rw [csel] at h h4 ⊢
    by_cases q : Pd (m : Int) = 0 ∧ (csel C Pd m = -1 ∨ C (m : Int) < C (csel C Pd m))
    · rw [if_pos q] at h h4 ⊢
      have hp : p < m := by omega
      rcases at_ with ⟨a, b⟩ | ⟨a, b⟩
      · exact absurd h3 (b p h1 hp)
      · rcases q.2 with z | z
        · omega
        · by_cases y : p = csel C Pd m
          · subst y; exact Or.inl z
          · rcases csel_min C Pd m a.1 p h1 hp h3 y with w | w <;> (left; omega)
    · rw [if_neg q] at h h4 ⊢
      by_cases z : p = m
      · subst z
        rcases at_ with ⟨a, b⟩ | ⟨a, b⟩
        · omega
        · have : ¬ C (m : Int) < C (csel C Pd m) := fun y => q ⟨h3, Or.inr y⟩
          omega
      · exact csel_min C Pd m h p h1 (by omega) h3 h4
theorem csel_un {C Pd : Int → Int} {m : Nat} {x : Int} (hx : 0 ≤ x ∧ x < m) (h0 : Pd x = 0) (h : ∀ p : Int, 0 ≤ p → p < m → Pd p = 0 → p ≠ x → C x < C p ∨ (C x = C p ∧ x < p)) : csel C Pd m = x := by
  rcases csel_at C Pd m with ⟨a, b⟩ | ⟨a, b⟩
  · exact absurd h0 (b x hx.1 hx.2)
  · by_cases z : csel C Pd m = x
    · exact z
    · have h1 := csel_min C Pd m a.1 x hx.1 hx.2 h0 (fun y => z y.symm)
      have h2 := h (csel C Pd m) a.1 a.2 b z
      omega
theorem sel_min (C : Int → Int) (g : Int) : ∀ m : Nat, 0 ≤ sel C g m → ∀ p : Int, 0 ≤ p → p < m → ¬ bitq g p → p ≠ sel C g m → C (sel C g m) < C p ∨ (C (sel C g m) = C p ∧ sel C g m < p)
  | 0 => fun h => absurd h (by show ¬ (0 : Int) ≤ -1; decide)
  | m + 1 => by
    intro h p h1 h2 h3 h4
    have at_ := sel_at C g m
    rw [sel] at h h4 ⊢
    by_cases q : ¬ bitq g (m : Int) ∧ (sel C g m = -1 ∨ C (m : Int) < C (sel C g m))
    · rw [if_pos q] at h h4 ⊢
      have hp : p < m := by omega
      rcases at_ with ⟨a, b⟩ | ⟨a, a2, b⟩
      · have := b p.toNat (by omega)
        rw [tnC h1] at this
        exact absurd this h3
      · rcases q.2 with z | z
        · omega
        · by_cases y : p = sel C g m
          · subst y; exact Or.inl z
          · rcases sel_min C g m a p h1 hp h3 y with w | w <;> (left; omega)
    · rw [if_neg q] at h h4 ⊢
      by_cases z : p = m
      · subst z
        rcases at_ with ⟨a, b⟩ | ⟨a, a2, b⟩
        · omega
        · have : ¬ C (m : Int) < C (sel C g m) := fun y => q ⟨h3, Or.inr y⟩
          omega
      · exact sel_min C g m h p h1 (by omega) h3 h4
/-- the class's turns: riches, and who is paid -/
def cPy (C P R Pd : Int → Int) : Nat → (Int → Int) × (Int → Int)
  | 0 => (R, Pd)
  | k + 1 => if csel C (cPy C P R Pd k).2 8 = -1 then cPy C P R Pd k else (tkR P (cPy C P R Pd k).1 (csel C (cPy C P R Pd k).2 8), up (cPy C P R Pd k).2 (csel C (cPy C P R Pd k).2 8) 1)
theorem cPy_s (C P R Pd : Int → Int) {x : Int} (h : 0 ≤ x) : cPy C P R Pd (x + 1).toNat = if csel C (cPy C P R Pd x.toNat).2 8 = -1 then cPy C P R Pd x.toNat else (tkR P (cPy C P R Pd x.toNat).1 (csel C (cPy C P R Pd x.toNat).2 8), up (cPy C P R Pd x.toNat).2 (csel C (cPy C P R Pd x.toNat).2 8) 1) := by rw [tnS h, cPy]
theorem cPy_end {C P R Pd : Int → Int} {w : Nat} (h : ∀ p : Int, 0 ≤ p → p < 8 → (cPy C P R Pd w).2 p ≠ 0) : ∀ j : Nat, cPy C P R Pd (w + j) = cPy C P R Pd w
  | 0 => rfl
  | j + 1 => by
    have ih := cPy_end h j
    rw [show w + (j + 1) = w + j + 1 from rfl, cPy, ih]
    rcases csel_at C (cPy C P R Pd w).2 8 with ⟨a, b⟩ | ⟨a, b⟩
    · rw [if_pos a]
    · exact absurd b (h _ a.1 (by omega))
def zc (Pd : Int → Int) : Nat → Int
  | 0 => 0
  | n + 1 => zc Pd n + (if Pd n = 0 then 1 else 0)
theorem zc_rg (Pd : Int → Int) : ∀ n : Nat, 0 ≤ zc Pd n
  | 0 => by simp [zc]
  | n + 1 => by
    have := zc_rg Pd n
    rw [zc]; split <;> omega
theorem zc_up (Pd : Int → Int) (x : Int) (h : Pd x = 0) (hx : 0 ≤ x) : ∀ n : Nat, zc (up Pd x 1) n = zc Pd n - (if x < n then 1 else 0)
  | 0 => by rw [zc, zc, if_neg (by omega)]; rfl
  | n + 1 => by
    have ih := zc_up Pd x h hx n
    rw [zc, zc, ih]
    by_cases q : x = (n : Int)
    · subst q
      rw [up_s, if_neg (show ¬ (n : Int) < n by omega), if_neg (show ¬ (1 : Int) = 0 by decide), if_pos h, if_pos (show (n : Int) < ((n + 1 : Nat) : Int) by omega)]
      omega
    · rw [up_n _ _ (fun z => q z.symm)]
      by_cases y : x < n
      · rw [if_pos y, if_pos (show x < ((n + 1 : Nat) : Int) by omega)]; omega
      · rw [if_neg y, if_neg (show ¬ x < ((n + 1 : Nat) : Int) by omega)]; omega
theorem zc_W {E Pd : Int → Int} : ∀ n : Nat, (∀ p : Int, 0 ≤ p → p < n → (Pd p = 0 ↔ E p = 1)) → zc Pd n = rdW E n
  | 0, _ => rfl
  | n + 1, h => by
    rw [zc, rdW, zc_W n (fun p a b => h p a (by omega))]
    have := h n (by omega) (by omega)
    simp only [this]
theorem tk_in {P R : Int → Int} {n p : Int} {Q : Int → Int} (h : ∀ q, 0 ≤ q → q < n → R q = Q q) {x : Int} (hx : 0 ≤ x ∧ x < n) (hf : 0 ≤ P (5 * x + 4) ∧ P (5 * x + 4) < n) (hp : 0 ≤ p ∧ p < n) : tkR P R x p = tkR P Q x p := by
  have e1 := h p hp.1 hp.2
  have e2 := h x hx.1 hx.2
  have e3 := h _ hf.1 hf.2
  simp only [tkR, up, e1, e2, e3]
theorem tk_class {P R : Int → Int} {p : Int} (h : P (5 * p + 4) ≠ p) : up (up R p (R p + R (P (5 * p + 4)))) (P (5 * p + 4)) 0 = tkR P R p := by
  funext q
  unfold tkR
  simp only [up]
  by_cases a : q = p
  · subst a
    rw [if_neg (fun z => h z.symm), if_pos rfl, if_pos rfl, if_neg (fun z => h z.symm)]
  · rw [if_neg a, if_neg a]
theorem bit_or : ∀ g : Nat, g < 256 → ∀ x : Nat, x < 8 → ∀ p : Nat, p < 8 → (bitq ((g ||| 2 ^ x : Nat) : Int) (p : Int) ↔ bitq (g : Int) (p : Int) ∨ p = x) := by decide +kernel
theorem pcn_all : ∀ g : Nat, g < 256 → ∀ n : Nat, n < 9 → (pcn g = n ∧ g < 2 ^ n) → ∀ p : Nat, p < n → bitq (g : Int) (p : Int) := by decide +kernel
theorem lvG_lt (C : Int → Int) (n : Nat) (hn : n ≤ 8) : ∀ k : Nat, k ≤ n → (lvG C n k).toNat < 2 ^ n
  | 0, _ => by show 0 < 2 ^ n; exact Nat.two_pow_pos n
  | k + 1, hk => by
    have ih := lvG_lt C n hn k (by omega)
    obtain ⟨a1, a2, a3, a4⟩ := lvG_at C n hn k (by omega)
    obtain ⟨b1, b2, b3⟩ := a4 (by omega)
    show ((((lvG C n k).toNat ||| 2 ^ (sel C (lvG C n k) n).toNat : Nat) : Int)).toNat < 2 ^ n
    rw [Int.toNat_natCast]
    exact Nat.or_lt_two_pow ih (Nat.pow_lt_pow_right (by decide) (by unfold lvN at *; omega))
theorem pay_sim {C D E P R0 R Pd : Int → Int} {n : Nat} (hn : n ≤ 8) (hD : ∀ p : Int, 0 ≤ p → p < n → E p = 1 → D p = C p) (hF : ∀ p : Int, 0 ≤ p → p < n → E p = 1 → 0 ≤ P (5 * p + 4) ∧ P (5 * p + 4) < n) (hR : ∀ p : Int, 0 ≤ p → p < n → R p = R0 p) (hR2 : ∀ p : Int, (n : Int) ≤ p → p < 8 → R p = 0) (hPd : ∀ p : Int, 0 ≤ p → p < 8 → (Pd p = 0 ↔ p < n ∧ E p = 1)) :
    ∀ k : Nat, k ≤ n → ∃ w : Nat, (∀ p : Int, 0 ≤ p → p < n → (cPy D P R Pd w).1 p = lvR C E P R0 n k p) ∧ (∀ p : Int, (n : Int) ≤ p → p < 8 → (cPy D P R Pd w).1 p = 0) ∧ (∀ p : Int, 0 ≤ p → p < 8 → ((cPy D P R Pd w).2 p = 0 ↔ p < n ∧ E p = 1 ∧ ¬ bitq (lvG C n k) p)) ∧ zc (cPy D P R Pd w).2 8 + w = zc Pd 8
  | 0, _ => ⟨0, hR, hR2, fun p a b => by
      have h0 : ¬ bitq (lvG C n 0) p := by show ¬ (0 : Int) / 2 ^ p.toNat % 2 = 1; rw [Int.zero_ediv]; decide
      have := hPd p a b
      show Pd p = 0 ↔ _
      rw [this]
      exact ⟨fun z => ⟨z.1, z.2, h0⟩, fun z => ⟨z.1, z.2.1⟩⟩, by show zc Pd 8 + ((0 : Nat) : Int) = zc Pd 8; omega⟩
  | k + 1, hk => by
    obtain ⟨w, i1, i2, i3, i4⟩ := pay_sim hn hD hF hR hR2 hPd k (by omega)
    obtain ⟨a1, a2, a3, a4⟩ := lvG_at C n hn k (by omega)
    obtain ⟨b1, b2, b3⟩ := a4 (by omega)
    have hg : lvG C n (k + 1) = (((lvG C n k).toNat ||| 2 ^ (lvN C n k).toNat : Nat) : Int) := rfl
    have hbit : ∀ p : Int, 0 ≤ p → p < 8 → (bitq (lvG C n (k + 1)) p ↔ bitq (lvG C n k) p ∨ p = lvN C n k) := fun p h1 h2 => by
      have h := bit_or (lvG C n k).toNat (by omega) (lvN C n k).toNat (by omega) p.toNat (by omega)
      rw [tnC h1, tnC a1] at h
      rw [hg, h]
      exact or_congr Iff.rfl (by omega)
    by_cases q : E (lvN C n k) = 1
    · have hs : csel D (cPy D P R Pd w).2 8 = lvN C n k := by
        refine csel_un ⟨b1, by omega⟩ ((i3 _ b1 (by omega)).mpr ⟨b2, q, b3⟩) (fun p h1 h2 h3 h4 => ?_)
        obtain ⟨c1, c2, c3⟩ := (i3 p h1 h2).mp h3
        rw [hD _ b1 b2 q, hD p h1 c1 c2]
        exact sel_min C (lvG C n k) n b1 p h1 c1 c3 h4
      refine ⟨w + 1, ?_, ?_, ?_, ?_⟩
      all_goals rw [cPy, hs, if_neg (by omega)]
      · intro p h1 h2
        rw [lvR, if_pos q]
        exact tk_in i1 ⟨b1, b2⟩ (hF _ b1 b2 q) ⟨h1, h2⟩
      · intro p h1 h2
        have hf := hF _ b1 b2 q
        show tkR P (cPy D P R Pd w).1 (lvN C n k) p = 0
        unfold tkR
        rw [up_n _ _ (by omega), up_n _ _ (by omega)]
        exact i2 p h1 h2
      · intro p h1 h2
        show up (cPy D P R Pd w).2 (lvN C n k) 1 p = 0 ↔ _
        by_cases z : p = lvN C n k
        · rw [z, up_s]
          exact ⟨fun y => absurd y (by decide), fun y => absurd ((hbit _ b1 (by omega)).mpr (Or.inr rfl)) y.2.2⟩
        · rw [up_n _ _ z, i3 p h1 h2, hbit p h1 h2]
          exact ⟨fun y => ⟨y.1, y.2.1, fun x => x.elim y.2.2 z⟩, fun y => ⟨y.1, y.2.1, fun x => y.2.2 (Or.inl x)⟩⟩
      · show zc (up (cPy D P R Pd w).2 (lvN C n k) 1) 8 + ((w + 1 : Nat) : Int) = zc Pd 8
        rw [zc_up _ _ ((i3 _ b1 (by omega)).mpr ⟨b2, q, b3⟩) b1, if_pos (by omega)]
        omega
    · refine ⟨w, fun p h1 h2 => by rw [lvR, if_neg q]; exact i1 p h1 h2, i2, fun p h1 h2 => ?_, i4⟩
      rw [i3 p h1 h2, hbit p h1 h2]
      refine ⟨fun y => ⟨y.1, y.2.1, fun x => x.elim y.2.2 (fun e => q (e ▸ y.2.1))⟩, fun y => ⟨y.1, y.2.1, fun x => y.2.2 (Or.inl x)⟩⟩
theorem pay_ok {C D E P R0 R Pd : Int → Int} {n : Nat} (hn : n ≤ 8) (hD : ∀ p : Int, 0 ≤ p → p < n → E p = 1 → D p = C p) (hF : ∀ p : Int, 0 ≤ p → p < n → E p = 1 → 0 ≤ P (5 * p + 4) ∧ P (5 * p + 4) < n) (hR : ∀ p : Int, 0 ≤ p → p < n → R p = R0 p) (hR2 : ∀ p : Int, (n : Int) ≤ p → p < 8 → R p = 0) (hPd : ∀ p : Int, 0 ≤ p → p < 8 → (Pd p = 0 ↔ p < n ∧ E p = 1)) {w : Int} (hw : w = zc Pd 8) (p : Int) (h1 : 0 ≤ p) (h2 : p < 8) : (cPy D P R Pd w.toNat).1 p = if p < n then lvR C E P R0 n n p else 0 := by
  obtain ⟨v, i1, i2, i3, i4⟩ := pay_sim hn hD hF hR hR2 hPd n (Nat.le_refl n)
  obtain ⟨a1, a2, a3, -⟩ := lvG_at C n hn n (Nat.le_refl n)
  have hall := pcn_all (lvG C n n).toNat (by omega) n (by omega) ⟨a3, lvG_lt C n hn n (Nat.le_refl n)⟩
  have he : ∀ p : Int, 0 ≤ p → p < 8 → (cPy D P R Pd v).2 p ≠ 0 := fun p h1 h2 z => by
    obtain ⟨c1, c2, c3⟩ := (i3 p h1 h2).mp z
    have := hall p.toNat (by omega)
    rw [tnC h1, tnC a1] at this
    exact c3 this
  have hz := zc_rg (cPy D P R Pd v).2 8
  have e : cPy D P R Pd w.toNat = cPy D P R Pd v := by
    rw [show w.toNat = v + (w.toNat - v) by omega]
    exact cPy_end he _
  rw [e]
  by_cases q : p < n
  · rw [if_pos q]; exact i1 p h1 q
  · rw [if_neg q]; exact i2 p (by omega) h2
