/-! Chance: paths traced, sets widened -/
def bq (g : Int → Int) (S : Int) : Prop := (g (S / 64)).toNat.testBit (S % 64).toNat = true
abbrev gOK (g : Int → Int) : Prop := ∀ w, 0 ≤ w → w < 64 → 0 ≤ g w ∧ g w < 18446744073709551616
def nxt (F G : Int → Int) (t r : Int) : Int := if F r = t then G r else F r
/-- a set with one more in it -/
def sb (s r : Int) : Int := ((s.toNat ||| ((2 : Int) ^ r.toNat).toNat : Nat) : Int)
def trS (F G D : Int → Int) (nr go : Int) : Nat → Int → Int → Int → Int → Int → Prop
  | 0, _, _, _, _, _ => False
  | f + 1, t, dl, s, ps, S => 0 ≤ dl ∧ ((t = go ∧ S = s) ∨ (t ≠ go ∧ ∃ r, 0 ≤ r ∧ r < nr ∧ (F r = t ∨ G r = t) ∧ ¬ bitq ps (nxt F G t r) ∧ trS F G D nr go f (nxt F G t r) (dl - D r) (sb s r) (sb ps (nxt F G t r)) S))
def trA (F G D : Int → Int) (nr go : Int) (f : Nat) (t dl s ps r S : Int) : Prop := (F r = t ∨ G r = t) ∧ ¬ bitq ps (nxt F G t r) ∧ trS F G D nr go f (nxt F G t r) (dl - D r) (sb s r) (sb ps (nxt F G t r)) S
theorem tr_n1 {F G D : Int → Int} {nr go : Int} {f : Nat} {t dl s ps r S : Int} (h1 : F r ≠ t) (h2 : G r ≠ t) : ¬ trA F G D nr go f t dl s ps r S := fun z => z.1.elim h1 h2
theorem tr_n2 {F G D : Int → Int} {nr go : Int} {f : Nat} {t dl s ps r S y : Int} (hy : nxt F G t r = y) (hb : bitq ps y) : ¬ trA F G D nr go f t dl s ps r S := fun z => z.2.1 (by rw [hy]; exact hb)
theorem tr_y {F G D : Int → Int} {nr go : Int} {f : Nat} {t dl s ps r S y : Int} (h : F r = t ∨ G r = t) (hy : nxt F G t r = y) (hb : ¬ bitq ps y) : trS F G D nr go f y (dl - D r) (sb s r) (sb ps y) S ↔ trA F G D nr go f t dl s ps r S := by
  subst hy
  exact ⟨fun z => ⟨h, hb, z⟩, fun z => z.2.2⟩
theorem tr_sk {P : Int → Prop} {x y : Int} (hy : y = x + 1) (h : ¬ P x) : (∃ r, 0 ≤ r ∧ r < x ∧ P r) ↔ ∃ r, 0 ≤ r ∧ r < y ∧ P r := by
  subst hy
  constructor
  · rintro ⟨r, a, b, c⟩; exact ⟨r, a, by omega, c⟩
  · rintro ⟨r, a, b, c⟩
    refine ⟨r, a, ?_, c⟩
    by_cases q : r = x
    · subst q; exact absurd c h
    · omega
theorem tr_ad {A Q : Prop} {P : Int → Prop} {x y : Int} (hy : y = x + 1) (h0 : 0 ≤ x) (h : Q ↔ P x) : ((A ∨ ∃ r, 0 ≤ r ∧ r < x ∧ P r) ∨ Q) ↔ (A ∨ ∃ r, 0 ≤ r ∧ r < y ∧ P r) := by
  subst hy
  constructor
  · rintro ((a | ⟨r, a, b, c⟩) | q)
    · exact Or.inl a
    · exact Or.inr ⟨r, a, by omega, c⟩
    · exact Or.inr ⟨x, h0, by omega, h.mp q⟩
  · rintro (a | ⟨r, a, b, c⟩)
    · exact Or.inl (Or.inl a)
    · by_cases q : r = x
      · subst q; exact Or.inr (h.mpr c)
      · exact Or.inl (Or.inr ⟨r, a, by omega, c⟩)
theorem tr_neg {F G D : Int → Int} {nr go : Int} {f : Nat} {t dl s ps S : Int} (h : dl < 0) : ¬ trS F G D nr go f t dl s ps S := by
  cases f with
  | zero => exact id
  | succ f => exact fun z => absurd z.1 (by omega)
theorem tr_deep {F G D : Int → Int} {nr go dp : Int} {t dl s ps S : Int} (h : 8 ≤ dp) : ¬ trS F G D nr go (8 - dp).toNat t dl s ps S := by
  rw [show (8 - dp).toNat = 0 by omega]
  exact id
theorem tr_goal {F G D : Int → Int} {nr go dp : Int} {t dl s ps S : Int} (h : dp < 8) (h0 : 0 ≤ dl) (hg : t = go) : S = s ↔ trS F G D nr go (8 - dp).toNat t dl s ps S := by
  rw [show (8 - dp).toNat = (8 - (dp + 1)).toNat + 1 by omega]
  exact ⟨fun z => ⟨h0, Or.inl ⟨hg, z⟩⟩, fun z => z.2.elim (fun q => q.2) (fun q => absurd hg q.1)⟩
theorem tr_go {F G D : Int → Int} {nr go dp : Int} {t dl s ps S : Int} (h : dp < 8) (h0 : 0 ≤ dl) (hg : t ≠ go) : (∃ r, 0 ≤ r ∧ r < nr ∧ trA F G D nr go (8 - (dp + 1)).toNat t dl s ps r S) ↔ trS F G D nr go (8 - dp).toNat t dl s ps S := by
  rw [show (8 - dp).toNat = (8 - (dp + 1)).toNat + 1 by omega]
  exact ⟨fun z => ⟨h0, Or.inr ⟨hg, z⟩⟩, fun z => z.2.elim (fun q => absurd q.1 hg) (fun q => q.2)⟩
theorem trd {F G D : Int → Int} {nr : Int} (hR : rdOK (tR F G D) nr) {r : Int} (h0 : 0 ≤ r) (h : r < nr) : (0 ≤ F r ∧ F r ≤ 7) ∧ (0 ≤ G r ∧ G r ≤ 7) ∧ (1 ≤ D r ∧ D r ≤ 9) ∧ F r ≠ G r := by
  have := hR r h0 h
  rw [tR_0, tR_1, tR_2] at this
  exact this
theorem p2_64 : ∀ n : Nat, n < 64 → 1 ≤ (2 : Int) ^ n ∧ (2 : Int) ^ n < 18446744073709551616 := by decide +kernel
theorem or_w {x y : Nat} (hx : x < 18446744073709551616) (hy : y < 18446744073709551616) : x ||| y < 18446744073709551616 := Nat.or_lt_two_pow (n := 64) hx hy
theorem sb_rg {s r : Int} (n : Nat) (hs : 0 ≤ s ∧ s < 2 ^ n) (hr : 0 ≤ r ∧ r < n) : 0 ≤ sb s r ∧ sb s r < 2 ^ n := by
  unfold sb
  rw [p2_nat]
  have e : ((2 : Int) ^ n) = ((2 ^ n : Nat) : Int) := by simp
  have h1 : 2 ^ r.toNat < 2 ^ n := Nat.pow_lt_pow_right (by decide) (by omega)
  have := Nat.or_lt_two_pow (x := s.toNat) (y := 2 ^ r.toNat) (n := n) (by omega) h1
  omega
theorem tr_set {g : Int → Int} (hg : gOK g) {s : Int} (hs : 0 ≤ s ∧ s < 4096) {v : Int} (hv : v = (((g (s / 64)).toNat ||| ((2 : Int) ^ (s % 64).toNat).toNat : Nat) : Int)) : gOK (up g (s / 64) v) ∧ ∀ S, 0 ≤ S → S < 4096 → (bq (up g (s / 64) v) S ↔ bq g S ∨ S = s) := by
  rw [p2_nat] at hv
  have h1 := hg (s / 64) (by omega) (by omega)
  have h2 : 2 ^ (s % 64).toNat < 18446744073709551616 := Nat.pow_lt_pow_right (a := 2) (n := 64) (by decide) (by omega)
  have h3 := or_w (x := (g (s / 64)).toNat) (by omega) h2
  constructor
  · intro w a b
    by_cases q : w = s / 64
    · rw [q, up_s]; omega
    · rw [up_n _ _ q]; exact hg w a b
  · intro S a b
    unfold bq
    by_cases q : S / 64 = s / 64
    · rw [q, up_s, hv, Int.toNat_natCast, Nat.testBit_or, Nat.testBit_two_pow]
      simp only [Bool.or_eq_true, decide_eq_true_eq]
      constructor
      · rintro (z | z)
        · exact Or.inl z
        · exact Or.inr (by omega)
      · rintro (z | z)
        · exact Or.inl z
        · exact Or.inr (by omega)
    · rw [up_n _ _ q]
      exact ⟨Or.inl, fun z => z.elim id (fun y => absurd (congrArg (· / 64) y) q)⟩
/-! one road more -/
def wlo (rd y : Int) : Int := ((y.toNat ||| ((((y.toNat &&& (tLack rd).toNat : Nat) : Int) * 2 ^ ((2 : Int) ^ rd.toNat).toNat)).toNat : Nat) : Int)
def whi (y z : Int) : Int := ((y.toNat ||| z.toNat : Nat) : Int)
def wdn (rd : Int) (g : Int → Int) (x v : Int) : Int := if rd < 6 then (if v < x then wlo rd (g v) else g v) else if v.toNat.testBit (rd - 6).toNat = true ∧ v - 2 ^ (rd - 6).toNat < x then whi (g v) (g (v - 2 ^ (rd - 6).toNat)) else g v
theorem lack_6 : ∀ r : Nat, r < 6 → 0 ≤ tLack r ∧ tLack r < 18446744073709551616 ∧ (tLack r).toNat * 2 ^ 2 ^ r < 18446744073709551616 ∧ ∀ b : Nat, b < 64 → ((2 ^ r ≤ b ∧ (tLack r).toNat.testBit (b - 2 ^ r) = true) ↔ b.testBit r = true) := by decide +kernel
theorem wl_rg {rd y : Int} (hr : 0 ≤ rd ∧ rd < 6) : 0 ≤ ((y.toNat &&& (tLack rd).toNat : Nat) : Int) * 2 ^ ((2 : Int) ^ rd.toNat).toNat ∧ ((y.toNat &&& (tLack rd).toNat : Nat) : Int) * 2 ^ ((2 : Int) ^ rd.toNat).toNat < 18446744073709551616 := by
  obtain ⟨r, rfl⟩ : ∃ r : Nat, rd = r := ⟨rd.toNat, by omega⟩
  rw [p2_nat, Int.toNat_natCast]
  have h1 := (lack_6 r (by omega)).2.2.1
  have h2 : y.toNat &&& (tLack r).toNat ≤ (tLack r).toNat := Nat.and_le_right
  have h3 := Nat.mul_le_mul_right (2 ^ 2 ^ r) h2
  have e : (((y.toNat &&& (tLack r).toNat : Nat) : Int) * 2 ^ 2 ^ r) = (((y.toNat &&& (tLack r).toNat) * 2 ^ 2 ^ r : Nat) : Int) := by simp
  rw [e]
  omega
theorem p2_6 : ∀ n : Nat, n < 6 → 1 ≤ (2 : Int) ^ n ∧ (2 : Int) ^ n ≤ 32 := by decide +kernel
theorem bit_6 : ∀ x : Nat, x < 64 → ∀ q : Nat, q < 6 → (x ||| 2 ^ q) < 64 ∧ (x.testBit q = true → x ||| 2 ^ q = x ∧ 2 ^ q ≤ x ∧ (x - 2 ^ q).testBit q = false) ∧ (x.testBit q = false → x ||| 2 ^ q = x + 2 ^ q ∧ (x + 2 ^ q).testBit q = true) := by decide +kernel
theorem or_self_i {y : Int} (h : 0 ≤ y) : whi y y = y := by unfold whi; rw [Nat.or_self]; omega
theorem wdn_0 {rd : Int} (hr : 0 ≤ rd ∧ rd < 12) (g : Int → Int) {v : Int} (h : 0 ≤ v ∧ v < 64) : g v = wdn rd g 0 v := by
  unfold wdn
  split
  · rw [if_neg (by omega)]
  · rw [if_neg]
    intro z
    have := (bit_6 v.toNat (by omega) (rd - 6).toNat (by omega)).2.1 z.1
    have e : ((2 : Int) ^ (rd - 6).toNat) = ((2 ^ (rd - 6).toNat : Nat) : Int) := by simp
    omega
theorem wdn_lo {rd : Int} (hr : 0 ≤ rd ∧ rd < 6) {g r r' : Int → Int} {x y : Int} (hx : 0 ≤ x ∧ x < 64) (hy : y = x + 1) (h : ∀ v, 0 ≤ v → v < 64 → r v = wdn rd g x v) (hr' : r' = up r x (((r x).toNat ||| (((((r x).toNat &&& (tLack rd).toNat : Nat) : Int) * 2 ^ ((2 : Int) ^ rd.toNat).toNat)).toNat : Nat) : Int)) : ∀ v, 0 ≤ v → v < 64 → r' v = wdn rd g y v := by
  subst hy hr'
  intro v a b
  have h1 := h v a b
  have h2 := h x hx.1 hx.2
  unfold wdn at h1 h2 ⊢
  rw [if_pos hr.2] at h1 h2 ⊢
  rw [if_neg (by omega)] at h2
  by_cases q : v = x
  · rw [q, up_s, h2, if_pos (by omega)]; rfl
  · rw [up_n _ _ q, h1]
    by_cases p : v < x
    · rw [if_pos p, if_pos (by omega)]
    · rw [if_neg p, if_neg (by omega)]
theorem wdn_hi {rd : Int} (hr : 6 ≤ rd ∧ rd < 12) {g r r' : Int → Int} (hg : gOK g) {x y : Int} (hx : 0 ≤ x ∧ x < 64) (hy : y = x + 1) (h : ∀ v, 0 ≤ v → v < 64 → r v = wdn rd g x v) (hr' : r' = up r (((x.toNat ||| ((2 : Int) ^ (rd - 6).toNat).toNat : Nat) : Int)) (((r ((x.toNat ||| ((2 : Int) ^ (rd - 6).toNat).toNat : Nat) : Int)).toNat ||| (r x).toNat : Nat) : Int)) : ∀ v, 0 ≤ v → v < 64 → r' v = wdn rd g y v := by
  subst hy hr'
  intro v a b
  rw [p2_nat]
  have e : ((2 : Int) ^ (rd - 6).toNat) = ((2 ^ (rd - 6).toNat : Nat) : Int) := by simp
  have b0 := bit_6 x.toNat (by omega) (rd - 6).toNat (by omega)
  have bv := bit_6 v.toNat (by omega) (rd - 6).toNat (by omega)
  have h1 := h v a b
  have h2 := h x hx.1 hx.2
  unfold wdn at h1 h2 ⊢
  rw [if_neg (by omega), e] at h1 h2 ⊢
  generalize hp : 2 ^ (rd - 6).toNat = p at *
  cases hb : x.toNat.testBit (rd - 6).toNat with
  | true =>
    obtain ⟨c1, c2, c3⟩ := b0.2.1 hb
    rw [c1, show ((x.toNat : Nat) : Int) = x by omega]
    have c4 : 0 ≤ r x := by
      rw [h2]
      split
      · exact Int.natCast_nonneg _
      · exact (hg x hx.1 hx.2).1
    have c5 : up r x ((((r x).toNat ||| (r x).toNat : Nat)) : Int) v = r v := by
      by_cases q : v = x
      · rw [q, up_s]; exact or_self_i c4
      · rw [up_n _ _ q]
    rw [c5, h1]
    by_cases w : v.toNat.testBit (rd - 6).toNat = true ∧ v - (p : Int) < x
    · rw [if_pos w, if_pos ⟨w.1, by omega⟩]
    · rw [if_neg w, if_neg]
      intro z
      have d := bv.2.1 z.1
      apply w
      refine ⟨z.1, ?_⟩
      by_cases u : v - (p : Int) = x
      · exfalso
        rw [show v.toNat - p = x.toNat by omega, hb] at d
        exact absurd d.2.2 (by decide)
      · omega
  | false =>
    obtain ⟨c1, c2⟩ := b0.2.2 hb
    rw [c1]
    rw [if_neg (by rw [hb]; exact fun z => absurd z.1 (by decide))] at h2
    have c3 := b0.1
    rw [c1] at c3
    have h3 := h ((x.toNat + p : Nat) : Int) (by omega) (by omega)
    unfold wdn at h3
    rw [if_neg (by omega), e, if_neg (fun z => absurd z.2 (by omega))] at h3
    by_cases q : v = ((x.toNat + p : Nat) : Int)
    · rw [q, up_s, h3, h2, if_pos ⟨by rw [Int.toNat_natCast]; exact c2, by omega⟩]
      rw [show ((x.toNat + p : Nat) : Int) - (p : Int) = x by omega]
      rfl
    · rw [up_n _ _ q, h1]
      by_cases w : v.toNat.testBit (rd - 6).toNat = true ∧ v - (p : Int) < x
      · rw [if_pos w, if_pos ⟨w.1, by omega⟩]
      · rw [if_neg w, if_neg (fun z => w ⟨z.1, by have := bv.2.1 z.1; omega⟩)]
theorem wdn_ok {rd : Int} (hr : 0 ≤ rd ∧ rd < 12) {g r : Int → Int} (hg : gOK g) {x : Int} (h : ∀ v, 0 ≤ v → v < 64 → r v = wdn rd g x v) : gOK r := by
  intro w a b
  have h0 := hg w a b
  rw [h w a b]
  unfold wdn
  by_cases c : rd < 6
  · rw [if_pos c]
    split
    · have h1 := wl_rg (rd := rd) (y := g w) ⟨hr.1, c⟩
      have h2 := or_w (x := (g w).toNat) (y := ((((g w).toNat &&& (tLack rd).toNat : Nat) : Int) * 2 ^ ((2 : Int) ^ rd.toNat).toNat).toNat) (by omega) (by omega)
      unfold wlo
      omega
    · exact h0
  · rw [if_neg c]
    split
    · rename_i z
      have e0 := p2_6 (rd - 6).toNat (by omega)
      have e : ((2 : Int) ^ (rd - 6).toNat) = ((2 ^ (rd - 6).toNat : Nat) : Int) := by simp
      have d := (bit_6 w.toNat (by omega) (rd - 6).toNat (by omega)).2.1 z.1
      have h1 := hg (w - 2 ^ (rd - 6).toNat) (by omega) (by omega)
      have h2 := or_w (x := (g w).toNat) (y := (g (w - 2 ^ (rd - 6).toNat)).toNat) (by omega) (by omega)
      unfold whi
      omega
    · exact h0
theorem wd_ok {rd : Int} (hr : 0 ≤ rd ∧ rd < 12) {g r : Int → Int} (hg : gOK g) (h : ∀ v, 0 ≤ v → v < 64 → r v = wdn rd g 64 v) : gOK r ∧ ∀ S, 0 ≤ S → S < 4096 → (bq r S ↔ bq g S ∨ (S.toNat.testBit rd.toNat = true ∧ bq g (S - 2 ^ rd.toNat))) := by
  constructor
  · exact wdn_ok hr hg h
  · intro S a b
    obtain ⟨k, rfl⟩ : ∃ k : Nat, rd = k := ⟨rd.toNat, by omega⟩
    obtain ⟨n, rfl⟩ : ∃ n : Nat, S = n := ⟨S.toNat, by omega⟩
    rw [Int.toNat_natCast, Int.toNat_natCast]
    have e : ((2 : Int) ^ k) = ((2 ^ k : Nat) : Int) := by simp
    have e0 : 0 < 2 ^ k := Nat.two_pow_pos k
    unfold bq
    rw [h _ (by omega) (by omega)]
    unfold wdn
    by_cases q : (k : Int) < 6
    · rw [if_pos q, if_pos (by omega)]
      obtain ⟨l1, l2, l3, l4⟩ := lack_6 k (by omega)
      have l5 := l4 (n % 64) (by omega)
      have l6 : n.testBit k = (n % 64).testBit k := by
        rw [show n % 64 = n % 2 ^ 6 from rfl, Nat.testBit_mod_two_pow]
        simp; omega
      rw [l6]
      unfold wlo
      rw [Int.toNat_natCast, p2_nat, Int.toNat_natCast, Nat.testBit_or, Bool.or_eq_true]
      refine or_congr Iff.rfl ?_
      have e2 : ((((g ((n : Int) / 64)).toNat &&& (tLack k).toNat : Nat) : Int) * 2 ^ 2 ^ k).toNat = ((g ((n : Int) / 64)).toNat &&& (tLack k).toNat) * 2 ^ 2 ^ k := by
        have : (((((g ((n : Int) / 64)).toNat &&& (tLack k).toNat : Nat) : Int)) * 2 ^ 2 ^ k) = ((((g ((n : Int) / 64)).toNat &&& (tLack k).toNat) * 2 ^ 2 ^ k : Nat) : Int) := by simp
        rw [this, Int.toNat_natCast]
      rw [e2, Nat.testBit_mul_two_pow, Nat.testBit_and, ← l5, show ((n : Int) % 64).toNat = n % 64 by omega]
      simp only [Bool.and_eq_true, decide_eq_true_eq]
      rw [e]
      constructor
      · rintro ⟨z1, z2, z3⟩
        refine ⟨⟨z1, z3⟩, ?_⟩
        rw [show ((n : Int) - ((2 ^ k : Nat) : Int)) / 64 = (n : Int) / 64 by omega, show (((n : Int) - ((2 ^ k : Nat) : Int)) % 64).toNat = n % 64 - 2 ^ k by omega]
        exact z2
      · rintro ⟨⟨z1, z3⟩, z2⟩
        rw [show ((n : Int) - ((2 ^ k : Nat) : Int)) / 64 = (n : Int) / 64 by omega, show (((n : Int) - ((2 ^ k : Nat) : Int)) % 64).toNat = n % 64 - 2 ^ k by omega] at z2
        exact ⟨z1, z2, z3⟩
    · rw [if_neg q]
      have l6 : n.testBit k = (n / 64).testBit (k - 6) := by
        rw [show n / 64 = n / 2 ^ 6 from rfl, Nat.testBit_div_two_pow]
        congr 1; omega
      have e3 : ((k : Int) - 6).toNat = k - 6 := by omega
      have e4 : ((n : Int) / 64).toNat = n / 64 := by omega
      have e5 : (2 : Nat) ^ k = 64 * 2 ^ (k - 6) := by rw [show k = 6 + (k - 6) by omega, Nat.pow_add]; simp
      have e6 : ((2 : Int) ^ (k - 6)) = ((2 ^ (k - 6) : Nat) : Int) := by simp
      rw [l6, e3, e4, e, e5, e6]
      have d := bit_6 (n / 64) (by omega) (k - 6) (by omega)
      by_cases z : (n / 64).testBit (k - 6) = true
      · have d1 := d.2.1 z
        rw [if_pos ⟨z, by omega⟩]
        unfold whi
        rw [Int.toNat_natCast, Nat.testBit_or, Bool.or_eq_true]
        refine or_congr Iff.rfl ?_
        rw [show ((n : Int) - ((64 * 2 ^ (k - 6) : Nat) : Int)) / 64 = (n : Int) / 64 - ((2 ^ (k - 6) : Nat) : Int) by omega, show ((n : Int) - ((64 * 2 ^ (k - 6) : Nat) : Int)) % 64 = (n : Int) % 64 by omega]
        exact ⟨fun y => ⟨z, y⟩, fun y => y.2⟩
      · rw [if_neg (fun y => z y.1)]
        exact ⟨Or.inl, fun y => y.elim id (fun x => absurd x.1 z)⟩
/-! trace calls itself: its contract at each height -/
def mT (k : Nat) : zMD := (RX0, cX0_trace, 10, none, k)
def trP (M : zW) (F G D g : Int → Int) (nr go dp t dl s ps : Int) (N : zW) : Prop := ∃ r35 : Int → Int, gOK r35 ∧ (∀ S, 0 ≤ S → S < 4096 → (bq r35 S ↔ bq g S ∨ trS F G D nr go (8 - dp).toNat t dl s ps S)) ∧ upR M 35 r35 = N
def TrC (en : zE) (k : Nat) : Prop := ∀ (M : zW) (O1 O6 F G D g : Int → Int), M 1 = O1 → M 6 = O6 → M 19 = F → M 20 = G → M 21 = D → M 35 = g → ∀ t dl s ps dp : Int, (0 ≤ O1 4 ∧ O1 4 ≤ 12) → rdOK (tR F G D) (O1 4) → gOK g → (0 ≤ O6 3 ∧ O6 3 ≤ 7) → (0 ≤ t ∧ t ≤ 7) → (-1000 ≤ dl ∧ dl ≤ 1000) → (0 ≤ s ∧ s < 4096) → (0 ≤ ps ∧ ps < 256) → (0 ≤ dp ∧ dp ≤ 8 ∧ 8 ≤ dp + k) → Ct en kA yX0_trace (mT k) [rf en 6, vi t, vi dl, vi s, vi ps, vi dp] M (pN (trP M F G D g (O1 4) (O6 3) dp t dl s ps))
set_option maxRecDepth 100000 in
theorem ct_X0_trace_s (en : zE) (M : zW) (k : Nat) (uIH : 1 ≤ k → TrC en (k - 1)) (O1 : Int → Int) (O6 : Int → Int) (F : Int → Int) (G : Int → Int) (D : Int → Int) (g : Int → Int) (wO1 : M 1 = O1) (wO6 : M 6 = O6) (wF : M 19 = F) (wG : M 20 = G) (wD : M 21 = D) (wg : M 35 = g) (t : Int) (dl : Int) (s : Int) (ps : Int) (dp : Int) (hO : 0 ≤ O1 4 ∧ O1 4 ≤ 12) (hR : rdOK (tR F G D) (O1 4)) (hg : gOK g) (hgo : 0 ≤ O6 3 ∧ O6 3 ≤ 7) (ht : 0 ≤ t ∧ t ≤ 7) (hdl : -1000 ≤ dl ∧ dl ≤ 1000) (hs : 0 ≤ s ∧ s < 4096) (hps : 0 ≤ ps ∧ ps < 256) (hdp : 0 ≤ dp ∧ dp ≤ 8 ∧ 8 ≤ dp + k) : Ct en kA yX0_trace (mT k) [rf en 6, vi t, vi dl, vi s, vi ps, vi dp] M (pN (trP M F G D g (O1 4) (O6 3) dp t dl s ps)) := by
  refine Ct.of (by decide +kernel) rfl [(0, rf en 6), (1, vi t), (2, vi dl), (3, vi s), (4, vi ps), (5, vi dp)] rfl (Nat.le_of_ble_eq_true rfl) (fun cx C => ?_)
  refine z_iload_n 2 dX0_trace_0 rfl ?_
  refine z_if_lt (tgt := 11) dX0_trace_1 rfl (by omega) (fun uc1 => ?_) (fun uc1 => ?_)
  ·
    exact z_vret C dX0_trace_11 rfl ⟨rfl, ⟨g, hg, fun uS ua ub => ⟨Or.inl, fun uz => uz.elim id (fun uy => absurd uy (tr_neg (by omega)))⟩, upR_id wg⟩⟩
  ·
    refine z_iload 5 dX0_trace_4 rfl ?_
    refine z_bipush dX0_trace_6 rfl ?_
    refine z_icmp_lt (tgt := 12) dX0_trace_8 rfl (by omega) (fun uc8 => ?_) (fun uc8 => ?_)
    ·
      refine z_iload_n 1 dX0_trace_12 rfl ?_
      refine z_aload_n 0 dX0_trace_13 rfl ?_
      refine z_getI (r := O6) 3 rfl dX0_trace_14 fX0_28_0 i6_3 ka6 (wO6) ?_
      refine z_icmp_ne (tgt := 39) dX0_trace_17 rfl (by omega) (fun uc17 => ?_) (fun uc17 => ?_)
      ·
        refine z_iconst dX0_trace_39 ?_
        refine z_istore (fun y => [(0, rf en 6), (1, vi t), (2, vi dl), (3, vi s), (4, vi ps), (5, vi dp), (6, vi y)]) [1, 2, 3, 4, 5, 6, 0] dX0_trace_40 (Nat.le_of_ble_eq_true rfl) (fun _ => rfl) (fun uy uhy => ?_)
        subst uhy
        have uL42 : ∀ (fu : Nat) (x6 : Int) (r35 : Int → Int), (12 - x6).toNat < fu → (0 ≤ x6 ∧ x6 ≤ O1 4 ∧ gOK r35 ∧ (∀ S, 0 ≤ S → S < 4096 → (bq r35 S ↔ bq g S ∨ ∃ r, 0 ≤ r ∧ r < x6 ∧ trA F G D (O1 4) (O6 3) (8 - (dp + 1)).toNat t dl s ps r S))) → Z en kA cx (mT k) (upR M 35 r35) 42 [(0, rf en 6), (1, vi t), (2, vi dl), (3, vi s), (4, vi ps), (5, vi dp), (6, vi x6)] [] := by
          intro fu
          induction fu with
          | zero => intro x6 r35 uhf; exact absurd uhf (Nat.not_lt_zero _)
          | succ fu uih42 =>
            intro x6 r35 uf42 uI42
            obtain ⟨uq1, uq2, uq3, uq4⟩ := uI42
            refine z_iload 6 dX0_trace_42 rfl ?_
            refine z_aload_n 0 dX0_trace_44 rfl ?_
            refine z_getR dX0_trace_45 fX0_18_0 i6_0 ka6 ?_
            refine z_getI (r := O1) 4 rfl dX0_trace_48 fX0_36_3 i1_4 ka1 (wO1) ?_
            refine z_icmp_ge (tgt := 187) dX0_trace_51 rfl (by omega) (fun uc51 => ?_) (fun uc51 => ?_)
            ·
              exact z_vret C dX0_trace_187 rfl ⟨rfl, ⟨r35, uq3, fun uS ua ub => (uq4 uS ua ub).trans (or_congr Iff.rfl (by rw [show x6 = O1 4 by omega]; exact tr_go (by omega) (by omega) (by omega))), rfl⟩⟩
            ·
              have uok : hOk (mT k) mX6_hasBit := ⟨by show 0 + 1 ≤ k; omega, by decide⟩
              obtain ⟨ur1, ur2, ur3, ur4⟩ := trd hR uq1 uc51
              refine z_aload_n 0 dX0_trace_54 rfl ?_
              refine z_getR dX0_trace_55 fX0_18_0 i6_0 ka6 ?_
              refine z_getR dX0_trace_58 fX0_54_3 i1_5 ka1 ?_
              refine z_iload 6 dX0_trace_61 rfl ?_
              refine z_iald (r := F) dX0_trace_63 is19 ka19 (wF) (by omega) ?_
              refine z_iload_n 1 dX0_trace_64 rfl ?_
              refine z_icmp_ne (tgt := 72) dX0_trace_65 rfl (by omega) (fun uc65 => ?_) (fun uc65 => ?_)
              ·
                refine z_iconst dX0_trace_72 ?_
                refine z_istore (fun y => [(0, rf en 6), (1, vi t), (2, vi dl), (3, vi s), (4, vi ps), (5, vi dp), (6, vi x6), (7, vi y)]) [1, 2, 3, 4, 5, 6, 7, 0] dX0_trace_73 (Nat.le_of_ble_eq_true rfl) (fun _ => rfl) (fun uy uhy => ?_)
                subst uhy
                refine z_aload_n 0 dX0_trace_75 rfl ?_
                refine z_getR dX0_trace_76 fX0_18_0 i6_0 ka6 ?_
                refine z_getR dX0_trace_79 fX0_58_3 i1_6 ka1 ?_
                refine z_iload 6 dX0_trace_82 rfl ?_
                refine z_iald (r := G) dX0_trace_84 is20 ka20 (wG) (by omega) ?_
                refine z_iload_n 1 dX0_trace_85 rfl ?_
                refine z_icmp_ne (tgt := 93) dX0_trace_86 rfl (by omega) (fun uc86 => ?_) (fun uc86 => ?_)
                ·
                  refine z_iconst dX0_trace_93 ?_
                  refine z_istore (fun y => [(0, rf en 6), (1, vi t), (2, vi dl), (3, vi s), (4, vi ps), (5, vi dp), (6, vi x6), (7, vi (0)), (8, vi y)]) [1, 2, 3, 4, 5, 6, 7, 8, 0] dX0_trace_94 (Nat.le_of_ble_eq_true rfl) (fun _ => rfl) (fun uy uhy => ?_)
                  subst uhy
                  refine z_iload 7 dX0_trace_96 rfl ?_
                  refine z_if_eq (tgt := 114) dX0_trace_98 rfl (by omega) (fun _ => ?_) (fun z => absurd z (by decide))
                  refine z_aload_n 0 dX0_trace_114 rfl ?_
                  refine z_getR dX0_trace_115 fX0_18_0 i6_0 ka6 ?_
                  refine z_getR dX0_trace_118 fX0_54_3 i1_5 ka1 ?_
                  refine z_iload 6 dX0_trace_121 rfl ?_
                  refine z_iald (r := F) dX0_trace_123 is19 ka19 (wF) (by omega) ?_
                  refine z_istore (fun y => [(0, rf en 6), (1, vi t), (2, vi dl), (3, vi s), (4, vi ps), (5, vi dp), (6, vi x6), (7, vi (0)), (8, vi (0)), (9, vi y)]) [1, 2, 3, 4, 5, 6, 7, 8, 9, 0] dX0_trace_124 (Nat.le_of_ble_eq_true rfl) (fun _ => rfl) (fun x9_124 e9_124 => ?_)
                  refine z_iload 7 dX0_trace_126 rfl ?_
                  refine z_if_ne (tgt := 136) dX0_trace_128 rfl (by omega) (fun z => absurd z (by decide)) (fun _ => ?_)
                  refine z_iload 8 dX0_trace_131 rfl ?_
                  refine z_if_eq (tgt := 181) dX0_trace_133 rfl (by omega) (fun _ => ?_) (fun z => absurd z (by decide))
                  refine z_iinc (fun y => [(0, rf en 6), (1, vi t), (2, vi dl), (3, vi s), (4, vi ps), (5, vi dp), (6, vi y), (7, vi (0)), (8, vi (0)), (9, vi x9_124)]) [1, 2, 3, 4, 5, 6, 0, 7, 8, 9] 6 dX0_trace_181 rfl (Nat.le_of_ble_eq_true rfl) (fun _ => rfl) (fun x6_181 e6_181 => ?_)
                  refine z_goto (tgt := 42) dX0_trace_184 rfl ?_
                  refine z_lv [0, 1, 2, 3, 4, 5, 6] [(0, rf en 6), (1, vi t), (2, vi dl), (3, vi s), (4, vi ps), (5, vi dp), (6, vi x6_181)] rfl ?_
                  have unot : ∀ uS, ¬ trA F G D (O1 4) (O6 3) (8 - (dp + 1)).toNat t dl s ps x6 uS := fun uS => tr_n1 (by omega) (by omega)
                  exact uih42 x6_181 r35 (by omega) (⟨by omega, by omega, uq3, fun uS ua ub => (uq4 uS ua ub).trans (or_congr Iff.rfl (tr_sk (P := fun ur => trA F G D (O1 4) (O6 3) (8 - (dp + 1)).toNat t dl s ps ur uS) e6_181 (unot uS)))⟩)
                ·
                  refine z_iconst dX0_trace_89 ?_
                  refine z_goto (tgt := 94) dX0_trace_90 rfl ?_
                  refine z_istore (fun y => [(0, rf en 6), (1, vi t), (2, vi dl), (3, vi s), (4, vi ps), (5, vi dp), (6, vi x6), (7, vi (0)), (8, vi y)]) [1, 2, 3, 4, 5, 6, 7, 8, 0] dX0_trace_94 (Nat.le_of_ble_eq_true rfl) (fun _ => rfl) (fun uy uhy => ?_)
                  subst uhy
                  refine z_iload 7 dX0_trace_96 rfl ?_
                  refine z_if_eq (tgt := 114) dX0_trace_98 rfl (by omega) (fun _ => ?_) (fun z => absurd z (by decide))
                  refine z_aload_n 0 dX0_trace_114 rfl ?_
                  refine z_getR dX0_trace_115 fX0_18_0 i6_0 ka6 ?_
                  refine z_getR dX0_trace_118 fX0_54_3 i1_5 ka1 ?_
                  refine z_iload 6 dX0_trace_121 rfl ?_
                  refine z_iald (r := F) dX0_trace_123 is19 ka19 (wF) (by omega) ?_
                  refine z_istore (fun y => [(0, rf en 6), (1, vi t), (2, vi dl), (3, vi s), (4, vi ps), (5, vi dp), (6, vi x6), (7, vi (0)), (8, vi (1)), (9, vi y)]) [1, 2, 3, 4, 5, 6, 7, 8, 9, 0] dX0_trace_124 (Nat.le_of_ble_eq_true rfl) (fun _ => rfl) (fun x9_124 e9_124 => ?_)
                  refine z_iload 7 dX0_trace_126 rfl ?_
                  refine z_if_ne (tgt := 136) dX0_trace_128 rfl (by omega) (fun z => absurd z (by decide)) (fun _ => ?_)
                  refine z_iload 8 dX0_trace_131 rfl ?_
                  refine z_if_eq (tgt := 181) dX0_trace_133 rfl (by omega) (fun z => absurd z (by decide)) (fun _ => ?_)
                  refine z_iload 4 dX0_trace_136 rfl ?_
                  refine z_iload 9 dX0_trace_138 rfl ?_
                  refine z_nI dX0_trace_140 lX0_61 uok (ct_X6_hasBit en (upR M 35 r35) _ _ (by omega) (by omega)) rfl rfl (by exact Nat.le_of_ble_eq_true rfl) ?_
                  refine z_ifne_b (tgt := 181) dX0_trace_143 rfl (fun uc143 => ?_) (fun uc143 => ?_)
                  ·
                    refine z_iinc (fun y => [(0, rf en 6), (1, vi t), (2, vi dl), (3, vi s), (4, vi ps), (5, vi dp), (6, vi y), (7, vi (0)), (8, vi (1)), (9, vi x9_124)]) [1, 2, 3, 4, 5, 6, 0, 7, 8, 9] 6 dX0_trace_181 rfl (Nat.le_of_ble_eq_true rfl) (fun _ => rfl) (fun x6_181 e6_181 => ?_)
                    refine z_goto (tgt := 42) dX0_trace_184 rfl ?_
                    refine z_lv [0, 1, 2, 3, 4, 5, 6] [(0, rf en 6), (1, vi t), (2, vi dl), (3, vi s), (4, vi ps), (5, vi dp), (6, vi x6_181)] rfl ?_
                    have unx : nxt F G t x6 = x9_124 := by rw [e9_124]; exact if_neg (by omega)
                    have unot : ∀ uS, ¬ trA F G D (O1 4) (O6 3) (8 - (dp + 1)).toNat t dl s ps x6 uS := fun uS => tr_n2 unx uc143
                    exact uih42 x6_181 r35 (by omega) (⟨by omega, by omega, uq3, fun uS ua ub => (uq4 uS ua ub).trans (or_congr Iff.rfl (tr_sk (P := fun ur => trA F G D (O1 4) (O6 3) (8 - (dp + 1)).toNat t dl s ps ur uS) e6_181 (unot uS)))⟩)
                  ·
                    refine z_aload_n 0 dX0_trace_146 rfl ?_
                    refine z_iload 9 dX0_trace_147 rfl ?_
                    refine z_iload_n 2 dX0_trace_149 rfl ?_
                    refine z_aload_n 0 dX0_trace_150 rfl ?_
                    refine z_getR dX0_trace_151 fX0_18_0 i6_0 ka6 ?_
                    refine z_getR dX0_trace_154 fX0_65_3 i1_7 ka1 ?_
                    refine z_iload 6 dX0_trace_157 rfl ?_
                    refine z_iald (r := D) dX0_trace_159 is21 ka21 (wD) (by omega) ?_
                    refine z_isub dX0_trace_160 ?_
                    refine z_iload_n 3 dX0_trace_161 rfl ?_
                    refine z_iconst dX0_trace_162 ?_
                    refine z_iload 6 dX0_trace_163 rfl ?_
                    refine z_ishl dX0_trace_165 (by omega) ?_
                    have up8 := p2_rg x6.toNat (by omega)
                    rw [Int.one_mul]
                    refine z_ior dX0_trace_166 (by omega) ?_
                    refine z_iload 4 dX0_trace_167 rfl ?_
                    refine z_iconst dX0_trace_169 ?_
                    refine z_iload 9 dX0_trace_170 rfl ?_
                    refine z_ishl dX0_trace_172 (by omega) ?_
                    have up9 := p2_rg x9_124.toNat (by omega)
                    rw [Int.one_mul]
                    refine z_ior dX0_trace_173 (by omega) ?_
                    refine z_iload 5 dX0_trace_174 rfl ?_
                    refine z_iconst dX0_trace_176 ?_
                    refine z_iadd dX0_trace_177 ?_
                    refine z_vN dX0_trace_178 lX0_32 (md' := mT (k - 1)) ⟨by show (k - 1) + 1 ≤ k; omega, Nat.le_of_ble_eq_true rfl⟩ ka6 io6 rfl (uIH (by omega) (upR M 35 r35) O1 O6 F G D r35 wO1 wO6 wF wG wD rfl x9_124 (dl - D x6) (sb s x6) (sb ps x9_124) (dp + 1) hO hR uq3 hgo (by omega) (by omega) (sb_rg 12 hs (by omega)) (sb_rg 8 hps (by omega)) (by omega)) rfl rfl (by exact Nat.le_of_ble_eq_true rfl) (fun uN178 uh178 => ?_)
                    obtain ⟨ur, ug1, ug2, rfl⟩ := uh178
                    rw [uu1 (a := 35)]
                    refine z_iinc (fun y => [(0, rf en 6), (1, vi t), (2, vi dl), (3, vi s), (4, vi ps), (5, vi dp), (6, vi y), (7, vi (0)), (8, vi (1)), (9, vi x9_124)]) [1, 2, 3, 4, 5, 6, 0, 7, 8, 9] 6 dX0_trace_181 rfl (Nat.le_of_ble_eq_true rfl) (fun _ => rfl) (fun x6_181 e6_181 => ?_)
                    refine z_goto (tgt := 42) dX0_trace_184 rfl ?_
                    refine z_lv [0, 1, 2, 3, 4, 5, 6] [(0, rf en 6), (1, vi t), (2, vi dl), (3, vi s), (4, vi ps), (5, vi dp), (6, vi x6_181)] rfl ?_
                    have unx : nxt F G t x6 = x9_124 := by rw [e9_124]; exact if_neg (by omega)
                    have uyes : ∀ uS, (trS F G D (O1 4) (O6 3) (8 - (dp + 1)).toNat x9_124 (dl - D x6) (sb s x6) (sb ps x9_124) uS ↔ trA F G D (O1 4) (O6 3) (8 - (dp + 1)).toNat t dl s ps x6 uS) := fun uS => tr_y (Or.inr (by omega)) unx uc143
                    exact uih42 x6_181 ur (by omega) (⟨by omega, by omega, ug1, fun uS ua ub => (ug2 uS ua ub).trans ((or_congr (uq4 uS ua ub) Iff.rfl).trans (tr_ad (P := fun ur => trA F G D (O1 4) (O6 3) (8 - (dp + 1)).toNat t dl s ps ur uS) e6_181 uq1 (uyes uS)))⟩)
              ·
                refine z_iconst dX0_trace_68 ?_
                refine z_goto (tgt := 73) dX0_trace_69 rfl ?_
                refine z_istore (fun y => [(0, rf en 6), (1, vi t), (2, vi dl), (3, vi s), (4, vi ps), (5, vi dp), (6, vi x6), (7, vi y)]) [1, 2, 3, 4, 5, 6, 7, 0] dX0_trace_73 (Nat.le_of_ble_eq_true rfl) (fun _ => rfl) (fun uy uhy => ?_)
                subst uhy
                refine z_aload_n 0 dX0_trace_75 rfl ?_
                refine z_getR dX0_trace_76 fX0_18_0 i6_0 ka6 ?_
                refine z_getR dX0_trace_79 fX0_58_3 i1_6 ka1 ?_
                refine z_iload 6 dX0_trace_82 rfl ?_
                refine z_iald (r := G) dX0_trace_84 is20 ka20 (wG) (by omega) ?_
                refine z_iload_n 1 dX0_trace_85 rfl ?_
                refine z_icmp_ne (tgt := 93) dX0_trace_86 rfl (by omega) (fun uc86 => ?_) (fun uc86 => ?_)
                ·
                  refine z_iconst dX0_trace_93 ?_
                  refine z_istore (fun y => [(0, rf en 6), (1, vi t), (2, vi dl), (3, vi s), (4, vi ps), (5, vi dp), (6, vi x6), (7, vi (1)), (8, vi y)]) [1, 2, 3, 4, 5, 6, 7, 8, 0] dX0_trace_94 (Nat.le_of_ble_eq_true rfl) (fun _ => rfl) (fun uy uhy => ?_)
                  subst uhy
                  refine z_iload 7 dX0_trace_96 rfl ?_
                  refine z_if_eq (tgt := 114) dX0_trace_98 rfl (by omega) (fun z => absurd z (by decide)) (fun _ => ?_)
                  refine z_aload_n 0 dX0_trace_101 rfl ?_
                  refine z_getR dX0_trace_102 fX0_18_0 i6_0 ka6 ?_
                  refine z_getR dX0_trace_105 fX0_58_3 i1_6 ka1 ?_
                  refine z_iload 6 dX0_trace_108 rfl ?_
                  refine z_iald (r := G) dX0_trace_110 is20 ka20 (wG) (by omega) ?_
                  refine z_goto (tgt := 124) dX0_trace_111 rfl ?_
                  refine z_istore (fun y => [(0, rf en 6), (1, vi t), (2, vi dl), (3, vi s), (4, vi ps), (5, vi dp), (6, vi x6), (7, vi (1)), (8, vi (0)), (9, vi y)]) [1, 2, 3, 4, 5, 6, 7, 8, 9, 0] dX0_trace_124 (Nat.le_of_ble_eq_true rfl) (fun _ => rfl) (fun x9_124 e9_124 => ?_)
                  refine z_iload 7 dX0_trace_126 rfl ?_
                  refine z_if_ne (tgt := 136) dX0_trace_128 rfl (by omega) (fun _ => ?_) (fun z => absurd z (by decide))
                  refine z_iload 4 dX0_trace_136 rfl ?_
                  refine z_iload 9 dX0_trace_138 rfl ?_
                  refine z_nI dX0_trace_140 lX0_61 uok (ct_X6_hasBit en (upR M 35 r35) _ _ (by omega) (by omega)) rfl rfl (by exact Nat.le_of_ble_eq_true rfl) ?_
                  refine z_ifne_b (tgt := 181) dX0_trace_143 rfl (fun uc143 => ?_) (fun uc143 => ?_)
                  ·
                    refine z_iinc (fun y => [(0, rf en 6), (1, vi t), (2, vi dl), (3, vi s), (4, vi ps), (5, vi dp), (6, vi y), (7, vi (1)), (8, vi (0)), (9, vi x9_124)]) [1, 2, 3, 4, 5, 6, 0, 7, 8, 9] 6 dX0_trace_181 rfl (Nat.le_of_ble_eq_true rfl) (fun _ => rfl) (fun x6_181 e6_181 => ?_)
                    refine z_goto (tgt := 42) dX0_trace_184 rfl ?_
                    refine z_lv [0, 1, 2, 3, 4, 5, 6] [(0, rf en 6), (1, vi t), (2, vi dl), (3, vi s), (4, vi ps), (5, vi dp), (6, vi x6_181)] rfl ?_
                    have unx : nxt F G t x6 = x9_124 := by rw [e9_124]; exact if_pos (by omega)
                    have unot : ∀ uS, ¬ trA F G D (O1 4) (O6 3) (8 - (dp + 1)).toNat t dl s ps x6 uS := fun uS => tr_n2 unx uc143
                    exact uih42 x6_181 r35 (by omega) (⟨by omega, by omega, uq3, fun uS ua ub => (uq4 uS ua ub).trans (or_congr Iff.rfl (tr_sk (P := fun ur => trA F G D (O1 4) (O6 3) (8 - (dp + 1)).toNat t dl s ps ur uS) e6_181 (unot uS)))⟩)
                  ·
                    refine z_aload_n 0 dX0_trace_146 rfl ?_
                    refine z_iload 9 dX0_trace_147 rfl ?_
                    refine z_iload_n 2 dX0_trace_149 rfl ?_
                    refine z_aload_n 0 dX0_trace_150 rfl ?_
                    refine z_getR dX0_trace_151 fX0_18_0 i6_0 ka6 ?_
                    refine z_getR dX0_trace_154 fX0_65_3 i1_7 ka1 ?_
                    refine z_iload 6 dX0_trace_157 rfl ?_
                    refine z_iald (r := D) dX0_trace_159 is21 ka21 (wD) (by omega) ?_
                    refine z_isub dX0_trace_160 ?_
                    refine z_iload_n 3 dX0_trace_161 rfl ?_
                    refine z_iconst dX0_trace_162 ?_
                    refine z_iload 6 dX0_trace_163 rfl ?_
                    refine z_ishl dX0_trace_165 (by omega) ?_
                    have up8 := p2_rg x6.toNat (by omega)
                    rw [Int.one_mul]
                    refine z_ior dX0_trace_166 (by omega) ?_
                    refine z_iload 4 dX0_trace_167 rfl ?_
                    refine z_iconst dX0_trace_169 ?_
                    refine z_iload 9 dX0_trace_170 rfl ?_
                    refine z_ishl dX0_trace_172 (by omega) ?_
                    have up9 := p2_rg x9_124.toNat (by omega)
                    rw [Int.one_mul]
                    refine z_ior dX0_trace_173 (by omega) ?_
                    refine z_iload 5 dX0_trace_174 rfl ?_
                    refine z_iconst dX0_trace_176 ?_
                    refine z_iadd dX0_trace_177 ?_
                    refine z_vN dX0_trace_178 lX0_32 (md' := mT (k - 1)) ⟨by show (k - 1) + 1 ≤ k; omega, Nat.le_of_ble_eq_true rfl⟩ ka6 io6 rfl (uIH (by omega) (upR M 35 r35) O1 O6 F G D r35 wO1 wO6 wF wG wD rfl x9_124 (dl - D x6) (sb s x6) (sb ps x9_124) (dp + 1) hO hR uq3 hgo (by omega) (by omega) (sb_rg 12 hs (by omega)) (sb_rg 8 hps (by omega)) (by omega)) rfl rfl (by exact Nat.le_of_ble_eq_true rfl) (fun uN178 uh178 => ?_)
                    obtain ⟨ur, ug1, ug2, rfl⟩ := uh178
                    rw [uu1 (a := 35)]
                    refine z_iinc (fun y => [(0, rf en 6), (1, vi t), (2, vi dl), (3, vi s), (4, vi ps), (5, vi dp), (6, vi y), (7, vi (1)), (8, vi (0)), (9, vi x9_124)]) [1, 2, 3, 4, 5, 6, 0, 7, 8, 9] 6 dX0_trace_181 rfl (Nat.le_of_ble_eq_true rfl) (fun _ => rfl) (fun x6_181 e6_181 => ?_)
                    refine z_goto (tgt := 42) dX0_trace_184 rfl ?_
                    refine z_lv [0, 1, 2, 3, 4, 5, 6] [(0, rf en 6), (1, vi t), (2, vi dl), (3, vi s), (4, vi ps), (5, vi dp), (6, vi x6_181)] rfl ?_
                    have unx : nxt F G t x6 = x9_124 := by rw [e9_124]; exact if_pos (by omega)
                    have uyes : ∀ uS, (trS F G D (O1 4) (O6 3) (8 - (dp + 1)).toNat x9_124 (dl - D x6) (sb s x6) (sb ps x9_124) uS ↔ trA F G D (O1 4) (O6 3) (8 - (dp + 1)).toNat t dl s ps x6 uS) := fun uS => tr_y (Or.inl (by omega)) unx uc143
                    exact uih42 x6_181 ur (by omega) (⟨by omega, by omega, ug1, fun uS ua ub => (ug2 uS ua ub).trans ((or_congr (uq4 uS ua ub) Iff.rfl).trans (tr_ad (P := fun ur => trA F G D (O1 4) (O6 3) (8 - (dp + 1)).toNat t dl s ps ur uS) e6_181 uq1 (uyes uS)))⟩)
                ·
                  refine z_iconst dX0_trace_89 ?_
                  refine z_goto (tgt := 94) dX0_trace_90 rfl ?_
                  refine z_istore (fun y => [(0, rf en 6), (1, vi t), (2, vi dl), (3, vi s), (4, vi ps), (5, vi dp), (6, vi x6), (7, vi (1)), (8, vi y)]) [1, 2, 3, 4, 5, 6, 7, 8, 0] dX0_trace_94 (Nat.le_of_ble_eq_true rfl) (fun _ => rfl) (fun uy uhy => ?_)
                  subst uhy
                  refine z_iload 7 dX0_trace_96 rfl ?_
                  refine z_if_eq (tgt := 114) dX0_trace_98 rfl (by omega) (fun z => absurd z (by decide)) (fun _ => ?_)
                  refine z_aload_n 0 dX0_trace_101 rfl ?_
                  refine z_getR dX0_trace_102 fX0_18_0 i6_0 ka6 ?_
                  refine z_getR dX0_trace_105 fX0_58_3 i1_6 ka1 ?_
                  refine z_iload 6 dX0_trace_108 rfl ?_
                  refine z_iald (r := G) dX0_trace_110 is20 ka20 (wG) (by omega) ?_
                  refine z_goto (tgt := 124) dX0_trace_111 rfl ?_
                  refine z_istore (fun y => [(0, rf en 6), (1, vi t), (2, vi dl), (3, vi s), (4, vi ps), (5, vi dp), (6, vi x6), (7, vi (1)), (8, vi (1)), (9, vi y)]) [1, 2, 3, 4, 5, 6, 7, 8, 9, 0] dX0_trace_124 (Nat.le_of_ble_eq_true rfl) (fun _ => rfl) (fun x9_124 e9_124 => ?_)
                  refine z_iload 7 dX0_trace_126 rfl ?_
                  refine z_if_ne (tgt := 136) dX0_trace_128 rfl (by omega) (fun _ => ?_) (fun z => absurd z (by decide))
                  refine z_iload 4 dX0_trace_136 rfl ?_
                  refine z_iload 9 dX0_trace_138 rfl ?_
                  refine z_nI dX0_trace_140 lX0_61 uok (ct_X6_hasBit en (upR M 35 r35) _ _ (by omega) (by omega)) rfl rfl (by exact Nat.le_of_ble_eq_true rfl) ?_
                  refine z_ifne_b (tgt := 181) dX0_trace_143 rfl (fun uc143 => ?_) (fun uc143 => ?_)
                  ·
                    refine z_iinc (fun y => [(0, rf en 6), (1, vi t), (2, vi dl), (3, vi s), (4, vi ps), (5, vi dp), (6, vi y), (7, vi (1)), (8, vi (1)), (9, vi x9_124)]) [1, 2, 3, 4, 5, 6, 0, 7, 8, 9] 6 dX0_trace_181 rfl (Nat.le_of_ble_eq_true rfl) (fun _ => rfl) (fun x6_181 e6_181 => ?_)
                    refine z_goto (tgt := 42) dX0_trace_184 rfl ?_
                    refine z_lv [0, 1, 2, 3, 4, 5, 6] [(0, rf en 6), (1, vi t), (2, vi dl), (3, vi s), (4, vi ps), (5, vi dp), (6, vi x6_181)] rfl ?_
                    have unx : nxt F G t x6 = x9_124 := by rw [e9_124]; exact if_pos (by omega)
                    have unot : ∀ uS, ¬ trA F G D (O1 4) (O6 3) (8 - (dp + 1)).toNat t dl s ps x6 uS := fun uS => tr_n2 unx uc143
                    exact uih42 x6_181 r35 (by omega) (⟨by omega, by omega, uq3, fun uS ua ub => (uq4 uS ua ub).trans (or_congr Iff.rfl (tr_sk (P := fun ur => trA F G D (O1 4) (O6 3) (8 - (dp + 1)).toNat t dl s ps ur uS) e6_181 (unot uS)))⟩)
                  ·
                    refine z_aload_n 0 dX0_trace_146 rfl ?_
                    refine z_iload 9 dX0_trace_147 rfl ?_
                    refine z_iload_n 2 dX0_trace_149 rfl ?_
                    refine z_aload_n 0 dX0_trace_150 rfl ?_
                    refine z_getR dX0_trace_151 fX0_18_0 i6_0 ka6 ?_
                    refine z_getR dX0_trace_154 fX0_65_3 i1_7 ka1 ?_
                    refine z_iload 6 dX0_trace_157 rfl ?_
                    refine z_iald (r := D) dX0_trace_159 is21 ka21 (wD) (by omega) ?_
                    refine z_isub dX0_trace_160 ?_
                    refine z_iload_n 3 dX0_trace_161 rfl ?_
                    refine z_iconst dX0_trace_162 ?_
                    refine z_iload 6 dX0_trace_163 rfl ?_
                    refine z_ishl dX0_trace_165 (by omega) ?_
                    have up8 := p2_rg x6.toNat (by omega)
                    rw [Int.one_mul]
                    refine z_ior dX0_trace_166 (by omega) ?_
                    refine z_iload 4 dX0_trace_167 rfl ?_
                    refine z_iconst dX0_trace_169 ?_
                    refine z_iload 9 dX0_trace_170 rfl ?_
                    refine z_ishl dX0_trace_172 (by omega) ?_
                    have up9 := p2_rg x9_124.toNat (by omega)
                    rw [Int.one_mul]
                    refine z_ior dX0_trace_173 (by omega) ?_
                    refine z_iload 5 dX0_trace_174 rfl ?_
                    refine z_iconst dX0_trace_176 ?_
                    refine z_iadd dX0_trace_177 ?_
                    refine z_vN dX0_trace_178 lX0_32 (md' := mT (k - 1)) ⟨by show (k - 1) + 1 ≤ k; omega, Nat.le_of_ble_eq_true rfl⟩ ka6 io6 rfl (uIH (by omega) (upR M 35 r35) O1 O6 F G D r35 wO1 wO6 wF wG wD rfl x9_124 (dl - D x6) (sb s x6) (sb ps x9_124) (dp + 1) hO hR uq3 hgo (by omega) (by omega) (sb_rg 12 hs (by omega)) (sb_rg 8 hps (by omega)) (by omega)) rfl rfl (by exact Nat.le_of_ble_eq_true rfl) (fun uN178 uh178 => ?_)
                    obtain ⟨ur, ug1, ug2, rfl⟩ := uh178
                    rw [uu1 (a := 35)]
                    refine z_iinc (fun y => [(0, rf en 6), (1, vi t), (2, vi dl), (3, vi s), (4, vi ps), (5, vi dp), (6, vi y), (7, vi (1)), (8, vi (1)), (9, vi x9_124)]) [1, 2, 3, 4, 5, 6, 0, 7, 8, 9] 6 dX0_trace_181 rfl (Nat.le_of_ble_eq_true rfl) (fun _ => rfl) (fun x6_181 e6_181 => ?_)
                    refine z_goto (tgt := 42) dX0_trace_184 rfl ?_
                    refine z_lv [0, 1, 2, 3, 4, 5, 6] [(0, rf en 6), (1, vi t), (2, vi dl), (3, vi s), (4, vi ps), (5, vi dp), (6, vi x6_181)] rfl ?_
                    have unx : nxt F G t x6 = x9_124 := by rw [e9_124]; exact if_pos (by omega)
                    have uyes : ∀ uS, (trS F G D (O1 4) (O6 3) (8 - (dp + 1)).toNat x9_124 (dl - D x6) (sb s x6) (sb ps x9_124) uS ↔ trA F G D (O1 4) (O6 3) (8 - (dp + 1)).toNat t dl s ps x6 uS) := fun uS => tr_y (Or.inl (by omega)) unx uc143
                    exact uih42 x6_181 ur (by omega) (⟨by omega, by omega, ug1, fun uS ua ub => (ug2 uS ua ub).trans ((or_congr (uq4 uS ua ub) Iff.rfl).trans (tr_ad (P := fun ur => trA F G D (O1 4) (O6 3) (8 - (dp + 1)).toNat t dl s ps ur uS) e6_181 uq1 (uyes uS)))⟩)
        refine Z.eqM (upR_id (k := 35) wg) ?_
        exact uL42 _ 0 g (Nat.lt_succ_self _) (⟨by omega, by omega, hg, fun uS ua ub => ⟨Or.inl, fun uz => uz.elim id (fun uy => by obtain ⟨ur, ub1, ub2, -⟩ := uy; omega)⟩⟩)
      ·
        refine z_aload_n 0 dX0_trace_20 rfl ?_
        refine z_getR dX0_trace_21 fX0_11_0 i6_1 ka6 ?_
        have ugw := hg (s / 64) (by omega) (by omega)
        have up6 : s / 2 ^ (6 : Int).toNat = s / 64 := rfl
        have up7 := p2_64 (s % 64).toNat (by omega)
        refine z_iload_n 3 dX0_trace_24 rfl ?_
        refine z_bipush dX0_trace_25 rfl ?_
        refine z_ishr dX0_trace_27 (by omega) (by omega) ?_
        rw [up6]
        refine z_dup2_ia dX0_trace_28 ?_
        refine z_lald (r := g) dX0_trace_29 is35 ka35 (wg) (by omega) ?_
        refine z_lconst (v := 1) dX0_trace_30 rfl ?_
        refine z_iload_n 3 dX0_trace_31 rfl ?_
        refine z_bipush dX0_trace_32 rfl ?_
        refine z_iand63 dX0_trace_34 ?_
        refine z_lshl dX0_trace_35 (by omega) ?_
        rw [Int.one_mul]
        refine z_lor dX0_trace_36 (by omega) ?_
        refine z_last (r := g) dX0_trace_37 is35 ka35 (wg) (by omega) (fun r35_37 f35_37 => ?_)
        exact z_vret C dX0_trace_38 rfl ⟨rfl, ⟨r35_37, by rw [f35_37]; exact (tr_set hg hs rfl).1, fun uS ua ub => by rw [f35_37]; exact ((tr_set hg hs rfl).2 uS ua ub).trans (or_congr Iff.rfl (tr_goal (by omega) (by omega) (by omega))), rfl⟩⟩
    ·
      exact z_vret C dX0_trace_11 rfl ⟨rfl, ⟨g, hg, fun uS ua ub => ⟨Or.inl, fun uz => uz.elim id (fun uy => absurd uy (tr_deep (by omega)))⟩, upR_id wg⟩⟩
theorem tr_all (en : zE) : ∀ k : Nat, TrC en k
  | 0 => fun M O1 O6 F G D g w1 w2 w3 w4 w5 w6 t dl s ps dp => ct_X0_trace_s en M 0 (fun z => absurd z (by decide)) O1 O6 F G D g w1 w2 w3 w4 w5 w6 t dl s ps dp
  | k + 1 => fun M O1 O6 F G D g w1 w2 w3 w4 w5 w6 t dl s ps dp => ct_X0_trace_s en M (k + 1) (fun _ => tr_all en k) O1 O6 F G D g w1 w2 w3 w4 w5 w6 t dl s ps dp
theorem ct_X0_trace (en : zE) (M : zW) (O1 O6 F G D g : Int → Int) (wO1 : M 1 = O1) (wO6 : M 6 = O6) (wF : M 19 = F) (wG : M 20 = G) (wD : M 21 = D) (wg : M 35 = g) (t dl s ps dp : Int) (hO : 0 ≤ O1 4 ∧ O1 4 ≤ 12) (hR : rdOK (tR F G D) (O1 4)) (hg : gOK g) (hgo : 0 ≤ O6 3 ∧ O6 3 ≤ 7) (ht : 0 ≤ t ∧ t ≤ 7) (hdl : -1000 ≤ dl ∧ dl ≤ 1000) (hs : 0 ≤ s ∧ s < 4096) (hps : 0 ≤ ps ∧ ps < 256) (hdp : 0 ≤ dp ∧ dp ≤ 8) : Ct en kA yX0_trace mX0_trace [rf en 6, vi t, vi dl, vi s, vi ps, vi dp] M (pN (trP M F G D g (O1 4) (O6 3) dp t dl s ps)) := tr_all en 15 M O1 O6 F G D g wO1 wO6 wF wG wD wg t dl s ps dp hO hR hg hgo ht hdl hs hps ⟨hdp.1, hdp.2, by omega⟩
set_option maxRecDepth 100000 in
theorem ct_X0_widen (en : zE) (M : zW) (g : Int → Int) (wg : M 35 = g) (rd : Int) (hr : 0 ≤ rd ∧ rd < 12) (hg : gOK g) : Ct en kA yX0_widen mX0_widen [rf en 6, vi rd] M (pN (fun N => ∃ r35 : Int → Int, gOK r35 ∧ (∀ S, 0 ≤ S → S < 4096 → (bq r35 S ↔ bq g S ∨ (S.toNat.testBit rd.toNat = true ∧ bq g (S - 2 ^ rd.toNat)))) ∧ upR M 35 r35 = N)) := by
  refine Ct.of (by decide +kernel) rfl [(0, rf en 6), (1, vi rd)] rfl (Nat.le_of_ble_eq_true rfl) (fun cx C => ?_)
  refine z_iconst dX0_widen_0 ?_
  refine z_istore_n (fun y => [(0, rf en 6), (1, vi rd), (2, vi y)]) [1, 2, 0] dX0_widen_1 (by decide) (fun _ => rfl) (fun x2_1 e2_1 => ?_)
  have uL2 : ∀ (fu : Nat) (x2 : Int) (r35 : Int → Int), (64 - x2).toNat < fu → (0 ≤ x2 ∧ x2 ≤ 64 ∧ (∀ v, 0 ≤ v → v < 64 → r35 v = wdn rd g x2 v)) → Z en kA cx mX0_widen (upR M 35 r35) 2 [(0, rf en 6), (1, vi rd), (2, vi x2)] [] := by
    intro fu
    induction fu with
    | zero => intro x2 r35 uhf; exact absurd uhf (Nat.not_lt_zero _)
    | succ fu uih2 =>
      intro x2 r35 uf2 uI2
      obtain ⟨uq1, uq2, uq3⟩ := uI2
      refine z_iload_n 2 dX0_widen_2 rfl ?_
      refine z_bipush dX0_widen_3 rfl ?_
      refine z_icmp_ge (tgt := 70) dX0_widen_5 rfl (by omega) (fun uc5 => ?_) (fun uc5 => ?_)
      ·
        exact z_vret C dX0_widen_70 rfl ⟨rfl, ⟨r35, (wd_ok hr hg (fun uv ua ub => by rw [uq3 uv ua ub, show x2 = 64 by omega])).1, (wd_ok hr hg (fun uv ua ub => by rw [uq3 uv ua ub, show x2 = 64 by omega])).2, rfl⟩⟩
      ·
        have uo := wdn_ok hr hg uq3
        refine z_iload_n 1 dX0_widen_8 rfl ?_
        refine z_bipush dX0_widen_9 rfl ?_
        refine z_icmp_ge (tgt := 42) dX0_widen_11 rfl (by omega) (fun uc11 => ?_) (fun uc11 => ?_)
        ·
          have up6 := p2_6 (rd - 6).toNat (by omega)
          have ubt := (bit_6 x2.toNat (by omega) (rd - 6).toNat (by omega)).1
          rw [← p2_nat] at ubt
          have ugw := uo x2 uq1 (by omega)
          have ugv := uo (((x2.toNat ||| ((2 : Int) ^ (rd - 6).toNat).toNat : Nat)) : Int) (by omega) (by omega)
          refine z_aload_n 0 dX0_widen_42 rfl ?_
          refine z_getR dX0_widen_43 fX0_11_0 i6_1 ka6 ?_
          refine z_iload_n 2 dX0_widen_46 rfl ?_
          refine z_iconst dX0_widen_47 ?_
          refine z_iload_n 1 dX0_widen_48 rfl ?_
          refine z_bipush dX0_widen_49 rfl ?_
          refine z_isub dX0_widen_51 ?_
          refine z_ishl dX0_widen_52 (by omega) ?_
          rw [Int.one_mul]
          refine z_ior dX0_widen_53 (by omega) ?_
          refine z_dup2_ia dX0_widen_54 ?_
          refine z_lald (r := r35) dX0_widen_55 is35 ka35 (rfl) (by omega) ?_
          refine z_aload_n 0 dX0_widen_56 rfl ?_
          refine z_getR dX0_widen_57 fX0_11_0 i6_1 ka6 ?_
          refine z_iload_n 2 dX0_widen_60 rfl ?_
          refine z_lald (r := r35) dX0_widen_61 is35 ka35 (rfl) (by omega) ?_
          refine z_lor dX0_widen_62 (by omega) ?_
          refine z_last' (r := r35) (fun r => (upR M 35 r)) dX0_widen_63 is35 ka35 (rfl) (by omega) (fun _ => uu1) (fun r35_63 f35_63 => ?_)
          refine z_iinc (fun y => [(0, rf en 6), (1, vi rd), (2, vi y)]) [1, 2, 0] 2 dX0_widen_64 rfl (by decide) (fun _ => rfl) (fun x2_64 e2_64 => ?_)
          refine z_goto (tgt := 2) dX0_widen_67 rfl ?_
          exact uih2 x2_64 r35_63 (by omega) (⟨by omega, by omega, wdn_hi (by omega) hg (by omega) e2_64 uq3 f35_63⟩)
        ·
          have up6 := p2_6 rd.toNat (by omega)
          have ulk := lack_6 rd.toNat (by omega)
          have ugw := uo x2 uq1 (by omega)
          rw [tnC hr.1] at ulk
          obtain ⟨ulk1, ulk2, -, -⟩ := ulk
          refine z_aload_n 0 dX0_widen_14 rfl ?_
          refine z_getR dX0_widen_15 fX0_11_0 i6_1 ka6 ?_
          refine z_iload_n 2 dX0_widen_18 rfl ?_
          refine z_dup2_ia dX0_widen_19 ?_
          refine z_lald (r := r35) dX0_widen_20 is35 ka35 (rfl) (by omega) ?_
          refine z_aload_n 0 dX0_widen_21 rfl ?_
          refine z_getR dX0_widen_22 fX0_11_0 i6_1 ka6 ?_
          refine z_iload_n 2 dX0_widen_25 rfl ?_
          refine z_lald (r := r35) dX0_widen_26 is35 ka35 (rfl) (by omega) ?_
          refine z_tabB dX0_widen_27 rfl ?_
          refine z_iload_n 1 dX0_widen_30 rfl ?_
          refine z_tabL dX0_widen_31 (by omega) ?_
          refine z_land dX0_widen_32 (by omega) ?_
          refine z_iconst dX0_widen_33 ?_
          refine z_iload_n 1 dX0_widen_34 rfl ?_
          refine z_ishl dX0_widen_35 (by omega) ?_
          rw [Int.one_mul]
          refine z_lshl dX0_widen_36 (by omega) ?_
          have uwl := wl_rg (rd := rd) (y := r35 x2) (by omega)
          refine z_lor dX0_widen_37 (by omega) ?_
          refine z_last' (r := r35) (fun r => (upR M 35 r)) dX0_widen_38 is35 ka35 (rfl) (by omega) (fun _ => uu1) (fun r35_38 f35_38 => ?_)
          refine z_goto (tgt := 64) dX0_widen_39 rfl ?_
          refine z_iinc (fun y => [(0, rf en 6), (1, vi rd), (2, vi y)]) [1, 2, 0] 2 dX0_widen_64 rfl (by decide) (fun _ => rfl) (fun x2_64 e2_64 => ?_)
          refine z_goto (tgt := 2) dX0_widen_67 rfl ?_
          exact uih2 x2_64 r35_38 (by omega) (⟨by omega, by omega, wdn_lo (by omega) (by omega) e2_64 uq3 f35_38⟩)
  refine Z.eqM (upR_id (k := 35) wg) ?_
  exact uL2 _ x2_1 g (Nat.lt_succ_self _) (⟨by omega, by omega, fun uv ua ub => by rw [e2_1]; exact wdn_0 hr g ⟨ua, ub⟩⟩)
