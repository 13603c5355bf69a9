/-! Chance: what is good is just what the reference counts -/
theorem bt_iff {b : Int} (hb : 0 ≤ b) (k : Nat) : bitq b (k : Int) ↔ b.toNat.testBit k = true := by
  obtain ⟨n, rfl⟩ : ∃ n : Nat, b = n := ⟨b.toNat, by omega⟩
  unfold bitq
  rw [Int.toNat_natCast, Int.toNat_natCast, Nat.testBit_eq_decide_div_mod_eq, decide_eq_true_eq]
  have e : ((n : Int) / 2 ^ k % 2) = ((n / 2 ^ k % 2 : Nat) : Int) := by simp
  rw [e]
  omega
theorem sb_bit {s r : Int} (i : Nat) : (sb s r).toNat.testBit i = true ↔ s.toNat.testBit i = true ∨ r.toNat = i := by
  unfold sb
  rw [Int.toNat_natCast, p2_nat, Nat.testBit_or, Nat.testBit_two_pow]
  simp
theorem sb_0 (s r : Int) : 0 ≤ sb s r := Int.natCast_nonneg _
theorem nx_t {F G D : Int → Int} {t r : Int} (h : 0 ≤ r) : nx (tR F G D) t r.toNat = nxt F G t r := by
  unfold nx nxt
  rw [Int.toNat_of_nonneg h, tR_0, tR_1]
theorem tr_wk {F G D : Int → Int} {nr : Nat} {go op : Int} (ho : 0 ≤ op) {S : Int} (hop : ∀ i : Nat, S.toNat.testBit i = true → op.toNat.testBit i = true) : ∀ (f : Nat) (t dl s ps : Int), trS F G D nr go f t dl s ps S → ∃ l, wk (tR F G D) op nr t l ∧ we (tR F G D) t l = go ∧ ww (tR F G D) l ≤ dl ∧ ∀ i : Nat, s.toNat.testBit i = true → S.toNat.testBit i = true
  | 0, _, _, _, _, h => h.elim
  | f + 1, t, dl, s, ps, h => by
    obtain ⟨h0, h | ⟨h1, r, r0, r1, r2, r3, r4⟩⟩ := h
    · obtain ⟨a, b⟩ := h
      subst b
      exact ⟨[], trivial, a, h0, fun _ z => z⟩
    · obtain ⟨l, l1, l2, l3, l4⟩ := tr_wk ho hop f _ _ _ _ r4
      have hb : S.toNat.testBit r.toNat = true := l4 _ ((sb_bit _).mpr (Or.inr rfl))
      refine ⟨r.toNat :: l, ⟨⟨by omega, (bt_iff ho _).mpr (hop _ hb), ?_⟩, ?_⟩, ?_, ?_, fun i z => l4 i ((sb_bit i).mpr (Or.inl z))⟩
      · rw [Int.toNat_of_nonneg r0, tR_0, tR_1]; exact r2
      · rw [nx_t r0]; exact l1
      · show we _ (nx _ t r.toNat) l = go
        rw [nx_t r0]; exact l2
      · show tR F G D (3 * ((r.toNat : Nat) : Int) + 2) + ww _ l ≤ dl
        rw [Int.toNat_of_nonneg r0, tR_2]; omega
theorem we_mem (Rd : Int → Int) : ∀ (l : List Nat) (a : Int), we Rd a l ∈ twn Rd a l
  | [], a => List.mem_singleton.mpr rfl
  | r :: l, a => List.mem_cons_of_mem _ (we_mem Rd l (nx Rd a r))
theorem twn_hd (Rd : Int → Int) : ∀ (l : List Nat) (a : Int), twn Rd a l = a :: (twn Rd a l).tail
  | [], _ => rfl
  | _ :: _, _ => rfl
theorem twn_in {Rd : Int → Int} {op : Int} {n : Nat} (hR : rdOK Rd n) : ∀ (l : List Nat) (a : Int), 0 ≤ a ∧ a ≤ 7 → wk Rd op n a l → ∀ x, x ∈ twn Rd a l → 0 ≤ x ∧ x ≤ 7
  | [], a, h, _, x, e => by rw [List.mem_singleton.mp e]; exact h
  | r :: l, a, h, w, x, e => by
    rcases List.mem_cons.mp e with e | e
    · rw [e]; exact h
    · have h2 := hR r (by omega) (by have := w.1.1; omega)
      exact twn_in hR l (nx Rd a r) (by unfold nx; split <;> omega) w.2 x e
theorem wk_tr {F G D : Int → Int} {nr : Nat} (hn : nr ≤ 12) (hR : rdOK (tR F G D) nr) {go op : Int} : ∀ (l : List Nat) (f : Nat) (t dl s ps : Int), (0 ≤ t ∧ t ≤ 7) → (0 ≤ s ∧ s < 4096) → 0 ≤ ps → wk (tR F G D) op nr t l → we (tR F G D) t l = go → ww (tR F G D) l ≤ dl → l.length < f → (twn (tR F G D) t l).Nodup → (∀ x, x ∈ (twn (tR F G D) t l).tail → ¬ bitq ps x) → ∃ S, (0 ≤ S ∧ S < 4096) ∧ trS F G D nr go f t dl s ps S ∧ ∀ i : Nat, S.toNat.testBit i = true → s.toNat.testBit i = true ∨ i ∈ l
  | _, 0, _, _, _, _, _, _, _, _, _, _, hl, _, _ => absurd hl (Nat.not_lt_zero _)
  | [], f + 1, t, dl, s, ps, _, hs, _, _, e, hw, _, _, _ => ⟨s, hs, ⟨hw, Or.inl ⟨e, rfl⟩⟩, fun _ z => Or.inl z⟩
  | r :: l, f + 1, t, dl, s, ps, ht, hs, hp, w, e, hw, hl, hN, hb => by
    have hN2 := List.nodup_cons.mp hN
    have er : ((r : Nat) : Int).toNat = r := Int.toNat_natCast r
    have en := nx_t (F := F) (G := G) (D := D) (t := t) (r := (r : Int)) (Int.natCast_nonneg r)
    rw [er] at en
    have ek := w.1
    rw [tR_0, tR_1] at ek
    have hd := trd hR (r := (r : Int)) (Int.natCast_nonneg r) (by have := ek.1; omega)
    have hx : 0 ≤ nx (tR F G D) t r ∧ nx (tR F G D) t r ≤ 7 := by rw [en]; unfold nxt; split <;> omega
    have hw2 : D r + ww (tR F G D) l ≤ dl := by
      have : tR F G D (3 * (r : Int) + 2) + ww (tR F G D) l ≤ dl := hw
      rw [tR_2] at this
      exact this
    have hwp := ww_pos hR l _ w.2
    have hm : go ∈ twn (tR F G D) (nx (tR F G D) t r) l := by
      have h8 := we_mem (tR F G D) l (nx (tR F G D) t r)
      have h9 : we (tR F G D) (nx (tR F G D) t r) l = go := e
      rw [h9] at h8
      exact h8
    have hne : t ≠ go := fun z => hN2.1 (Eq.mp (congrArg (fun x => x ∈ twn (tR F G D) (nx (tR F G D) t r) l) z.symm) hm)
    have hnb : ¬ bitq ps (nx (tR F G D) t r) := hb _ (by show _ ∈ twn _ _ l; rw [twn_hd]; exact List.mem_cons_self)
    have hN3 := hN2.2
    rw [twn_hd] at hN3
    have hN4 := List.nodup_cons.mp hN3
    obtain ⟨S, S1, S2, S3⟩ := wk_tr hn hR l f (nx (tR F G D) t r) (dl - D r) (sb s r) (sb ps (nx (tR F G D) t r)) hx (sb_rg 12 hs ⟨Int.natCast_nonneg r, by have := ek.1; omega⟩) (sb_0 _ _) w.2 e (by omega) (by simpa using hl) hN2.2 (fun x hx2 => by
      have hx3 := twn_in hR l _ hx w.2 x (List.mem_of_mem_tail hx2)
      obtain ⟨k, rfl⟩ : ∃ k : Nat, x = k := ⟨x.toNat, by omega⟩
      rw [bt_iff (sb_0 _ _), sb_bit]
      rintro (z | z)
      · have h7 := hb (k : Int) (by show _ ∈ twn _ _ l; rw [twn_hd]; exact List.mem_cons_of_mem _ hx2)
        exact h7 ((bt_iff hp k).mpr z)
      · apply hN4.1
        rw [show nx (tR F G D) t r = (k : Int) by omega]
        rw [show nx (tR F G D) t r = (k : Int) by omega] at hx2
        exact hx2)
    refine ⟨S, S1, ⟨by omega, Or.inr ⟨hne, r, Int.natCast_nonneg r, by have := ek.1; omega, ek.2.2, ?_, ?_⟩⟩, fun i z => ?_⟩
    · rw [← en]; exact hnb
    · rw [← en]; exact S2
    · rcases S3 i z with q | q
      · rcases (sb_bit i).mp q with q | q
        · exact Or.inl q
        · exact Or.inr (by rw [← q, er]; exact List.mem_cons_self)
      · exact Or.inr (List.mem_cons_of_mem _ q)
theorem wk_op {Rd : Int → Int} {op : Int} {n : Nat} : ∀ (l : List Nat) (a : Int), wk Rd op n a l → ∀ r, r ∈ l → r < n ∧ bitq op r
  | [], _, _, _, h => absurd h List.not_mem_nil
  | q :: l, a, w, r, h => by
    rcases List.mem_cons.mp h with e | e
    · rw [e]; exact ⟨w.1.1, w.1.2.1⟩
    · exact wk_op l _ w.2 r e
theorem fw_le {Rd : Int → Int} {n : Nat} (hR : rdOK Rd n) (op : Int) (W0 : Int → Int) {a b L : Int} (ha : 0 ≤ a ∧ a ≤ 7) (hb : 0 ≤ b ∧ b ≤ 7) (hL : L < 9999) : fwA Rd op W0 n (8 * a + b) ≤ L ↔ ∃ l, wk Rd op n a l ∧ we Rd a l = b ∧ ww Rd l ≤ L := by
  rw [fwA_e op W0 hR a b ha.1 ha.2 hb.1 hb.2]
  have e := eR_L (X := 9999) (by decide) op hR n (Int.le_refl _)
  have g := (gB_L e 8 (Nat.le_refl 8)).1
  constructor
  · intro h
    obtain ⟨l, l1, l2, l3⟩ := g.2.2.2 a b ha.1 ha.2 hb.1 hb.2 (by omega)
    exact ⟨l, l1, l2, by omega⟩
  · rintro ⟨l, l1, l2, l3⟩
    have := gB_lo hR e l a ha.1 ha.2 l1
    rw [l2] at this
    omega
/-- the sets in which a path stands -/
def inS (S0 S : Int) : Prop := ∀ i : Nat, S0.toNat.testBit i = true → S.toNat.testBit i = true
def WdR (g : Int → Int) (k : Int) (S : Int) : Prop := ∃ S0, (0 ≤ S0 ∧ S0 < 4096) ∧ bq g S0 ∧ inS S0 S ∧ ∀ i : Nat, S.toNat.testBit i = true → S0.toNat.testBit i = false → (i : Int) < k
theorem bit_ext {a b : Nat} (h : ∀ i, a.testBit i = true ↔ b.testBit i = true) : a = b := Nat.eq_of_testBit_eq (fun i => Bool.eq_iff_iff.mpr (h i))
theorem sub_bit {n k : Nat} (h : n.testBit k = true) (i : Nat) : (n - 2 ^ k).testBit i = true ↔ n.testBit i = true ∧ i ≠ k := by
  have e1 : n = 2 ^ k * (n / 2 ^ k) + n % 2 ^ k := (Nat.div_add_mod n (2 ^ k)).symm
  have hp := Nat.two_pow_pos k
  have hb : n % 2 ^ k < 2 ^ k := Nat.mod_lt _ hp
  rw [Nat.testBit_eq_decide_div_mod_eq, decide_eq_true_eq] at h
  generalize hq : n / 2 ^ k = q at *
  generalize hr : n % 2 ^ k = r at *
  obtain ⟨m, rfl⟩ : ∃ m, q = m + 1 := ⟨q - 1, by omega⟩
  have e2 : n - 2 ^ k = 2 ^ k * m + r := by rw [e1, Nat.mul_succ]; omega
  rw [e2, e1, Nat.testBit_two_pow_mul_add _ hb, Nat.testBit_two_pow_mul_add _ hb]
  by_cases c : i < k
  · rw [if_pos c, if_pos c]
    exact ⟨fun z => ⟨z, by omega⟩, fun z => z.1⟩
  · rw [if_neg c, if_neg c]
    rcases Nat.eq_or_lt_of_le (Nat.le_of_not_lt c) with d | d
    · subst d
      rw [Nat.sub_self, Nat.testBit_zero]
      simp; omega
    · obtain ⟨j, hj⟩ : ∃ j, i - k = j + 1 := ⟨i - k - 1, by omega⟩
      rw [hj, Nat.testBit_add_one, Nat.testBit_add_one, show m / 2 = (m + 1) / 2 by omega]
      exact ⟨fun z => ⟨z, by omega⟩, fun z => z.1⟩
theorem wd_0 {g : Int → Int} {S : Int} (h : 0 ≤ S ∧ S < 4096) : bq g S ↔ WdR g 0 S := by
  constructor
  · intro z
    exact ⟨S, h, z, fun _ y => y, fun i a b => by rw [a] at b; exact absurd b (by decide)⟩
  · rintro ⟨S0, h0, h1, h2, h3⟩
    have : S0.toNat = S.toNat := bit_ext (fun i => ⟨h2 i, fun z => by
      cases c : S0.toNat.testBit i with
      | true => rfl
      | false => have := h3 i z c; omega⟩)
    rw [show S = S0 by omega]
    exact h1
theorem wd_s {g r r' : Int → Int} {k k' : Int} (hk : 0 ≤ k ∧ k < 12) (hk' : k' = k + 1) (h : ∀ S, 0 ≤ S → S < 4096 → (bq r S ↔ WdR g k S)) (h' : ∀ S, 0 ≤ S → S < 4096 → (bq r' S ↔ bq r S ∨ (S.toNat.testBit k.toNat = true ∧ bq r (S - 2 ^ k.toNat)))) {S : Int} (a : 0 ≤ S) (b : S < 4096) : bq r' S ↔ WdR g k' S := by
  subst hk'
  rw [h' S a b, h S a b]
  have e : ((2 : Int) ^ k.toNat) = ((2 ^ k.toNat : Nat) : Int) := by simp
  have key : S.toNat.testBit k.toNat = true → 0 ≤ S - 2 ^ k.toNat ∧ S - 2 ^ k.toNat < 4096 ∧ (S - 2 ^ k.toNat).toNat = S.toNat - 2 ^ k.toNat := fun z => by
    have h1 := Nat.ge_two_pow_of_testBit z
    have h2 := Nat.two_pow_pos k.toNat
    rw [e]
    omega
  constructor
  · rintro (⟨S0, h0, h1, h2, h3⟩ | ⟨z, y⟩)
    · exact ⟨S0, h0, h1, h2, fun i u v => by have := h3 i u v; omega⟩
    · obtain ⟨c1, c2, c3⟩ := key z
      obtain ⟨S0, h0, h1, h2, h3⟩ := (h _ c1 c2).mp y
      rw [inS, c3] at h2
      rw [c3] at h3
      refine ⟨S0, h0, h1, fun i u => ((sub_bit z i).mp (h2 i u)).1, fun i u v => ?_⟩
      by_cases q : i = k.toNat
      · omega
      · have := h3 i ((sub_bit z i).mpr ⟨u, q⟩) v; omega
  · rintro ⟨S0, h0, h1, h2, h3⟩
    by_cases z : S.toNat.testBit k.toNat = true ∧ S0.toNat.testBit k.toNat = false
    · obtain ⟨c1, c2, c3⟩ := key z.1
      refine Or.inr ⟨z.1, (h _ c1 c2).mpr ⟨S0, h0, h1, fun i u => ?_, fun i u v => ?_⟩⟩
      · rw [c3]
        refine (sub_bit z.1 i).mpr ⟨h2 i u, fun q => ?_⟩
        rw [q, z.2] at u
        exact absurd u (by decide)
      · rw [c3] at u
        have u2 := (sub_bit z.1 i).mp u
        have := h3 i u2.1 v
        omega
    · refine Or.inl ⟨S0, h0, h1, h2, fun i u v => ?_⟩
      have := h3 i u v
      by_cases q : i = k.toNat
      · subst q; exact absurd ⟨u, v⟩ z
      · omega
theorem good_iff {F G D : Int → Int} {nr : Nat} (hn : nr ≤ 12) (hR : rdOK (tR F G D) nr) {g : Int → Int} {a b dl : Int} (ha : 0 ≤ a ∧ a ≤ 7) (hb : 0 ≤ b ∧ b ≤ 7) (hL : dl < 9999) (hg : ∀ S, 0 ≤ S → S < 4096 → (bq g S ↔ trS F G D nr b 8 a dl 0 (2 ^ a.toNat) S)) {op : Int} (h0 : 0 ≤ op) (h1 : op < 2 ^ nr) (W0 : Int → Int) : WdR g nr op ↔ fwA (tR F G D) op W0 nr (8 * a + b) ≤ dl := by
  rw [fw_le hR op W0 ha hb hL]
  have e : ((2 : Int) ^ nr) = ((2 ^ nr : Nat) : Int) := by simp
  have e2 : ((2 : Int) ^ a.toNat) = ((2 ^ a.toNat : Nat) : Int) := by simp
  constructor
  · rintro ⟨S0, c0, c1, c2, c3⟩
    obtain ⟨l, l1, l2, l3, -⟩ := tr_wk h0 c2 8 _ _ _ _ ((hg S0 c0.1 c0.2).mp c1)
    exact ⟨l, l1, l2, l3⟩
  · rintro ⟨l, l1, l2, l3⟩
    obtain ⟨m, m1, m2, m3, m4, m5, m6, m7⟩ := wk_63 hR l a ha l1
    have m6' := m6
    rw [twn_hd] at m6'
    have m8 := List.nodup_cons.mp m6'
    obtain ⟨S, S1, S2, S3⟩ := wk_tr hn hR m 8 a dl 0 (2 ^ a.toNat) ha (by decide) (by rw [e2]; exact Int.natCast_nonneg _) m1 (m2.trans l2) (by omega) (by omega) m6 (fun x hx => by
      have hx3 := twn_in hR m _ ha m1 x (List.mem_of_mem_tail hx)
      obtain ⟨k, rfl⟩ : ∃ k : Nat, x = k := ⟨x.toNat, by omega⟩
      rw [bt_iff (by rw [e2]; exact Int.natCast_nonneg _), p2_nat, Nat.testBit_two_pow, decide_eq_true_eq]
      intro z
      apply m8.1
      rw [show a = (k : Int) by omega]
      rw [show a = (k : Int) by omega] at hx
      exact hx)
    refine ⟨S, S1, (hg S S1.1 S1.2).mpr S2, fun i z => ?_, fun i z _ => ?_⟩
    · rcases S3 i z with q | q
      · exact absurd q (by simp)
      · exact (bt_iff h0 i).mp (wk_op m a m1 i q).2
    · by_cases q : i < nr
      · omega
      · have := Nat.testBit_lt_two_pow (x := op.toNat) (i := i) (Nat.lt_of_lt_of_le (by omega : op.toNat < 2 ^ nr) (Nat.pow_le_pow_right (by decide) (by omega)))
        rw [this] at z
        exact absurd z (by decide)
theorem gbt_bq {g : Int → Int} (hg : gOK g) {s : Int} (h : 0 ≤ s ∧ s < 4096) : gbt g s ↔ bq g s := by
  have h1 := hg (s / 64) (by omega) (by omega)
  unfold gbt bq
  generalize g (s / 64) = x at *
  obtain ⟨n, rfl⟩ : ∃ n : Nat, x = n := ⟨x.toNat, by omega⟩
  generalize hb : (s % 64).toNat = b
  have hb2 : b < 64 := by omega
  rw [Int.toNat_natCast, Nat.testBit_eq_decide_div_mod_eq, decide_eq_true_eq]
  have e : ((n : Int) / 2 ^ b % 2) = ((n / 2 ^ b % 2 : Nat) : Int) := by simp
  have e2 : sgn (n : Int) / 2 ^ b % 2 = (n : Int) / 2 ^ b % 2 := by
    unfold sgn
    split
    · rfl
    · have e3 : (18446744073709551616 : Int) = 2 * 2 ^ (63 - b) * 2 ^ b := by
        rw [Int.mul_assoc, ← Int.pow_add, show 63 - b + b = 63 by omega]
        rfl
      rw [e3, Int.sub_mul_ediv_right _ _ (Int.ne_of_gt (Int.pow_pos (by decide)))]
      omega
  rw [e2, e]
  omega
/-! weights -/
def cn (s : Nat) : Nat → Nat
  | 0 => 0
  | n + 1 => cn s n + (if s.testBit n = true then 1 else 0)
theorem cn_le (s : Nat) : ∀ n, cn s n ≤ n
  | 0 => Nat.le_refl 0
  | n + 1 => by have := cn_le s n; rw [cn]; split <;> omega
theorem cn_12 : ∀ a : Nat, a < 64 → ∀ b : Nat, b < 64 → pcw (64 * a + b) = cn (64 * a + b) 12 := by decide +kernel
theorem cn_pc {s : Nat} (h : s < 4096) : pcw s = cn s 12 := by
  have := cn_12 (s / 64) (by omega) (s % 64) (by omega)
  rw [show 64 * (s / 64) + s % 64 = s by omega] at this
  exact this
theorem cn_hi {s n : Nat} (h : s < 2 ^ n) : ∀ j, cn s (n + j) = cn s n
  | 0 => rfl
  | j + 1 => by
    show cn s (n + j) + (if s.testBit (n + j) = true then 1 else 0) = _
    rw [cn_hi h j, Nat.testBit_lt_two_pow (Nat.lt_of_lt_of_le h (Nat.pow_le_pow_right (by decide) (Nat.le_add_right n j)))]
    rfl
theorem wtp_v (p q : Int) (k : Nat) : ∀ n : Nat, wtp p q k n = p ^ (min k n) * q ^ (n - k)
  | 0 => by simp [wtp]
  | n + 1 => by
    rw [wtp, wtp_v p q k n]
    by_cases c : n < k
    · rw [if_pos (by omega), show min k (n + 1) = min k n + 1 by omega, show n + 1 - k = n - k by omega, Int.pow_succ, Int.mul_assoc, Int.mul_comm (q ^ _) p, Int.mul_assoc]
    · rw [if_neg (by omega), show min k (n + 1) = min k n by omega, show n + 1 - k = n - k + 1 by omega, Int.pow_succ, Int.mul_assoc]
theorem wgt_v (c : Int) (s : Nat) : ∀ n : Nat, wgt c s n = (16 - c) ^ (cn s n) * c ^ (n - cn s n)
  | 0 => by simp [wgt, cn]
  | n + 1 => by
    have h1 := cn_le s n
    rw [wgt, wgt_v c s n, cn]
    by_cases z : s.testBit n = true
    · rw [if_pos ((bt_iff (Int.natCast_nonneg s) n).mpr (by rw [Int.toNat_natCast]; exact z)), if_pos z, show n + 1 - (cn s n + 1) = n - cn s n by omega, Int.pow_succ, Int.mul_assoc, Int.mul_comm (c ^ _) (16 - c), Int.mul_assoc]
    · rw [if_neg (fun y => z (by have := (bt_iff (Int.natCast_nonneg s) n).mp y; rw [Int.toNat_natCast] at this; exact this)), if_neg z, Nat.add_zero, show n + 1 - cn s n = n - cn s n + 1 by omega, Int.pow_succ, Int.mul_assoc]
theorem wt_eq {c : Int} {s n : Nat} (hn : n ≤ 12) (h : s < 2 ^ n) : wtp (16 - c) c (pcw s : Int) n = wgt c s n := by
  have h1 : s < 4096 := Nat.lt_of_lt_of_le h (Nat.pow_le_pow_right (n := 2) (by decide) hn)
  have h2 : pcw s = cn s n := by
    rw [cn_pc h1]
    have := cn_hi h (12 - n)
    rw [show n + (12 - n) = 12 by omega] at this
    exact this
  have h3 := cn_le s n
  rw [wtp_v, wgt_v, h2, show min (cn s n) n = cn s n by omega]
theorem ad_eq {F G D T : Int → Int} (hT : tOK T) {nr : Nat} (hn : nr ≤ 12) (hR : rdOK (tR F G D) nr) {g gf wt : Int → Int} {c b day : Int} (hb : 0 ≤ b ∧ b ≤ 7) (hd : 0 ≤ day ∧ day ≤ 99) (hg : ∀ S, 0 ≤ S → S < 4096 → (bq g S ↔ trS F G D nr b 8 (T 0) (day - T 1 - T 2) 0 (2 ^ (T 0).toNat) S)) (hf : gOK gf) (hw : ∀ S, 0 ≤ S → S < 4096 → (bq gf S ↔ WdR g nr S)) (hwt : ∀ k, 0 ≤ k → k ≤ nr → wt k = wtp (16 - c) c k nr) : ∀ n : Nat, n ≤ 2 ^ nr → adS gf wt n = otA T (tR F G D) nr c b day n
  | 0, _ => rfl
  | n + 1, h => by
    have h4 : n < 4096 := Nat.lt_of_lt_of_le (by omega : n < 2 ^ nr) (Nat.pow_le_pow_right (n := 2) (by decide) hn)
    have e : ((2 : Int) ^ nr) = ((2 ^ nr : Nat) : Int) := by simp
    have h5 : pcw n ≤ nr := by
      rw [cn_pc h4]
      have := cn_hi (s := n) (n := nr) (by omega) (12 - nr)
      rw [show nr + (12 - nr) = 12 by omega] at this
      rw [this]; exact cn_le n nr
    rw [adS, otA, ad_eq hT hn hR hb hd hg hf hw hwt n (by omega), hwt _ (by omega) (by omega), wt_eq hn (by omega)]
    have key : gbt gf n ↔ hA T (fwA (tR F G D) n (fun _ => 0) nr) b ≤ day := by
      rw [gbt_bq hf (by omega), hw _ (by omega) (by omega), good_iff hn hR hT.1 hb (by omega) hg (by omega) (by rw [e]; omega) (fun _ => 0)]
      unfold hA
      omega
    by_cases z : gbt gf n
    · rw [if_pos z, if_pos (key.mp z)]
    · rw [if_neg z, if_neg (fun y => z (key.mpr y))]
theorem ot_eq {T Rd : Int → Int} {nr : Nat} (hn : nr ≤ 12) {c tw day wh : Int} {a b : Int} {j m : Nat} (h1 : a * 2 ^ j = otA T Rd nr c tw day (2 ^ nr)) (h2 : b = 2 ^ m) (h3 : m + j = 4 * nr) (h4 : a % 2 = 1 ∨ m = 0 ∨ j = 48) : (if wh = 0 then a else b) = otV T Rd nr c tw day wh := by
  unfold otV
  rw [← h1]
  have e : (16 : Int) ^ nr = 2 ^ m * 2 ^ j := by
    rw [← Int.pow_add, h3, Int.pow_mul]
    rfl
  have hp : (0 : Int) < 2 ^ j := Int.pow_pos (by decide)
  have hg : Int.gcd (a * 2 ^ j) (2 ^ m * 2 ^ j) = 2 ^ j := by
    rw [Int.gcd_mul_right]
    have e1 : Int.gcd a (2 ^ m) = 1 := by
      by_cases hm : m = 0
      · subst hm; simp
      · have ho : a % 2 = 1 := by omega
        have e2 : Int.gcd a (2 ^ m) = Nat.gcd a.natAbs (2 ^ m) := by
          unfold Int.gcd
          rw [Int.natAbs_pow]
          rfl
        rw [e2]
        apply Nat.Coprime.pow_right
        rw [Nat.coprime_iff_gcd_eq_one, Nat.gcd_comm, Nat.gcd_rec]
        have : a.natAbs % 2 = 1 := by omega
        rw [this]
        rfl
    rw [e1]
    simp [Int.natAbs_pow]
  rw [e, hg]
  have e5 : ((2 ^ j : Nat) : Int) = (2 : Int) ^ j := by simp
  rw [e5]
  by_cases w : wh = 0
  · rw [if_pos w, if_pos w, Int.mul_ediv_cancel _ (Int.ne_of_gt hp)]
  · rw [if_neg w, if_neg w, h2, Int.mul_ediv_cancel _ (Int.ne_of_gt hp)]
