/-! the reference's ways and the class's -/
abbrev A64 (W V : Int → Int) : Prop := ∀ a b, 0 ≤ a → a ≤ 7 → 0 ≤ b → b ≤ 7 → W (8 * a + b) = V (8 * a + b)
theorem fwR_e {Rd : Int → Int} (op : Int) (W0 : Int → Int) {c : Int} (hR : rdOK Rd c) : ∀ n : Nat, (n : Int) ≤ c → A64 (fwR Rd op W0 n) (eR 9999 Rd op n)
  | 0, _, a, b, h1, h2, h3, h4 => by
    show fil wI W0 0 64 (8 * a + b) = if (8 * a + b) / 8 = (8 * a + b) % 8 then 0 else 9999
    rw [fil_in _ _ (by omega), show 8 * a + b - 0 = 8 * a + b by omega]
    rfl
  | n + 1, hn, a, b, h1, h2, h3, h4 => by
    have ih := fwR_e op W0 hR n (by omega)
    obtain ⟨r1, r2, r3, r4⟩ := hR n (by omega) (by omega)
    have i1 := ih (Rd (3 * (n : Int))) (Rd (3 * (n : Int) + 1)) r1.1 r1.2 r2.1 r2.2
    have i3 := ih a b h1 h2 h3 h4
    have sy := eR_sym 9999 op hR n (by omega) (Rd (3 * (n : Int))) (Rd (3 * (n : Int) + 1)) r1.1 r1.2 r2.1 r2.2
    rw [fwR, eR]
    unfold stR stD
    by_cases z : bitq op n
    · rw [if_pos z, if_pos z]
      by_cases p : 8 * a + b = 8 * Rd (3 * (n : Int) + 1) + Rd (3 * (n : Int))
      · rw [p, up_s, up_s, i1, sy]
      · rw [up_n _ _ p, up_n _ _ p]
        by_cases q : 8 * a + b = 8 * Rd (3 * (n : Int)) + Rd (3 * (n : Int) + 1)
        · rw [q, up_s, up_s, i1]
        · rw [up_n _ _ q, up_n _ _ q, i3]
    · rw [if_neg z, if_neg z]
      by_cases p : 8 * a + b = 8 * Rd (3 * (n : Int) + 1) + Rd (3 * (n : Int))
      · rw [p, up_s, i1, sy]
      · rw [up_n _ _ p]
        by_cases q : 8 * a + b = 8 * Rd (3 * (n : Int)) + Rd (3 * (n : Int) + 1)
        · rw [q, up_s, i1]
        · rw [up_n _ _ q, i3]
theorem gK_c {o : Int} (ho : 0 ≤ o ∧ o ≤ 7) {W V : Int → Int} (h : A64 W V) : ∀ n : Nat, n ≤ 64 → A64 (gK o W n) (gK o V n)
  | 0, _ => h
  | n + 1, hn => by
    have ih := gK_c ho h n (by omega)
    intro a b h1 h2 h3 h4
    rw [gK, gK, sK, sK]
    by_cases q : 8 * a + b = (n : Int)
    · rw [← q, up_s, up_s, show (8 * a + b) / 8 = a by omega, show (8 * a + b) % 8 = b by omega, ih a b h1 h2 h3 h4, ih a o h1 h2 ho.1 ho.2, ih o b ho.1 ho.2 h3 h4]
    · rw [up_n _ _ q, up_n _ _ q]; exact ih a b h1 h2 h3 h4
theorem gB_c {W V : Int → Int} (h : A64 W V) : ∀ n : Nat, n ≤ 8 → A64 (gB W n) (gB V n)
  | 0, _ => h
  | n + 1, hn => gK_c (by omega) (gB_c h n (by omega)) 64 (Nat.le_refl 64)
theorem fwK_g {o : Int} (ho : 0 ≤ o ∧ o < 8) {W : Int → Int} (hW : wOK W) : ∀ n : Nat, n ≤ 64 → A64 (fwK o W n) (gK o W n)
  | 0, _ => fun _ _ _ _ _ _ => rfl
  | n + 1, hn => by
    have ih := fwK_g ho hW n (by omega)
    have ok := fwK_ok ho hW n (by omega)
    intro a b h1 h2 h3 h4
    rw [fwK, gK, stK, sK]
    by_cases q : 8 * a + b = (n : Int)
    · have k := ok (8 * a + b) (by omega) (by omega)
      rw [ih a b h1 h2 h3 h4] at k
      rw [← q, up_s, up_s, show (8 * a + b) / 8 = a by omega, show (8 * a + b) % 8 = b by omega, ih a b h1 h2 h3 h4, ih a o h1 h2 ho.1 (by omega), ih o b ho.1 (by omega) h3 h4]
      omega
    · rw [up_n _ _ q, up_n _ _ q]; exact ih a b h1 h2 h3 h4
theorem fwB_g {W : Int → Int} (hW : wOK W) : ∀ n : Nat, n ≤ 8 → A64 (fwB W n) (gB W n)
  | 0, _ => fun _ _ _ _ _ _ => rfl
  | n + 1, hn => fun a b h1 h2 h3 h4 => by
    have ih := fwB_g hW n (by omega)
    rw [fwB, gB, fwK_g (by omega) (fwB_ok hW n (by omega)) 64 (Nat.le_refl 64) a b h1 h2 h3 h4]
    exact gK_c (by omega) ih 64 (Nat.le_refl 64) a b h1 h2 h3 h4
/-- the reference's ways: a land's table -/
theorem fwA_e {Rd : Int → Int} (op : Int) (W0 : Int → Int) {n : Nat} (hR : rdOK Rd n) : A64 (fwA Rd op W0 n) (gB (eR 9999 Rd op n) 8) := fun a b h1 h2 h3 h4 => by
  unfold fwA
  rw [fwB_g (fwR_ok hR n (Int.le_refl _)) 8 (Nat.le_refl 8) a b h1 h2 h3 h4]
  exact gB_c (fwR_e op W0 hR n (Int.le_refl _)) 8 (Nat.le_refl 8) a b h1 h2 h3 h4
theorem gD_v (W : Int → Int) : ∀ n : Nat, n ≤ 8 → ∀ a b : Int, 0 ≤ a → a ≤ 7 → 0 ≤ b → b ≤ 7 → gD W n (8 * a + b) = if a = b ∧ a < n then 0 else W (8 * a + b)
  | 0, _, a, b, h1, h2, h3, h4 => by rw [gD, if_neg (by omega)]
  | n + 1, hn, a, b, h1, h2, h3, h4 => by
    have ih := gD_v W n (by omega) a b h1 h2 h3 h4
    rw [gD]
    by_cases q : 8 * a + b = (n : Int) * 8 + n
    · rw [q, up_s, if_pos (by omega)]
    · rw [up_n _ _ q, ih]
      by_cases p : a = b ∧ a < n
      · rw [if_pos p, if_pos (by omega)]
      · rw [if_neg p, if_neg (by omega)]
theorem bit_12 : ∀ n : Nat, n < 12 → bitq 4095 (n : Int) := by decide +kernel
theorem gR_e {F G D W : Int → Int} {c : Int} (hc : c ≤ 12) (hR : rdOK (tR F G D) c) : ∀ n : Nat, (n : Int) ≤ c → A64 (gR F G D (gD (fil (fun _ => 1000) W 0 64) 8) n) (eR 1000 (tR F G D) 4095 n)
  | 0, _, a, b, h1, h2, h3, h4 => by
    rw [gR, gD_v _ 8 (Nat.le_refl 8) a b h1 h2 h3 h4, fil_in _ _ (by omega)]
    show _ = if (8 * a + b) / 8 = (8 * a + b) % 8 then 0 else 1000
    by_cases q : a = b
    · rw [if_pos (by omega), if_pos (by omega)]
    · rw [if_neg (by omega), if_neg (by omega)]
  | n + 1, hn, a, b, h1, h2, h3, h4 => by
    have ih := gR_e (W := W) hc hR n (by omega)
    obtain ⟨r1, r2, r3, r4⟩ := hR n (by omega) (by omega)
    rw [tR_0] at r1 r4
    rw [tR_1] at r2 r4
    rw [tR_2] at r3
    have i1 := ih (F n) (G n) r1.1 r1.2 r2.1 r2.2
    have i2 := ih (G n) (F n) r2.1 r2.2 r1.1 r1.2
    have i3 := ih a b h1 h2 h3 h4
    rw [gR, eR, if_pos (bit_12 n (by omega)), tR_0, tR_1, tR_2]
    unfold sS
    rw [show F n * 8 + G n = 8 * F n + G n by omega, show G n * 8 + F n = 8 * G n + F n by omega]
    by_cases p : 8 * a + b = 8 * G n + F n
    · rw [p, up_s, up_s, up_n _ _ (by omega), i2]
      omega
    · rw [up_n _ _ p, up_n _ _ p]
      by_cases q : 8 * a + b = 8 * F n + G n
      · rw [q, up_s, up_s, i1]
        omega
      · rw [up_n _ _ q, up_n _ _ q, i3]
theorem gA_e {F G D W : Int → Int} {n : Nat} (hn : n ≤ 12) (hR : rdOK (tR F G D) n) : A64 (gA F G D W n) (gB (eR 1000 (tR F G D) 4095 n) 8) := fun a b h1 h2 h3 h4 => by
  unfold gA
  exact gB_c (gR_e (by omega) hR n (Int.le_refl _)) 8 (Nat.le_refl 8) a b h1 h2 h3 h4
/-- both find the same ways -/
theorem way_eq {F G D W W0 : Int → Int} {n : Nat} (hn : n ≤ 12) (hR : rdOK (tR F G D) n) (j : Int) (h1 : 0 ≤ j) (h2 : j < 64) : cW (gA F G D W n) j = fwA (tR F G D) 4095 W0 n j := by
  have e : j = 8 * (j / 8) + j % 8 := by omega
  rw [e]
  have a1 := gA_e (W := W) hn hR (j / 8) (j % 8) (by omega) (by omega) (by omega) (by omega)
  have a2 := fwA_e 4095 W0 hR (j / 8) (j % 8) (by omega) (by omega) (by omega) (by omega)
  have t := two_lands (X := 1000) (Y := 9999) (by decide) (by decide) hR (eR_L (by decide) 4095 hR n (Int.le_refl _)) (eR_L (by decide) 4095 hR n (Int.le_refl _)) (j / 8) (j % 8) (by omega) (by omega) (by omega) (by omega)
  unfold cW
  rw [a1, a2]
  rcases t with t | t
  · rw [if_neg (by omega)]; exact t.1
  · rw [if_pos (by omega)]; exact t.2.symm
/-- no way that the class finds takes more than 63 days -/
theorem gA_63 {F G D W : Int → Int} {c : Int} (hc : 0 ≤ c ∧ c ≤ 12) (hR : rdOK (tR F G D) c) : ∀ j, 0 ≤ j → j < 64 → (0 ≤ gA F G D W c.toNat j ∧ gA F G D W c.toNat j ≤ 63) ∨ gA F G D W c.toNat j = 1000 := fun j h1 h2 => by
  have hR2 : rdOK (tR F G D) ((c.toNat : Nat) : Int) := by rw [show ((c.toNat : Nat) : Int) = c by omega]; exact hR
  have b := gA_ok (W := W) hR hc.1 j h1 h2
  have e : j = 8 * (j / 8) + j % 8 := by omega
  rw [e] at b ⊢
  have a1 := gA_e (W := W) (by omega) hR2 (j / 8) (j % 8) (by omega) (by omega) (by omega) (by omega)
  have t := two_lands (X := 1000) (Y := 1000) (by decide) (by decide) hR2 (eR_L (by decide) 4095 hR2 c.toNat (Int.le_refl _)) (eR_L (by decide) 4095 hR2 c.toNat (Int.le_refl _)) (j / 8) (j % 8) (by omega) (by omega) (by omega) (by omega)
  rw [← a1] at t
  rcases t with t | t
  · exact Or.inl ⟨b.1, t.2⟩
  · exact Or.inr t.1
