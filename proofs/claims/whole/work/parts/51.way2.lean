/-! over each town -/
theorem gK_val {o : Int} (ho : 0 ≤ o ∧ o ≤ 7) {W : Int → Int} (h0 : ∀ a b, 0 ≤ a → a ≤ 7 → 0 ≤ b → b ≤ 7 → 0 ≤ W (8 * a + b)) (hz : W (8 * o + o) = 0) : ∀ n : Nat, n ≤ 64 → ∀ a b, 0 ≤ a → a ≤ 7 → 0 ≤ b → b ≤ 7 → gK o W n (8 * a + b) = if 8 * a + b < n then min (W (8 * a + b)) (W (8 * a + o) + W (8 * o + b)) else W (8 * a + b)
  | 0, _, a, b, h1, h2, h3, h4 => by rw [gK, if_neg (by omega)]
  | n + 1, hn, a, b, h1, h2, h3, h4 => by
    have ih := gK_val ho h0 hz n (by omega)
    rw [gK, sK]
    by_cases q : 8 * a + b = (n : Int)
    · rw [← q, up_s, if_pos (by omega), show (8 * a + b) / 8 = a by omega, show (8 * a + b) % 8 = b by omega, ih a b h1 h2 h3 h4, ih a o h1 h2 ho.1 ho.2, ih o b ho.1 ho.2 h3 h4, if_neg (show ¬ 8 * a + b < (n : Int) by omega)]
      have e1 := h0 a o h1 h2 ho.1 ho.2
      have e2 := h0 o b ho.1 ho.2 h3 h4
      rw [hz]
      split <;> split <;> omega
    · rw [up_n _ _ q, ih a b h1 h2 h3 h4]
      by_cases p : 8 * a + b < (n : Int)
      · rw [if_pos p, if_pos (by omega)]
      · rw [if_neg p, if_neg (by omega)]
theorem gK_v {o : Int} (ho : 0 ≤ o ∧ o ≤ 7) {W : Int → Int} (h0 : ∀ a b, 0 ≤ a → a ≤ 7 → 0 ≤ b → b ≤ 7 → 0 ≤ W (8 * a + b)) (hz : W (8 * o + o) = 0) (a b : Int) (h1 : 0 ≤ a) (h2 : a ≤ 7) (h3 : 0 ≤ b) (h4 : b ≤ 7) : gK o W 64 (8 * a + b) = min (W (8 * a + b)) (W (8 * a + o) + W (8 * o + b)) := by
  rw [gK_val ho h0 hz 64 (Nat.le_refl 64) a b h1 h2 h3 h4, if_pos (by omega)]
theorem gB_L {X : Int} {Rd : Int → Int} {op : Int} {n : Nat} {W : Int → Int} (h : Lnd X Rd op n W) : ∀ o : Nat, o ≤ 8 → Lnd X Rd op n (gB W o) ∧ ∀ a b c : Int, 0 ≤ a → a ≤ 7 → 0 ≤ b → b < o → 0 ≤ c → c ≤ 7 → gB W o (8 * a + c) ≤ gB W o (8 * a + b) + gB W o (8 * b + c)
  | 0, _ => ⟨h, fun a b c _ _ h3 h4 => absurd h4 (by omega)⟩
  | o + 1, ho => by
    obtain ⟨⟨i1, i2, i3, i4⟩, it⟩ := gB_L h o (by omega)
    have v := gK_v (o := (o : Int)) (by omega) (W := gB W o) (fun a b h1 h2 h3 h4 => (i1 a b h1 h2 h3 h4).1) (i2 o (by omega) (by omega))
    rw [gB]
    refine ⟨⟨fun a b h1 h2 h3 h4 => ?_, fun a h1 h2 => ?_, fun r hr hb => ?_, fun a b h1 h2 h3 h4 h5 => ?_⟩, fun a b c h1 h2 h3 h4 h5 h6 => ?_⟩
    · rw [v a b h1 h2 h3 h4]
      have e1 := i1 a b h1 h2 h3 h4
      have e2 := i1 a o h1 h2 (by omega) (by omega)
      have e3 := i1 o b (by omega) (by omega) h3 h4
      omega
    · rw [v a a h1 h2 h1 h2, i2 a h1 h2]
      have e2 := i1 a o h1 h2 (by omega) (by omega)
      have e3 := i1 o a (by omega) (by omega) h1 h2
      omega
    · have := i3 r hr hb
      by_cases g : (0 ≤ Rd (3 * (r : Int)) ∧ Rd (3 * (r : Int)) ≤ 7) ∧ (0 ≤ Rd (3 * (r : Int) + 1) ∧ Rd (3 * (r : Int) + 1) ≤ 7)
      · rw [v _ _ g.1.1 g.1.2 g.2.1 g.2.2, v _ _ g.2.1 g.2.2 g.1.1 g.1.2]
        omega
      · have mono : ∀ m : Nat, ∀ k : Int, gK o (gB W o) m k ≤ gB W o k := fun m => by
          induction m with
          | zero => intro k; exact Int.le_refl _
          | succ m ih =>
            intro k
            rw [gK, sK]
            by_cases z : k = (m : Int)
            · subst z
              rw [up_s]
              have := ih (m : Int)
              omega
            · rw [up_n _ _ z]; exact ih k
        exact ⟨Int.le_trans (mono 64 _) this.1, Int.le_trans (mono 64 _) this.2⟩
    · rw [v a b h1 h2 h3 h4] at h5 ⊢
      have e2 := i1 a o h1 h2 (by omega) (by omega)
      have e3 := i1 o b (by omega) (by omega) h3 h4
      by_cases q : gB W o (8 * a + b) ≤ gB W o (8 * a + o) + gB W o (8 * o + b)
      · rw [show min (gB W o (8 * a + b)) (gB W o (8 * a + o) + gB W o (8 * o + b)) = gB W o (8 * a + b) by omega]
        exact i4 a b h1 h2 h3 h4 (by omega)
      · obtain ⟨l, l1, l2, l3⟩ := i4 a o h1 h2 (by omega) (by omega) (by omega)
        obtain ⟨m, m1, m2, m3⟩ := i4 o b (by omega) (by omega) h3 h4 (by omega)
        refine ⟨l ++ m, wk_app l a m l1 (l2 ▸ m1), by rw [we_app, l2, m2], ?_⟩
        rw [ww_app, l3, m3]
        omega
    · rw [v a c h1 h2 h5 h6, v a b h1 h2 h3 (by omega), v b c h3 (by omega) h5 h6]
      have p1 := i1 a o h1 h2 (by omega) (by omega)
      have p2 := i1 o c (by omega) (by omega) h5 h6
      have p3 := i1 o b (by omega) (by omega) h3 (by omega)
      have p4 := i1 b o h3 (by omega) (by omega) (by omega)
      have p5 := i1 a b h1 h2 h3 (by omega)
      have p6 := i1 b c h3 (by omega) h5 h6
      by_cases q : b = (o : Int)
      · subst q
        have := i2 o (by omega) (by omega)
        omega
      · have t1 := it a b c h1 h2 h3 (by omega) h5 h6
        have t2 := it o b c (by omega) (by omega) h3 (by omega) h5 h6
        have t3 := it a b o h1 h2 h3 (by omega) (by omega) (by omega)
        omega
/-- every walk is at least as long as the table says -/
theorem gB_lo {X : Int} {Rd : Int → Int} {op : Int} {n : Nat} {W : Int → Int} (hR : rdOK Rd n) (h : Lnd X Rd op n W) : ∀ (l : List Nat) (a : Int), 0 ≤ a → a ≤ 7 → wk Rd op n a l → gB W 8 (8 * a + we Rd a l) ≤ ww Rd l
  | [], a, h1, h2, _ => by
    show gB W 8 (8 * a + a) ≤ 0
    rw [(gB_L h 8 (Nat.le_refl 8)).1.2.1 a h1 h2]
    omega
  | r :: l, a, h1, h2, w => by
    obtain ⟨⟨i1, i2, i3, i4⟩, it⟩ := gB_L h 8 (Nat.le_refl 8)
    have hr := w.1
    have hn := nx_rg hR (a := a) (r := r) (by omega)
    have hw := we_rg hR l (nx Rd a r) hn w.2
    have ih := gB_lo hR h l (nx Rd a r) hn.1 hn.2 w.2
    have ht := it a (nx Rd a r) (we Rd (nx Rd a r) l) h1 h2 hn.1 (by omega) hw.1 hw.2
    have he := i3 r hr.1 hr.2.1
    have hd : gB W 8 (8 * a + nx Rd a r) ≤ Rd (3 * (r : Int) + 2) := by
      unfold nx
      by_cases q : Rd (3 * (r : Int)) = a
      · rw [if_pos q, ← q]; exact he.1
      · rw [if_neg q]
        have q2 := hr.2.2.resolve_left q
        rw [← q2]; exact he.2
    show gB W 8 (8 * a + we Rd (nx Rd a r) l) ≤ Rd (3 * (r : Int) + 2) + ww Rd l
    omega
