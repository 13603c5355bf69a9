/-! no town twice -/
def twn (Rd : Int → Int) : Int → List Nat → List Int
  | a, [] => [a]
  | a, r :: l => a :: twn Rd (nx Rd a r) l
theorem twn_split (Rd : Int → Int) (op : Int) (n : Nat) (x : Int) : ∀ (m : List Nat) (a : Int), wk Rd op n a m → x ∈ twn Rd a m → ∃ p q, m = p ++ q ∧ we Rd a p = x ∧ wk Rd op n x q ∧ we Rd x q = we Rd a m ∧ ((twn Rd a m).Nodup → (twn Rd x q).Nodup)
  | [], a, _, h => by
    have e : x = a := List.mem_singleton.mp h
    subst e
    exact ⟨[], [], rfl, rfl, trivial, rfl, fun z => z⟩
  | r :: m, a, w, h => by
    rcases List.mem_cons.mp h with e | e
    · subst e
      exact ⟨[], r :: m, rfl, rfl, w, rfl, fun z => z⟩
    · obtain ⟨p, q, h1, h2, h3, h4, h5⟩ := twn_split Rd op n x m (nx Rd a r) w.2 e
      refine ⟨r :: p, q, by rw [h1]; rfl, h2, h3, h4, fun z => h5 ?_⟩
      exact (List.nodup_cons.mp z).2
theorem ww_pos {Rd : Int → Int} {op : Int} {n : Nat} (hR : rdOK Rd n) : ∀ (l : List Nat) (a : Int), wk Rd op n a l → 0 ≤ ww Rd l
  | [], _, _ => Int.le_refl 0
  | r :: l, a, w => by
    have h1 := ww_pos hR l (nx Rd a r) w.2
    have h2 := hR r (by omega) (by have := w.1.1; omega)
    show 0 ≤ Rd (3 * (r : Int) + 2) + ww Rd l
    omega
theorem wk_simple {Rd : Int → Int} {op : Int} {n : Nat} (hR : rdOK Rd n) : ∀ (l : List Nat) (a : Int), wk Rd op n a l → ∃ m, wk Rd op n a m ∧ we Rd a m = we Rd a l ∧ ww Rd m ≤ ww Rd l ∧ (twn Rd a m).Nodup ∧ ∀ r, r ∈ m → r ∈ l
  | [], a, _ => ⟨[], trivial, rfl, Int.le_refl _, by show [a].Nodup; simp, fun _ h => h⟩
  | r :: l, a, w => by
    obtain ⟨m, m1, m2, m3, m4, m5⟩ := wk_simple hR l (nx Rd a r) w.2
    have hd := hR r (by omega) (by have := w.1.1; omega)
    by_cases q : a ∈ twn Rd (nx Rd a r) m
    · obtain ⟨p, s, h1, h2, h3, h4, h5⟩ := twn_split Rd op n a m (nx Rd a r) m1 q
      refine ⟨s, h3, by rw [h4, m2]; rfl, ?_, h5 m4, fun x hx => List.mem_cons_of_mem _ (m5 x (by rw [h1]; exact List.mem_append_right _ hx))⟩
      have e : ww Rd m = ww Rd p + ww Rd s := by rw [h1, ww_app]
      have hp : 0 ≤ ww Rd p := by
        have : wk Rd op n (nx Rd a r) p := by
          have wkp : ∀ (p : List Nat) (b : Int) (q : List Nat), wk Rd op n b (p ++ q) → wk Rd op n b p := fun p => by
            induction p with
            | nil => exact fun _ _ _ => trivial
            | cons x p ih => exact fun b q z => ⟨z.1, ih _ q z.2⟩
          exact wkp p _ s (h1 ▸ m1)
        exact ww_pos hR p _ this
      show ww Rd s ≤ Rd (3 * (r : Int) + 2) + ww Rd l
      omega
    · refine ⟨r :: m, ⟨w.1, m1⟩, m2, ?_, List.nodup_cons.mpr ⟨q, m4⟩, fun x hx => ?_⟩
      · show Rd _ + ww Rd m ≤ Rd _ + ww Rd l
        omega
      · rcases List.mem_cons.mp hx with e | e
        · rw [e]; exact List.mem_cons_self
        · exact List.mem_cons_of_mem _ (m5 x e)
theorem nodup_len : ∀ (k : Nat) (L : List Int), L.Nodup → (∀ x, x ∈ L → 0 ≤ x ∧ x < k) → L.length ≤ k
  | 0, L, _, h => by
    cases L with
    | nil => exact Nat.le_refl 0
    | cons x L => have := h x List.mem_cons_self; omega
  | k + 1, L, hn, h => by
    by_cases q : (k : Int) ∈ L
    · have h1 := nodup_len k (L.erase (k : Int)) (hn.erase _) (fun x hx => by
        have h2 := (List.Nodup.mem_erase_iff hn).mp hx
        have h3 := h x h2.2
        have h4 := h2.1
        omega)
      have h2 := List.length_erase_of_mem q
      omega
    · have := nodup_len k L hn (fun x hx => by
        have h3 := h x hx
        have : x ≠ (k : Int) := fun e => q (e ▸ hx)
        omega)
      omega
theorem twn_len (Rd : Int → Int) : ∀ (l : List Nat) (a : Int), (twn Rd a l).length = l.length + 1
  | [], _ => rfl
  | r :: l, a => by
    show (twn Rd (nx Rd a r) l).length + 1 = l.length + 1 + 1
    rw [twn_len Rd l]
theorem twn_rg {Rd : Int → Int} {op : Int} {n : Nat} (hR : rdOK Rd n) : ∀ (l : List Nat) (a : Int), 0 ≤ a ∧ a ≤ 7 → wk Rd op n a l → ∀ x, x ∈ twn Rd a l → 0 ≤ x ∧ x < ((8 : Nat) : Int)
  | [], a, h, _, x, hx => by
    have e : x = a := List.mem_singleton.mp hx
    omega
  | r :: l, a, h, w, x, hx => by
    rcases List.mem_cons.mp hx with e | e
    · omega
    · exact twn_rg hR l (nx Rd a r) (nx_rg hR (by have := w.1.1; omega)) w.2 x e
theorem ww_9 {Rd : Int → Int} {op : Int} {n : Nat} (hR : rdOK Rd n) : ∀ (l : List Nat) (a : Int), wk Rd op n a l → ww Rd l ≤ 9 * (l.length : Int)
  | [], _, _ => Int.le_refl _
  | r :: l, a, w => by
    have h1 := ww_9 hR l (nx Rd a r) w.2
    have h2 := hR r (by omega) (by have := w.1.1; omega)
    show Rd (3 * (r : Int) + 2) + ww Rd l ≤ 9 * ((l.length + 1 : Nat) : Int)
    omega
theorem wk_63 {Rd : Int → Int} {op : Int} {n : Nat} (hR : rdOK Rd n) (l : List Nat) (a : Int) (ha : 0 ≤ a ∧ a ≤ 7) (w : wk Rd op n a l) : ∃ m, wk Rd op n a m ∧ we Rd a m = we Rd a l ∧ ww Rd m ≤ ww Rd l ∧ ww Rd m ≤ 63 ∧ m.length ≤ 7 ∧ (twn Rd a m).Nodup ∧ ∀ r, r ∈ m → r ∈ l := by
  obtain ⟨m, m1, m2, m3, m4, m5⟩ := wk_simple hR l a w
  have h1 := nodup_len 8 _ m4 (twn_rg hR m a ha m1)
  rw [twn_len] at h1
  have h2 := ww_9 hR m a m1
  exact ⟨m, m1, m2, m3, by omega, by omega, m4, m5⟩
/-- two lands with the same roads, whatever stands for never -/
theorem two_lands {X Y : Int} (hX : 64 ≤ X) (hY : 64 ≤ Y) {Rd : Int → Int} {op : Int} {n : Nat} (hR : rdOK Rd n) {W V : Int → Int} (hW : Lnd X Rd op n W) (hV : Lnd Y Rd op n V) (a b : Int) (h1 : 0 ≤ a) (h2 : a ≤ 7) (h3 : 0 ≤ b) (h4 : b ≤ 7) : (gB W 8 (8 * a + b) = gB V 8 (8 * a + b) ∧ gB W 8 (8 * a + b) ≤ 63) ∨ (gB W 8 (8 * a + b) = X ∧ gB V 8 (8 * a + b) = Y) := by
  have lW := (gB_L hW 8 (Nat.le_refl 8)).1
  have lV := (gB_L hV 8 (Nat.le_refl 8)).1
  have bW := lW.1 a b h1 h2 h3 h4
  have bV := lV.1 a b h1 h2 h3 h4
  by_cases q : gB W 8 (8 * a + b) < X
  · obtain ⟨l, l1, l2, l3⟩ := lW.2.2.2 a b h1 h2 h3 h4 q
    obtain ⟨m, m1, m2, m3, m4, -⟩ := wk_63 hR l a ⟨h1, h2⟩ l1
    have c1 := gB_lo hR hV m a h1 h2 m1
    have c2 := gB_lo hR hW m a h1 h2 m1
    rw [m2, l2] at c1 c2
    obtain ⟨k, k1, k2, k3⟩ := lV.2.2.2 a b h1 h2 h3 h4 (by omega)
    have c3 := gB_lo hR hW k a h1 h2 k1
    rw [k2] at c3
    left
    omega
  · right
    refine ⟨by omega, ?_⟩
    by_cases p : gB V 8 (8 * a + b) < Y
    · obtain ⟨k, k1, k2, k3⟩ := lV.2.2.2 a b h1 h2 h3 h4 p
      obtain ⟨m, m1, m2, m3, m4, -⟩ := wk_63 hR k a ⟨h1, h2⟩ k1
      have c3 := gB_lo hR hW m a h1 h2 m1
      rw [m2, k2] at c3
      omega
    · omega
