/-! ways: walks over roads, and what both ways of measuring find -/
def nx (Rd : Int → Int) (a : Int) (r : Nat) : Int := if Rd (3 * (r : Int)) = a then Rd (3 * (r : Int) + 1) else Rd (3 * (r : Int))
def wk (Rd : Int → Int) (op : Int) (n : Nat) : Int → List Nat → Prop
  | _, [] => True
  | a, r :: l => (r < n ∧ bitq op r ∧ (Rd (3 * (r : Int)) = a ∨ Rd (3 * (r : Int) + 1) = a)) ∧ wk Rd op n (nx Rd a r) l
def we (Rd : Int → Int) : Int → List Nat → Int
  | a, [] => a
  | a, r :: l => we Rd (nx Rd a r) l
def ww (Rd : Int → Int) : List Nat → Int
  | [] => 0
  | r :: l => Rd (3 * (r : Int) + 2) + ww Rd l
theorem we_app (Rd : Int → Int) : ∀ (l : List Nat) (a : Int) (m : List Nat), we Rd a (l ++ m) = we Rd (we Rd a l) m
  | [], _, _ => rfl
  | r :: l, a, m => we_app Rd l (nx Rd a r) m
theorem ww_app (Rd : Int → Int) : ∀ (l m : List Nat), ww Rd (l ++ m) = ww Rd l + ww Rd m
  | [], m => by show ww Rd m = 0 + ww Rd m; omega
  | r :: l, m => by
    have := ww_app Rd l m
    show Rd _ + ww Rd (l ++ m) = Rd _ + ww Rd l + ww Rd m
    omega
theorem wk_app {Rd : Int → Int} {op : Int} {n : Nat} : ∀ (l : List Nat) (a : Int) (m : List Nat), wk Rd op n a l → wk Rd op n (we Rd a l) m → wk Rd op n a (l ++ m)
  | [], _, _, _, h => h
  | r :: l, a, m, h1, h2 => ⟨h1.1, wk_app l (nx Rd a r) m h1.2 h2⟩
theorem nx_rg {Rd : Int → Int} {c : Int} (hR : rdOK Rd c) {a : Int} {r : Nat} (h : (r : Int) < c) : 0 ≤ nx Rd a r ∧ nx Rd a r ≤ 7 := by
  have := hR r (by omega) h
  unfold nx; split <;> omega
theorem we_rg {Rd : Int → Int} {op : Int} {n : Nat} (hR : rdOK Rd n) : ∀ (l : List Nat) (a : Int), 0 ≤ a ∧ a ≤ 7 → wk Rd op n a l → 0 ≤ we Rd a l ∧ we Rd a l ≤ 7
  | [], _, h, _ => h
  | r :: l, a, h, w => we_rg hR l (nx Rd a r) (nx_rg hR (by have := w.1.1; omega)) w.2
/-- the roads laid one by one on an empty land -/
def eR (X : Int) (Rd : Int → Int) (op : Int) : Nat → Int → Int
  | 0 => fun k => if k / 8 = k % 8 then 0 else X
  | n + 1 => if bitq op n then up (up (eR X Rd op n) (8 * Rd (3 * (n : Int)) + Rd (3 * (n : Int) + 1)) (min (Rd (3 * (n : Int) + 2)) (eR X Rd op n (8 * Rd (3 * (n : Int)) + Rd (3 * (n : Int) + 1))))) (8 * Rd (3 * (n : Int) + 1) + Rd (3 * (n : Int))) (min (Rd (3 * (n : Int) + 2)) (eR X Rd op n (8 * Rd (3 * (n : Int) + 1) + Rd (3 * (n : Int))))) else eR X Rd op n
/-- what holds of a land's table: bounds, diagonal, both ways alike, its roads, its walks -/
def Lnd (X : Int) (Rd : Int → Int) (op : Int) (n : Nat) (D : Int → Int) : Prop := (∀ a b, 0 ≤ a → a ≤ 7 → 0 ≤ b → b ≤ 7 → 0 ≤ D (8 * a + b) ∧ D (8 * a + b) ≤ X) ∧ (∀ a, 0 ≤ a → a ≤ 7 → D (8 * a + a) = 0) ∧ (∀ r : Nat, r < n → bitq op r → D (8 * Rd (3 * (r : Int)) + Rd (3 * (r : Int) + 1)) ≤ Rd (3 * (r : Int) + 2) ∧ D (8 * Rd (3 * (r : Int) + 1) + Rd (3 * (r : Int))) ≤ Rd (3 * (r : Int) + 2)) ∧ (∀ a b, 0 ≤ a → a ≤ 7 → 0 ≤ b → b ≤ 7 → D (8 * a + b) < X → ∃ l, wk Rd op n a l ∧ we Rd a l = b ∧ ww Rd l = D (8 * a + b))
theorem wk_mono {Rd : Int → Int} {op : Int} {n m : Nat} (h : n ≤ m) : ∀ (l : List Nat) (a : Int), wk Rd op n a l → wk Rd op m a l
  | [], _, _ => trivial
  | r :: l, a, w => ⟨⟨by have := w.1.1; omega, w.1.2⟩, wk_mono h l _ w.2⟩
theorem eR_sym (X : Int) {Rd : Int → Int} (op : Int) {c : Int} (hR : rdOK Rd c) : ∀ n : Nat, (n : Int) ≤ c → ∀ a b, 0 ≤ a → a ≤ 7 → 0 ≤ b → b ≤ 7 → eR X Rd op n (8 * a + b) = eR X Rd op n (8 * b + a)
  | 0, _, a, b, h1, h2, h3, h4 => by
    show (if (8 * a + b) / 8 = (8 * a + b) % 8 then 0 else X) = (if (8 * b + a) / 8 = (8 * b + a) % 8 then 0 else X)
    rw [show (8 * a + b) / 8 = a by omega, show (8 * a + b) % 8 = b by omega, show (8 * b + a) / 8 = b by omega, show (8 * b + a) % 8 = a by omega]
    by_cases q : a = b
    · rw [if_pos q, if_pos q.symm]
    · rw [if_neg q, if_neg (fun z => q z.symm)]
  | n + 1, hn, a, b, h1, h2, h3, h4 => by
    have ih := eR_sym X op hR n (by omega)
    obtain ⟨r1, r2, r3, r4⟩ := hR n (by omega) (by omega)
    rw [eR]
    split
    · have e := ih (Rd (3 * (n : Int))) (Rd (3 * (n : Int) + 1)) r1.1 r1.2 r2.1 r2.2
      have e2 := ih a b h1 h2 h3 h4
      simp only [up]
      by_cases p : 8 * a + b = 8 * Rd (3 * (n : Int) + 1) + Rd (3 * (n : Int))
      · have p1 : a = Rd (3 * (n : Int) + 1) := by omega
        have p2 : b = Rd (3 * (n : Int)) := by omega
        rw [if_pos p, if_neg (show ¬ 8 * b + a = 8 * Rd (3 * (n : Int) + 1) + Rd (3 * (n : Int)) by omega), if_pos (show 8 * b + a = 8 * Rd (3 * (n : Int)) + Rd (3 * (n : Int) + 1) by omega), e]
      · rw [if_neg p]
        by_cases q : 8 * a + b = 8 * Rd (3 * (n : Int)) + Rd (3 * (n : Int) + 1)
        · rw [if_pos q, if_pos (show 8 * b + a = 8 * Rd (3 * (n : Int) + 1) + Rd (3 * (n : Int)) by omega), e]
        · rw [if_neg q, if_neg (show ¬ 8 * b + a = 8 * Rd (3 * (n : Int) + 1) + Rd (3 * (n : Int)) by omega), if_neg (show ¬ 8 * b + a = 8 * Rd (3 * (n : Int)) + Rd (3 * (n : Int) + 1) by omega), e2]
    · exact ih a b h1 h2 h3 h4
theorem eR_L {X : Int} (hX : 9 ≤ X) {Rd : Int → Int} (op : Int) {c : Int} (hR : rdOK Rd c) : ∀ n : Nat, (n : Int) ≤ c → Lnd X Rd op n (eR X Rd op n)
  | 0, _ => by
    have e : ∀ a b : Int, 0 ≤ a → a ≤ 7 → 0 ≤ b → b ≤ 7 → eR X Rd op 0 (8 * a + b) = if a = b then 0 else X := fun a b h1 h2 h3 h4 => by
      show (if (8 * a + b) / 8 = (8 * a + b) % 8 then 0 else X) = _
      rw [show (8 * a + b) / 8 = a by omega, show (8 * a + b) % 8 = b by omega]
    refine ⟨fun a b h1 h2 h3 h4 => ?_, fun a h1 h2 => ?_, fun r hr => absurd hr (Nat.not_lt_zero r), fun a b h1 h2 h3 h4 h5 => ?_⟩
    · rw [e a b h1 h2 h3 h4]; split <;> omega
    · rw [e a a h1 h2 h1 h2, if_pos rfl]
    · rw [e a b h1 h2 h3 h4] at h5 ⊢
      by_cases q : a = b
      · rw [if_pos q]; exact ⟨[], trivial, q, rfl⟩
      · rw [if_neg q] at h5; omega
  | n + 1, hn => by
    obtain ⟨i1, i2, i3, i4⟩ := eR_L hX op hR n (by omega)
    obtain ⟨r1, r2, r3, r4⟩ := hR n (by omega) (by omega)
    have up4 : ∀ a b, 0 ≤ a → a ≤ 7 → 0 ≤ b → b ≤ 7 → eR X Rd op n (8 * a + b) < X → ∃ l, wk Rd op (n + 1) a l ∧ we Rd a l = b ∧ ww Rd l = eR X Rd op n (8 * a + b) := fun a b h1 h2 h3 h4 h5 => by
      obtain ⟨l, l1, l2, l3⟩ := i4 a b h1 h2 h3 h4 h5
      exact ⟨l, wk_mono (by omega) l a l1, l2, l3⟩
    by_cases z : bitq op n
    · have j1 := i1 (Rd (3 * (n : Int))) (Rd (3 * (n : Int) + 1)) r1.1 r1.2 r2.1 r2.2
      have j2 := i1 (Rd (3 * (n : Int) + 1)) (Rd (3 * (n : Int))) r2.1 r2.2 r1.1 r1.2
      have v : ∀ a b : Int, 0 ≤ a → a ≤ 7 → 0 ≤ b → b ≤ 7 → (a = Rd (3 * (n : Int) + 1) ∧ b = Rd (3 * (n : Int)) ∧ eR X Rd op (n + 1) (8 * a + b) = min (Rd (3 * (n : Int) + 2)) (eR X Rd op n (8 * a + b))) ∨ (a = Rd (3 * (n : Int)) ∧ b = Rd (3 * (n : Int) + 1) ∧ eR X Rd op (n + 1) (8 * a + b) = min (Rd (3 * (n : Int) + 2)) (eR X Rd op n (8 * a + b))) ∨ (¬ (a = Rd (3 * (n : Int) + 1) ∧ b = Rd (3 * (n : Int))) ∧ ¬ (a = Rd (3 * (n : Int)) ∧ b = Rd (3 * (n : Int) + 1)) ∧ eR X Rd op (n + 1) (8 * a + b) = eR X Rd op n (8 * a + b)) := fun a b h1 h2 h3 h4 => by
        rw [eR, if_pos z]
        by_cases p : a = Rd (3 * (n : Int) + 1) ∧ b = Rd (3 * (n : Int))
        · left
          rw [p.1, p.2]
          exact ⟨rfl, rfl, up_s _ _ _⟩
        · right
          by_cases q : a = Rd (3 * (n : Int)) ∧ b = Rd (3 * (n : Int) + 1)
          · left
            rw [q.1, q.2, up_n _ _ (by omega), up_s]
            exact ⟨rfl, rfl, rfl⟩
          · right
            rw [up_n _ _ (by omega), up_n _ _ (by omega)]
            exact ⟨p, q, rfl⟩
      refine ⟨fun a b h1 h2 h3 h4 => ?_, fun a h1 h2 => ?_, fun r hr hb => ?_, fun a b h1 h2 h3 h4 h5 => ?_⟩
      · have := i1 a b h1 h2 h3 h4
        rcases v a b h1 h2 h3 h4 with ⟨-, -, e⟩ | ⟨-, -, e⟩ | ⟨-, -, e⟩ <;> rw [e] <;> omega
      · have := i2 a h1 h2
        rcases v a a h1 h2 h1 h2 with ⟨e1, e2, e⟩ | ⟨e1, e2, e⟩ | ⟨-, -, e⟩
        · omega
        · omega
        · rw [e]; exact this
      · obtain ⟨s1, s2, s3, s4⟩ := hR r (by omega) (by omega)
        have v1 := v (Rd (3 * (r : Int))) (Rd (3 * (r : Int) + 1)) s1.1 s1.2 s2.1 s2.2
        have v2 := v (Rd (3 * (r : Int) + 1)) (Rd (3 * (r : Int))) s2.1 s2.2 s1.1 s1.2
        by_cases y : r = n
        · subst y
          constructor
          · rcases v1 with ⟨e1, e2, e⟩ | ⟨e1, e2, e⟩ | ⟨e1, e2, e⟩
            · omega
            · rw [e]; omega
            · exact absurd ⟨rfl, rfl⟩ e2
          · rcases v2 with ⟨e1, e2, e⟩ | ⟨e1, e2, e⟩ | ⟨e1, e2, e⟩
            · rw [e]; omega
            · omega
            · exact absurd ⟨rfl, rfl⟩ e1
        · have := i3 r (by omega) hb
          constructor
          · rcases v1 with ⟨-, -, e⟩ | ⟨-, -, e⟩ | ⟨-, -, e⟩ <;> rw [e] <;> omega
          · rcases v2 with ⟨-, -, e⟩ | ⟨-, -, e⟩ | ⟨-, -, e⟩ <;> rw [e] <;> omega
      · rcases v a b h1 h2 h3 h4 with ⟨e1, e2, e⟩ | ⟨e1, e2, e⟩ | ⟨-, -, e⟩
        · rw [e] at h5 ⊢
          by_cases y : eR X Rd op n (8 * a + b) < Rd (3 * (n : Int) + 2)
          · rw [show min (Rd (3 * (n : Int) + 2)) (eR X Rd op n (8 * a + b)) = eR X Rd op n (8 * a + b) by omega]
            exact up4 a b h1 h2 h3 h4 (by omega)
          · refine ⟨[n], ⟨⟨by omega, z, Or.inr e1.symm⟩, trivial⟩, ?_, ?_⟩
            · show nx Rd a n = b
              unfold nx; rw [if_neg (by omega)]; exact e2.symm
            · show Rd (3 * (n : Int) + 2) + 0 = _
              omega
        · rw [e] at h5 ⊢
          by_cases y : eR X Rd op n (8 * a + b) < Rd (3 * (n : Int) + 2)
          · rw [show min (Rd (3 * (n : Int) + 2)) (eR X Rd op n (8 * a + b)) = eR X Rd op n (8 * a + b) by omega]
            exact up4 a b h1 h2 h3 h4 (by omega)
          · refine ⟨[n], ⟨⟨by omega, z, Or.inl e1.symm⟩, trivial⟩, ?_, ?_⟩
            · show nx Rd a n = b
              unfold nx; rw [if_pos e1.symm]; exact e2.symm
            · show Rd (3 * (n : Int) + 2) + 0 = _
              omega
        · rw [e] at h5 ⊢
          exact up4 a b h1 h2 h3 h4 h5
    · rw [eR, if_neg z]
      exact ⟨i1, i2, fun r hr hb => i3 r (by have : r ≠ n := fun y => z (y ▸ hb); omega) hb, up4⟩
