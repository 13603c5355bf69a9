/-! the machine of this text: ints and longs as whole numbers, rows as functions of their places; part written by program -/
abbrev zW : Type := Nat → Int → Int
def vi (x : Int) : Value := .int (Int32.ofInt x)
def vl (x : Int) : Value := .long (Int64.ofInt x)
def up (r : Int → Int) (j v : Int) : Int → Int := fun i => if i = j then v else r i
def upR (M : zW) (k : Nat) (r : Int → Int) : zW := fun q => if q = k then r else M q
theorem uu1 {M : zW} {a  : Nat} {x y  : Int → Int}  : upR (upR M a x) a y = upR M a y := by
  funext q
  simp only [upR]
  by_cases h : q = a
  · subst h; simp
  · simp [h]
theorem uu2 {M : zW} {a b0 : Nat} {x y z0 : Int → Int} (h0 : a ≠ b0) : upR (upR (upR M a x) b0 z0) a y = upR (upR M a y) b0 z0 := by
  funext q
  simp only [upR]
  by_cases h : q = a
  · subst h; simp [h0]
  · simp [h]
theorem uu3 {M : zW} {a b0 b1 : Nat} {x y z0 z1 : Int → Int} (h0 : a ≠ b0) (h1 : a ≠ b1) : upR (upR (upR (upR M a x) b0 z0) b1 z1) a y = upR (upR (upR M a y) b0 z0) b1 z1 := by
  funext q
  simp only [upR]
  by_cases h : q = a
  · subst h; simp [h0, h1]
  · simp [h]
theorem uu4 {M : zW} {a b0 b1 b2 : Nat} {x y z0 z1 z2 : Int → Int} (h0 : a ≠ b0) (h1 : a ≠ b1) (h2 : a ≠ b2) : upR (upR (upR (upR (upR M a x) b0 z0) b1 z1) b2 z2) a y = upR (upR (upR (upR M a y) b0 z0) b1 z1) b2 z2 := by
  funext q
  simp only [upR]
  by_cases h : q = a
  · subst h; simp [h0, h1, h2]
  · simp [h]
theorem uu5 {M : zW} {a b0 b1 b2 b3 : Nat} {x y z0 z1 z2 z3 : Int → Int} (h0 : a ≠ b0) (h1 : a ≠ b1) (h2 : a ≠ b2) (h3 : a ≠ b3) : upR (upR (upR (upR (upR (upR M a x) b0 z0) b1 z1) b2 z2) b3 z3) a y = upR (upR (upR (upR (upR M a y) b0 z0) b1 z1) b2 z2) b3 z3 := by
  funext q
  simp only [upR]
  by_cases h : q = a
  · subst h; simp [h0, h1, h2, h3]
  · simp [h]
theorem uu6 {M : zW} {a b0 b1 b2 b3 b4 : Nat} {x y z0 z1 z2 z3 z4 : Int → Int} (h0 : a ≠ b0) (h1 : a ≠ b1) (h2 : a ≠ b2) (h3 : a ≠ b3) (h4 : a ≠ b4) : upR (upR (upR (upR (upR (upR (upR M a x) b0 z0) b1 z1) b2 z2) b3 z3) b4 z4) a y = upR (upR (upR (upR (upR (upR M a y) b0 z0) b1 z1) b2 z2) b3 z3) b4 z4 := by
  funext q
  simp only [upR]
  by_cases h : q = a
  · subst h; simp [h0, h1, h2, h3, h4]
  · simp [h]
theorem uu7 {M : zW} {a b0 b1 b2 b3 b4 b5 : Nat} {x y z0 z1 z2 z3 z4 z5 : Int → Int} (h0 : a ≠ b0) (h1 : a ≠ b1) (h2 : a ≠ b2) (h3 : a ≠ b3) (h4 : a ≠ b4) (h5 : a ≠ b5) : upR (upR (upR (upR (upR (upR (upR (upR M a x) b0 z0) b1 z1) b2 z2) b3 z3) b4 z4) b5 z5) a y = upR (upR (upR (upR (upR (upR (upR M a y) b0 z0) b1 z1) b2 z2) b3 z3) b4 z4) b5 z5 := by
  funext q
  simp only [upR]
  by_cases h : q = a
  · subst h; simp [h0, h1, h2, h3, h4, h5]
  · simp [h]
theorem uu8 {M : zW} {a b0 b1 b2 b3 b4 b5 b6 : Nat} {x y z0 z1 z2 z3 z4 z5 z6 : Int → Int} (h0 : a ≠ b0) (h1 : a ≠ b1) (h2 : a ≠ b2) (h3 : a ≠ b3) (h4 : a ≠ b4) (h5 : a ≠ b5) (h6 : a ≠ b6) : upR (upR (upR (upR (upR (upR (upR (upR (upR M a x) b0 z0) b1 z1) b2 z2) b3 z3) b4 z4) b5 z5) b6 z6) a y = upR (upR (upR (upR (upR (upR (upR (upR M a y) b0 z0) b1 z1) b2 z2) b3 z3) b4 z4) b5 z5) b6 z6 := by
  funext q
  simp only [upR]
  by_cases h : q = a
  · subst h; simp [h0, h1, h2, h3, h4, h5, h6]
  · simp [h]
theorem uu9 {M : zW} {a b0 b1 b2 b3 b4 b5 b6 b7 : Nat} {x y z0 z1 z2 z3 z4 z5 z6 z7 : Int → Int} (h0 : a ≠ b0) (h1 : a ≠ b1) (h2 : a ≠ b2) (h3 : a ≠ b3) (h4 : a ≠ b4) (h5 : a ≠ b5) (h6 : a ≠ b6) (h7 : a ≠ b7) : upR (upR (upR (upR (upR (upR (upR (upR (upR (upR M a x) b0 z0) b1 z1) b2 z2) b3 z3) b4 z4) b5 z5) b6 z6) b7 z7) a y = upR (upR (upR (upR (upR (upR (upR (upR (upR M a y) b0 z0) b1 z1) b2 z2) b3 z3) b4 z4) b5 z5) b6 z6) b7 z7 := by
  funext q
  simp only [upR]
  by_cases h : q = a
  · subst h; simp [h0, h1, h2, h3, h4, h5, h6, h7]
  · simp [h]
theorem upR_ne {M : zW} {a k : Nat} {r : Int → Int} (h : k ≠ a) : upR M a r k = M k := by simp [upR, h]
theorem upR_eq {M : zW} {a : Nat} {r : Int → Int} : upR M a r a = r := by simp [upR]
abbrev zE : Type := Launch × va_G × (ClassId × ClassId × ClassId × ClassId) × (Nat → Nat) × Nat × Nat
def ad (en : zE) (k : Nat) : Nat := en.2.2.2.1 k
def rf (en : zE) (k : Nat) : Value := .ref (ad en k)
def rI (r : Int → Int) (j : Nat) : Int32 := Int32.ofInt (r (j : Int))
def rJ (r : Int → Int) (j : Nat) : Int64 := Int64.ofInt (r (j : Int))
def aI (en : zE) (n : Nat) (r : Int → Int) : va_E := .inl (en.2.2.1.1, n, .inl (rI r))
def aJ (en : zE) (n : Nat) (r : Int → Int) : va_E := .inl (en.2.2.1.2.1, n, .inr (.inl (rJ r)))
def aZ (en : zE) (n : Nat) (r : Int → Int) : va_E := .inl (en.2.2.1.2.2.1, n, .inl (rI r))
def aS (en : zE) (n k : Nat) : va_E := .inl (en.2.2.1.2.2.2, n, .inr (.inr (.inr (.inr (fun j => some (ad en (k + j)))))))
def cell (en : zE) (k : Nat) (r : Int → Int) : va_E := match k with
  | 0 => .inr (5, [rf en 1, rf en 2, rf en 3, rf en 4, rf en 5, rf en 6, rf en 7, rf en 8, vi (r 8), rf en 9, vi (r 10)])
  | 1 => .inr (3, [vi (r 0), rf en 18, vi (r 2), vi (r 3), vi (r 4), rf en 19, rf en 20, rf en 21, rf en 22])
  | 2 => .inr (2, [vi (r 0), rf en 23, vi (r 2), vi (r 3), vi (r 4), rf en 24, rf en 25, rf en 26, rf en 27, rf en 28])
  | 3 => aI en 6 r
  | 4 => aI en 6 r
  | 5 => .inr (1, [rf en 1, rf en 2, rf en 29, rf en 30, rf en 31, rf en 32, rf en 33, rf en 34, vi (r 8), vi (r 9), vi (r 10)])
  | 6 => .inr (0, [rf en 1, rf en 35, rf en 36, vi (r 3), vl (r 4), vl (r 5)])
  | 7 => aI en 8 r
  | 8 => aI en 8 r
  | 9 => aS en 4 10
  | 10 => .inr (4, [vi (r 0), vi (r 1), rf en 14])
  | 11 => .inr (4, [vi (r 0), vi (r 1), rf en 15])
  | 12 => .inr (4, [vi (r 0), vi (r 1), rf en 16])
  | 13 => .inr (4, [vi (r 0), vi (r 1), rf en 17])
  | 14 => aI en 60 r
  | 15 => aI en 60 r
  | 16 => aI en 60 r
  | 17 => aI en 60 r
  | 18 => aI en 47 r
  | 19 => aI en 12 r
  | 20 => aI en 12 r
  | 21 => aI en 12 r
  | 22 => aI en 64 r
  | 23 => aI en 47 r
  | 24 => aI en 8 r
  | 25 => aI en 8 r
  | 26 => aI en 8 r
  | 27 => aI en 8 r
  | 28 => aI en 8 r
  | 29 => aZ en 8 r
  | 30 => aI en 8 r
  | 31 => aI en 8 r
  | 32 => aI en 8 r
  | 33 => aI en 8 r
  | 34 => aI en 8 r
  | 35 => aJ en 64 r
  | 36 => aJ en 13 r
  | 37 => .inr (6, [rf en 38, rf en 39, rf en 40, rf en 41, vi (r 4), rf en 42, rf en 43, vi (r 7), rf en 44, vi (r 9), rf en 45, rf en 46, rf en 47, rf en 48, rf en 49, rf en 50, vi (r 16), rf en 51, rf en 52, vi (r 19)])
  | 38 => aI en 4 r
  | 39 => aI en 4 r
  | 40 => aI en 240 r
  | 41 => aI en 60 r
  | 42 => aI en 96 r
  | 43 => aI en 2 r
  | 44 => aI en 36 r
  | 45 => aI en 40 r
  | 46 => aI en 6 r
  | 47 => aI en 64 r
  | 48 => aI en 8 r
  | 49 => aI en 8 r
  | 50 => aI en 8 r
  | 51 => aI en 16 r
  | 52 => aI en 8 r
  | _ => aI en 0 r
def IsI (k n : Nat) : Prop := n < 2147483648 ∧ ∀ en r, cell en k r = aI en n r
def IsJ (k n : Nat) : Prop := n < 2147483648 ∧ ∀ en r, cell en k r = aJ en n r
def IsZ (k n : Nat) : Prop := n < 2147483648 ∧ ∀ en r, cell en k r = aZ en n r
def IsO (k ci : Nat) : Prop := ∀ en r, ∃ fs, cell en k r = .inr (ci, fs)
def IsFI (k ci j : Nat) : Prop := ∀ en r, ∃ fs, cell en k r = .inr (ci, fs) ∧ fs[j]? = some (vi (r j)) ∧ j < fs.length ∧ ∀ v, cell en k (up r j v) = .inr (ci, fs.set j (vi v))
def IsFJ (k ci j : Nat) : Prop := ∀ en r, ∃ fs, cell en k r = .inr (ci, fs) ∧ fs[j]? = some (vl (r j)) ∧ j < fs.length ∧ ∀ v, cell en k (up r j v) = .inr (ci, fs.set j (vl v))
def IsFR (k ci j q : Nat) : Prop := ∀ en r, ∃ fs, cell en k r = .inr (ci, fs) ∧ fs[j]? = some (rf en q)
theorem io0 : IsO 0 5 := fun _ _ => ⟨_, rfl⟩
theorem i0_0 : IsFR 0 5 0 1 := fun en r => ⟨_, rfl, rfl⟩
theorem i0_1 : IsFR 0 5 1 2 := fun en r => ⟨_, rfl, rfl⟩
theorem i0_2 : IsFR 0 5 2 3 := fun en r => ⟨_, rfl, rfl⟩
theorem i0_3 : IsFR 0 5 3 4 := fun en r => ⟨_, rfl, rfl⟩
theorem i0_4 : IsFR 0 5 4 5 := fun en r => ⟨_, rfl, rfl⟩
theorem i0_5 : IsFR 0 5 5 6 := fun en r => ⟨_, rfl, rfl⟩
theorem i0_6 : IsFR 0 5 6 7 := fun en r => ⟨_, rfl, rfl⟩
theorem i0_7 : IsFR 0 5 7 8 := fun en r => ⟨_, rfl, rfl⟩
theorem i0_8 : IsFI 0 5 8 := fun en r => ⟨_, rfl, rfl, Nat.le_of_ble_eq_true rfl, fun v => rfl⟩
theorem i0_9 : IsFR 0 5 9 9 := fun en r => ⟨_, rfl, rfl⟩
theorem i0_10 : IsFI 0 5 10 := fun en r => ⟨_, rfl, rfl, Nat.le_of_ble_eq_true rfl, fun v => rfl⟩
theorem io1 : IsO 1 3 := fun _ _ => ⟨_, rfl⟩
theorem i1_0 : IsFI 1 3 0 := fun en r => ⟨_, rfl, rfl, Nat.le_of_ble_eq_true rfl, fun v => rfl⟩
theorem i1_1 : IsFR 1 3 1 18 := fun en r => ⟨_, rfl, rfl⟩
theorem i1_2 : IsFI 1 3 2 := fun en r => ⟨_, rfl, rfl, Nat.le_of_ble_eq_true rfl, fun v => rfl⟩
theorem i1_3 : IsFI 1 3 3 := fun en r => ⟨_, rfl, rfl, Nat.le_of_ble_eq_true rfl, fun v => rfl⟩
theorem i1_4 : IsFI 1 3 4 := fun en r => ⟨_, rfl, rfl, Nat.le_of_ble_eq_true rfl, fun v => rfl⟩
theorem i1_5 : IsFR 1 3 5 19 := fun en r => ⟨_, rfl, rfl⟩
theorem i1_6 : IsFR 1 3 6 20 := fun en r => ⟨_, rfl, rfl⟩
theorem i1_7 : IsFR 1 3 7 21 := fun en r => ⟨_, rfl, rfl⟩
theorem i1_8 : IsFR 1 3 8 22 := fun en r => ⟨_, rfl, rfl⟩
theorem io2 : IsO 2 2 := fun _ _ => ⟨_, rfl⟩
theorem i2_0 : IsFI 2 2 0 := fun en r => ⟨_, rfl, rfl, Nat.le_of_ble_eq_true rfl, fun v => rfl⟩
theorem i2_1 : IsFR 2 2 1 23 := fun en r => ⟨_, rfl, rfl⟩
theorem i2_2 : IsFI 2 2 2 := fun en r => ⟨_, rfl, rfl, Nat.le_of_ble_eq_true rfl, fun v => rfl⟩
theorem i2_3 : IsFI 2 2 3 := fun en r => ⟨_, rfl, rfl, Nat.le_of_ble_eq_true rfl, fun v => rfl⟩
theorem i2_4 : IsFI 2 2 4 := fun en r => ⟨_, rfl, rfl, Nat.le_of_ble_eq_true rfl, fun v => rfl⟩
theorem i2_5 : IsFR 2 2 5 24 := fun en r => ⟨_, rfl, rfl⟩
theorem i2_6 : IsFR 2 2 6 25 := fun en r => ⟨_, rfl, rfl⟩
theorem i2_7 : IsFR 2 2 7 26 := fun en r => ⟨_, rfl, rfl⟩
theorem i2_8 : IsFR 2 2 8 27 := fun en r => ⟨_, rfl, rfl⟩
theorem i2_9 : IsFR 2 2 9 28 := fun en r => ⟨_, rfl, rfl⟩
theorem is3 : IsI 3 6 := ⟨by decide, fun _ _ => rfl⟩
theorem is4 : IsI 4 6 := ⟨by decide, fun _ _ => rfl⟩
theorem io5 : IsO 5 1 := fun _ _ => ⟨_, rfl⟩
theorem i5_0 : IsFR 5 1 0 1 := fun en r => ⟨_, rfl, rfl⟩
theorem i5_1 : IsFR 5 1 1 2 := fun en r => ⟨_, rfl, rfl⟩
theorem i5_2 : IsFR 5 1 2 29 := fun en r => ⟨_, rfl, rfl⟩
theorem i5_3 : IsFR 5 1 3 30 := fun en r => ⟨_, rfl, rfl⟩
theorem i5_4 : IsFR 5 1 4 31 := fun en r => ⟨_, rfl, rfl⟩
theorem i5_5 : IsFR 5 1 5 32 := fun en r => ⟨_, rfl, rfl⟩
theorem i5_6 : IsFR 5 1 6 33 := fun en r => ⟨_, rfl, rfl⟩
theorem i5_7 : IsFR 5 1 7 34 := fun en r => ⟨_, rfl, rfl⟩
theorem i5_8 : IsFI 5 1 8 := fun en r => ⟨_, rfl, rfl, Nat.le_of_ble_eq_true rfl, fun v => rfl⟩
theorem i5_9 : IsFI 5 1 9 := fun en r => ⟨_, rfl, rfl, Nat.le_of_ble_eq_true rfl, fun v => rfl⟩
theorem i5_10 : IsFI 5 1 10 := fun en r => ⟨_, rfl, rfl, Nat.le_of_ble_eq_true rfl, fun v => rfl⟩
theorem io6 : IsO 6 0 := fun _ _ => ⟨_, rfl⟩
theorem i6_0 : IsFR 6 0 0 1 := fun en r => ⟨_, rfl, rfl⟩
theorem i6_1 : IsFR 6 0 1 35 := fun en r => ⟨_, rfl, rfl⟩
theorem i6_2 : IsFR 6 0 2 36 := fun en r => ⟨_, rfl, rfl⟩
theorem i6_3 : IsFI 6 0 3 := fun en r => ⟨_, rfl, rfl, Nat.le_of_ble_eq_true rfl, fun v => rfl⟩
theorem i6_4 : IsFJ 6 0 4 := fun en r => ⟨_, rfl, rfl, Nat.le_of_ble_eq_true rfl, fun v => rfl⟩
theorem i6_5 : IsFJ 6 0 5 := fun en r => ⟨_, rfl, rfl, Nat.le_of_ble_eq_true rfl, fun v => rfl⟩
theorem is7 : IsI 7 8 := ⟨by decide, fun _ _ => rfl⟩
theorem is8 : IsI 8 8 := ⟨by decide, fun _ _ => rfl⟩
theorem io10 : IsO 10 4 := fun _ _ => ⟨_, rfl⟩
theorem i10_0 : IsFI 10 4 0 := fun en r => ⟨_, rfl, rfl, Nat.le_of_ble_eq_true rfl, fun v => rfl⟩
theorem i10_1 : IsFI 10 4 1 := fun en r => ⟨_, rfl, rfl, Nat.le_of_ble_eq_true rfl, fun v => rfl⟩
theorem i10_2 : IsFR 10 4 2 14 := fun en r => ⟨_, rfl, rfl⟩
theorem io11 : IsO 11 4 := fun _ _ => ⟨_, rfl⟩
theorem i11_0 : IsFI 11 4 0 := fun en r => ⟨_, rfl, rfl, Nat.le_of_ble_eq_true rfl, fun v => rfl⟩
theorem i11_1 : IsFI 11 4 1 := fun en r => ⟨_, rfl, rfl, Nat.le_of_ble_eq_true rfl, fun v => rfl⟩
theorem i11_2 : IsFR 11 4 2 15 := fun en r => ⟨_, rfl, rfl⟩
theorem io12 : IsO 12 4 := fun _ _ => ⟨_, rfl⟩
theorem i12_0 : IsFI 12 4 0 := fun en r => ⟨_, rfl, rfl, Nat.le_of_ble_eq_true rfl, fun v => rfl⟩
theorem i12_1 : IsFI 12 4 1 := fun en r => ⟨_, rfl, rfl, Nat.le_of_ble_eq_true rfl, fun v => rfl⟩
theorem i12_2 : IsFR 12 4 2 16 := fun en r => ⟨_, rfl, rfl⟩
theorem io13 : IsO 13 4 := fun _ _ => ⟨_, rfl⟩
theorem i13_0 : IsFI 13 4 0 := fun en r => ⟨_, rfl, rfl, Nat.le_of_ble_eq_true rfl, fun v => rfl⟩
theorem i13_1 : IsFI 13 4 1 := fun en r => ⟨_, rfl, rfl, Nat.le_of_ble_eq_true rfl, fun v => rfl⟩
theorem i13_2 : IsFR 13 4 2 17 := fun en r => ⟨_, rfl, rfl⟩
theorem is14 : IsI 14 60 := ⟨by decide, fun _ _ => rfl⟩
theorem is15 : IsI 15 60 := ⟨by decide, fun _ _ => rfl⟩
theorem is16 : IsI 16 60 := ⟨by decide, fun _ _ => rfl⟩
theorem is17 : IsI 17 60 := ⟨by decide, fun _ _ => rfl⟩
theorem is18 : IsI 18 47 := ⟨by decide, fun _ _ => rfl⟩
theorem is19 : IsI 19 12 := ⟨by decide, fun _ _ => rfl⟩
theorem is20 : IsI 20 12 := ⟨by decide, fun _ _ => rfl⟩
theorem is21 : IsI 21 12 := ⟨by decide, fun _ _ => rfl⟩
theorem is22 : IsI 22 64 := ⟨by decide, fun _ _ => rfl⟩
theorem is23 : IsI 23 47 := ⟨by decide, fun _ _ => rfl⟩
theorem is24 : IsI 24 8 := ⟨by decide, fun _ _ => rfl⟩
theorem is25 : IsI 25 8 := ⟨by decide, fun _ _ => rfl⟩
theorem is26 : IsI 26 8 := ⟨by decide, fun _ _ => rfl⟩
theorem is27 : IsI 27 8 := ⟨by decide, fun _ _ => rfl⟩
theorem is28 : IsI 28 8 := ⟨by decide, fun _ _ => rfl⟩
theorem is29 : IsZ 29 8 := ⟨by decide, fun _ _ => rfl⟩
theorem is30 : IsI 30 8 := ⟨by decide, fun _ _ => rfl⟩
theorem is31 : IsI 31 8 := ⟨by decide, fun _ _ => rfl⟩
theorem is32 : IsI 32 8 := ⟨by decide, fun _ _ => rfl⟩
theorem is33 : IsI 33 8 := ⟨by decide, fun _ _ => rfl⟩
theorem is34 : IsI 34 8 := ⟨by decide, fun _ _ => rfl⟩
theorem is35 : IsJ 35 64 := ⟨by decide, fun _ _ => rfl⟩
theorem is36 : IsJ 36 13 := ⟨by decide, fun _ _ => rfl⟩
theorem io37 : IsO 37 6 := fun _ _ => ⟨_, rfl⟩
theorem i37_0 : IsFR 37 6 0 38 := fun en r => ⟨_, rfl, rfl⟩
theorem i37_1 : IsFR 37 6 1 39 := fun en r => ⟨_, rfl, rfl⟩
theorem i37_2 : IsFR 37 6 2 40 := fun en r => ⟨_, rfl, rfl⟩
theorem i37_3 : IsFR 37 6 3 41 := fun en r => ⟨_, rfl, rfl⟩
theorem i37_4 : IsFI 37 6 4 := fun en r => ⟨_, rfl, rfl, Nat.le_of_ble_eq_true rfl, fun v => rfl⟩
theorem i37_5 : IsFR 37 6 5 42 := fun en r => ⟨_, rfl, rfl⟩
theorem i37_6 : IsFR 37 6 6 43 := fun en r => ⟨_, rfl, rfl⟩
theorem i37_7 : IsFI 37 6 7 := fun en r => ⟨_, rfl, rfl, Nat.le_of_ble_eq_true rfl, fun v => rfl⟩
theorem i37_8 : IsFR 37 6 8 44 := fun en r => ⟨_, rfl, rfl⟩
theorem i37_9 : IsFI 37 6 9 := fun en r => ⟨_, rfl, rfl, Nat.le_of_ble_eq_true rfl, fun v => rfl⟩
theorem i37_10 : IsFR 37 6 10 45 := fun en r => ⟨_, rfl, rfl⟩
theorem i37_11 : IsFR 37 6 11 46 := fun en r => ⟨_, rfl, rfl⟩
theorem i37_12 : IsFR 37 6 12 47 := fun en r => ⟨_, rfl, rfl⟩
theorem i37_13 : IsFR 37 6 13 48 := fun en r => ⟨_, rfl, rfl⟩
theorem i37_14 : IsFR 37 6 14 49 := fun en r => ⟨_, rfl, rfl⟩
theorem i37_15 : IsFR 37 6 15 50 := fun en r => ⟨_, rfl, rfl⟩
theorem i37_16 : IsFI 37 6 16 := fun en r => ⟨_, rfl, rfl, Nat.le_of_ble_eq_true rfl, fun v => rfl⟩
theorem i37_17 : IsFR 37 6 17 51 := fun en r => ⟨_, rfl, rfl⟩
theorem i37_18 : IsFR 37 6 18 52 := fun en r => ⟨_, rfl, rfl⟩
theorem i37_19 : IsFI 37 6 19 := fun en r => ⟨_, rfl, rfl, Nat.le_of_ble_eq_true rfl, fun v => rfl⟩
theorem is38 : IsI 38 4 := ⟨by decide, fun _ _ => rfl⟩
theorem is39 : IsI 39 4 := ⟨by decide, fun _ _ => rfl⟩
theorem is40 : IsI 40 240 := ⟨by decide, fun _ _ => rfl⟩
theorem is41 : IsI 41 60 := ⟨by decide, fun _ _ => rfl⟩
theorem is42 : IsI 42 96 := ⟨by decide, fun _ _ => rfl⟩
theorem is43 : IsI 43 2 := ⟨by decide, fun _ _ => rfl⟩
theorem is44 : IsI 44 36 := ⟨by decide, fun _ _ => rfl⟩
theorem is45 : IsI 45 40 := ⟨by decide, fun _ _ => rfl⟩
theorem is46 : IsI 46 6 := ⟨by decide, fun _ _ => rfl⟩
theorem is47 : IsI 47 64 := ⟨by decide, fun _ _ => rfl⟩
theorem is48 : IsI 48 8 := ⟨by decide, fun _ _ => rfl⟩
theorem is49 : IsI 49 8 := ⟨by decide, fun _ _ => rfl⟩
theorem is50 : IsI 50 8 := ⟨by decide, fun _ _ => rfl⟩
theorem is51 : IsI 51 16 := ⟨by decide, fun _ _ => rfl⟩
theorem is52 : IsI 52 8 := ⟨by decide, fun _ _ => rfl⟩
abbrev kA : List Nat := List.range 53
theorem ka0 : 0 ∈ kA := by decide
theorem ka1 : 1 ∈ kA := by decide
theorem ka2 : 2 ∈ kA := by decide
theorem ka3 : 3 ∈ kA := by decide
theorem ka4 : 4 ∈ kA := by decide
theorem ka5 : 5 ∈ kA := by decide
theorem ka6 : 6 ∈ kA := by decide
theorem ka7 : 7 ∈ kA := by decide
theorem ka8 : 8 ∈ kA := by decide
theorem ka9 : 9 ∈ kA := by decide
theorem ka10 : 10 ∈ kA := by decide
theorem ka11 : 11 ∈ kA := by decide
theorem ka12 : 12 ∈ kA := by decide
theorem ka13 : 13 ∈ kA := by decide
theorem ka14 : 14 ∈ kA := by decide
theorem ka15 : 15 ∈ kA := by decide
theorem ka16 : 16 ∈ kA := by decide
theorem ka17 : 17 ∈ kA := by decide
theorem ka18 : 18 ∈ kA := by decide
theorem ka19 : 19 ∈ kA := by decide
theorem ka20 : 20 ∈ kA := by decide
theorem ka21 : 21 ∈ kA := by decide
theorem ka22 : 22 ∈ kA := by decide
theorem ka23 : 23 ∈ kA := by decide
theorem ka24 : 24 ∈ kA := by decide
theorem ka25 : 25 ∈ kA := by decide
theorem ka26 : 26 ∈ kA := by decide
theorem ka27 : 27 ∈ kA := by decide
theorem ka28 : 28 ∈ kA := by decide
theorem ka29 : 29 ∈ kA := by decide
theorem ka30 : 30 ∈ kA := by decide
theorem ka31 : 31 ∈ kA := by decide
theorem ka32 : 32 ∈ kA := by decide
theorem ka33 : 33 ∈ kA := by decide
theorem ka34 : 34 ∈ kA := by decide
theorem ka35 : 35 ∈ kA := by decide
theorem ka36 : 36 ∈ kA := by decide
theorem ka37 : 37 ∈ kA := by decide
theorem ka38 : 38 ∈ kA := by decide
theorem ka39 : 39 ∈ kA := by decide
theorem ka40 : 40 ∈ kA := by decide
theorem ka41 : 41 ∈ kA := by decide
theorem ka42 : 42 ∈ kA := by decide
theorem ka43 : 43 ∈ kA := by decide
theorem ka44 : 44 ∈ kA := by decide
theorem ka45 : 45 ∈ kA := by decide
theorem ka46 : 46 ∈ kA := by decide
theorem ka47 : 47 ∈ kA := by decide
theorem ka48 : 48 ∈ kA := by decide
theorem ka49 : 49 ∈ kA := by decide
theorem ka50 : 50 ∈ kA := by decide
theorem ka51 : 51 ∈ kA := by decide
theorem ka52 : 52 ∈ kA := by decide
def zws (en : zE) (ks : List Nat) (M : zW) : va_W := ks.map (fun k => (ad en k, cell en k (M k)))
def zty (en : zE) : List (ClassId × FieldType) := [(en.2.2.1.1, .int), (en.2.2.1.2.1, .long), (en.2.2.1.2.2.1, .boolean), (en.2.2.1.2.2.2, .object RX4)]
def zA (en : zE) (ks : List Nat) : Nat → Prop := fun q => ∃ k, k ∈ ks ∧ q = ad en k
def zIn (en : zE) (ks : List Nat) : Prop := ks.Nodup ∧ ∀ i, i ∈ ks → ∀ j, j ∈ ks → ad en i = ad en j → i = j
def tMost (j : Int) : Int := if j = 0 then 7 else if j = 1 then 9 else if j = 2 then 9 else if j = 3 then 7 else if j = 4 then 7 else 255
def tLack (j : Int) : Int := if j = 0 then 6148914691236517205 else if j = 1 then 3689348814741910323 else if j = 2 then 1085102592571150095 else if j = 3 then 71777214294589695 else if j = 4 then 281470681808895 else 4294967295
def zSt (en : zE) (A : Nat → Prop) (U : State) (H : Heap) : Prop :=
  va_Z RX6 "TOLD_MOST" "[I" (.ref en.2.2.2.2.1) A U H ∧ va_T .int en.2.2.2.2.1 6 (fun j => vi (tMost j)) A U H ∧ va_Z RX0 "LACKING" "[J" (.ref en.2.2.2.2.2) A U H ∧ va_T .long en.2.2.2.2.2 6 (fun j => vl (tLack j)) A U H ∧ va_Nw (.declares ⟨RX5, "takes", "(III)Z"⟩) U
def zH (en : zE) (ks : List Nat) (M : zW) (U : State) : Prop := va_P en.2.1 vwCl (zws en ks M) U.heap ∧ va_K en.2.1 vwCl (zty en) U ∧ zIn en ks ∧ zSt en (zA en ks) U U.heap ∧ zNs U
def rm (h : Nat) : Room := { frames := h, cells := 0, slots := 0, locals := 40 * h }
def zQ (en : zE) (ks : List Nat) (P : Option Value → zW → Prop) : Array Value → State → Outcome → State → Prop := fun _ st oc t => (∃ r M, oc = .returned r ∧ P r M ∧ zH en ks M t) ∧ va_F (zA en ks) st t
/-- a method's contract: from a world M, with the arguments av, it returns, P of its answer and of the world then -/
def Ct (en : zE) (ks : List Nat) (y : MethodName) (md : zMD) (av : List Value) (M : zW) (P : Option Value → zW → Prop) : Prop :=
  Met en.1 y (.code y md.2.1 md.2.2.1 md.2.2.2.1 :: lw_g) (rm md.2.2.2.2) (va_Pc av (zH en ks M)) (zQ en ks P) 0 0 (zA en ks)
abbrev zX : Type := (Nat → Prop) × Program × Env × Room × State × MethodId × Array Value × List Frame × Method × Code × Nat × Nat × (State → Prop)
def zF (en : zE) (ks : List Nat) (cx : zX) (md : zMD) : Prop := match cx with
  | (A, p, _, R, s, m, args, _, _, c, cells, slots, _) => p.tables.exec = Jvm.exec ∧ c.code = md.2.1 ∧ c.maxLocals = md.2.2.1 ∧ s.vm.findClass md.1 = some m.cls ∧ (∀ w ∈ lw_g, w.before args s = true) ∧ va_K en.2.1 vwCl (zty en) s ∧ zIn en ks ∧ (∀ q, zA en ks q → A q) ∧ zSt en A s s.heap ∧ md.2.2.2.2 ≤ R.frames ∧ 40 * md.2.2.2.2 ≤ R.locals ∧ cells ≤ R.cells ∧ slots ≤ R.slots ∧ zNs s
/-- THE JUDGEMENT: at pc, with the world M, the locals lv, the stack st, the method comes to its end -/
def Z (en : zE) (ks : List Nat) (cx : zX) (md : zMD) (M : zW) (pc : Nat) (lv : List (Nat × Value)) (st : List Value) : Prop := match cx with
  | (A, p, e, R, s, m, args, below, meth, c, cells, slots, Q) => zF en ks cx md → ∀ (H : Heap) (locs : List Loc) (ls : Array Slot), va_P en.2.1 vwCl (zws en ks M) H → va_S A s.heap H locs → lv_has ls md.2.2.1 lv → W p en.1 e R s m args below meth c H locs cells slots Q (F0 m pc ls st)
/-- what a method's own walk ends in -/
def zC (en : zE) (ks : List Nat) (cx : zX) (md : zMD) (P : Option Value → zW → Prop) : Prop := match cx with
  | (A, _, _, _, s, _, args, below, meth, _, cells, slots, Q) => A = zA en ks ∧ meth.sig.returnType = md.2.2.2.1 ∧ meth.locks = false ∧ cells = 0 ∧ slots = 0 ∧ Q = MQ below (zQ en ks P) args s 0 0 (zA en ks)
def pI (v : Int) (M : zW) : Option Value → zW → Prop := fun r N => r = some (vi v) ∧ N = M
def pJ (v : Int) (M : zW) : Option Value → zW → Prop := fun r N => r = some (vl v) ∧ N = M
def pX (P : Int → zW → Prop) : Option Value → zW → Prop := fun r N => ∃ x, r = some (vi x) ∧ P x N
def pY (P : Int → zW → Prop) : Option Value → zW → Prop := fun r N => ∃ x, r = some (vl x) ∧ P x N
def pN (P : zW → Prop) : Option Value → zW → Prop := fun r N => r = none ∧ P N
def pV (M : zW) : Option Value → zW → Prop := fun r N => r = none ∧ N = M
def bi (c : Prop) [Decidable c] : Int := if c then 1 else 0
/-! numbers -/
theorem o32 {x : Int} (h1 : -2147483648 ≤ x) (h2 : x < 2147483648) : (Int32.ofInt x).toInt = x := Int32.toInt_ofInt_of_le (by omega) (by omega)
theorem o64 {x : Int} (h1 : -9223372036854775808 ≤ x) (h2 : x < 9223372036854775808) : (Int64.ofInt x).toInt = x := Int64.toInt_ofInt_of_le (by omega) (by omega)
theorem ocl {x : Int} (h1 : 0 ≤ x) (h2 : x < 2147483648) : (Int32.ofInt x).toNatClampNeg = x.toNat := by
  show (Int32.ofInt x).toInt.toNat = _
  rw [o32 (by omega) h2]
theorem oin {x : Int} {n : Nat} (h1 : 0 ≤ x) (h2 : x < n) (h3 : n < 2147483648) : vp_in (Int32.ofInt x) n := by
  rw [vp_in_iff, o32 (by omega) (by omega)]
  exact ⟨h1, h2⟩
theorem olt {x y : Int} (h : -2147483648 ≤ x ∧ x < 2147483648 ∧ -2147483648 ≤ y ∧ y < 2147483648) : Int32.ofInt x < Int32.ofInt y ↔ x < y := by
  rw [Int32.lt_iff_toInt_lt, o32 h.1 h.2.1, o32 h.2.2.1 h.2.2.2]
theorem ole {x y : Int} (h : -2147483648 ≤ x ∧ x < 2147483648 ∧ -2147483648 ≤ y ∧ y < 2147483648) : Int32.ofInt x ≤ Int32.ofInt y ↔ x ≤ y := by
  rw [Int32.le_iff_toInt_le, o32 h.1 h.2.1, o32 h.2.2.1 h.2.2.2]
theorem oeq {x y : Int} (h : -2147483648 ≤ x ∧ x < 2147483648 ∧ -2147483648 ≤ y ∧ y < 2147483648) : Int32.ofInt x = Int32.ofInt y ↔ x = y := by
  constructor
  · intro e
    have := congrArg Int32.toInt e
    rwa [o32 h.1 h.2.1, o32 h.2.2.1 h.2.2.2] at this
  · intro e; rw [e]
theorem oz : (0 : Int32) = Int32.ofInt 0 := rfl
theorem upR_id {M : zW} {k : Nat} {r : Int → Int} (h : M k = r) : upR M k r = M := by
  subst h
  funext q
  by_cases hq : q = k
  · subst hq; simp [upR]
  · simp [upR, hq]
theorem up_up (r : Int → Int) (j v x : Int) : up (up r j v) j x = up r j x := by
  funext q
  by_cases hq : q = j
  · simp [up, hq]
  · simp [up, hq]
theorem up_id (r : Int → Int) (j : Int) : up r j (r j) = r := by
  funext q
  by_cases hq : q = j
  · simp [up, hq]
  · simp [up, hq]
/-- n places from a on told anew -/
def fil (g r : Int → Int) (a n : Int) : Int → Int := fun j => if a ≤ j ∧ j < a + n then g (j - a) else r j
theorem fil_0 (g r : Int → Int) (a : Int) : fil g r a 0 = r := by
  funext j
  simp only [fil]
  rw [if_neg (by omega)]
theorem fil_s (g r : Int → Int) (a n : Int) (h : 0 ≤ n) {v : Int} (hv : v = g n) : up (fil g r a n) (a + n) v = fil g r a (n + 1) := by
  funext j
  simp only [fil, up]
  by_cases q : j = a + n
  · subst q; rw [if_pos rfl, if_pos (by omega), hv]; congr 1; omega
  · rw [if_neg q]
    by_cases c : a ≤ j ∧ j < a + n
    · rw [if_pos c, if_pos (by omega)]
    · rw [if_neg c, if_neg (by omega)]
theorem fil_in (g r : Int → Int) {a n j : Int} (h : a ≤ j ∧ j < a + n) : fil g r a n j = g (j - a) := by simp only [fil]; rw [if_pos h]
theorem fil_out (g r : Int → Int) {a n j : Int} (h : ¬ (a ≤ j ∧ j < a + n)) : fil g r a n j = r j := by simp only [fil]; rw [if_neg h]
theorem fil_cong {g g2 r : Int → Int} {a n : Int} (h : ∀ q, 0 ≤ q → q < n → g q = g2 q) : fil g r a n = fil g2 r a n := by
  funext j
  by_cases c : a ≤ j ∧ j < a + n
  · rw [fil_in _ _ c, fil_in _ _ c, h _ (by omega) (by omega)]
  · rw [fil_out _ _ c, fil_out _ _ c]
theorem up_s (r : Int → Int) (j v : Int) : up r j v j = v := by simp [up]
theorem up_n (r : Int → Int) {i j : Int} (v : Int) (h : i ≠ j) : up r j v i = r i := by simp [up, h]
theorem rI_up {r : Int → Int} {j : Int} {v : Int} (h : 0 ≤ j) : rI (up r j v) = upd (rI r) j.toNat (Int32.ofInt v) := by
  funext q
  by_cases hq : q = j.toNat
  · subst hq
    have : ((j.toNat : Nat) : Int) = j := by omega
    simp [rI, up, upd, this]
  · have : ¬ (q : Int) = j := by omega
    simp [rI, up, upd, this, hq]
theorem rJ_up {r : Int → Int} {j : Int} {v : Int} (h : 0 ≤ j) : rJ (up r j v) = vp_updL (rJ r) j.toNat (Int64.ofInt v) := by
  funext q
  by_cases hq : q = j.toNat
  · subst hq
    have : ((j.toNat : Nat) : Int) = j := by omega
    simp [rJ, up, vp_updL, this]
  · have : ¬ (q : Int) = j := by omega
    simp [rJ, up, vp_updL, this, hq]
theorem bi1 {c : Prop} [Decidable c] (h : c) : (1 : Int) = bi c := by simp [bi, h]
theorem bi0 {c : Prop} [Decidable c] (h : ¬ c) : (0 : Int) = bi c := by simp [bi, h]
theorem bi_01 {c : Prop} [Decidable c] : bi c = 0 ∨ bi c = 1 := by unfold bi; split <;> simp
theorem bi_rg (c : Prop) [Decidable c] : 0 ≤ bi c ∧ bi c ≤ 1 := by unfold bi; split <;> omega
theorem n_ne {x y : Int} (h : 0 ≤ x ∧ x < 2147483648 ∧ 0 < y ∧ y < 2147483648) : ¬ Int32.ofInt y = 0 := by
  rw [oz, oeq (by omega)]
  omega
theorem n_nI {x : Int} (h : 0 ≤ x) : Int32.ofInt x = nI x.toNat := by
  have : x = ((x.toNat : Nat) : Int) := by omega
  rw [this, Int32.ofInt_eq_ofNat]
  rfl
theorem n_lN {x : Int} (h : 0 ≤ x) : Int64.ofInt x = lN x.toNat := by
  have : x = ((x.toNat : Nat) : Int) := by omega
  rw [this, Int64.ofInt_eq_ofNat]
  rfl
theorem n_div {x y : Int} (h : 0 ≤ x ∧ x < 2147483648 ∧ 0 < y ∧ y < 2147483648) : Int32.ofInt x / Int32.ofInt y = Int32.ofInt (x / y) := by
  obtain ⟨a, rfl⟩ : ∃ a : Nat, x = a := ⟨x.toNat, by omega⟩
  obtain ⟨b, rfl⟩ : ∃ b : Nat, y = b := ⟨y.toNat, by omega⟩
  have h1 := pk_div (a := a) (d := b) (by omega) (by omega) (by omega)
  rw [← Int.natCast_ediv, Int32.ofInt_eq_ofNat, Int32.ofInt_eq_ofNat, Int32.ofInt_eq_ofNat]
  exact h1
theorem n_rem {x y : Int} (h : 0 ≤ x ∧ x < 2147483648 ∧ 0 < y ∧ y < 2147483648) : Int32.ofInt x - Int32.ofInt x / Int32.ofInt y * Int32.ofInt y = Int32.ofInt (x % y) := by
  obtain ⟨a, rfl⟩ : ∃ a : Nat, x = a := ⟨x.toNat, by omega⟩
  obtain ⟨b, rfl⟩ : ∃ b : Nat, y = b := ⟨y.toNat, by omega⟩
  have h1 := pk_rem (a := a) (d := b) (by omega) (by omega) (by omega)
  rw [← Int.natCast_emod, Int32.ofInt_eq_ofNat, Int32.ofInt_eq_ofNat, Int32.ofInt_eq_ofNat]
  exact h1
theorem n_lne {x y : Int} (h : 0 ≤ x ∧ x < 9223372036854775808 ∧ 0 < y ∧ y < 9223372036854775808) : ¬ Int64.ofInt y = 0 := by
  intro e
  have := congrArg Int64.toInt e
  rw [o64 (by omega) h.2.2.2] at this
  have : y = 0 := this
  omega
theorem n_ldiv {x y : Int} (h : 0 ≤ x ∧ x < 9223372036854775808 ∧ 0 < y ∧ y < 9223372036854775808) : Int64.ofInt x / Int64.ofInt y = Int64.ofInt (x / y) := by
  obtain ⟨a, rfl⟩ : ∃ a : Nat, x = a := ⟨x.toNat, by omega⟩
  obtain ⟨b, rfl⟩ : ∃ b : Nat, y = b := ⟨y.toNat, by omega⟩
  have h1 := pk_lDiv (a := a) (b := b) (by omega) (by omega) (by omega)
  rw [← Int.natCast_ediv, Int64.ofInt_eq_ofNat, Int64.ofInt_eq_ofNat, Int64.ofInt_eq_ofNat]
  exact h1
theorem n_lrem {x y : Int} (h : 0 ≤ x ∧ x < 9223372036854775808 ∧ 0 < y ∧ y < 9223372036854775808) : Int64.ofInt x - Int64.ofInt x / Int64.ofInt y * Int64.ofInt y = Int64.ofInt (x % y) := by
  obtain ⟨a, rfl⟩ : ∃ a : Nat, x = a := ⟨x.toNat, by omega⟩
  obtain ⟨b, rfl⟩ : ∃ b : Nat, y = b := ⟨y.toNat, by omega⟩
  have h1 := pk_lRem (a := a) (b := b) (by omega) (by omega) (by omega)
  rw [← Int.natCast_emod, Int64.ofInt_eq_ofNat, Int64.ofInt_eq_ofNat, Int64.ofInt_eq_ofNat]
  exact h1
theorem n_and {x y : Int} (h : 0 ≤ x ∧ x < 2147483648 ∧ 0 ≤ y ∧ y < 2147483648) : Int32.ofInt x &&& Int32.ofInt y = Int32.ofInt ((x.toNat &&& y.toNat : Nat) : Int) := by
  rw [n_nI h.1, n_nI h.2.2.1, Int32.ofInt_eq_ofNat]
  apply Int32.toBitVec_inj.mp
  simp [nI]
theorem n_or {x y : Int} (h : 0 ≤ x ∧ x < 2147483648 ∧ 0 ≤ y ∧ y < 2147483648) : Int32.ofInt x ||| Int32.ofInt y = Int32.ofInt ((x.toNat ||| y.toNat : Nat) : Int) := by
  rw [n_nI h.1, n_nI h.2.2.1, Int32.ofInt_eq_ofNat]
  apply Int32.toBitVec_inj.mp
  simp [nI]
theorem n_sc : ∀ n : Nat, n < 32 → ((Int32.ofInt (n : Int) &&& 31).toBitVec.smod 32).toNat = n := by decide +kernel
theorem n_shl {x y : Int} (h : 0 ≤ y ∧ y < 32) : Int32.ofInt x <<< (Int32.ofInt y &&& 31) = Int32.ofInt (x * 2 ^ y.toNat) := by
  obtain ⟨b, rfl⟩ : ∃ b : Nat, y = b := ⟨y.toNat, by omega⟩
  have hb := n_sc b (by omega)
  have h1 := pk_shl (Int32.ofInt x) (Int32.ofInt (b : Int) &&& 31) b hb
  apply Int32.toBitVec_inj.mp
  apply BitVec.eq_of_toNat_eq
  rw [h1, Int32.ofInt_mul, Int32.toBitVec_mul, BitVec.toNat_mul]
  have h2 : (Int32.ofInt ((2 : Int) ^ b)).toBitVec.toNat = 2 ^ b % 2 ^ 32 := by
    have : ((2 : Int) ^ b) = ((2 ^ b : Nat) : Int) := by simp
    rw [this, Int32.ofInt_eq_ofNat]
    simp
  rw [Int.toNat_natCast, h2, Nat.mul_mod_mod]
theorem n_shr {x y : Int} (hx : -2147483648 ≤ x ∧ x < 2147483648) (h : 0 ≤ y ∧ y < 32) : Int32.ofInt x >>> (Int32.ofInt y &&& 31) = Int32.ofInt (x / 2 ^ y.toNat) := by
  obtain ⟨b, rfl⟩ : ∃ b : Nat, y = b := ⟨y.toNat, by omega⟩
  have hb := n_sc b (by omega)
  have h1 := pk_shr (Int32.ofInt x) (Int32.ofInt (b : Int) &&& 31) b hb
  apply Int32.toInt_inj.mp
  rw [h1, o32 hx.1 hx.2, Int.shiftRight_eq_div_pow, Int.toNat_natCast]
  have hp : (0 : Int) < 2 ^ b := Int.pow_pos (by decide)
  have e : ((2 ^ b : Nat) : Int) = (2 : Int) ^ b := by simp
  rw [e, o32]
  · rcases Int.lt_or_le x 0 with q | q
    · have := Int.ediv_nonneg_iff_of_pos (a := x) hp
      have h3 : x ≤ x / 2 ^ b := by
        apply Int.le_ediv_of_mul_le hp
        have : x * 2 ^ b ≤ x * 1 := Int.mul_le_mul_of_nonpos_left (by omega) (by omega)
        omega
      omega
    · have := Int.ediv_nonneg q (Int.le_of_lt hp)
      omega
  · rcases Int.lt_or_le x 0 with q | q
    · have : x / 2 ^ b < 0 := Int.ediv_neg_of_neg_of_pos q hp
      omega
    · have := Int.ediv_le_self (2 ^ b) q
      omega
theorem n_mask (x : Int) (k : Nat) (hk : k ≤ 16) {m : Int32} (hm : m.toBitVec.toNat = 2 ^ k - 1) : Int32.ofInt x &&& m = Int32.ofInt (x % 2 ^ k) := by
  rw [pk_and (Int32.ofInt x) k hm]
  have h0 : (Int32.ofInt x).toBitVec.toNat = (x % 4294967296).toNat := by
    show (BitVec.ofInt 32 x).toNat = _
    rw [BitVec.toNat_ofInt]
    rfl
  rw [h0, n_nI (Int.emod_nonneg _ (Int.ne_of_gt (Int.pow_pos (by decide))))]
  congr 1
  have hd : (2 : Int) ^ k ∣ 4294967296 := by
    have h9 := Nat.pow_dvd_pow (m := k) (n := 32) 2 (by omega)
    have h8 : ((2 ^ k : Nat) : Int) ∣ ((2 ^ 32 : Nat) : Int) := Int.natCast_dvd_natCast.mpr h9
    simpa using h8
  have h1 : (x % 4294967296) % 2 ^ k = x % 2 ^ k := Int.emod_emod_of_dvd x hd
  rw [← h1]
  have h2 : 0 ≤ x % 4294967296 := by omega
  obtain ⟨a, ha⟩ : ∃ a : Nat, x % 4294967296 = a := ⟨(x % 4294967296).toNat, by omega⟩
  rw [ha, Int.toNat_natCast, show ((2 : Int) ^ k) = ((2 ^ k : Nat) : Int) by simp, ← Int.natCast_emod, Int.toNat_natCast]
theorem n_and1 (x : Int) : Int32.ofInt x &&& Int32.ofInt 1 = Int32.ofInt (x % 2) := n_mask x 1 (by decide) rfl
theorem n_and31 (x : Int) : Int32.ofInt x &&& Int32.ofInt 31 = Int32.ofInt (x % 32) := n_mask x 5 (by decide) rfl
theorem n_and63 (x : Int) : Int32.ofInt x &&& Int32.ofInt 63 = Int32.ofInt (x % 64) := n_mask x 6 (by decide) rfl
theorem n_su : ∀ n : Nat, n < 32 → (((Int32.ofInt (n : Int)).toUInt32 &&& Int32.toUInt32 31).toBitVec % 32).toNat = n := by decide +kernel
theorem n_ushr {x y : Int} (h : 0 ≤ y ∧ y < 32) : ((Int32.ofInt x).toUInt32 >>> ((Int32.ofInt y).toUInt32 &&& Int32.toUInt32 31)).toInt32 = Int32.ofInt ((x % 4294967296) / 2 ^ y.toNat) := by
  obtain ⟨b, rfl⟩ : ∃ b : Nat, y = b := ⟨y.toNat, by omega⟩
  have h1 := pk_ushr (Int32.ofInt x) (Int32.ofInt (b : Int)) b (n_su b (by omega))
  apply Int32.toBitVec_inj.mp
  apply BitVec.eq_of_toNat_eq
  rw [h1]
  have h0 : (Int32.ofInt x).toBitVec.toNat = (x % 4294967296).toNat := by
    show (BitVec.ofInt 32 x).toNat = _
    rw [BitVec.toNat_ofInt]
    rfl
  rw [h0, Int.toNat_natCast]
  have h2 : 0 ≤ x % 4294967296 := by omega
  obtain ⟨a, ha⟩ : ∃ a : Nat, x % 4294967296 = a := ⟨(x % 4294967296).toNat, by omega⟩
  rw [ha, Int.toNat_natCast, show ((2 : Int) ^ b) = ((2 ^ b : Nat) : Int) by simp, ← Int.natCast_ediv, Int32.ofInt_eq_ofNat]
  have h3 : a / 2 ^ b ≤ a := Nat.div_le_self _ _
  have h4 : a / 2 ^ b < 2 ^ 32 := by omega
  simp [Nat.mod_eq_of_lt h4]
theorem n_i2l {x : Int} (h : -2147483648 ≤ x ∧ x < 2147483648) : (Int32.ofInt x).toInt64 = Int64.ofInt x := by
  apply Int64.toInt_inj.mp
  rw [o64 (by omega) (by omega), Int32.toInt_toInt64, o32 h.1 h.2]
theorem n_i2b (x : Int) : (Int32.ofInt x).toInt8.toInt32 = Int32.ofInt ((x + 128) % 256 - 128) := by
  apply Int32.toInt_inj.mp
  rw [o32 (by omega) (by omega), Int8.toInt_toInt32, Int32.toInt_toInt8, Int32.toInt_ofInt]
  rw [show Int32.size = 4294967296 from rfl]
  simp only [Int.bmod_def]
  omega
theorem n_i2s (x : Int) : (Int32.ofInt x).toInt16.toInt32 = Int32.ofInt ((x + 32768) % 65536 - 32768) := by
  apply Int32.toInt_inj.mp
  rw [o32 (by omega) (by omega), Int16.toInt_toInt32, Int32.toInt_toInt16, Int32.toInt_ofInt]
  rw [show Int32.size = 4294967296 from rfl]
  simp only [Int.bmod_def]
  omega
def lc (x y : Int) : Int := if x < y then -1 else if x = y then 0 else 1
theorem n_lcmp {x y : Int} (h : -9223372036854775808 ≤ x ∧ x < 9223372036854775808 ∧ -9223372036854775808 ≤ y ∧ y < 9223372036854775808) : lg_cmp (Int64.ofInt x) (Int64.ofInt y) = Int32.ofInt (lc x y) := by
  have e1 : Int64.ofInt x > Int64.ofInt y ↔ y < x := by
    show Int64.ofInt y < Int64.ofInt x ↔ _
    rw [Int64.lt_iff_toInt_lt, o64 h.1 h.2.1, o64 h.2.2.1 h.2.2.2]
  have e2 : Int64.ofInt x = Int64.ofInt y ↔ x = y := by
    constructor
    · intro e
      have := congrArg Int64.toInt e
      rwa [o64 h.1 h.2.1, o64 h.2.2.1 h.2.2.2] at this
    · intro e; rw [e]
  unfold lg_cmp lc
  by_cases a : x < y
  · rw [if_neg (by rw [e1]; omega), if_neg (by rw [e2]; omega), if_pos a]; rfl
  · by_cases b : x = y
    · rw [if_neg (by rw [e1]; omega), if_pos (by rw [e2]; exact b), if_neg a, if_pos b]; rfl
    · rw [if_pos (by rw [e1]; omega), if_neg a, if_neg b]; rfl
theorem fld_same {args : Array Value} {s : State} (hts : ∀ w ∈ lw_g, w.before args s = true) {ref o n d : String} (h : ref = o ∨ Cond.sameField ref o n d ∈ lw_g) : ∀ x, s.fieldFound? o n d = some x → s.fieldFound? ref n d = some x := by
  rcases h with rfl | h
  · exact fun _ h => h
  · exact u_same (hts _ h)
/-! worlds -/
theorem tbl_good : ∀ w ∈ lw_g, (w.onTables && w.keeps) = true ∨ ∃ ty, w = .arrayClass ty := fun w h => good_of_word (List.mem_filter.mp h).2
theorem zws_at {en : zE} {ks : List Nat} {M : zW} {k : Nat} (h : k ∈ ks) : ∃ i : Nat, ks[i]? = some k ∧ (zws en ks M)[i]? = some (ad en k, cell en k (M k)) := by
  obtain ⟨i, hi⟩ := List.getElem?_of_mem h
  exact ⟨i, hi, by simp [zws, hi]⟩
theorem zws_D {en : zE} {ks : List Nat} {M : zW} {A : Nat → Prop} (hn : zIn en ks) (hA : ∀ q, zA en ks q → A q) : va_D A (zws en ks M) := by
  have key : ∀ (i : Nat) (q : Nat × va_E), (zws en ks M)[i]? = some q → ∃ k, ks[i]? = some k ∧ q.1 = ad en k := by
    intro i q hq
    simp only [zws, List.getElem?_map] at hq
    cases hk : ks[i]? with
    | none => rw [hk] at hq; cases hq
    | some k => rw [hk] at hq; cases hq; exact ⟨k, rfl, rfl⟩
  refine ⟨fun i j x y hi hj hxy => ?_, fun i q hq => ?_⟩
  · obtain ⟨a, h1, h2⟩ := key i x hi
    obtain ⟨b, h3, h4⟩ := key j y hj
    have hab : a = b := hn.2 a (List.mem_of_getElem? h1) b (List.mem_of_getElem? h3) (by rw [← h2, ← h4]; exact hxy)
    subst hab
    have l1 := (List.getElem?_eq_some_iff.mp h1)
    have l2 := (List.getElem?_eq_some_iff.mp h3)
    obtain ⟨b1, b2⟩ := l1
    obtain ⟨b3, b4⟩ := l2
    exact (List.getElem_inj hn.1).mp (b2.trans b4.symm)
  · obtain ⟨a, h1, h2⟩ := key i q hq
    rw [h2]
    exact hA _ ⟨a, List.mem_of_getElem? h1, rfl⟩
theorem zws_set {en : zE} {ks : List Nat} {M : zW} {k i : Nat} {r : Int → Int} (hn : ks.Nodup) (hi : ks[i]? = some k) : (zws en ks M).set i (ad en k, cell en k r) = zws en ks (upR M k r) := by
  have hl := (List.getElem?_eq_some_iff.mp hi)
  apply List.ext_getElem?
  intro j
  by_cases hj : j = i
  · subst hj
    rw [List.getElem?_set_self (by simp [zws]; exact hl.1)]
    simp [zws, hi, upR]
  · rw [List.getElem?_set_ne (Ne.symm hj)]
    simp only [zws, List.getElem?_map]
    cases hq : ks[j]? with
    | none => rfl
    | some q =>
      have hne : q ≠ k := by
        intro e
        subst e
        have l2 := (List.getElem?_eq_some_iff.mp hq)
        obtain ⟨b1, b2⟩ := l2
        obtain ⟨b3, b4⟩ := hl
        exact hj ((List.getElem_inj hn).mp (b2.trans b4.symm))
      simp [upR, hne]
theorem zSt.moved {en : zE} {A : Nat → Prop} {u U : State} {H : Heap} (hvm : u.vm.Alike U.vm) (h : zSt en A u H) : zSt en A U H := ⟨h.1.moved hvm, h.2.1.moved hvm, h.2.2.1.moved hvm, h.2.2.2.1.moved hvm, va_tabs rfl (rfl : (u.setVm U.vm).vm = U.vm) (by rw [Cond.declares_setVm hvm]; exact h.2.2.2.2)⟩
theorem zSt.kept {en : zE} {A : Nat → Prop} {U : State} {H H1 : Heap} (h : zSt en A U H) (hq : ∀ a : Nat, a < H.size → ¬ A a → H1[a]? = H[a]?) : zSt en A U H1 := ⟨h.1.kept hq, h.2.1.kept hq, h.2.2.1.kept hq, h.2.2.2.1.kept hq, h.2.2.2.2⟩
theorem zSt.narrow {en : zE} {A B : Nat → Prop} {U : State} {H : Heap} (h : zSt en A U H) (hAB : ∀ q, B q → A q) : zSt en B U H := ⟨h.1.narrow hAB, h.2.1.narrow hAB, h.2.2.1.narrow hAB, h.2.2.2.1.narrow hAB, h.2.2.2.2⟩
theorem zNs.warm {s U : State} (hW : s.WarmedH U.vm) (h : zNs s) : zNs U := fun w hw => va_Nw.warmM hW (h w hw)
theorem zH.blind {en : zE} {ks : List Nat} {M : zW} {av : List Value} : FrameBlind (va_Pc av (zH en ks M)) := fun a U g mk q => by
  obtain ⟨q0, qP, qK, qI, qS, qN⟩ := q
  exact ⟨q0, qP, va_K.moved (u := U) (U := U.calling g mk a) (Vm.Alike.refl U.vm) qK, qI, zSt.moved (u := U) (U := U.calling g mk a) (Vm.Alike.refl U.vm) qS, fun w h => va_Nw.same rfl rfl (qN w h)⟩
/-- the contract out of a walk from pc 0 -/
theorem Ct.of {en : zE} {ks : List Nat} {y : MethodName} {md : zMD} {av : List Value} {M : zW} {P : Option Value → zW → Prop} (hy : plainName y.cls = true) (hc : y.cls = md.1) (lv : List (Nat × Value)) (hl : lv_args 0 av = lv) (hn : (lg_sl av).length ≤ md.2.2.1)
    (w : ∀ cx : zX, zC en ks cx md P → Z en ks cx md M 0 lv []) : Ct en ks y md av M P := by
  refine Met.ofW (cc := md.2.1) (maxL := md.2.2.1) (ret := md.2.2.2.1) hy rfl ?_
  intro p e s m args below meth c s₁ B hml hv
  obtain ⟨rfl, hP, hK, hI, hSt, hNs⟩ := hv
  have hts := atoms_spec (ws := .code y md.2.1 md.2.2.1 md.2.2.2.1 :: lw_g) B.pre
  have hown : s.vm.findClass y.cls = some m.cls := findClass_of_methodNamed B.named
  have hl1 := lv_entry av (n := md.2.2.1) hn
  rw [hl] at hl1
  rw [lg_entry_eq]
  exact w (zA en ks, p, e, rm md.2.2.2.2, s, m, av.toArray, below, meth, c, 0, 0, MQ below (zQ en ks P) av.toArray s 0 0 (zA en ks)) ⟨rfl, B.returns, B.notSynchronized, rfl, rfl, rfl⟩
    ⟨B.exec, B.bytes, hml, hc ▸ hown, fun w h => hts w (List.mem_cons_of_mem _ h), hK, hI, fun _ h => h, hSt, Nat.le_refl _, Nat.le_refl _, Nat.le_refl _, Nat.le_refl _, hNs⟩ s.heap [] _ hP va_S.rf hl1
/-! rules -/
section ZR
variable {en : zE} {ks : List Nat} {cx : zX} {md : zMD} {M : zW} {pc pc' tgt : Nat} {lv : List (Nat × Value)} {st : List Value}
theorem Z.eqs {st' : List Value} (h : st' = st) (k : Z en ks cx md M pc lv st') : Z en ks cx md M pc lv st := h ▸ k
theorem Z.eqM {M' : zW} (h : M' = M) (k : Z en ks cx md M' pc lv st) : Z en ks cx md M pc lv st := h ▸ k
theorem z_iconst {n : Int} (hd : Dc md pc (.iconst n) 1 pc') (k : Z en ks cx md M pc' lv (vi n :: st)) : Z en ks cx md M pc lv st := by
  obtain ⟨A, p, e, R, s, m, args, below, meth, c, cells, slots, Q⟩ := cx
  intro F H locs ls hP hS hl
  obtain ⟨hd, rfl⟩ := hd
  exact lv_iconst F.1 F.2.1 hd rfl (k F H locs ls hP hS hl)
theorem z_bipush {n : Int} (hd : Dc md pc (.bipush n) 2 pc') (hn : (Int8.ofInt n).toInt32 = Int32.ofInt n) (k : Z en ks cx md M pc' lv (vi n :: st)) : Z en ks cx md M pc lv st := by
  obtain ⟨A, p, e, R, s, m, args, below, meth, c, cells, slots, Q⟩ := cx
  intro F H locs ls hP hS hl
  obtain ⟨hd, rfl⟩ := hd
  exact lv_bipush F.1 F.2.1 hd hn (k F H locs ls hP hS hl)
theorem z_sipush {n : Int} (hd : Dc md pc (.sipush n) 3 pc') (hn : (Int16.ofInt n).toInt32 = Int32.ofInt n) (k : Z en ks cx md M pc' lv (vi n :: st)) : Z en ks cx md M pc lv st := by
  obtain ⟨A, p, e, R, s, m, args, below, meth, c, cells, slots, Q⟩ := cx
  intro F H locs ls hP hS hl
  obtain ⟨hd, rfl⟩ := hd
  exact lv_sipush F.1 F.2.1 hd hn (k F H locs ls hP hS hl)
theorem z_lconst {n : Fin 2} {v : Int} (hd : Dc md pc (.lconst n) 1 pc') (hn : Int64.ofNat (n : Nat) = Int64.ofInt v) (k : Z en ks cx md M pc' lv (vl v :: st)) : Z en ks cx md M pc lv st := by
  obtain ⟨A, p, e, R, s, m, args, below, meth, c, cells, slots, Q⟩ := cx
  intro F H locs ls hP hS hl
  obtain ⟨hd, rfl⟩ := hd
  exact lv_lconst F.1 F.2.1 hd hn (k F H locs ls hP hS hl)
theorem z_ldc {idx : Nat} {v : Int32} {n : Int} (hd : Dc md pc (.ldc idx) 2 pc') (hk : Cond.constant md.1 idx v ∈ lw_g) (hn : v = Int32.ofInt n) (k : Z en ks cx md M pc' lv (vi n :: st)) : Z en ks cx md M pc lv st := by
  obtain ⟨A, p, e, R, s, m, args, below, meth, c, cells, slots, Q⟩ := cx
  intro F H locs ls hP hS hl
  obtain ⟨hd, rfl⟩ := hd
  subst hn
  exact lv_ldc F.1 F.2.1 F.2.2.2.1 (F.2.2.2.2.1 _ hk) hd (k F H locs ls hP hS hl)
theorem z_ldcw {idx : Nat} {v : Int32} {n : Int} (hd : Dc md pc (.ldc_w idx) 3 pc') (hk : Cond.constant md.1 idx v ∈ lw_g) (hn : v = Int32.ofInt n) (k : Z en ks cx md M pc' lv (vi n :: st)) : Z en ks cx md M pc lv st := by
  obtain ⟨A, p, e, R, s, m, args, below, meth, c, cells, slots, Q⟩ := cx
  intro F H locs ls hP hS hl
  obtain ⟨hd, rfl⟩ := hd
  subst hn
  exact lv_ldcw F.1 F.2.1 F.2.2.2.1 (F.2.2.2.2.1 _ hk) hd (k F H locs ls hP hS hl)
theorem z_ldc2 {idx : Nat} {v : Int64} {n : Int} (hd : Dc md pc (.ldc2_w idx) 3 pc') (hk : Cond.constantLong md.1 idx v ∈ lw_g) (hn : v = Int64.ofInt n) (k : Z en ks cx md M pc' lv (vl n :: st)) : Z en ks cx md M pc lv st := by
  obtain ⟨A, p, e, R, s, m, args, below, meth, c, cells, slots, Q⟩ := cx
  intro F H locs ls hP hS hl
  obtain ⟨hd, rfl⟩ := hd
  subst hn
  exact lv_ldc2 F.1 F.2.1 F.2.2.2.1 (F.2.2.2.2.1 _ hk) hd (k F H locs ls hP hS hl)
theorem z_iload_n {q : Fin 4} {x : Int} (j : Nat) (hd : Dc md pc (.iload_n q) 1 pc') (hv : lv[j]? = some (q.val, vi x)) (k : Z en ks cx md M pc' lv (vi x :: st)) : Z en ks cx md M pc lv st := by
  obtain ⟨A, p, e, R, s, m, args, below, meth, c, cells, slots, Q⟩ := cx
  intro F H locs ls hP hS hl
  obtain ⟨hd, rfl⟩ := hd
  exact lv_iload_n F.1 F.2.1 hd rfl (lv_at hl j hv) (k F H locs ls hP hS hl)
theorem z_iload {q : Nat} {x : Int} (j : Nat) (hd : Dc md pc (.iload q) 2 pc') (hv : lv[j]? = some (q, vi x)) (k : Z en ks cx md M pc' lv (vi x :: st)) : Z en ks cx md M pc lv st := by
  obtain ⟨A, p, e, R, s, m, args, below, meth, c, cells, slots, Q⟩ := cx
  intro F H locs ls hP hS hl
  obtain ⟨hd, rfl⟩ := hd
  exact lv_iload F.1 F.2.1 hd (lv_at hl j hv) (k F H locs ls hP hS hl)
theorem z_lload_n {q : Fin 4} {x : Int} (j : Nat) (hd : Dc md pc (.lload_n q) 1 pc') (hv : lv[j]? = some (q.val, vl x)) (k : Z en ks cx md M pc' lv (vl x :: st)) : Z en ks cx md M pc lv st := by
  obtain ⟨A, p, e, R, s, m, args, below, meth, c, cells, slots, Q⟩ := cx
  intro F H locs ls hP hS hl
  obtain ⟨hd, rfl⟩ := hd
  exact lv_lload_n F.1 F.2.1 hd rfl (lv_at hl j hv) (k F H locs ls hP hS hl)
theorem z_lload {q : Nat} {x : Int} (j : Nat) (hd : Dc md pc (.lload q) 2 pc') (hv : lv[j]? = some (q, vl x)) (k : Z en ks cx md M pc' lv (vl x :: st)) : Z en ks cx md M pc lv st := by
  obtain ⟨A, p, e, R, s, m, args, below, meth, c, cells, slots, Q⟩ := cx
  intro F H locs ls hP hS hl
  obtain ⟨hd, rfl⟩ := hd
  exact lv_lload F.1 F.2.1 hd (lv_at hl j hv) (k F H locs ls hP hS hl)
theorem z_aload_n {q : Fin 4} {x : Nat} (j : Nat) (hd : Dc md pc (.aload_n q) 1 pc') (hv : lv[j]? = some (q.val, rf en x)) (k : Z en ks cx md M pc' lv (rf en x :: st)) : Z en ks cx md M pc lv st := by
  obtain ⟨A, p, e, R, s, m, args, below, meth, c, cells, slots, Q⟩ := cx
  intro F H locs ls hP hS hl
  obtain ⟨hd, rfl⟩ := hd
  exact lv_aload_n F.1 F.2.1 hd rfl (lv_at hl j hv) (k F H locs ls hP hS hl)
theorem z_aload {q x : Nat} (j : Nat) (hd : Dc md pc (.aload q) 2 pc') (hv : lv[j]? = some (q, rf en x)) (k : Z en ks cx md M pc' lv (rf en x :: st)) : Z en ks cx md M pc lv st := by
  obtain ⟨A, p, e, R, s, m, args, below, meth, c, cells, slots, Q⟩ := cx
  intro F H locs ls hP hS hl
  obtain ⟨hd, rfl⟩ := hd
  exact lv_aload F.1 F.2.1 hd (lv_at hl j hv) (k F H locs ls hP hS hl)
theorem z_istore_n {q : Fin 4} {x : Int} (L : Int → List (Nat × Value)) (ps : List Nat) (hd : Dc md pc (.istore_n q) 1 pc') (hn : q.val < md.2.2.1) (hL : ∀ y, lv_pick ((q.val, vi y) :: lv.filter (fun z0 => !(z0.1 == q.val) && !(z0.1 + 1 == q.val && z0.2.category == 2))) ps = L y) (k : ∀ y, y = x → Z en ks cx md M pc' (L y) st) : Z en ks cx md M pc lv (vi x :: st) := by
  obtain ⟨A, p, e, R, s, m, args, below, meth, c, cells, slots, Q⟩ := cx
  intro F H locs ls hP hS hl
  obtain ⟨hd, rfl⟩ := hd
  exact lv_istore_n F.1 F.2.1 hd rfl hl hn rfl (fun ls' hl' => k x rfl F H locs ls' hP hS (lv_sub hl' ps (hL x)))
theorem z_istore {q : Nat} {x : Int} (L : Int → List (Nat × Value)) (ps : List Nat) (hd : Dc md pc (.istore q) 2 pc') (hn : q < md.2.2.1) (hL : ∀ y, lv_pick ((q, vi y) :: lv.filter (fun z0 => !(z0.1 == q) && !(z0.1 + 1 == q && z0.2.category == 2))) ps = L y) (k : ∀ y, y = x → Z en ks cx md M pc' (L y) st) : Z en ks cx md M pc lv (vi x :: st) := by
  obtain ⟨A, p, e, R, s, m, args, below, meth, c, cells, slots, Q⟩ := cx
  intro F H locs ls hP hS hl
  obtain ⟨hd, rfl⟩ := hd
  exact lv_istore F.1 F.2.1 hd hl hn rfl (fun ls' hl' => k x rfl F H locs ls' hP hS (lv_sub hl' ps (hL x)))
theorem z_lstore_n {q : Fin 4} {x : Int} (L : Int → List (Nat × Value)) (ps : List Nat) (hd : Dc md pc (.lstore_n q) 1 pc') (hn : q.val + 1 < md.2.2.1) (hL : ∀ y, lv_pick ((q.val, vl y) :: lv.filter (fun z0 => !(z0.1 == q.val) && (!(z0.1 == q.val + 1) && !(z0.1 + 1 == q.val && z0.2.category == 2)))) ps = L y) (k : ∀ y, y = x → Z en ks cx md M pc' (L y) st) : Z en ks cx md M pc lv (vl x :: st) := by
  obtain ⟨A, p, e, R, s, m, args, below, meth, c, cells, slots, Q⟩ := cx
  intro F H locs ls hP hS hl
  obtain ⟨hd, rfl⟩ := hd
  exact lv_lstore_n F.1 F.2.1 hd rfl hl hn rfl (fun ls' hl' => k x rfl F H locs ls' hP hS (lv_sub hl' ps (hL x)))
theorem z_lstore {q : Nat} {x : Int} (L : Int → List (Nat × Value)) (ps : List Nat) (hd : Dc md pc (.lstore q) 2 pc') (hn : q + 1 < md.2.2.1) (hL : ∀ y, lv_pick ((q, vl y) :: lv.filter (fun z0 => !(z0.1 == q) && (!(z0.1 == q + 1) && !(z0.1 + 1 == q && z0.2.category == 2)))) ps = L y) (k : ∀ y, y = x → Z en ks cx md M pc' (L y) st) : Z en ks cx md M pc lv (vl x :: st) := by
  obtain ⟨A, p, e, R, s, m, args, below, meth, c, cells, slots, Q⟩ := cx
  intro F H locs ls hP hS hl
  obtain ⟨hd, rfl⟩ := hd
  exact lv_lstore F.1 F.2.1 hd hl hn rfl (fun ls' hl' => k x rfl F H locs ls' hP hS (lv_sub hl' ps (hL x)))
theorem z_astore_n {q : Fin 4} {x : Nat} (L : List (Nat × Value)) (ps : List Nat) (hd : Dc md pc (.astore_n q) 1 pc') (hn : q.val < md.2.2.1) (hL : lv_pick ((q.val, rf en x) :: lv.filter (fun z0 => !(z0.1 == q.val) && !(z0.1 + 1 == q.val && z0.2.category == 2))) ps = L) (k : Z en ks cx md M pc' L st) : Z en ks cx md M pc lv (rf en x :: st) := by
  obtain ⟨A, p, e, R, s, m, args, below, meth, c, cells, slots, Q⟩ := cx
  intro F H locs ls hP hS hl
  obtain ⟨hd, rfl⟩ := hd
  exact lv_astore_n F.1 F.2.1 hd rfl hl hn rfl (fun ls' hl' => k F H locs ls' hP hS (lv_sub hl' ps hL))
theorem z_astore {q : Nat} {x : Nat} (L : List (Nat × Value)) (ps : List Nat) (hd : Dc md pc (.astore q) 2 pc') (hn : q < md.2.2.1) (hL : lv_pick ((q, rf en x) :: lv.filter (fun z0 => !(z0.1 == q) && !(z0.1 + 1 == q && z0.2.category == 2))) ps = L) (k : Z en ks cx md M pc' L st) : Z en ks cx md M pc lv (rf en x :: st) := by
  obtain ⟨A, p, e, R, s, m, args, below, meth, c, cells, slots, Q⟩ := cx
  intro F H locs ls hP hS hl
  obtain ⟨hd, rfl⟩ := hd
  exact lv_astore F.1 F.2.1 hd hl hn rfl (fun ls' hl' => k F H locs ls' hP hS (lv_sub hl' ps hL))
theorem z_astoreN {q : Fin 4} (L : List (Nat × Value)) (ps : List Nat) (hd : Dc md pc (.astore_n q) 1 pc') (hn : q.val < md.2.2.1) (hL : lv_pick ((q.val, .null) :: lv.filter (fun z0 => !(z0.1 == q.val) && !(z0.1 + 1 == q.val && z0.2.category == 2))) ps = L) (k : Z en ks cx md M pc' L st) : Z en ks cx md M pc lv (.null :: st) := by
  obtain ⟨A, p, e, R, s, m, args, below, meth, c, cells, slots, Q⟩ := cx
  intro F H locs ls hP hS hl
  obtain ⟨hd, rfl⟩ := hd
  exact lv_astore_nN F.1 F.2.1 hd rfl hl hn rfl (fun ls' hl' => k F H locs ls' hP hS (lv_sub hl' ps hL))
theorem z_aloadN {q : Fin 4} (j : Nat) (hd : Dc md pc (.aload_n q) 1 pc') (hv : lv[j]? = some (q.val, .null)) (k : Z en ks cx md M pc' lv (.null :: st)) : Z en ks cx md M pc lv st := by
  obtain ⟨A, p, e, R, s, m, args, below, meth, c, cells, slots, Q⟩ := cx
  intro F H locs ls hP hS hl
  obtain ⟨hd, rfl⟩ := hd
  exact lv_aload_nN F.1 F.2.1 hd rfl (lv_at hl j hv) (k F H locs ls hP hS hl)
theorem z_iinc {q : Nat} {n x : Int} (L : Int → List (Nat × Value)) (ps : List Nat) (j : Nat) (hd : Dc md pc (.iinc q n) 3 pc') (hv : lv[j]? = some (q, vi x)) (hn : q < md.2.2.1) (hL : ∀ y, lv_pick ((q, vi y) :: lv.filter (fun z0 => !(z0.1 == q) && !(z0.1 + 1 == q && z0.2.category == 2))) ps = L y) (k : ∀ y, y = x + n → Z en ks cx md M pc' (L y) st) : Z en ks cx md M pc lv st := by
  obtain ⟨A, p, e, R, s, m, args, below, meth, c, cells, slots, Q⟩ := cx
  intro F H locs ls hP hS hl
  obtain ⟨hd, rfl⟩ := hd
  exact lv_iinc F.1 F.2.1 hd hl hv (Int32.ofInt_add x n).symm hn rfl (fun ls' hl' => k _ rfl F H locs ls' hP hS (lv_sub hl' ps (hL _)))
theorem z_iadd {x y : Int} (hd : Dc md pc .iadd 1 pc') (k : Z en ks cx md M pc' lv (vi (x + y) :: st)) : Z en ks cx md M pc lv (vi y :: vi x :: st) := by
  obtain ⟨A, p, e, R, s, m, args, below, meth, c, cells, slots, Q⟩ := cx
  intro F H locs ls hP hS hl
  obtain ⟨hd, rfl⟩ := hd
  refine lv_iadd F.1 F.2.1 hd ?_
  have h := (k F H locs ls hP hS hl)
  rw [vi, Int32.ofInt_add] at h
  exact h
theorem z_isub {x y : Int} (hd : Dc md pc .isub 1 pc') (k : Z en ks cx md M pc' lv (vi (x - y) :: st)) : Z en ks cx md M pc lv (vi y :: vi x :: st) := by
  obtain ⟨A, p, e, R, s, m, args, below, meth, c, cells, slots, Q⟩ := cx
  intro F H locs ls hP hS hl
  obtain ⟨hd, rfl⟩ := hd
  refine lv_isub F.1 F.2.1 hd ?_
  have h := (k F H locs ls hP hS hl)
  rw [vi, Int32.ofInt_sub] at h
  exact h
theorem z_imul {x y : Int} (hd : Dc md pc .imul 1 pc') (k : Z en ks cx md M pc' lv (vi (x * y) :: st)) : Z en ks cx md M pc lv (vi y :: vi x :: st) := by
  obtain ⟨A, p, e, R, s, m, args, below, meth, c, cells, slots, Q⟩ := cx
  intro F H locs ls hP hS hl
  obtain ⟨hd, rfl⟩ := hd
  refine lv_imul F.1 F.2.1 hd ?_
  have h := (k F H locs ls hP hS hl)
  rw [vi, Int32.ofInt_mul] at h
  exact h
theorem z_ladd {x y : Int} (hd : Dc md pc .ladd 1 pc') (k : Z en ks cx md M pc' lv (vl (x + y) :: st)) : Z en ks cx md M pc lv (vl y :: vl x :: st) := by
  obtain ⟨A, p, e, R, s, m, args, below, meth, c, cells, slots, Q⟩ := cx
  intro F H locs ls hP hS hl
  obtain ⟨hd, rfl⟩ := hd
  refine lv_ladd F.1 F.2.1 hd ?_
  have h := (k F H locs ls hP hS hl)
  rw [vl, Int64.ofInt_add] at h
  exact h
theorem z_lsub {x y : Int} (hd : Dc md pc .lsub 1 pc') (k : Z en ks cx md M pc' lv (vl (x - y) :: st)) : Z en ks cx md M pc lv (vl y :: vl x :: st) := by
  obtain ⟨A, p, e, R, s, m, args, below, meth, c, cells, slots, Q⟩ := cx
  intro F H locs ls hP hS hl
  obtain ⟨hd, rfl⟩ := hd
  refine lv_lsub F.1 F.2.1 hd ?_
  have h := (k F H locs ls hP hS hl)
  rw [vl, Int64.ofInt_sub] at h
  exact h
theorem z_lmul {x y : Int} (hd : Dc md pc .lmul 1 pc') (k : Z en ks cx md M pc' lv (vl (x * y) :: st)) : Z en ks cx md M pc lv (vl y :: vl x :: st) := by
  obtain ⟨A, p, e, R, s, m, args, below, meth, c, cells, slots, Q⟩ := cx
  intro F H locs ls hP hS hl
  obtain ⟨hd, rfl⟩ := hd
  refine lv_lmul F.1 F.2.1 hd ?_
  have h := (k F H locs ls hP hS hl)
  rw [vl, Int64.ofInt_mul] at h
  exact h
theorem z_idiv {x y : Int} (hd : Dc md pc .idiv 1 pc') (hx : 0 ≤ x ∧ x < 2147483648 ∧ 0 < y ∧ y < 2147483648) (k : Z en ks cx md M pc' lv (vi (x / y) :: st)) : Z en ks cx md M pc lv (vi y :: vi x :: st) := by
  obtain ⟨A, p, e, R, s, m, args, below, meth, c, cells, slots, Q⟩ := cx
  intro F H locs ls hP hS hl
  obtain ⟨hd, rfl⟩ := hd
  refine lv_idiv F.1 F.2.1 hd (n_ne hx) ?_
  have h := (k F H locs ls hP hS hl)
  rw [vi, ← n_div hx] at h
  exact h
theorem z_irem {x y : Int} (hd : Dc md pc .irem 1 pc') (hx : 0 ≤ x ∧ x < 2147483648 ∧ 0 < y ∧ y < 2147483648) (k : Z en ks cx md M pc' lv (vi (x % y) :: st)) : Z en ks cx md M pc lv (vi y :: vi x :: st) := by
  obtain ⟨A, p, e, R, s, m, args, below, meth, c, cells, slots, Q⟩ := cx
  intro F H locs ls hP hS hl
  obtain ⟨hd, rfl⟩ := hd
  refine lv_irem F.1 F.2.1 hd (n_ne hx) ?_
  have h := (k F H locs ls hP hS hl)
  rw [vi, ← n_rem hx] at h
  exact h
theorem z_iand {x y : Int} (hd : Dc md pc .iand 1 pc') (hx : 0 ≤ x ∧ x < 2147483648 ∧ 0 ≤ y ∧ y < 2147483648) (k : Z en ks cx md M pc' lv (vi (((x.toNat &&& y.toNat : Nat) : Int)) :: st)) : Z en ks cx md M pc lv (vi y :: vi x :: st) := by
  obtain ⟨A, p, e, R, s, m, args, below, meth, c, cells, slots, Q⟩ := cx
  intro F H locs ls hP hS hl
  obtain ⟨hd, rfl⟩ := hd
  refine lv_iand F.1 F.2.1 hd ?_
  have h := (k F H locs ls hP hS hl)
  rw [vi, ← n_and hx] at h
  exact h
theorem z_ior {x y : Int} (hd : Dc md pc .ior 1 pc') (hx : 0 ≤ x ∧ x < 2147483648 ∧ 0 ≤ y ∧ y < 2147483648) (k : Z en ks cx md M pc' lv (vi (((x.toNat ||| y.toNat : Nat) : Int)) :: st)) : Z en ks cx md M pc lv (vi y :: vi x :: st) := by
  obtain ⟨A, p, e, R, s, m, args, below, meth, c, cells, slots, Q⟩ := cx
  intro F H locs ls hP hS hl
  obtain ⟨hd, rfl⟩ := hd
  refine lv_ior F.1 F.2.1 hd ?_
  have h := (k F H locs ls hP hS hl)
  rw [vi, ← n_or hx] at h
  exact h
theorem z_ishl {x y : Int} (hd : Dc md pc .ishl 1 pc') (hy : 0 ≤ y ∧ y < 32) (k : Z en ks cx md M pc' lv (vi (x * 2 ^ y.toNat) :: st)) : Z en ks cx md M pc lv (vi y :: vi x :: st) := by
  obtain ⟨A, p, e, R, s, m, args, below, meth, c, cells, slots, Q⟩ := cx
  intro F H locs ls hP hS hl
  obtain ⟨hd, rfl⟩ := hd
  refine lv_ishl F.1 F.2.1 hd ?_
  have h := (k F H locs ls hP hS hl)
  rw [vi, ← n_shl hy] at h
  exact h
theorem z_ishr {x y : Int} (hd : Dc md pc .ishr 1 pc') (hx : -2147483648 ≤ x ∧ x < 2147483648) (hy : 0 ≤ y ∧ y < 32) (k : Z en ks cx md M pc' lv (vi (x / 2 ^ y.toNat) :: st)) : Z en ks cx md M pc lv (vi y :: vi x :: st) := by
  obtain ⟨A, p, e, R, s, m, args, below, meth, c, cells, slots, Q⟩ := cx
  intro F H locs ls hP hS hl
  obtain ⟨hd, rfl⟩ := hd
  refine lv_ishr F.1 F.2.1 hd ?_
  have h := (k F H locs ls hP hS hl)
  rw [vi, ← n_shr hx hy] at h
  exact h
theorem z_iand1 {x : Int} (hd : Dc md pc .iand 1 pc') (k : Z en ks cx md M pc' lv (vi (x % 2) :: st)) : Z en ks cx md M pc lv (vi 1 :: vi x :: st) := by
  obtain ⟨A, p, e, R, s, m, args, below, meth, c, cells, slots, Q⟩ := cx
  intro F H locs ls hP hS hl
  obtain ⟨hd, rfl⟩ := hd
  refine lv_iand F.1 F.2.1 hd ?_
  have h := (k F H locs ls hP hS hl)
  rw [vi, ← n_and1 x] at h
  exact h
theorem z_iand31 {x : Int} (hd : Dc md pc .iand 1 pc') (k : Z en ks cx md M pc' lv (vi (x % 32) :: st)) : Z en ks cx md M pc lv (vi 31 :: vi x :: st) := by
  obtain ⟨A, p, e, R, s, m, args, below, meth, c, cells, slots, Q⟩ := cx
  intro F H locs ls hP hS hl
  obtain ⟨hd, rfl⟩ := hd
  refine lv_iand F.1 F.2.1 hd ?_
  have h := (k F H locs ls hP hS hl)
  rw [vi, ← n_and31 x] at h
  exact h
theorem z_iand63 {x : Int} (hd : Dc md pc .iand 1 pc') (k : Z en ks cx md M pc' lv (vi (x % 64) :: st)) : Z en ks cx md M pc lv (vi 63 :: vi x :: st) := by
  obtain ⟨A, p, e, R, s, m, args, below, meth, c, cells, slots, Q⟩ := cx
  intro F H locs ls hP hS hl
  obtain ⟨hd, rfl⟩ := hd
  refine lv_iand F.1 F.2.1 hd ?_
  have h := (k F H locs ls hP hS hl)
  rw [vi, ← n_and63 x] at h
  exact h
theorem z_ldiv {x y : Int} (hd : Dc md pc .ldiv 1 pc') (hx : 0 ≤ x ∧ x < 9223372036854775808 ∧ 0 < y ∧ y < 9223372036854775808) (k : Z en ks cx md M pc' lv (vl (x / y) :: st)) : Z en ks cx md M pc lv (vl y :: vl x :: st) := by
  obtain ⟨A, p, e, R, s, m, args, below, meth, c, cells, slots, Q⟩ := cx
  intro F H locs ls hP hS hl
  obtain ⟨hd, rfl⟩ := hd
  refine lv_ldiv F.1 F.2.1 hd (n_lne hx) ?_
  have h := (k F H locs ls hP hS hl)
  rw [vl, ← n_ldiv hx] at h
  exact h
theorem z_lrem {x y : Int} (hd : Dc md pc .lrem 1 pc') (hx : 0 ≤ x ∧ x < 9223372036854775808 ∧ 0 < y ∧ y < 9223372036854775808) (k : Z en ks cx md M pc' lv (vl (x % y) :: st)) : Z en ks cx md M pc lv (vl y :: vl x :: st) := by
  obtain ⟨A, p, e, R, s, m, args, below, meth, c, cells, slots, Q⟩ := cx
  intro F H locs ls hP hS hl
  obtain ⟨hd, rfl⟩ := hd
  refine lv_lrem F.1 F.2.1 hd (n_lne hx) ?_
  have h := (k F H locs ls hP hS hl)
  rw [vl, ← n_lrem hx] at h
  exact h
theorem z_lv (ps : List Nat) (L : List (Nat × Value)) (h : lv_pick lv ps = L) (k : Z en ks cx md M pc L st) : Z en ks cx md M pc lv st := by
  obtain ⟨A, p, e, R, s, m, args, below, meth, c, cells, slots, Q⟩ := cx
  intro F H locs ls hP hS hl
  exact k F H locs ls hP hS (lv_sub hl ps h)
theorem z_iushr {x y : Int} (hd : Dc md pc .iushr 1 pc') (hy : 0 ≤ y ∧ y < 32) (k : Z en ks cx md M pc' lv (vi ((x % 4294967296) / 2 ^ y.toNat) :: st)) : Z en ks cx md M pc lv (vi y :: vi x :: st) := by
  obtain ⟨A, p, e, R, s, m, args, below, meth, c, cells, slots, Q⟩ := cx
  intro F H locs ls hP hS hl
  obtain ⟨hd, rfl⟩ := hd
  exact lv_iushr F.1 F.2.1 hd (n_ushr hy) (k F H locs ls hP hS hl)
theorem z_iushr16 {x : Int} (hd : Dc md pc .iushr 1 pc') (k : Z en ks cx md M pc' lv (vi ((x % 4294967296) / 65536) :: st)) : Z en ks cx md M pc lv (vi 16 :: vi x :: st) := by
  obtain ⟨A, p, e, R, s, m, args, below, meth, c, cells, slots, Q⟩ := cx
  intro F H locs ls hP hS hl
  obtain ⟨hd, rfl⟩ := hd
  exact lv_iushr F.1 F.2.1 hd (n_ushr (y := 16) (by decide)) (k F H locs ls hP hS hl)
theorem z_i2l {x : Int} (hd : Dc md pc .i2l 1 pc') (hx : -2147483648 ≤ x ∧ x < 2147483648) (k : Z en ks cx md M pc' lv (vl x :: st)) : Z en ks cx md M pc lv (vi x :: st) := by
  obtain ⟨A, p, e, R, s, m, args, below, meth, c, cells, slots, Q⟩ := cx
  intro F H locs ls hP hS hl
  obtain ⟨hd, rfl⟩ := hd
  exact lv_i2l F.1 F.2.1 hd (n_i2l hx) (k F H locs ls hP hS hl)
theorem z_i2b {x : Int} (hd : Dc md pc .i2b 1 pc') (k : Z en ks cx md M pc' lv (vi ((x + 128) % 256 - 128) :: st)) : Z en ks cx md M pc lv (vi x :: st) := by
  obtain ⟨A, p, e, R, s, m, args, below, meth, c, cells, slots, Q⟩ := cx
  intro F H locs ls hP hS hl
  obtain ⟨hd, rfl⟩ := hd
  exact lv_i2b F.1 F.2.1 hd (n_i2b x) (k F H locs ls hP hS hl)
theorem z_i2s {x : Int} (hd : Dc md pc .i2s 1 pc') (k : Z en ks cx md M pc' lv (vi ((x + 32768) % 65536 - 32768) :: st)) : Z en ks cx md M pc lv (vi x :: st) := by
  obtain ⟨A, p, e, R, s, m, args, below, meth, c, cells, slots, Q⟩ := cx
  intro F H locs ls hP hS hl
  obtain ⟨hd, rfl⟩ := hd
  exact lv_i2s F.1 F.2.1 hd (n_i2s x) (k F H locs ls hP hS hl)
theorem z_lcmp {x y : Int} (hd : Dc md pc .lcmp 1 pc') (hx : -9223372036854775808 ≤ x ∧ x < 9223372036854775808 ∧ -9223372036854775808 ≤ y ∧ y < 9223372036854775808) (k : ∀ z : Int, ((z < 0 ↔ x < y) ∧ (z = 0 ↔ x = y) ∧ -1 ≤ z ∧ z ≤ 1) → Z en ks cx md M pc' lv (vi z :: st)) : Z en ks cx md M pc lv (vl y :: vl x :: st) := by
  obtain ⟨A, p, e, R, s, m, args, below, meth, c, cells, slots, Q⟩ := cx
  intro F H locs ls hP hS hl
  obtain ⟨hd, rfl⟩ := hd
  refine W.lcmp F.1 F.2.1 hd ?_
  have h := k (lc x y) (by unfold lc; split <;> (try split) <;> omega) F H locs ls hP hS hl
  rw [vi, ← n_lcmp hx] at h
  exact h
theorem z_dup_i {x : Int} (hd : Dc md pc .dup 1 pc') (k : Z en ks cx md M pc' lv (vi x :: vi x :: st)) : Z en ks cx md M pc lv (vi x :: st) := by
  obtain ⟨A, p, e, R, s, m, args, below, meth, c, cells, slots, Q⟩ := cx
  intro F H locs ls hP hS hl
  obtain ⟨hd, rfl⟩ := hd
  exact lv_dup F.1 F.2.1 hd rfl (k F H locs ls hP hS hl)
theorem z_dup_a {x : Nat} (hd : Dc md pc .dup 1 pc') (k : Z en ks cx md M pc' lv (rf en x :: rf en x :: st)) : Z en ks cx md M pc lv (rf en x :: st) := by
  obtain ⟨A, p, e, R, s, m, args, below, meth, c, cells, slots, Q⟩ := cx
  intro F H locs ls hP hS hl
  obtain ⟨hd, rfl⟩ := hd
  exact lv_dup F.1 F.2.1 hd rfl (k F H locs ls hP hS hl)
theorem z_dup2_ia {x : Int} {y : Nat} (hd : Dc md pc .dup2 1 pc') (k : Z en ks cx md M pc' lv (vi x :: rf en y :: vi x :: rf en y :: st)) : Z en ks cx md M pc lv (vi x :: rf en y :: st) := by
  obtain ⟨A, p, e, R, s, m, args, below, meth, c, cells, slots, Q⟩ := cx
  intro F H locs ls hP hS hl
  obtain ⟨hd, rfl⟩ := hd
  exact lv_dup2_11 F.1 F.2.1 hd rfl rfl (k F H locs ls hP hS hl)
theorem z_pop {x : Int} (hd : Dc md pc .pop 1 pc') (k : Z en ks cx md M pc' lv (st)) : Z en ks cx md M pc lv (vi x :: st) := by
  obtain ⟨A, p, e, R, s, m, args, below, meth, c, cells, slots, Q⟩ := cx
  intro F H locs ls hP hS hl
  obtain ⟨hd, rfl⟩ := hd
  exact lv_pop F.1 F.2.1 hd rfl (k F H locs ls hP hS hl)
theorem z_null (hd : Dc md pc .aconst_null 1 pc') (k : Z en ks cx md M pc' lv (.null :: st)) : Z en ks cx md M pc lv (st) := by
  obtain ⟨A, p, e, R, s, m, args, below, meth, c, cells, slots, Q⟩ := cx
  intro F H locs ls hP hS hl
  obtain ⟨hd, rfl⟩ := hd
  exact lv_null F.1 F.2.1 hd (k F H locs ls hP hS hl)
theorem z_icmp_eq {x y off : Int} (hd : Dc md pc (.if_icmp .eq off) 3 pc') (ht : (pc : Int) + off = (tgt : Int)) (h : -2147483648 ≤ x ∧ x < 2147483648 ∧ -2147483648 ≤ y ∧ y < 2147483648) (kt : x = y → Z en ks cx md M tgt lv st) (kf : x ≠ y → Z en ks cx md M pc' lv st) : Z en ks cx md M pc lv (vi y :: vi x :: st) := by
  obtain ⟨A, p, e, R, s, m, args, below, meth, c, cells, slots, Q⟩ := cx
  intro F H locs ls hP hS hl
  obtain ⟨hd, rfl⟩ := hd
  exact lv_icmp_eq F.1 F.2.1 hd ht (fun q => kt ((oeq h).mp q) F H locs ls hP hS hl) (fun q => kf (fun z => q ((oeq h).mpr z)) F H locs ls hP hS hl)
theorem z_if_eq {x off : Int} (hd : Dc md pc (.ifCond .eq off) 3 pc') (ht : (pc : Int) + off = (tgt : Int)) (h : -2147483648 ≤ x ∧ x < 2147483648) (kt : x = 0 → Z en ks cx md M tgt lv st) (kf : x ≠ 0 → Z en ks cx md M pc' lv st) : Z en ks cx md M pc lv (vi x :: st) := by
  have h : -2147483648 ≤ x ∧ x < 2147483648 ∧ -2147483648 ≤ (0 : Int) ∧ (0 : Int) < 2147483648 := ⟨h.1, h.2, by decide, by decide⟩
  obtain ⟨A, p, e, R, s, m, args, below, meth, c, cells, slots, Q⟩ := cx
  intro F H locs ls hP hS hl
  obtain ⟨hd, rfl⟩ := hd
  exact lv_if_eq F.1 F.2.1 hd ht (fun q => kt ((oeq h).mp q) F H locs ls hP hS hl) (fun q => kf (fun z => q ((oeq h).mpr z)) F H locs ls hP hS hl)
theorem z_icmp_ne {x y off : Int} (hd : Dc md pc (.if_icmp .ne off) 3 pc') (ht : (pc : Int) + off = (tgt : Int)) (h : -2147483648 ≤ x ∧ x < 2147483648 ∧ -2147483648 ≤ y ∧ y < 2147483648) (kt : x ≠ y → Z en ks cx md M tgt lv st) (kf : x = y → Z en ks cx md M pc' lv st) : Z en ks cx md M pc lv (vi y :: vi x :: st) := by
  obtain ⟨A, p, e, R, s, m, args, below, meth, c, cells, slots, Q⟩ := cx
  intro F H locs ls hP hS hl
  obtain ⟨hd, rfl⟩ := hd
  exact lv_icmp_ne F.1 F.2.1 hd ht (fun q => kt (fun z => q ((oeq h).mpr z)) F H locs ls hP hS hl) (fun q => kf ((oeq h).mp q) F H locs ls hP hS hl)
theorem z_if_ne {x off : Int} (hd : Dc md pc (.ifCond .ne off) 3 pc') (ht : (pc : Int) + off = (tgt : Int)) (h : -2147483648 ≤ x ∧ x < 2147483648) (kt : x ≠ 0 → Z en ks cx md M tgt lv st) (kf : x = 0 → Z en ks cx md M pc' lv st) : Z en ks cx md M pc lv (vi x :: st) := by
  have h : -2147483648 ≤ x ∧ x < 2147483648 ∧ -2147483648 ≤ (0 : Int) ∧ (0 : Int) < 2147483648 := ⟨h.1, h.2, by decide, by decide⟩
  obtain ⟨A, p, e, R, s, m, args, below, meth, c, cells, slots, Q⟩ := cx
  intro F H locs ls hP hS hl
  obtain ⟨hd, rfl⟩ := hd
  exact lv_if_ne F.1 F.2.1 hd ht (fun q => kt (fun z => q ((oeq h).mpr z)) F H locs ls hP hS hl) (fun q => kf ((oeq h).mp q) F H locs ls hP hS hl)
theorem z_icmp_lt {x y off : Int} (hd : Dc md pc (.if_icmp .lt off) 3 pc') (ht : (pc : Int) + off = (tgt : Int)) (h : -2147483648 ≤ x ∧ x < 2147483648 ∧ -2147483648 ≤ y ∧ y < 2147483648) (kt : x < y → Z en ks cx md M tgt lv st) (kf : y ≤ x → Z en ks cx md M pc' lv st) : Z en ks cx md M pc lv (vi y :: vi x :: st) := by
  obtain ⟨A, p, e, R, s, m, args, below, meth, c, cells, slots, Q⟩ := cx
  intro F H locs ls hP hS hl
  obtain ⟨hd, rfl⟩ := hd
  exact lv_icmp_lt F.1 F.2.1 hd ht (fun q => kt ((olt h).mp q) F H locs ls hP hS hl) (fun q => kf (Int.not_lt.mp (fun z => q ((olt h).mpr z))) F H locs ls hP hS hl)
theorem z_if_lt {x off : Int} (hd : Dc md pc (.ifCond .lt off) 3 pc') (ht : (pc : Int) + off = (tgt : Int)) (h : -2147483648 ≤ x ∧ x < 2147483648) (kt : x < 0 → Z en ks cx md M tgt lv st) (kf : 0 ≤ x → Z en ks cx md M pc' lv st) : Z en ks cx md M pc lv (vi x :: st) := by
  have h : -2147483648 ≤ x ∧ x < 2147483648 ∧ -2147483648 ≤ (0 : Int) ∧ (0 : Int) < 2147483648 := ⟨h.1, h.2, by decide, by decide⟩
  obtain ⟨A, p, e, R, s, m, args, below, meth, c, cells, slots, Q⟩ := cx
  intro F H locs ls hP hS hl
  obtain ⟨hd, rfl⟩ := hd
  exact lv_if_lt F.1 F.2.1 hd ht (fun q => kt ((olt h).mp q) F H locs ls hP hS hl) (fun q => kf (Int.not_lt.mp (fun z => q ((olt h).mpr z))) F H locs ls hP hS hl)
theorem z_icmp_ge {x y off : Int} (hd : Dc md pc (.if_icmp .ge off) 3 pc') (ht : (pc : Int) + off = (tgt : Int)) (h : -2147483648 ≤ x ∧ x < 2147483648 ∧ -2147483648 ≤ y ∧ y < 2147483648) (kt : y ≤ x → Z en ks cx md M tgt lv st) (kf : x < y → Z en ks cx md M pc' lv st) : Z en ks cx md M pc lv (vi y :: vi x :: st) := by
  obtain ⟨A, p, e, R, s, m, args, below, meth, c, cells, slots, Q⟩ := cx
  intro F H locs ls hP hS hl
  obtain ⟨hd, rfl⟩ := hd
  exact lv_icmp_ge F.1 F.2.1 hd ht (fun q => kt ((ole ⟨h.2.2.1, h.2.2.2, h.1, h.2.1⟩).mp q) F H locs ls hP hS hl) (fun q => kf (Int.not_le.mp (fun z => q ((ole ⟨h.2.2.1, h.2.2.2, h.1, h.2.1⟩).mpr z))) F H locs ls hP hS hl)
theorem z_if_ge {x off : Int} (hd : Dc md pc (.ifCond .ge off) 3 pc') (ht : (pc : Int) + off = (tgt : Int)) (h : -2147483648 ≤ x ∧ x < 2147483648) (kt : 0 ≤ x → Z en ks cx md M tgt lv st) (kf : x < 0 → Z en ks cx md M pc' lv st) : Z en ks cx md M pc lv (vi x :: st) := by
  have h : -2147483648 ≤ x ∧ x < 2147483648 ∧ -2147483648 ≤ (0 : Int) ∧ (0 : Int) < 2147483648 := ⟨h.1, h.2, by decide, by decide⟩
  obtain ⟨A, p, e, R, s, m, args, below, meth, c, cells, slots, Q⟩ := cx
  intro F H locs ls hP hS hl
  obtain ⟨hd, rfl⟩ := hd
  exact lv_if_ge F.1 F.2.1 hd ht (fun q => kt ((ole ⟨h.2.2.1, h.2.2.2, h.1, h.2.1⟩).mp q) F H locs ls hP hS hl) (fun q => kf (Int.not_le.mp (fun z => q ((ole ⟨h.2.2.1, h.2.2.2, h.1, h.2.1⟩).mpr z))) F H locs ls hP hS hl)
theorem z_icmp_gt {x y off : Int} (hd : Dc md pc (.if_icmp .gt off) 3 pc') (ht : (pc : Int) + off = (tgt : Int)) (h : -2147483648 ≤ x ∧ x < 2147483648 ∧ -2147483648 ≤ y ∧ y < 2147483648) (kt : y < x → Z en ks cx md M tgt lv st) (kf : x ≤ y → Z en ks cx md M pc' lv st) : Z en ks cx md M pc lv (vi y :: vi x :: st) := by
  obtain ⟨A, p, e, R, s, m, args, below, meth, c, cells, slots, Q⟩ := cx
  intro F H locs ls hP hS hl
  obtain ⟨hd, rfl⟩ := hd
  exact lv_icmp_gt F.1 F.2.1 hd ht (fun q => kt ((olt ⟨h.2.2.1, h.2.2.2, h.1, h.2.1⟩).mp q) F H locs ls hP hS hl) (fun q => kf (Int.not_lt.mp (fun z => q ((olt ⟨h.2.2.1, h.2.2.2, h.1, h.2.1⟩).mpr z))) F H locs ls hP hS hl)
theorem z_if_gt {x off : Int} (hd : Dc md pc (.ifCond .gt off) 3 pc') (ht : (pc : Int) + off = (tgt : Int)) (h : -2147483648 ≤ x ∧ x < 2147483648) (kt : 0 < x → Z en ks cx md M tgt lv st) (kf : x ≤ 0 → Z en ks cx md M pc' lv st) : Z en ks cx md M pc lv (vi x :: st) := by
  have h : -2147483648 ≤ x ∧ x < 2147483648 ∧ -2147483648 ≤ (0 : Int) ∧ (0 : Int) < 2147483648 := ⟨h.1, h.2, by decide, by decide⟩
  obtain ⟨A, p, e, R, s, m, args, below, meth, c, cells, slots, Q⟩ := cx
  intro F H locs ls hP hS hl
  obtain ⟨hd, rfl⟩ := hd
  exact lv_if_gt F.1 F.2.1 hd ht (fun q => kt ((olt ⟨h.2.2.1, h.2.2.2, h.1, h.2.1⟩).mp q) F H locs ls hP hS hl) (fun q => kf (Int.not_lt.mp (fun z => q ((olt ⟨h.2.2.1, h.2.2.2, h.1, h.2.1⟩).mpr z))) F H locs ls hP hS hl)
theorem z_icmp_le {x y off : Int} (hd : Dc md pc (.if_icmp .le off) 3 pc') (ht : (pc : Int) + off = (tgt : Int)) (h : -2147483648 ≤ x ∧ x < 2147483648 ∧ -2147483648 ≤ y ∧ y < 2147483648) (kt : x ≤ y → Z en ks cx md M tgt lv st) (kf : y < x → Z en ks cx md M pc' lv st) : Z en ks cx md M pc lv (vi y :: vi x :: st) := by
  obtain ⟨A, p, e, R, s, m, args, below, meth, c, cells, slots, Q⟩ := cx
  intro F H locs ls hP hS hl
  obtain ⟨hd, rfl⟩ := hd
  exact lv_icmp_le F.1 F.2.1 hd ht (fun q => kt ((ole h).mp q) F H locs ls hP hS hl) (fun q => kf (Int.not_le.mp (fun z => q ((ole h).mpr z))) F H locs ls hP hS hl)
theorem z_if_le {x off : Int} (hd : Dc md pc (.ifCond .le off) 3 pc') (ht : (pc : Int) + off = (tgt : Int)) (h : -2147483648 ≤ x ∧ x < 2147483648) (kt : x ≤ 0 → Z en ks cx md M tgt lv st) (kf : 0 < x → Z en ks cx md M pc' lv st) : Z en ks cx md M pc lv (vi x :: st) := by
  have h : -2147483648 ≤ x ∧ x < 2147483648 ∧ -2147483648 ≤ (0 : Int) ∧ (0 : Int) < 2147483648 := ⟨h.1, h.2, by decide, by decide⟩
  obtain ⟨A, p, e, R, s, m, args, below, meth, c, cells, slots, Q⟩ := cx
  intro F H locs ls hP hS hl
  obtain ⟨hd, rfl⟩ := hd
  exact lv_if_le F.1 F.2.1 hd ht (fun q => kt ((ole h).mp q) F H locs ls hP hS hl) (fun q => kf (Int.not_le.mp (fun z => q ((ole h).mpr z))) F H locs ls hP hS hl)
theorem z_ifeq_b {off : Int} {b : Prop} [Decidable b] (hd : Dc md pc (.ifCond .eq off) 3 pc') (ht : (pc : Int) + off = (tgt : Int)) (kt : ¬ b → Z en ks cx md M tgt lv st) (kf : b → Z en ks cx md M pc' lv st) : Z en ks cx md M pc lv (vi (bi b) :: st) :=
  z_if_eq hd ht (by unfold bi; split <;> omega) (fun h => kt (fun z => by simp [bi, z] at h)) (fun h => kf (Decidable.byContradiction fun z => by simp [bi, z] at h))
theorem z_ifne_b {off : Int} {b : Prop} [Decidable b] (hd : Dc md pc (.ifCond .ne off) 3 pc') (ht : (pc : Int) + off = (tgt : Int)) (kt : b → Z en ks cx md M tgt lv st) (kf : ¬ b → Z en ks cx md M pc' lv st) : Z en ks cx md M pc lv (vi (bi b) :: st) :=
  z_if_ne hd ht (by unfold bi; split <;> omega) (fun h => kt (Decidable.byContradiction fun z => by simp [bi, z] at h)) (fun h => kf (fun z => by simp [bi, z] at h))
theorem z_goto {off : Int} (hd : Dc md pc (.goto off) 3 pc') (ht : (pc : Int) + off = (tgt : Int)) (k : Z en ks cx md M tgt lv st) : Z en ks cx md M pc lv st := by
  obtain ⟨A, p, e, R, s, m, args, below, meth, c, cells, slots, Q⟩ := cx
  intro F H locs ls hP hS hl
  obtain ⟨hd, rfl⟩ := hd
  exact lv_goto F.1 F.2.1 hd ht (k F H locs ls hP hS hl)
theorem z_ifnonnull {off : Int} {x : Nat} (hd : Dc md pc (.ifnonnull off) 3 pc') (ht : (pc : Int) + off = (tgt : Int)) (k : Z en ks cx md M tgt lv st) : Z en ks cx md M pc lv (rf en x :: st) := by
  obtain ⟨A, p, e, R, s, m, args, below, meth, c, cells, slots, Q⟩ := cx
  intro F H locs ls hP hS hl
  obtain ⟨hd, rfl⟩ := hd
  exact lv_ifnonnull F.1 F.2.1 hd ht (k F H locs ls hP hS hl)
theorem z_ifnonnullN {off : Int} (hd : Dc md pc (.ifnonnull off) 3 pc') (k : Z en ks cx md M pc' lv st) : Z en ks cx md M pc lv (.null :: st) := by
  obtain ⟨A, p, e, R, s, m, args, below, meth, c, cells, slots, Q⟩ := cx
  intro F H locs ls hP hS hl
  obtain ⟨hd, rfl⟩ := hd
  exact lv_ifnonnullN F.1 F.2.1 hd (k F H locs ls hP hS hl)
theorem z_ifnull {off : Int} {x : Nat} (hd : Dc md pc (.ifnull off) 3 pc') (k : Z en ks cx md M pc' lv st) : Z en ks cx md M pc lv (rf en x :: st) := by
  obtain ⟨A, p, e, R, s, m, args, below, meth, c, cells, slots, Q⟩ := cx
  intro F H locs ls hP hS hl
  obtain ⟨hd, rfl⟩ := hd
  exact lv_ifnull F.1 F.2.1 hd (k F H locs ls hP hS hl)
theorem z_ifnullN {off : Int} (hd : Dc md pc (.ifnull off) 3 pc') (ht : (pc : Int) + off = (tgt : Int)) (k : Z en ks cx md M tgt lv st) : Z en ks cx md M pc lv (.null :: st) := by
  obtain ⟨A, p, e, R, s, m, args, below, meth, c, cells, slots, Q⟩ := cx
  intro F H locs ls hP hS hl
  obtain ⟨hd, rfl⟩ := hd
  exact lv_ifnullN F.1 F.2.1 hd ht (k F H locs ls hP hS hl)
theorem z_iald {a n : Nat} {i : Int} {r : Int → Int} (hd : Dc md pc .iaload 1 pc') (ha : IsI a n) (hk : a ∈ ks) (hr : M a = r) (hi : 0 ≤ i ∧ i < n) (k : Z en ks cx md M pc' lv (vi (r i) :: st)) : Z en ks cx md M pc lv (vi i :: rf en a :: st) := by
  obtain ⟨A, p, e, R, s, m, args, below, meth, c, cells, slots, Q⟩ := cx
  intro F H locs ls hP hS hl
  obtain ⟨hd, rfl⟩ := hd
  obtain ⟨j, -, hj⟩ := zws_at (en := en) (M := M) hk
  rw [ha.2, hr] at hj
  have hb := oin hi.1 hi.2 ha.1
  refine va_iald F.1 F.2.1 F.2.2.2.2.2.1 hP j 0 hj rfl hb hd ?_
  have h := (k F H locs ls hP hS hl)
  have hn := ha.1
  rw [ocl hi.1 (by omega)]
  show W p en.1 e R s m args below meth c H locs cells slots Q (F0 m (pc + 1) ls (.int (Int32.ofInt (r ((i.toNat : Nat) : Int))) :: st))
  rw [Int.toNat_of_nonneg hi.1]
  exact h
theorem z_iast {a n : Nat} {i x : Int} {r : Int → Int} (hd : Dc md pc .iastore 1 pc') (ha : IsI a n) (hk : a ∈ ks) (hr : M a = r) (hi : 0 ≤ i ∧ i < n) (k : ∀ r', r' = up r i x → Z en ks cx md (upR M a r') pc' lv st) : Z en ks cx md M pc lv (vi x :: vi i :: rf en a :: st) := by
  obtain ⟨A, p, e, R, s, m, args, below, meth, c, cells, slots, Q⟩ := cx
  intro F H locs ls hP hS hl
  obtain ⟨hd, rfl⟩ := hd
  obtain ⟨j, hj0, hj⟩ := zws_at (en := en) (M := M) hk
  rw [ha.2, hr] at hj
  have hb := oin hi.1 hi.2 ha.1
  refine va_iast F.1 F.2.1 F.2.2.2.2.2.1 hP (zws_D F.2.2.2.2.2.2.1 F.2.2.2.2.2.2.2.1) hS j 0 hj rfl hb hd (fun H1 locs1 hP1 hD1 hS1 => ?_)
  have hn := ha.1
  rw [ocl hi.1 (by omega), ← rI_up hi.1] at hP1
  have e1 : ((zws en ks M).set j (ad en a, aI en n (up r i x))) = zws en ks (upR M a (up r i x)) := by rw [← ha.2]; exact zws_set F.2.2.2.2.2.2.1.1 hj0
  exact k _ rfl F H1 locs1 ls (by rw [← e1]; exact hP1) hS1 hl
theorem z_zald {a n : Nat} {i : Int} {r : Int → Int} (hd : Dc md pc .baload 1 pc') (ha : IsZ a n) (hk : a ∈ ks) (hr : M a = r) (hi : 0 ≤ i ∧ i < n) (k : Z en ks cx md M pc' lv (vi (r i) :: st)) : Z en ks cx md M pc lv (vi i :: rf en a :: st) := by
  obtain ⟨A, p, e, R, s, m, args, below, meth, c, cells, slots, Q⟩ := cx
  intro F H locs ls hP hS hl
  obtain ⟨hd, rfl⟩ := hd
  obtain ⟨j, -, hj⟩ := zws_at (en := en) (M := M) hk
  rw [ha.2, hr] at hj
  have hb := oin hi.1 hi.2 ha.1
  refine va_zald F.1 F.2.1 F.2.2.2.2.2.1 hP j 2 hj rfl hb hd ?_
  have h := (k F H locs ls hP hS hl)
  have hn := ha.1
  rw [ocl hi.1 (by omega)]
  show W p en.1 e R s m args below meth c H locs cells slots Q (F0 m (pc + 1) ls (.int (Int32.ofInt (r ((i.toNat : Nat) : Int))) :: st))
  rw [Int.toNat_of_nonneg hi.1]
  exact h
theorem z_zast {a n : Nat} {i x : Int} {r : Int → Int} (hd : Dc md pc .bastore 1 pc') (ha : IsZ a n) (hk : a ∈ ks) (hr : M a = r) (hi : 0 ≤ i ∧ i < n) (hx : x = 0 ∨ x = 1) (k : ∀ r', r' = up r i x → Z en ks cx md (upR M a r') pc' lv st) : Z en ks cx md M pc lv (vi x :: vi i :: rf en a :: st) := by
  obtain ⟨A, p, e, R, s, m, args, below, meth, c, cells, slots, Q⟩ := cx
  intro F H locs ls hP hS hl
  obtain ⟨hd, rfl⟩ := hd
  obtain ⟨j, hj0, hj⟩ := zws_at (en := en) (M := M) hk
  rw [ha.2, hr] at hj
  have hb := oin hi.1 hi.2 ha.1
  refine va_zast F.1 F.2.1 F.2.2.2.2.2.1 hP (zws_D F.2.2.2.2.2.2.1 F.2.2.2.2.2.2.2.1) hS j 2 hj rfl hb hd (fun H1 locs1 hP1 hD1 hS1 => ?_)
  have hn := ha.1
  have hx' : vp_nar .boolean (Int32.ofInt x) = Int32.ofInt x := by rcases hx with rfl | rfl <;> decide +kernel
  rw [hx', ocl hi.1 (by omega), ← rI_up hi.1] at hP1
  have e1 : ((zws en ks M).set j (ad en a, aZ en n (up r i x))) = zws en ks (upR M a (up r i x)) := by rw [← ha.2]; exact zws_set F.2.2.2.2.2.2.1.1 hj0
  exact k _ rfl F H1 locs1 ls (by rw [← e1]; exact hP1) hS1 hl
theorem z_lald {a n : Nat} {i : Int} {r : Int → Int} (hd : Dc md pc .laload 1 pc') (ha : IsJ a n) (hk : a ∈ ks) (hr : M a = r) (hi : 0 ≤ i ∧ i < n) (k : Z en ks cx md M pc' lv (vl (r i) :: st)) : Z en ks cx md M pc lv (vi i :: rf en a :: st) := by
  obtain ⟨A, p, e, R, s, m, args, below, meth, c, cells, slots, Q⟩ := cx
  intro F H locs ls hP hS hl
  obtain ⟨hd, rfl⟩ := hd
  obtain ⟨j, -, hj⟩ := zws_at (en := en) (M := M) hk
  rw [ha.2, hr] at hj
  have hb := oin hi.1 hi.2 ha.1
  refine va_lald F.1 F.2.1 F.2.2.2.2.2.1 hP j 1 hj rfl hb hd ?_
  have h := (k F H locs ls hP hS hl)
  have hn := ha.1
  rw [ocl hi.1 (by omega)]
  show W p en.1 e R s m args below meth c H locs cells slots Q (F0 m (pc + 1) ls (.long (Int64.ofInt (r ((i.toNat : Nat) : Int))) :: st))
  rw [Int.toNat_of_nonneg hi.1]
  exact h
theorem z_last {a n : Nat} {i x : Int} {r : Int → Int} (hd : Dc md pc .lastore 1 pc') (ha : IsJ a n) (hk : a ∈ ks) (hr : M a = r) (hi : 0 ≤ i ∧ i < n) (k : ∀ r', r' = up r i x → Z en ks cx md (upR M a r') pc' lv st) : Z en ks cx md M pc lv (vl x :: vi i :: rf en a :: st) := by
  obtain ⟨A, p, e, R, s, m, args, below, meth, c, cells, slots, Q⟩ := cx
  intro F H locs ls hP hS hl
  obtain ⟨hd, rfl⟩ := hd
  obtain ⟨j, hj0, hj⟩ := zws_at (en := en) (M := M) hk
  rw [ha.2, hr] at hj
  have hb := oin hi.1 hi.2 ha.1
  refine va_last F.1 F.2.1 F.2.2.2.2.2.1 hP (zws_D F.2.2.2.2.2.2.1 F.2.2.2.2.2.2.2.1) hS j 1 hj rfl hb hd (fun H1 locs1 hP1 hD1 hS1 => ?_)
  have hn := ha.1
  rw [ocl hi.1 (by omega), ← rJ_up hi.1] at hP1
  have e1 : ((zws en ks M).set j (ad en a, aJ en n (up r i x))) = zws en ks (upR M a (up r i x)) := by rw [← ha.2]; exact zws_set F.2.2.2.2.2.2.1.1 hj0
  exact k _ rfl F H1 locs1 ls (by rw [← e1]; exact hP1) hS1 hl
theorem z_aald {i : Int} (q : Nat) (hd : Dc md pc .aaload 1 pc') (hk : 9 ∈ ks) (hq : i = (q : Int)) (hi : q < 4) (k : Z en ks cx md M pc' lv (rf en (10 + q) :: st)) : Z en ks cx md M pc lv (vi i :: rf en 9 :: st) := by
  obtain ⟨A, p, e, R, s, m, args, below, meth, c, cells, slots, Q⟩ := cx
  intro F H locs ls hP hS hl
  obtain ⟨hd, rfl⟩ := hd
  obtain ⟨j, -, hj⟩ := zws_at (en := en) (M := M) hk
  subst hq
  have hb : vp_in (Int32.ofInt (q : Int)) 4 := oin (by omega) (by omega) (by decide)
  refine va_aldq (C := RX4) F.1 F.2.1 F.2.2.2.2.2.1 hP j 3 hj rfl hb hd ?_
  rw [ocl (by omega) (by omega)]
  exact (k F H locs ls hP hS hl)
theorem z_alenI {a n : Nat} (hd : Dc md pc .arraylength 1 pc') (ha : IsI a n) (hk : a ∈ ks) (k : Z en ks cx md M pc' lv (vi n :: st)) : Z en ks cx md M pc lv (rf en a :: st) := by
  obtain ⟨A, p, e, R, s, m, args, below, meth, c, cells, slots, Q⟩ := cx
  intro F H locs ls hP hS hl
  obtain ⟨hd, rfl⟩ := hd
  obtain ⟨j, -, hj⟩ := zws_at (en := en) (M := M) hk
  rw [ha.2] at hj
  exact va_alen F.1 F.2.1 F.2.2.2.2.2.1 hP j 0 hj rfl (Int32.ofInt_eq_ofNat (n := n)).symm hd (k F H locs ls hP hS hl)
theorem z_alenJ {a n : Nat} (hd : Dc md pc .arraylength 1 pc') (ha : IsJ a n) (hk : a ∈ ks) (k : Z en ks cx md M pc' lv (vi n :: st)) : Z en ks cx md M pc lv (rf en a :: st) := by
  obtain ⟨A, p, e, R, s, m, args, below, meth, c, cells, slots, Q⟩ := cx
  intro F H locs ls hP hS hl
  obtain ⟨hd, rfl⟩ := hd
  obtain ⟨j, -, hj⟩ := zws_at (en := en) (M := M) hk
  rw [ha.2] at hj
  exact va_alen F.1 F.2.1 F.2.2.2.2.2.1 hP j 1 hj rfl (Int32.ofInt_eq_ofNat (n := n)).symm hd (k F H locs ls hP hS hl)
theorem z_getI {a ci j idx : Nat} {r : Int → Int} (ji : Int) (hji : ji = (j : Int)) (hd : Dc md pc (.getfield idx) 3 pc') (hf : FLk md.1 idx ci j) (ha : IsFI a ci j) (hk : a ∈ ks) (hr : M a = r) (k : Z en ks cx md M pc' lv (vi (r ji) :: st)) : Z en ks cx md M pc lv (rf en a :: st) := by
  obtain ⟨A, p, e, R, s, m, args, below, meth, c, cells, slots, Q⟩ := cx
  intro F H locs ls hP hS hl
  obtain ⟨hd, rfl⟩ := hd
  obtain ⟨C, T, N, ref, hc, hjN, hin, hlk, hsm⟩ := hf
  subst hji
  obtain ⟨fs, h1, h2, h3, h4⟩ := ha en (M a)
  obtain ⟨q, -, hq⟩ := zws_at (en := en) (M := M) hk
  rw [h1] at hq
  rw [hr] at h2
  exact va_get F.1 F.2.1 F.2.2.2.2.1 hin F.2.2.2.1 F.2.2.2.2.2.1 hP q hq hc j hjN (F.2.2.2.2.1 _ hlk) (fld_same F.2.2.2.2.1 hsm) h2 hd (k F H locs ls hP hS hl)
theorem z_putI {a ci j idx : Nat} {x : Int} {r : Int → Int} (ji : Int) (hji : ji = (j : Int)) (hd : Dc md pc (.putfield idx) 3 pc') (hf : FPk md.1 idx ci j .int) (ha : IsFI a ci j) (hk : a ∈ ks) (hr : M a = r) (k : ∀ r', r' = up r ji x → Z en ks cx md (upR M a r') pc' lv st) : Z en ks cx md M pc lv (vi x :: rf en a :: st) := by
  obtain ⟨A, p, e, R, s, m, args, below, meth, c, cells, slots, Q⟩ := cx
  intro F H locs ls hP hS hl
  obtain ⟨hd, rfl⟩ := hd
  subst hji
  obtain ⟨C, T, N, ref, ty0, hc, hjN, hin, hlk, hsm, hty, hnm, hfin, hte⟩ := hf
  obtain ⟨fs, h1, h2, h3, h4⟩ := ha en (M a)
  obtain ⟨q, hq0, hq⟩ := zws_at (en := en) (M := M) hk
  rw [h1] at hq
  refine va_put (ty := .int) F.1 F.2.1 F.2.2.2.2.1 hin ty0 hty hnm F.2.2.2.1 F.2.2.2.2.2.1 hP (zws_D F.2.2.2.2.2.2.1 F.2.2.2.2.2.2.2.1) hS q hq hc j hjN (F.2.2.2.2.1 _ hlk) (fld_same F.2.2.2.2.1 hsm) hfin (by rw [← hte]; exact hty j hjN) rfl rfl h3 hd (fun H1 locs1 hP1 hD1 hS1 => ?_)
  have e1 : ((zws en ks M).set q (ad en a, .inr (ci, fs.set j (vi x)))) = zws en ks (upR M a (up r j x)) := by rw [← h4, ← hr]; exact zws_set F.2.2.2.2.2.2.1.1 hq0
  exact k _ rfl F H1 locs1 ls (by rw [← e1]; exact hP1) hS1 hl
theorem z_getJ {a ci j idx : Nat} {r : Int → Int} (ji : Int) (hji : ji = (j : Int)) (hd : Dc md pc (.getfield idx) 3 pc') (hf : FLk md.1 idx ci j) (ha : IsFJ a ci j) (hk : a ∈ ks) (hr : M a = r) (k : Z en ks cx md M pc' lv (vl (r ji) :: st)) : Z en ks cx md M pc lv (rf en a :: st) := by
  obtain ⟨A, p, e, R, s, m, args, below, meth, c, cells, slots, Q⟩ := cx
  intro F H locs ls hP hS hl
  obtain ⟨hd, rfl⟩ := hd
  obtain ⟨C, T, N, ref, hc, hjN, hin, hlk, hsm⟩ := hf
  subst hji
  obtain ⟨fs, h1, h2, h3, h4⟩ := ha en (M a)
  obtain ⟨q, -, hq⟩ := zws_at (en := en) (M := M) hk
  rw [h1] at hq
  rw [hr] at h2
  exact va_get F.1 F.2.1 F.2.2.2.2.1 hin F.2.2.2.1 F.2.2.2.2.2.1 hP q hq hc j hjN (F.2.2.2.2.1 _ hlk) (fld_same F.2.2.2.2.1 hsm) h2 hd (k F H locs ls hP hS hl)
theorem z_putJ {a ci j idx : Nat} {x : Int} {r : Int → Int} (ji : Int) (hji : ji = (j : Int)) (hd : Dc md pc (.putfield idx) 3 pc') (hf : FPk md.1 idx ci j .long) (ha : IsFJ a ci j) (hk : a ∈ ks) (hr : M a = r) (k : ∀ r', r' = up r ji x → Z en ks cx md (upR M a r') pc' lv st) : Z en ks cx md M pc lv (vl x :: rf en a :: st) := by
  obtain ⟨A, p, e, R, s, m, args, below, meth, c, cells, slots, Q⟩ := cx
  intro F H locs ls hP hS hl
  obtain ⟨hd, rfl⟩ := hd
  subst hji
  obtain ⟨C, T, N, ref, ty0, hc, hjN, hin, hlk, hsm, hty, hnm, hfin, hte⟩ := hf
  obtain ⟨fs, h1, h2, h3, h4⟩ := ha en (M a)
  obtain ⟨q, hq0, hq⟩ := zws_at (en := en) (M := M) hk
  rw [h1] at hq
  refine va_put (ty := .long) F.1 F.2.1 F.2.2.2.2.1 hin ty0 hty hnm F.2.2.2.1 F.2.2.2.2.2.1 hP (zws_D F.2.2.2.2.2.2.1 F.2.2.2.2.2.2.2.1) hS q hq hc j hjN (F.2.2.2.2.1 _ hlk) (fld_same F.2.2.2.2.1 hsm) hfin (by rw [← hte]; exact hty j hjN) rfl rfl h3 hd (fun H1 locs1 hP1 hD1 hS1 => ?_)
  have e1 : ((zws en ks M).set q (ad en a, .inr (ci, fs.set j (vl x)))) = zws en ks (upR M a (up r j x)) := by rw [← h4, ← hr]; exact zws_set F.2.2.2.2.2.2.1.1 hq0
  exact k _ rfl F H1 locs1 ls (by rw [← e1]; exact hP1) hS1 hl
theorem z_getR {a ci j idx q : Nat} (hd : Dc md pc (.getfield idx) 3 pc') (hf : FLk md.1 idx ci j) (ha : IsFR a ci j q) (hk : a ∈ ks) (k : Z en ks cx md M pc' lv (rf en q :: st)) : Z en ks cx md M pc lv (rf en a :: st) := by
  obtain ⟨A, p, e, R, s, m, args, below, meth, c, cells, slots, Q⟩ := cx
  intro F H locs ls hP hS hl
  obtain ⟨hd, rfl⟩ := hd
  obtain ⟨C, T, N, ref, hc, hjN, hin, hlk, hsm⟩ := hf
  obtain ⟨fs, h1, h2⟩ := ha en (M a)
  obtain ⟨q, -, hq⟩ := zws_at (en := en) (M := M) hk
  rw [h1] at hq
  exact va_get F.1 F.2.1 F.2.2.2.2.1 hin F.2.2.2.1 F.2.2.2.2.2.1 hP q hq hc j hjN (F.2.2.2.2.1 _ hlk) (fld_same F.2.2.2.2.1 hsm) h2 hd (k F H locs ls hP hS hl)
theorem z_iret {x : Int} {P : Option Value → zW → Prop} (C : zC en ks cx md P) (hd : Dc md pc .ireturn 1 pc') (hr : md.2.2.2.1 = some .int) (h : P (some (vi x)) M) : Z en ks cx md M pc lv [vi x] := by
  obtain ⟨A, p, e, R, s, m, args, below, meth, c, cells, slots, Q⟩ := cx
  intro F H locs ls hP hS hl
  obtain ⟨hd, rfl⟩ := hd
  obtain ⟨rfl, c2, c3, rfl, rfl, rfl⟩ := C
  rw [hr] at c2
  exact W.iret F.1 F.2.1 c2 (fun t ht hW => ⟨⟨some (vi x), M, rfl, h, by rw [ht]; exact hP, va_K.moved hW.alike F.2.2.2.2.2.1, F.2.2.2.2.2.2.1, by rw [ht]; exact (zSt.kept F.2.2.2.2.2.2.2.2.1 hS.2.1).moved hW.alike, zNs.warm hW F.2.2.2.2.2.2.2.2.2.2.2.2.2⟩, hS.F ht⟩) hS.2.2 hd c3
theorem z_zret {x : Int} {P : Option Value → zW → Prop} (C : zC en ks cx md P) (hd : Dc md pc .ireturn 1 pc') (hr : md.2.2.2.1 = some .boolean) (hx : x = 0 ∨ x = 1) (h : P (some (vi x)) M) : Z en ks cx md M pc lv [vi x] := by
  obtain ⟨A, p, e, R, s, m, args, below, meth, c, cells, slots, Q⟩ := cx
  intro F H locs ls hP hS hl
  obtain ⟨hd, rfl⟩ := hd
  obtain ⟨rfl, c2, c3, rfl, rfl, rfl⟩ := C
  rw [hr] at c2
  exact W.zret F.1 F.2.1 c2 (by rcases hx with rfl | rfl <;> decide +kernel) (fun t ht hW => ⟨⟨some (vi x), M, rfl, h, by rw [ht]; exact hP, va_K.moved hW.alike F.2.2.2.2.2.1, F.2.2.2.2.2.2.1, by rw [ht]; exact (zSt.kept F.2.2.2.2.2.2.2.2.1 hS.2.1).moved hW.alike, zNs.warm hW F.2.2.2.2.2.2.2.2.2.2.2.2.2⟩, hS.F ht⟩) hS.2.2 hd c3
theorem z_lret {x : Int} {P : Option Value → zW → Prop} (C : zC en ks cx md P) (hd : Dc md pc .lreturn 1 pc') (hr : md.2.2.2.1 = some .long) (h : P (some (vl x)) M) : Z en ks cx md M pc lv [vl x] := by
  obtain ⟨A, p, e, R, s, m, args, below, meth, c, cells, slots, Q⟩ := cx
  intro F H locs ls hP hS hl
  obtain ⟨hd, rfl⟩ := hd
  obtain ⟨rfl, c2, c3, rfl, rfl, rfl⟩ := C
  rw [hr] at c2
  exact W.lret F.1 F.2.1 c2 (fun t ht hW => ⟨⟨some (vl x), M, rfl, h, by rw [ht]; exact hP, va_K.moved hW.alike F.2.2.2.2.2.1, F.2.2.2.2.2.2.1, by rw [ht]; exact (zSt.kept F.2.2.2.2.2.2.2.2.1 hS.2.1).moved hW.alike, zNs.warm hW F.2.2.2.2.2.2.2.2.2.2.2.2.2⟩, hS.F ht⟩) hS.2.2 hd c3
theorem z_vret {P : Option Value → zW → Prop} (C : zC en ks cx md P) (hd : Dc md pc .return_ 1 pc') (hr : md.2.2.2.1 = none) (h : P none M) : Z en ks cx md M pc lv [] := by
  obtain ⟨A, p, e, R, s, m, args, below, meth, c, cells, slots, Q⟩ := cx
  intro F H locs ls hP hS hl
  obtain ⟨hd, rfl⟩ := hd
  obtain ⟨rfl, c2, c3, rfl, rfl, rfl⟩ := C
  rw [hr] at c2
  exact W.vret F.1 F.2.1 c2 (fun t ht hW => ⟨⟨none, M, rfl, h, by rw [ht]; exact hP, va_K.moved hW.alike F.2.2.2.2.2.1, F.2.2.2.2.2.2.1, by rw [ht]; exact (zSt.kept F.2.2.2.2.2.2.2.2.1 hS.2.1).moved hW.alike, zNs.warm hW F.2.2.2.2.2.2.2.2.2.2.2.2.2⟩, hS.F ht⟩) hS.2.2 hd c3
theorem z_end {p : Program} {l : Launch} {e : Env} {R : Room} {s : State} {m : MethodId} {args : Array Value} {below : List Frame} {meth : Method} {c : Code} {H : Heap} {locs : List Loc} {cells slots : Nat} {Q : State → Prop} {ls : Array Slot} {rest st0 : List Value} {a : Array Value} {A : Nat → Prop} {P : Option Value → zW → Prop}
    (hr : va_Run p l e R s m args below meth c H locs cells slots 0 0 (F0 m pc ls st0) rest (zQ en ks P a) (zA en ks)) (hS : va_S A s.heap H locs) (hA : ∀ q, zA en ks q → A q)
    (kk : ∀ r M' H1 locs1, P r M' → va_P en.2.1 vwCl (zws en ks M') H1 → va_S A s.heap H1 locs1 → W p l e R s m args below meth c H1 locs1 cells slots Q (F0 m (pc + 3) ls (r.toList ++ rest))) : W p l e R s m args below meth c H locs cells slots Q (F0 m pc ls st0) := by
  intro T hT X
  obtain ⟨v, st₀, t, T', L, h0, X', hL, e1, e2, ⟨⟨r, M', hv, hp, hb⟩, hz, hk⟩, st⟩ := hr T hT X
  cases hv
  rw [h0] at hz hk
  obtain ⟨t2, a1, b1⟩ := kk v M' T'.heap (locs ++ L) hp (by rw [e1]; exact hb.1)
    ⟨Nat.le_trans hS.1 (by rw [e1]; exact hz), fun q h1 h2 => by rw [e1, hk q (Nat.lt_of_lt_of_le h1 hS.1) (fun z => h2 (hA q z))]; exact hS.2.1 q h1 h2, fun q hq => by
      rcases List.mem_append.mp hq with h | h
      · exact hS.2.2 q h
      · exact hA _ (hL q h)⟩ T' rfl X'
  exact ⟨t2, st t2 a1, b1⟩
theorem z_pre {A : Nat → Prop} {p : Program} {e : Env} {R : Room} {s : State} {m : MethodId} {args : Array Value} {below : List Frame} {meth : Method} {c : Code} {cells slots : Nat} {Q : State → Prop} {H : Heap} {locs : List Loc} (F : zF en ks (A, p, e, R, s, m, args, below, meth, c, cells, slots, Q) md) (hP : va_P en.2.1 vwCl (zws en ks M) H) (hS : va_S A s.heap H locs) {U : State} (hU : U.heap = H) (hW : s.WarmedH U.vm) : zH en ks M U :=
  ⟨by rw [hU]; exact hP, va_K.moved hW.alike F.2.2.2.2.2.1, F.2.2.2.2.2.2.1, by rw [hU]; exact ((zSt.kept F.2.2.2.2.2.2.2.2.1 hS.2.1).moved hW.alike).narrow F.2.2.2.2.2.2.2.1, zNs.warm hW F.2.2.2.2.2.2.2.2.2.2.2.2.2⟩
theorem good_code {y : MethodName} {md' : zMD} (h : Cond.code y md'.2.1 md'.2.2.1 md'.2.2.2.1 ∈ lw_g) : GoodIn lw_g (Cond.code y md'.2.1 md'.2.2.1 md'.2.2.2.1 :: lw_g) := fun w hw => (List.mem_cons.mp hw).elim (fun z => z ▸ ⟨h, tbl_good _ h⟩) (fun z => ⟨z, tbl_good _ z⟩)
theorem good_app {a b : List Cond} (ha : ∀ w ∈ a, w ∈ lw_g) (hb : GoodIn lw_g b) : GoodIn lw_g (a ++ b) := fun w hw => (List.mem_append.mp hw).elim (fun z => ⟨ha w z, tbl_good _ (ha w z)⟩) (hb w)
abbrev hOk (md md' : zMD) : Prop := md'.2.2.2.2 + 1 ≤ md.2.2.2.2 ∧ md'.2.2.1 ≤ 21
theorem hOk.room {md' : zMD} (h : hOk md md') {R : Room} (h1 : md.2.2.2.2 ≤ R.frames) (h2 : 40 * md.2.2.2.2 ≤ R.locals) : (rm md'.2.2.2.2).frames + 1 ≤ R.frames ∧ 8 + (md'.2.2.1 + 11) + (rm md'.2.2.2.2).locals ≤ R.locals := by
  obtain ⟨a, b⟩ := h
  refine ⟨Nat.le_trans a h1, ?_⟩
  show 8 + (md'.2.2.1 + 11) + 40 * md'.2.2.2.2 ≤ R.locals
  omega
theorem z_callS {idx n : Nat} {y : MethodName} {md' : zMD} {av st0 : List Value} {P : Option Value → zW → Prop} (hd : Dc md pc (.invokestatic idx) 3 pc') (hl9 : SLk md.1 idx y md' n) (ho : hOk md md') (ct : Ct en ks y md' av M P) (hst : st0 = av.reverse ++ st) (hn : av.length = n) (hW : (st.map fun v => v.category).sum ≤ 8) (k : ∀ r M', P r M' → Z en ks cx md M' pc' lv (r.toList ++ st)) : Z en ks cx md M pc lv st0 := by
  obtain ⟨A, p, e, R, s, m, args, below, meth, c, cells, slots, Q⟩ := cx
  intro F H locs ls hP hS hl
  obtain ⟨hd, rfl⟩ := hd
  obtain ⟨l1, l2, l3, l4, l5⟩ := hl9
  obtain ⟨f1, f2, f3, f4, f5, f6, f7, f8, f9, f10, f11, f12, f13, f14⟩ := id F
  have hG : GoodIn lw_g (va_wsS md.1 idx y (Cond.code y md'.2.1 md'.2.2.1 md'.2.2.2.1 :: lw_g)) := good_app (fun w hw => by
    simp only [List.mem_cons, List.not_mem_nil, or_false] at hw
    rcases hw with rfl | rfl | rfl
    · exact l1
    · exact l2
    · exact l3) (good_code l4)
  exact z_end (va_runS (As := av) (rest := st) ⟨f1, f2, f3, f4, f5⟩ ct (va_cwS n f5 hG rfl rfl rfl l5 (ho.room f10 f11)) ⟨zH.blind, fun U hU hW => ⟨rfl, z_pre F hP hS hU hW⟩⟩ rfl hn hl.1 hst (lv_room hW) hd ⟨f12, f13⟩) hS f8 (fun r M' H1 locs1 hp hP1 hS1 => k r M' hp F H1 locs1 ls hP1 hS1 hl)
theorem z_callN {idx n : Nat} {y : MethodName} {md' : zMD} {host : String} {av st0 : List Value} {P : Option Value → zW → Prop} (hd : Dc md pc (.invokestatic idx) 3 pc') (hl9 : NLk md.1 idx y md' host n) (ho : hOk md md') (ct : Ct en ks y md' av M P) (hst : st0 = av.reverse ++ st) (hn : av.length = n) (hW : (st.map fun v => v.category).sum ≤ 8) (k : ∀ r M', P r M' → Z en ks cx md M' pc' lv (r.toList ++ st)) : Z en ks cx md M pc lv st0 := by
  obtain ⟨A, p, e, R, s, m, args, below, meth, c, cells, slots, Q⟩ := cx
  intro F H locs ls hP hS hl
  obtain ⟨hd, rfl⟩ := hd
  obtain ⟨l1, l2, l3, l4, l5⟩ := hl9
  obtain ⟨f1, f2, f3, f4, f5, f6, f7, f8, f9, f10, f11, f12, f13, f14⟩ := id F
  exact z_end (va_runSN (As := av) (rest := st) ⟨f1, f2, f3, f4, f5⟩ ct ⟨va_cnB n f5 (good_code l4) rfl rfl rfl (f14 _ l1) (f5 _ l3) l5 (ho.room f10 f11), f5 _ l2, trivial⟩ ⟨zH.blind, fun U hU hW => ⟨rfl, z_pre F hP hS hU hW⟩⟩ rfl hn hl.1 hst (lv_room hW) hd ⟨f12, f13⟩) hS f8 (fun r M' H1 locs1 hp hP1 hS1 => k r M' hp F H1 locs1 ls hP1 hS1 hl)
theorem z_callV {idx n a ci : Nat} {C : String} {y : MethodName} {md' : zMD} {As st0 : List Value} {P : Option Value → zW → Prop} (hd : Dc md pc (.invokevirtual idx) 3 pc') (hl9 : VLk md.1 idx C y md' n) (ho : hOk md md') (hk : a ∈ ks) (ha : IsO a ci) (hci : (vwCl[ci]?).map (fun q => q.1) = some C) (ct : Ct en ks y md' (rf en a :: As) M P) (hst : st0 = As.reverse ++ rf en a :: st) (hn : As.length = n) (hW : (st.map fun v => v.category).sum ≤ 8) (k : ∀ r M', P r M' → Z en ks cx md M' pc' lv (r.toList ++ st)) : Z en ks cx md M pc lv st0 := by
  obtain ⟨A, p, e, R, s, m, args, below, meth, c, cells, slots, Q⟩ := cx
  intro F H locs ls hP hS hl
  obtain ⟨hd, rfl⟩ := hd
  obtain ⟨l1, l2, l3, l6, l4, l5⟩ := hl9
  obtain ⟨f1, f2, f3, f4, f5, f6, f7, f8, f9, f10, f11, f12, f13, f14⟩ := id F
  have hG : GoodIn lw_g (wsV md.1 idx C y (Cond.code y md'.2.1 md'.2.2.1 md'.2.2.2.1 :: lw_g)) := good_app (fun w hw => by
    simp only [List.mem_cons, List.not_mem_nil, or_false] at hw
    rcases hw with rfl | rfl | rfl | rfl
    · exact l1
    · exact l2
    · exact l3
    · exact l6) (good_code l4)
  obtain ⟨fs, h1⟩ := ha en (M a)
  obtain ⟨q, -, hq⟩ := zws_at (en := en) (M := M) hk
  rw [h1] at hq
  obtain ⟨vc, hvc, hvc2⟩ := Option.map_eq_some_iff.mp hci
  subst hvc2
  exact z_end (va_runV (As := As) (rest := st) (b := ad en a) ⟨f1, f2, f3, f4, f5⟩ ct (cwV n f5 hG rfl rfl rfl l5 (ho.room f10 f11)) ⟨zH.blind, va_recv f6 hP hvc hq, fun U hU hW => ⟨rfl, z_pre F hP hS hU hW⟩⟩ rfl hn hl.1 hst (lv_room hW) hd ⟨f12, f13⟩) hS f8 (fun r M' H1 locs1 hp hP1 hS1 => k r M' hp F H1 locs1 ls hP1 hS1 hl)
theorem z_sI {idx n : Nat} {y : MethodName} {md' : zMD} {av st0 : List Value} {x : Int} {M' : zW} (hd : Dc md pc (.invokestatic idx) 3 pc') (hl9 : SLk md.1 idx y md' n) (ho : hOk md md') (ct : Ct en ks y md' av M (pI x M')) (hst : st0 = av.reverse ++ st) (hn : av.length = n) (hW : (st.map fun v => v.category).sum ≤ 8) (k : Z en ks cx md M' pc' lv (vi x :: st)) : Z en ks cx md M pc lv st0 :=
  z_callS hd hl9 ho ct hst hn hW (fun r N h => by obtain ⟨rfl, rfl⟩ := h; exact k)
theorem z_sJ {idx n : Nat} {y : MethodName} {md' : zMD} {av st0 : List Value} {x : Int} {M' : zW} (hd : Dc md pc (.invokestatic idx) 3 pc') (hl9 : SLk md.1 idx y md' n) (ho : hOk md md') (ct : Ct en ks y md' av M (pJ x M')) (hst : st0 = av.reverse ++ st) (hn : av.length = n) (hW : (st.map fun v => v.category).sum ≤ 8) (k : Z en ks cx md M' pc' lv (vl x :: st)) : Z en ks cx md M pc lv st0 :=
  z_callS hd hl9 ho ct hst hn hW (fun r N h => by obtain ⟨rfl, rfl⟩ := h; exact k)
theorem z_sV {idx n : Nat} {y : MethodName} {md' : zMD} {av st0 : List Value} {M' : zW} (hd : Dc md pc (.invokestatic idx) 3 pc') (hl9 : SLk md.1 idx y md' n) (ho : hOk md md') (ct : Ct en ks y md' av M (pV M')) (hst : st0 = av.reverse ++ st) (hn : av.length = n) (hW : (st.map fun v => v.category).sum ≤ 8) (k : Z en ks cx md M' pc' lv (st)) : Z en ks cx md M pc lv st0 :=
  z_callS hd hl9 ho ct hst hn hW (fun r N h => by obtain ⟨rfl, rfl⟩ := h; exact k)
theorem z_nI {idx n : Nat} {y : MethodName} {md' : zMD} {host : String} {av st0 : List Value} {x : Int} {M' : zW} (hd : Dc md pc (.invokestatic idx) 3 pc') (hl9 : NLk md.1 idx y md' host n) (ho : hOk md md') (ct : Ct en ks y md' av M (pI x M')) (hst : st0 = av.reverse ++ st) (hn : av.length = n) (hW : (st.map fun v => v.category).sum ≤ 8) (k : Z en ks cx md M' pc' lv (vi x :: st)) : Z en ks cx md M pc lv st0 :=
  z_callN hd hl9 ho ct hst hn hW (fun r N h => by obtain ⟨rfl, rfl⟩ := h; exact k)
theorem z_nJ {idx n : Nat} {y : MethodName} {md' : zMD} {host : String} {av st0 : List Value} {x : Int} {M' : zW} (hd : Dc md pc (.invokestatic idx) 3 pc') (hl9 : NLk md.1 idx y md' host n) (ho : hOk md md') (ct : Ct en ks y md' av M (pJ x M')) (hst : st0 = av.reverse ++ st) (hn : av.length = n) (hW : (st.map fun v => v.category).sum ≤ 8) (k : Z en ks cx md M' pc' lv (vl x :: st)) : Z en ks cx md M pc lv st0 :=
  z_callN hd hl9 ho ct hst hn hW (fun r N h => by obtain ⟨rfl, rfl⟩ := h; exact k)
theorem z_nV {idx n : Nat} {y : MethodName} {md' : zMD} {host : String} {av st0 : List Value} {M' : zW} (hd : Dc md pc (.invokestatic idx) 3 pc') (hl9 : NLk md.1 idx y md' host n) (ho : hOk md md') (ct : Ct en ks y md' av M (pV M')) (hst : st0 = av.reverse ++ st) (hn : av.length = n) (hW : (st.map fun v => v.category).sum ≤ 8) (k : Z en ks cx md M' pc' lv (st)) : Z en ks cx md M pc lv st0 :=
  z_callN hd hl9 ho ct hst hn hW (fun r N h => by obtain ⟨rfl, rfl⟩ := h; exact k)
theorem z_vI {idx n a ci : Nat} {C : String} {y : MethodName} {md' : zMD} {As st0 : List Value} {x : Int} {M' : zW} (hd : Dc md pc (.invokevirtual idx) 3 pc') (hl9 : VLk md.1 idx C y md' n) (ho : hOk md md') (hk : a ∈ ks) (ha : IsO a ci) (hci : (vwCl[ci]?).map (fun q => q.1) = some C) (ct : Ct en ks y md' (rf en a :: As) M (pI x M')) (hst : st0 = As.reverse ++ rf en a :: st) (hn : As.length = n) (hW : (st.map fun v => v.category).sum ≤ 8) (k : Z en ks cx md M' pc' lv (vi x :: st)) : Z en ks cx md M pc lv st0 :=
  z_callV hd hl9 ho hk ha hci ct hst hn hW (fun r N h => by obtain ⟨rfl, rfl⟩ := h; exact k)
theorem z_vJ {idx n a ci : Nat} {C : String} {y : MethodName} {md' : zMD} {As st0 : List Value} {x : Int} {M' : zW} (hd : Dc md pc (.invokevirtual idx) 3 pc') (hl9 : VLk md.1 idx C y md' n) (ho : hOk md md') (hk : a ∈ ks) (ha : IsO a ci) (hci : (vwCl[ci]?).map (fun q => q.1) = some C) (ct : Ct en ks y md' (rf en a :: As) M (pJ x M')) (hst : st0 = As.reverse ++ rf en a :: st) (hn : As.length = n) (hW : (st.map fun v => v.category).sum ≤ 8) (k : Z en ks cx md M' pc' lv (vl x :: st)) : Z en ks cx md M pc lv st0 :=
  z_callV hd hl9 ho hk ha hci ct hst hn hW (fun r N h => by obtain ⟨rfl, rfl⟩ := h; exact k)
theorem z_vV {idx n a ci : Nat} {C : String} {y : MethodName} {md' : zMD} {As st0 : List Value} {M' : zW} (hd : Dc md pc (.invokevirtual idx) 3 pc') (hl9 : VLk md.1 idx C y md' n) (ho : hOk md md') (hk : a ∈ ks) (ha : IsO a ci) (hci : (vwCl[ci]?).map (fun q => q.1) = some C) (ct : Ct en ks y md' (rf en a :: As) M (pV M')) (hst : st0 = As.reverse ++ rf en a :: st) (hn : As.length = n) (hW : (st.map fun v => v.category).sum ≤ 8) (k : Z en ks cx md M' pc' lv (st)) : Z en ks cx md M pc lv st0 :=
  z_callV hd hl9 ho hk ha hci ct hst hn hW (fun r N h => by obtain ⟨rfl, rfl⟩ := h; exact k)
theorem z_iast' {a n : Nat} {i x : Int} {r : Int → Int} (M2 : (Int → Int) → zW) (hd : Dc md pc .iastore 1 pc') (ha : IsI a n) (hk : a ∈ ks) (hr : M a = r) (hi : 0 ≤ i ∧ i < n) (hM : ∀ r', upR M a r' = M2 r') (k : ∀ r', r' = up r i x → Z en ks cx md (M2 r') pc' lv st) : Z en ks cx md M pc lv (vi x :: vi i :: rf en a :: st) := z_iast hd ha hk hr hi (fun r' h => hM r' ▸ k r' h)
theorem z_last' {a n : Nat} {i x : Int} {r : Int → Int} (M2 : (Int → Int) → zW) (hd : Dc md pc .lastore 1 pc') (ha : IsJ a n) (hk : a ∈ ks) (hr : M a = r) (hi : 0 ≤ i ∧ i < n) (hM : ∀ r', upR M a r' = M2 r') (k : ∀ r', r' = up r i x → Z en ks cx md (M2 r') pc' lv st) : Z en ks cx md M pc lv (vl x :: vi i :: rf en a :: st) := z_last hd ha hk hr hi (fun r' h => hM r' ▸ k r' h)
theorem z_zast' {a n : Nat} {i x : Int} {r : Int → Int} (M2 : (Int → Int) → zW) (hd : Dc md pc .bastore 1 pc') (ha : IsZ a n) (hk : a ∈ ks) (hr : M a = r) (hi : 0 ≤ i ∧ i < n) (hx : x = 0 ∨ x = 1) (hM : ∀ r', upR M a r' = M2 r') (k : ∀ r', r' = up r i x → Z en ks cx md (M2 r') pc' lv st) : Z en ks cx md M pc lv (vi x :: vi i :: rf en a :: st) := z_zast hd ha hk hr hi hx (fun r' h => hM r' ▸ k r' h)
theorem z_putI' {a ci j idx : Nat} {x : Int} {r : Int → Int} (ji : Int) (hji : ji = (j : Int)) (M2 : (Int → Int) → zW) (hd : Dc md pc (.putfield idx) 3 pc') (hf : FPk md.1 idx ci j .int) (ha : IsFI a ci j) (hk : a ∈ ks) (hr : M a = r) (hM : ∀ r', upR M a r' = M2 r') (k : ∀ r', r' = up r ji x → Z en ks cx md (M2 r') pc' lv st) : Z en ks cx md M pc lv (vi x :: rf en a :: st) := z_putI ji hji hd hf ha hk hr (fun r' h => hM r' ▸ k r' h)
theorem z_putJ' {a ci j idx : Nat} {x : Int} {r : Int → Int} (ji : Int) (hji : ji = (j : Int)) (M2 : (Int → Int) → zW) (hd : Dc md pc (.putfield idx) 3 pc') (hf : FPk md.1 idx ci j .long) (ha : IsFJ a ci j) (hk : a ∈ ks) (hr : M a = r) (hM : ∀ r', upR M a r' = M2 r') (k : ∀ r', r' = up r ji x → Z en ks cx md (M2 r') pc' lv st) : Z en ks cx md M pc lv (vl x :: rf en a :: st) := z_putJ ji hji hd hf ha hk hr (fun r' h => hM r' ▸ k r' h)
theorem z_ialdB {a n : Nat} {i lo hi : Int} {r : Int → Int} (hd : Dc md pc .iaload 1 pc') (ha : IsI a n) (hk : a ∈ ks) (hr : M a = r) (hi0 : 0 ≤ i ∧ i < n) (hb : ∀ j, 0 ≤ j → j < (n : Int) → lo ≤ r j ∧ r j ≤ hi) (k : ∀ y, y = r i → lo ≤ y ∧ y ≤ hi → Z en ks cx md M pc' lv (vi y :: st)) : Z en ks cx md M pc lv (vi i :: rf en a :: st) := z_iald hd ha hk hr hi0 (k _ rfl (hb i hi0.1 hi0.2))
theorem z_top {x : Int} (k : ∀ y, y = x → Z en ks cx md M pc lv (vi y :: st)) : Z en ks cx md M pc lv (vi x :: st) := k x rfl
theorem z_topl {x : Int} (k : ∀ y, y = x → Z en ks cx md M pc lv (vl y :: st)) : Z en ks cx md M pc lv (vl x :: st) := k x rfl
theorem z_tsw {x dflt lo hi off : Int} {offs : Array Int} {n : Nat} (q : Int) (hx : x = q) (hd : Dc md pc (.tableswitch dflt lo hi offs) n pc') (hq : lo ≤ q ∧ q ≤ hi ∧ -2147483648 ≤ q ∧ q < 2147483648) (ho : offs[(q - lo).toNat]? = some off) (ht : (pc : Int) + off = (tgt : Int)) (k : Z en ks cx md M tgt lv st) : Z en ks cx md M pc lv (vi x :: st) := by
  obtain ⟨A, p, e, R, s, m, args, below, meth, c, cells, slots, Q⟩ := cx
  intro F H locs ls hP hS hl
  obtain ⟨hd, rfl⟩ := hd
  subst hx
  have e := o32 hq.2.2.1 hq.2.2.2
  exact lv_tableIn F.1 F.2.1 hd (by rw [e]; omega) (by rw [e]; omega) (by rw [e]; exact ho) ht (k F H locs ls hP hS hl)
theorem z_tswD {x dflt lo hi : Int} {offs : Array Int} {n : Nat} (hd : Dc md pc (.tableswitch dflt lo hi offs) n pc') (hq : (x < lo ∨ hi < x) ∧ -2147483648 ≤ x ∧ x < 2147483648) (ht : (pc : Int) + dflt = (tgt : Int)) (k : Z en ks cx md M tgt lv st) : Z en ks cx md M pc lv (vi x :: st) := by
  obtain ⟨A, p, e, R, s, m, args, below, meth, c, cells, slots, Q⟩ := cx
  intro F H locs ls hP hS hl
  obtain ⟨hd, rfl⟩ := hd
  have e := o32 hq.2.1 hq.2.2
  exact lv_tableOut F.1 F.2.1 hd (by rw [e]; exact hq.1) ht (k F H locs ls hP hS hl)
theorem z_lsw {x dflt off : Int} {ps : Array (Int × Int)} {n : Nat} (hd : Dc md pc (.lookupswitch dflt ps) n pc') (hq : -2147483648 ≤ x ∧ x < 2147483648) (hp : (ps.toList.zip (ps.toList.drop 1)).all (fun (a, next) => a.1 < next.1) = true) (ho : Op.lookupswitch.offset ps.toList dflt x = off) (ht : (pc : Int) + off = (tgt : Int)) (k : Z en ks cx md M tgt lv st) : Z en ks cx md M pc lv (vi x :: st) := by
  obtain ⟨A, p, e, R, s, m, args, below, meth, c, cells, slots, Q⟩ := cx
  intro F H locs ls hP hS hl
  obtain ⟨hd, rfl⟩ := hd
  have e := o32 hq.1 hq.2
  exact lv_lookup F.1 F.2.1 hd hp (by rw [e]; exact ho) ht (k F H locs ls hP hS hl)
theorem z_mmax {x y : Int} {idx n : Nat} (hd : Dc md pc (.invokestatic idx) 3 pc') (hl9 : SLk md.1 idx Lib.Math.max.name mJ9_max_7cf53 n) (hx : -2147483648 ≤ x ∧ x < 2147483648 ∧ -2147483648 ≤ y ∧ y < 2147483648) (ho : 1 ≤ md.2.2.2.2) (hW : (st.map fun v => v.category).sum ≤ 8) (k : Z en ks cx md M pc' lv (vi (max x y) :: st)) : Z en ks cx md M pc lv (vi y :: vi x :: st) := by
  obtain ⟨A, p, e, R, s, m, args, below, meth, c, cells, slots, Q⟩ := cx
  intro F H locs ls hP hS hl
  obtain ⟨hd, rfl⟩ := hd
  obtain ⟨l1, l2, l3, l4, l5⟩ := hl9
  obtain ⟨f1, f2, f3, f4, f5, f6, f7, f8, f9, f10, f11, f12, f13, f14⟩ := id F
  refine va_mmax f1 f2 (by rw [f3]; exact hl.1.symm) f4 (f5 _ l1) (f5 _ l2) (f5 _ l3) (f5 _ l4) (Nat.le_trans ho f10) (by omega) f12 f13 hd ?_
  have h := (k F H locs ls hP hS hl)
  have e : (if Int32.ofInt x < Int32.ofInt y then Int32.ofInt y else Int32.ofInt x) = Int32.ofInt (max x y) := by
    by_cases q : x < y
    · rw [if_pos ((olt hx).mpr q)]; congr 1; omega
    · rw [if_neg (fun z => q ((olt hx).mp z))]; congr 1; omega
  rw [e]
  exact h
theorem z_mmin {x y : Int} {idx n : Nat} (hd : Dc md pc (.invokestatic idx) 3 pc') (hl9 : SLk md.1 idx Lib.Math.min.name mJ9_min_7cf53 n) (hx : -2147483648 ≤ x ∧ x < 2147483648 ∧ -2147483648 ≤ y ∧ y < 2147483648) (ho : 1 ≤ md.2.2.2.2) (hW : (st.map fun v => v.category).sum ≤ 8) (k : Z en ks cx md M pc' lv (vi (min x y) :: st)) : Z en ks cx md M pc lv (vi y :: vi x :: st) := by
  obtain ⟨A, p, e, R, s, m, args, below, meth, c, cells, slots, Q⟩ := cx
  intro F H locs ls hP hS hl
  obtain ⟨hd, rfl⟩ := hd
  obtain ⟨l1, l2, l3, l4, l5⟩ := hl9
  obtain ⟨f1, f2, f3, f4, f5, f6, f7, f8, f9, f10, f11, f12, f13, f14⟩ := id F
  refine va_mmin f1 f2 (by rw [f3]; exact hl.1.symm) f4 (f5 _ l1) (f5 _ l2) (f5 _ l3) (f5 _ l4) (Nat.le_trans ho f10) (by omega) f12 f13 hd ?_
  have h := (k F H locs ls hP hS hl)
  have e : (if Int32.ofInt y < Int32.ofInt x then Int32.ofInt y else Int32.ofInt x) = Int32.ofInt (min x y) := by
    by_cases q : y < x
    · rw [if_pos ((olt ⟨hx.2.2.1, hx.2.2.2, hx.1, hx.2.1⟩).mpr q)]; congr 1; omega
    · rw [if_neg (fun z => q ((olt ⟨hx.2.2.1, hx.2.2.2, hx.1, hx.2.1⟩).mp z))]; congr 1; omega
  rw [e]
  exact h
theorem z_sX {idx n : Nat} {y : MethodName} {md' : zMD} {av st0 : List Value} {P : Int → zW → Prop} (hd : Dc md pc (.invokestatic idx) 3 pc') (hl9 : SLk md.1 idx y md' n) (ho : hOk md md') (ct : Ct en ks y md' av M (pX P)) (hst : st0 = av.reverse ++ st) (hn : av.length = n) (hW : (st.map fun v => v.category).sum ≤ 8) (k : ∀ x M', P x M' → Z en ks cx md M' pc' lv (vi x :: st)) : Z en ks cx md M pc lv st0 :=
  z_callS hd hl9 ho ct hst hn hW (fun r N h => by obtain ⟨x, rfl, h⟩ := h; exact k x N h)
theorem z_sY {idx n : Nat} {y : MethodName} {md' : zMD} {av st0 : List Value} {P : Int → zW → Prop} (hd : Dc md pc (.invokestatic idx) 3 pc') (hl9 : SLk md.1 idx y md' n) (ho : hOk md md') (ct : Ct en ks y md' av M (pY P)) (hst : st0 = av.reverse ++ st) (hn : av.length = n) (hW : (st.map fun v => v.category).sum ≤ 8) (k : ∀ x M', P x M' → Z en ks cx md M' pc' lv (vl x :: st)) : Z en ks cx md M pc lv st0 :=
  z_callS hd hl9 ho ct hst hn hW (fun r N h => by obtain ⟨x, rfl, h⟩ := h; exact k x N h)
theorem z_sN {idx n : Nat} {y : MethodName} {md' : zMD} {av st0 : List Value} {P : zW → Prop} (hd : Dc md pc (.invokestatic idx) 3 pc') (hl9 : SLk md.1 idx y md' n) (ho : hOk md md') (ct : Ct en ks y md' av M (pN P)) (hst : st0 = av.reverse ++ st) (hn : av.length = n) (hW : (st.map fun v => v.category).sum ≤ 8) (k : ∀ M', P M' → Z en ks cx md M' pc' lv st) : Z en ks cx md M pc lv st0 :=
  z_callS hd hl9 ho ct hst hn hW (fun r N h => by obtain ⟨rfl, h⟩ := h; exact k N h)
theorem z_vX {idx n a ci : Nat} {C : String} {y : MethodName} {md' : zMD} {As st0 : List Value} {P : Int → zW → Prop} (hd : Dc md pc (.invokevirtual idx) 3 pc') (hl9 : VLk md.1 idx C y md' n) (ho : hOk md md') (hk : a ∈ ks) (ha : IsO a ci) (hci : (vwCl[ci]?).map (fun q => q.1) = some C) (ct : Ct en ks y md' (rf en a :: As) M (pX P)) (hst : st0 = As.reverse ++ rf en a :: st) (hn : As.length = n) (hW : (st.map fun v => v.category).sum ≤ 8) (k : ∀ x M', P x M' → Z en ks cx md M' pc' lv (vi x :: st)) : Z en ks cx md M pc lv st0 :=
  z_callV hd hl9 ho hk ha hci ct hst hn hW (fun r N h => by obtain ⟨x, rfl, h⟩ := h; exact k x N h)
theorem z_vY {idx n a ci : Nat} {C : String} {y : MethodName} {md' : zMD} {As st0 : List Value} {P : Int → zW → Prop} (hd : Dc md pc (.invokevirtual idx) 3 pc') (hl9 : VLk md.1 idx C y md' n) (ho : hOk md md') (hk : a ∈ ks) (ha : IsO a ci) (hci : (vwCl[ci]?).map (fun q => q.1) = some C) (ct : Ct en ks y md' (rf en a :: As) M (pY P)) (hst : st0 = As.reverse ++ rf en a :: st) (hn : As.length = n) (hW : (st.map fun v => v.category).sum ≤ 8) (k : ∀ x M', P x M' → Z en ks cx md M' pc' lv (vl x :: st)) : Z en ks cx md M pc lv st0 :=
  z_callV hd hl9 ho hk ha hci ct hst hn hW (fun r N h => by obtain ⟨x, rfl, h⟩ := h; exact k x N h)
theorem z_vN {idx n a ci : Nat} {C : String} {y : MethodName} {md' : zMD} {As st0 : List Value} {P : zW → Prop} (hd : Dc md pc (.invokevirtual idx) 3 pc') (hl9 : VLk md.1 idx C y md' n) (ho : hOk md md') (hk : a ∈ ks) (ha : IsO a ci) (hci : (vwCl[ci]?).map (fun q => q.1) = some C) (ct : Ct en ks y md' (rf en a :: As) M (pN P)) (hst : st0 = As.reverse ++ rf en a :: st) (hn : As.length = n) (hW : (st.map fun v => v.category).sum ≤ 8) (k : ∀ M', P M' → Z en ks cx md M' pc' lv st) : Z en ks cx md M pc lv st0 :=
  z_callV hd hl9 ho hk ha hci ct hst hn hW (fun r N h => by obtain ⟨rfl, h⟩ := h; exact k N h)
end ZR
