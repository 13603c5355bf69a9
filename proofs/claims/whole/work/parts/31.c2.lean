/-! the class's reading -/
/-- from, to, days as one table -/
def tR (F G D : Int → Int) (j : Int) : Int := if j % 3 = 0 then F (j / 3) else if j % 3 = 1 then G (j / 3) else D (j / 3)
/-- what Persons.takes lays down -/
def pst (k b : Int) : Int := if k = 2 then (if b = 98 then 1 else if b = 99 then 2 else 0) else if k = 4 then (if b = 46 then -1 else b - 97) else if k = 0 then b - 97 else b - 48
def tP (A G K H S : Int → Int) (j : Int) : Int := if j % 5 = 0 then A (j / 5) else if j % 5 = 1 then G (j / 5) else if j % 5 = 2 then K (j / 5) else if j % 5 = 3 then H (j / 5) else S (j / 5)
theorem tR_0 (F G D : Int → Int) (q : Int) : tR F G D (3 * q) = F q := by unfold tR; rw [if_pos (by omega)]; congr 1; omega
theorem tR_1 (F G D : Int → Int) (q : Int) : tR F G D (3 * q + 1) = G q := by unfold tR; rw [if_neg (by omega), if_pos (by omega)]; congr 1; omega
theorem tR_2 (F G D : Int → Int) (q : Int) : tR F G D (3 * q + 2) = D q := by unfold tR; rw [if_neg (by omega), if_neg (by omega)]; congr 1; omega
theorem tP_0 (A G K H S : Int → Int) (q : Int) : tP A G K H S (5 * q) = A q := by unfold tP; rw [if_pos (by omega)]; congr 1; omega
theorem tP_1 (A G K H S : Int → Int) (q : Int) : tP A G K H S (5 * q + 1) = G q := by unfold tP; rw [if_neg (by omega), if_pos (by omega)]; congr 1; omega
theorem tP_2 (A G K H S : Int → Int) (q : Int) : tP A G K H S (5 * q + 2) = K q := by unfold tP; rw [if_neg (by omega), if_neg (by omega), if_pos (by omega)]; congr 1; omega
theorem tP_3 (A G K H S : Int → Int) (q : Int) : tP A G K H S (5 * q + 3) = H q := by unfold tP; rw [if_neg (by omega), if_neg (by omega), if_neg (by omega), if_pos (by omega)]; congr 1; omega
theorem tP_4 (A G K H S : Int → Int) (q : Int) : tP A G K H S (5 * q + 4) = S q := by unfold tP; rw [if_neg (by omega), if_neg (by omega), if_neg (by omega), if_neg (by omega)]; congr 1; omega
theorem pst_ok (k b : Int) (h0 : 0 ≤ k ∧ k ≤ 4) (h : tel k b ≠ -9) : pst k b = tel k b := by
  have hk : k = 0 ∨ k = 1 ∨ k = 2 ∨ k = 3 ∨ k = 4 := by omega
  unfold tel at h ⊢
  unfold pst
  unfold wthn at *
  rcases hk with rfl | rfl | rfl | rfl | rfl <;> simp at h ⊢ <;> (repeat' split) <;> (first | omega | simp_all)
theorem tel_b (k b : Int) (h0 : 0 ≤ k ∧ k ≤ 4) : tel k b ≠ -9 ↔ (k = 2 ∧ (b = 111 ∨ b = 98 ∨ b = 99)) ∨ (k = 4 ∧ (b = 46 ∨ (97 ≤ b ∧ b ≤ 104))) ∨ (k = 0 ∧ 97 ≤ b ∧ b ≤ 104) ∨ ((k = 1 ∨ k = 3) ∧ 48 ≤ b ∧ b ≤ 57) := by
  have hk : k = 0 ∨ k = 1 ∨ k = 2 ∨ k = 3 ∨ k = 4 := by omega
  unfold tel
  unfold wthn
  rcases hk with rfl | rfl | rfl | rfl | rfl <;> simp <;> (repeat' split) <;> omega
def raIT (B : Int → Int) (F G D : Int → Int) (m : Int) : Prop := ∀ j, 0 ≤ j → j < m → j % 4 < 3 → tR F G D (3 * (j / 4) + j % 4) = rV B j
def raIG (B : Int → Int) (x1 x2 x3 : Int) (F G D : Int → Int) : Prop := (x1 = x3 / 4 ∧ x2 = x3 % 4) ∧ (∀ j, 0 ≤ j → j < x3 → ¬ rBad B j) ∧ raIT B F G D x3
def raI (B : Int → Int) (n x1 x2 x3 fl : Int) (F G D : Int → Int) : Prop := (0 ≤ x3 ∧ x3 ≤ n) ∧ ((fl = -1 ∧ raIG B x1 x2 x3 F G D) ∨ ((fl = x3 - 1 ∧ 0 < x3 ∧ (0 ≤ x1 ∧ x1 ≤ 12) ∧ (0 ≤ x2 ∧ x2 ≤ 3)) ∧ rBad B (x3 - 1) ∧ ∀ j, 0 ≤ j → j < x3 - 1 → ¬ rBad B j))
theorem raI_0 (B : Int → Int) {n : Int} (hn : 0 ≤ n) (F G D : Int → Int) : raI B n 0 0 0 (-1) F G D := ⟨by omega, Or.inl ⟨rfl, by decide, fun j a b => absurd b (by omega), fun j a b => absurd b (by omega)⟩⟩
theorem raI_bad {B : Int → Int} {n x1 x2 x3 : Int} {F G D : Int → Int} (F' G' D' : Int → Int) {y1 y2 : Int} (hx : 0 ≤ x3 ∧ x3 < n) (hy : (0 ≤ y1 ∧ y1 ≤ 12) ∧ (0 ≤ y2 ∧ y2 ≤ 3)) (h : raIG B x1 x2 x3 F G D) (hb : rBad B x3) : raI B n y1 y2 (x3 + 1) x3 F' G' D' := ⟨by omega, Or.inr ⟨by omega, by rw [show x3 + 1 - 1 = x3 by omega]; exact hb, fun j a b => h.2.1 j a (by omega)⟩⟩
theorem raI_semi {B : Int → Int} {n x1 x2 x3 : Int} {F G D : Int → Int} (hx : 0 ≤ x3 ∧ x3 < n) (h : raIG B x1 x2 x3 F G D) (hw : x2 = 3) (hb : ¬ rBad B x3) : raI B n (x1 + 1) 0 (x3 + 1) (-1) F G D := by
  obtain ⟨⟨h1, h2⟩, h3, h4⟩ := id h
  exact ⟨by omega, Or.inl ⟨rfl, ⟨by omega, by omega⟩, (fun j a b => if z : j < x3 then h.2.1 j a z else (by rw [show j = x3 by omega]; exact hb)), fun j a b c => h4 j a (by omega) c⟩⟩
theorem raI_t0 {B : Int → Int} {n x1 x2 x3 : Int} {F G D : Int → Int} {v : Int} (hx : 0 ≤ x3 ∧ x3 < n) (h : raIG B x1 x2 x3 F G D) (hw : x2 = 0) (hb : ¬ rBad B x3) (hv : v = rV B x3) : raI B n x1 (x2 + 1) (x3 + 1) (-1) (up F x1 v) G D := by
  obtain ⟨⟨h1, h2⟩, h3, h4⟩ := id h
  refine ⟨by omega, Or.inl ⟨rfl, ⟨by omega, by omega⟩, (fun j a b => if z : j < x3 then h.2.1 j a z else (by rw [show j = x3 by omega]; exact hb)), fun j a b c => ?_⟩⟩
  by_cases z : j = x3
  · subst z
    rw [show 3 * (j / 4) + j % 4 = 3 * x1 by omega, tR_0, up_s, hv]
  · rw [← h4 j a (by omega) c]
    unfold tR
    repeat' split
    all_goals first | rfl | (rw [up_n _ _ (by omega)]) | omega
theorem raI_t1 {B : Int → Int} {n x1 x2 x3 : Int} {F G D : Int → Int} {v : Int} (hx : 0 ≤ x3 ∧ x3 < n) (h : raIG B x1 x2 x3 F G D) (hw : x2 = 1) (hb : ¬ rBad B x3) (hv : v = rV B x3) : raI B n x1 (x2 + 1) (x3 + 1) (-1) F (up G x1 v) D := by
  obtain ⟨⟨h1, h2⟩, h3, h4⟩ := id h
  refine ⟨by omega, Or.inl ⟨rfl, ⟨by omega, by omega⟩, (fun j a b => if z : j < x3 then h.2.1 j a z else (by rw [show j = x3 by omega]; exact hb)), fun j a b c => ?_⟩⟩
  by_cases z : j = x3
  · subst z
    rw [show 3 * (j / 4) + j % 4 = 3 * x1 + 1 by omega, tR_1, up_s, hv]
  · rw [← h4 j a (by omega) c]
    unfold tR
    repeat' split
    all_goals first | rfl | (rw [up_n _ _ (by omega)]) | omega
theorem raI_t2 {B : Int → Int} {n x1 x2 x3 : Int} {F G D : Int → Int} {v : Int} (hx : 0 ≤ x3 ∧ x3 < n) (h : raIG B x1 x2 x3 F G D) (hw : x2 = 2) (hb : ¬ rBad B x3) (hv : v = rV B x3) : raI B n x1 (x2 + 1) (x3 + 1) (-1) F G (up D x1 v) := by
  obtain ⟨⟨h1, h2⟩, h3, h4⟩ := id h
  refine ⟨by omega, Or.inl ⟨rfl, ⟨by omega, by omega⟩, (fun j a b => if z : j < x3 then h.2.1 j a z else (by rw [show j = x3 by omega]; exact hb)), fun j a b c => ?_⟩⟩
  by_cases z : j = x3
  · subst z
    rw [show 3 * (j / 4) + j % 4 = 3 * x1 + 2 by omega, tR_2, up_s, hv]
  · rw [← h4 j a (by omega) c]
    unfold tR
    repeat' split
    all_goals first | rfl | (rw [up_n _ _ (by omega)]) | omega
theorem raI_e1 {B : Int → Int} {n x1 x2 x3 fl : Int} {F G D : Int → Int} (h : raI B n x1 x2 x3 fl F G D) (hf : fl ≠ -1) : rdF B n fl := by
  obtain ⟨h1, ⟨h2, -⟩ | ⟨⟨h2, h3, -⟩, h4, h5⟩⟩ := h
  · exact absurd h2 hf
  · subst h2; exact Or.inl ⟨by omega, by omega, h4, h5⟩
theorem raI_e2 {B : Int → Int} {n x1 x2 : Int} {F G D : Int → Int} (h : raIG B x1 x2 n F G D) (hn : 0 < n) (hw : x2 < 3) : rdF B n n := Or.inr (Or.inl ⟨rfl, hn, by have := h.1; omega, h.2.1⟩)
theorem raI_e3 {B : Int → Int} {n x1 x2 : Int} {F G D : Int → Int} (h : raIG B x1 x2 n F G D) (h0 : 0 ≤ n) (hn : n ≤ 0 ∨ 3 ≤ x2) : rdF B n (-1) := Or.inr (Or.inr ⟨rfl, by have := h.1; omega, h.2.1⟩)
def paIT (B : Int → Int) (A G K H S : Int → Int) (m : Int) : Prop := ∀ j, 0 ≤ j → j < m → j % 6 < 5 → tP A G K H S (5 * (j / 6) + j % 6) = pVl B j
def paIG (B : Int → Int) (x1 x2 x3 : Int) (A G K H S : Int → Int) : Prop := (x1 = x3 / 6 ∧ x2 = x3 % 6) ∧ (∀ j, 0 ≤ j → j < x3 → ¬ pBad B j) ∧ paIT B A G K H S x3
def paI (B : Int → Int) (n x1 x2 x3 fl : Int) (A G K H S : Int → Int) : Prop := (0 ≤ x3 ∧ x3 ≤ n) ∧ ((fl = -1 ∧ paIG B x1 x2 x3 A G K H S) ∨ ((fl = x3 - 1 ∧ 0 < x3 ∧ (0 ≤ x1 ∧ x1 ≤ 8) ∧ (0 ≤ x2 ∧ x2 ≤ 5)) ∧ pBad B (x3 - 1) ∧ ∀ j, 0 ≤ j → j < x3 - 1 → ¬ pBad B j))
theorem paI_0 (B : Int → Int) {n : Int} (hn : 0 ≤ n) (A G K H S : Int → Int) : paI B n 0 0 0 (-1) A G K H S := ⟨by omega, Or.inl ⟨rfl, by decide, fun j a b => absurd b (by omega), fun j a b => absurd b (by omega)⟩⟩
theorem paI_bad {B : Int → Int} {n x1 x2 x3 : Int} {A G K H S : Int → Int} (A' G' K' H' S' : Int → Int) {y1 y2 : Int} (hx : 0 ≤ x3 ∧ x3 < n) (hy : (0 ≤ y1 ∧ y1 ≤ 8) ∧ (0 ≤ y2 ∧ y2 ≤ 5)) (h : paIG B x1 x2 x3 A G K H S) (hb : pBad B x3) : paI B n y1 y2 (x3 + 1) x3 A' G' K' H' S' := ⟨by omega, Or.inr ⟨by omega, by rw [show x3 + 1 - 1 = x3 by omega]; exact hb, fun j a b => h.2.1 j a (by omega)⟩⟩
theorem paI_semi {B : Int → Int} {n x1 x2 x3 : Int} {A G K H S : Int → Int} (hx : 0 ≤ x3 ∧ x3 < n) (h : paIG B x1 x2 x3 A G K H S) (hw : x2 = 5) (hb : ¬ pBad B x3) : paI B n (x1 + 1) 0 (x3 + 1) (-1) A G K H S := by
  obtain ⟨⟨h1, h2⟩, h3, h4⟩ := id h
  exact ⟨by omega, Or.inl ⟨rfl, ⟨by omega, by omega⟩, (fun j a b => if z : j < x3 then h.2.1 j a z else (by rw [show j = x3 by omega]; exact hb)), fun j a b c => h4 j a (by omega) c⟩⟩
theorem paI_t0 {B : Int → Int} {n x1 x2 x3 : Int} {A G K H S : Int → Int} {v : Int} (hx : 0 ≤ x3 ∧ x3 < n) (h : paIG B x1 x2 x3 A G K H S) (hw : x2 = 0) (hb : ¬ pBad B x3) (hv : v = pVl B x3) : paI B n x1 (x2 + 1) (x3 + 1) (-1) (up A x1 v) G K H S := by
  obtain ⟨⟨h1, h2⟩, h3, h4⟩ := id h
  refine ⟨by omega, Or.inl ⟨rfl, ⟨by omega, by omega⟩, (fun j a b => if z : j < x3 then h.2.1 j a z else (by rw [show j = x3 by omega]; exact hb)), fun j a b c => ?_⟩⟩
  by_cases z : j = x3
  · subst z
    rw [show 5 * (j / 6) + j % 6 = 5 * x1 by omega, tP_0, up_s, hv]
  · rw [← h4 j a (by omega) c]
    unfold tP
    repeat' split
    all_goals first | rfl | (rw [up_n _ _ (by omega)]) | omega
theorem paI_t1 {B : Int → Int} {n x1 x2 x3 : Int} {A G K H S : Int → Int} {v : Int} (hx : 0 ≤ x3 ∧ x3 < n) (h : paIG B x1 x2 x3 A G K H S) (hw : x2 = 1) (hb : ¬ pBad B x3) (hv : v = pVl B x3) : paI B n x1 (x2 + 1) (x3 + 1) (-1) A (up G x1 v) K H S := by
  obtain ⟨⟨h1, h2⟩, h3, h4⟩ := id h
  refine ⟨by omega, Or.inl ⟨rfl, ⟨by omega, by omega⟩, (fun j a b => if z : j < x3 then h.2.1 j a z else (by rw [show j = x3 by omega]; exact hb)), fun j a b c => ?_⟩⟩
  by_cases z : j = x3
  · subst z
    rw [show 5 * (j / 6) + j % 6 = 5 * x1 + 1 by omega, tP_1, up_s, hv]
  · rw [← h4 j a (by omega) c]
    unfold tP
    repeat' split
    all_goals first | rfl | (rw [up_n _ _ (by omega)]) | omega
theorem paI_t2 {B : Int → Int} {n x1 x2 x3 : Int} {A G K H S : Int → Int} {v : Int} (hx : 0 ≤ x3 ∧ x3 < n) (h : paIG B x1 x2 x3 A G K H S) (hw : x2 = 2) (hb : ¬ pBad B x3) (hv : v = pVl B x3) : paI B n x1 (x2 + 1) (x3 + 1) (-1) A G (up K x1 v) H S := by
  obtain ⟨⟨h1, h2⟩, h3, h4⟩ := id h
  refine ⟨by omega, Or.inl ⟨rfl, ⟨by omega, by omega⟩, (fun j a b => if z : j < x3 then h.2.1 j a z else (by rw [show j = x3 by omega]; exact hb)), fun j a b c => ?_⟩⟩
  by_cases z : j = x3
  · subst z
    rw [show 5 * (j / 6) + j % 6 = 5 * x1 + 2 by omega, tP_2, up_s, hv]
  · rw [← h4 j a (by omega) c]
    unfold tP
    repeat' split
    all_goals first | rfl | (rw [up_n _ _ (by omega)]) | omega
theorem paI_t3 {B : Int → Int} {n x1 x2 x3 : Int} {A G K H S : Int → Int} {v : Int} (hx : 0 ≤ x3 ∧ x3 < n) (h : paIG B x1 x2 x3 A G K H S) (hw : x2 = 3) (hb : ¬ pBad B x3) (hv : v = pVl B x3) : paI B n x1 (x2 + 1) (x3 + 1) (-1) A G K (up H x1 v) S := by
  obtain ⟨⟨h1, h2⟩, h3, h4⟩ := id h
  refine ⟨by omega, Or.inl ⟨rfl, ⟨by omega, by omega⟩, (fun j a b => if z : j < x3 then h.2.1 j a z else (by rw [show j = x3 by omega]; exact hb)), fun j a b c => ?_⟩⟩
  by_cases z : j = x3
  · subst z
    rw [show 5 * (j / 6) + j % 6 = 5 * x1 + 3 by omega, tP_3, up_s, hv]
  · rw [← h4 j a (by omega) c]
    unfold tP
    repeat' split
    all_goals first | rfl | (rw [up_n _ _ (by omega)]) | omega
theorem paI_t4 {B : Int → Int} {n x1 x2 x3 : Int} {A G K H S : Int → Int} {v : Int} (hx : 0 ≤ x3 ∧ x3 < n) (h : paIG B x1 x2 x3 A G K H S) (hw : x2 = 4) (hb : ¬ pBad B x3) (hv : v = pVl B x3) : paI B n x1 (x2 + 1) (x3 + 1) (-1) A G K H (up S x1 v) := by
  obtain ⟨⟨h1, h2⟩, h3, h4⟩ := id h
  refine ⟨by omega, Or.inl ⟨rfl, ⟨by omega, by omega⟩, (fun j a b => if z : j < x3 then h.2.1 j a z else (by rw [show j = x3 by omega]; exact hb)), fun j a b c => ?_⟩⟩
  by_cases z : j = x3
  · subst z
    rw [show 5 * (j / 6) + j % 6 = 5 * x1 + 4 by omega, tP_4, up_s, hv]
  · rw [← h4 j a (by omega) c]
    unfold tP
    repeat' split
    all_goals first | rfl | (rw [up_n _ _ (by omega)]) | omega
theorem paI_e1 {B : Int → Int} {n x1 x2 x3 fl : Int} {A G K H S : Int → Int} (h : paI B n x1 x2 x3 fl A G K H S) (hf : fl ≠ -1) : pdF B n fl := by
  obtain ⟨h1, ⟨h2, -⟩ | ⟨⟨h2, h3, -⟩, h4, h5⟩⟩ := h
  · exact absurd h2 hf
  · subst h2; exact Or.inl ⟨by omega, by omega, h4, h5⟩
theorem paI_e2 {B : Int → Int} {n x1 x2 : Int} {A G K H S : Int → Int} (h : paIG B x1 x2 n A G K H S) (hn : 0 < n) (hw : x2 < 5) : pdF B n n := Or.inr (Or.inl ⟨rfl, hn, by have := h.1; omega, h.2.1⟩)
theorem paI_e3 {B : Int → Int} {n x1 x2 : Int} {A G K H S : Int → Int} (h : paIG B x1 x2 n A G K H S) (h0 : 0 ≤ n) (hn : n ≤ 0 ∨ 5 ≤ x2) : pdF B n (-1) := Or.inr (Or.inr ⟨rfl, by have := h.1; omega, h.2.1⟩)
theorem ra_F {B : Int → Int} {x1 x2 x3 : Int} {F G D : Int → Int} (h0 : 0 ≤ x3) (h : raIG B x1 x2 x3 F G D) (hw : x2 = 1) : F x1 = rV B (x3 - 1) := by
  obtain ⟨⟨h1, h2⟩, h3, h4⟩ := h
  have := h4 (x3 - 1) (by omega) (by omega) (by omega)
  rw [show 3 * ((x3 - 1) / 4) + (x3 - 1) % 4 = 3 * x1 by omega, tR_0] at this
  exact this
theorem rb_3 {B : Int → Int} {x : Int} (h : x % 4 = 3) : rBad B x ↔ B x ≠ 59 := by
  unfold rBad rV; rw [if_pos h]; unfold wthn; split <;> omega
theorem rb_0 {B : Int → Int} {x : Int} (h : x % 4 = 0) : rBad B x ↔ ¬ (0 ≤ B x - 97 ∧ B x - 97 ≤ 7) := by
  unfold rBad rV; rw [if_neg (by omega), if_neg (by omega)]; unfold wthn; split <;> omega
theorem rv_01 {B : Int → Int} {x : Int} (h : x % 4 = 0 ∨ x % 4 = 1) (hb : 0 ≤ B x - 97 ∧ B x - 97 ≤ 7) : B x - 97 = rV B x := by
  unfold rV; rw [if_neg (by omega), if_neg (by omega)]; unfold wthn; rw [if_pos (by omega)]
theorem rb_1 {B : Int → Int} {x : Int} (h : x % 4 = 1) : rBad B x ↔ ¬ ((0 ≤ B x - 97 ∧ B x - 97 ≤ 7) ∧ B x - 97 ≠ rV B (x - 1)) := by
  have e : rV B x = if 97 ≤ B x ∧ B x ≤ 104 then B x - 97 else -9 := by unfold rV; rw [if_neg (by omega), if_neg (by omega)]; rfl
  unfold rBad; rw [e]; split <;> omega
theorem rb_2 {B : Int → Int} {x : Int} (h : x % 4 = 2) : rBad B x ↔ ¬ (1 ≤ B x - 48 ∧ B x - 48 ≤ 9) := by
  unfold rBad rV; rw [if_neg (by omega), if_pos h]; unfold wthn; split <;> omega
theorem rv_2 {B : Int → Int} {x : Int} (h : x % 4 = 2) (hb : 1 ≤ B x - 48 ∧ B x - 48 ≤ 9) : B x - 48 = rV B x := by
  unfold rV; rw [if_neg (by omega), if_pos h]; unfold wthn; rw [if_pos (by omega)]; omega
theorem pb_5 {B : Int → Int} {x : Int} (h : x % 6 = 5) : pBad B x ↔ B x ≠ 59 := by
  unfold pBad pVl; rw [h]; show wthn (B x) 59 59 = -9 ↔ _; unfold wthn; split <;> omega
theorem pb_k {B : Int → Int} {x k : Int} (h : x % 6 = k) : pBad B x ↔ ¬ (tel k (B x) ≠ -9) := by
  unfold pBad pVl; rw [h]; exact ⟨fun a b => b a, fun a => Decidable.byContradiction a⟩
theorem pv_k {B : Int → Int} {x k : Int} (h : x % 6 = k) (h0 : 0 ≤ k ∧ k ≤ 4) (hb : tel k (B x) ≠ -9) : pst k (B x) = pVl B x := by
  rw [pst_ok k _ h0 hb]; unfold pVl; rw [h]
set_option maxRecDepth 100000 in
theorem ct_X3_takes (en : zE) (M : zW) (F : Int → Int) (G : Int → Int) (D : Int → Int) (wF : M 19 = F) (wG : M 20 = G) (wD : M 21 = D) (it : Int) (sp : Int) (b : Int) (h0 : (0 ≤ it ∧ it ≤ 11) ∧ (0 ≤ sp ∧ sp ≤ 2) ∧ (0 ≤ b ∧ b ≤ 255)) (hF : sp = 1 → -1000 ≤ F it ∧ F it ≤ 1000) : Ct en kA yX3_takes mX3_takes [rf en 1, vi it, vi sp, vi b] M (pX (fun x N => (sp = 0 ∧ x = bi ((0 ≤ b - 97 ∧ b - 97 ≤ 7)) ∧ upR M 19 (up F it (b - 97)) = N) ∨ (sp = 1 ∧ x = bi ((0 ≤ b - 97 ∧ b - 97 ≤ 7) ∧ b - 97 ≠ F it) ∧ upR M 20 (up G it (b - 97)) = N) ∨ (sp = 2 ∧ x = bi (1 ≤ b - 48 ∧ b - 48 ≤ 9) ∧ upR M 21 (up D it (b - 48)) = N))) := by
  refine Ct.of (by decide +kernel) rfl [(0, rf en 1), (1, vi it), (2, vi sp), (3, vi b)] rfl (Nat.le_of_ble_eq_true rfl) (fun cx C => ?_)
  refine z_iload_n 1 dX3_takes_0 rfl ?_
  refine z_bipush dX3_takes_1 rfl ?_
  refine z_nI dX3_takes_3 lX3_28 (by decide) (ct_X6_within en M _ (11) (by omega)) rfl rfl (by exact Nat.le_of_ble_eq_true rfl) ?_
  refine z_ifne_b (tgt := 11) dX3_takes_6 rfl (fun uc6 => ?_) (fun uc6 => absurd uc6 (by omega))
  refine z_iload_n 2 dX3_takes_11 rfl ?_
  refine z_top (fun usw12 eusw12 => ?_)
  by_cases uk12_0 : usw12 = 0
  ·
    refine z_lsw (tgt := 40) (off := 28) dX3_takes_12 (by omega) (by decide) (by rw [uk12_0]; decide) rfl ?_
    refine z_aload_n 0 dX3_takes_40 rfl ?_
    refine z_getR dX3_takes_41 fX3_9_3 i1_5 ka1 ?_
    refine z_iload_n 1 dX3_takes_44 rfl ?_
    refine z_iload_n 3 dX3_takes_45 rfl ?_
    refine z_bipush dX3_takes_46 rfl ?_
    refine z_isub dX3_takes_48 ?_
    refine z_iast (r := F) dX3_takes_49 is19 ka19 (wF) (by omega) (fun r19_49 f19_49 => ?_)
    refine z_aload_n 0 dX3_takes_50 rfl ?_
    refine z_getR dX3_takes_51 fX3_9_3 i1_5 ka1 ?_
    refine z_iload_n 1 dX3_takes_54 rfl ?_
    refine z_iald (r := r19_49) dX3_takes_55 is19 ka19 (rfl) (by omega) ?_
    have uv1 : r19_49 it = b - 97 := by rw [f19_49, up_s]
    refine z_nI dX3_takes_56 lX3_32 (by decide) (ct_X6_isTown en (upR M 19 r19_49) _ (by omega)) rfl rfl (by exact Nat.le_of_ble_eq_true rfl) ?_
    exact z_zret C dX3_takes_59 rfl (by first | exact bi_01 | decide | omega) ⟨_, rfl, Or.inl ⟨by omega, by rw [uv1], by rw [f19_49]⟩⟩
  by_cases uk12_1 : usw12 = 1
  ·
    refine z_lsw (tgt := 60) (off := 48) dX3_takes_12 (by omega) (by decide) (by rw [uk12_1]; decide) rfl ?_
    refine z_aload_n 0 dX3_takes_60 rfl ?_
    refine z_getR dX3_takes_61 fX3_15_3 i1_6 ka1 ?_
    refine z_iload_n 1 dX3_takes_64 rfl ?_
    refine z_iload_n 3 dX3_takes_65 rfl ?_
    refine z_bipush dX3_takes_66 rfl ?_
    refine z_isub dX3_takes_68 ?_
    refine z_iast (r := G) dX3_takes_69 is20 ka20 (wG) (by omega) (fun r20_69 f20_69 => ?_)
    refine z_aload_n 0 dX3_takes_70 rfl ?_
    refine z_getR dX3_takes_71 fX3_15_3 i1_6 ka1 ?_
    refine z_iload_n 1 dX3_takes_74 rfl ?_
    refine z_iald (r := r20_69) dX3_takes_75 is20 ka20 (rfl) (by omega) ?_
    have uv1 : r20_69 it = b - 97 := by rw [f20_69, up_s]
    refine z_nI dX3_takes_76 lX3_32 (by decide) (ct_X6_isTown en (upR M 20 r20_69) _ (by omega)) rfl rfl (by exact Nat.le_of_ble_eq_true rfl) ?_
    refine z_ifeq_b (tgt := 101) dX3_takes_79 rfl (fun uc79 => ?_) (fun uc79 => ?_)
    ·
      refine z_iconst dX3_takes_101 ?_
      exact z_zret C dX3_takes_102 rfl (by first | exact bi_01 | decide | omega) ⟨_, rfl, Or.inr (Or.inl ⟨by omega, bi0 (by omega), by rw [f20_69]⟩)⟩
    ·
      have uhF := hF (by omega)
      refine z_aload_n 0 dX3_takes_82 rfl ?_
      refine z_getR dX3_takes_83 fX3_15_3 i1_6 ka1 ?_
      refine z_iload_n 1 dX3_takes_86 rfl ?_
      refine z_iald (r := r20_69) dX3_takes_87 is20 ka20 (rfl) (by omega) ?_
      refine z_aload_n 0 dX3_takes_88 rfl ?_
      refine z_getR dX3_takes_89 fX3_9_3 i1_5 ka1 ?_
      refine z_iload_n 1 dX3_takes_92 rfl ?_
      refine z_iald (r := F) dX3_takes_93 is19 ka19 (wF) (by omega) ?_
      refine z_icmp_eq (tgt := 101) dX3_takes_94 rfl (by omega) (fun uc94 => ?_) (fun uc94 => ?_)
      ·
        refine z_iconst dX3_takes_101 ?_
        exact z_zret C dX3_takes_102 rfl (by first | exact bi_01 | decide | omega) ⟨_, rfl, Or.inr (Or.inl ⟨by omega, bi0 (by omega), by rw [f20_69]⟩)⟩
      ·
        refine z_iconst dX3_takes_97 ?_
        refine z_goto (tgt := 102) dX3_takes_98 rfl ?_
        exact z_zret C dX3_takes_102 rfl (by first | exact bi_01 | decide | omega) ⟨_, rfl, Or.inr (Or.inl ⟨by omega, bi1 (by omega), by rw [f20_69]⟩)⟩
  refine z_lsw (tgt := 103) (off := 91) dX3_takes_12 (by omega) (by decide) (by first | rfl | (simp [Op.lookupswitch.offset]; omega)) rfl ?_
  refine z_aload_n 0 dX3_takes_103 rfl ?_
  refine z_getR dX3_takes_104 fX3_18_3 i1_7 ka1 ?_
  refine z_iload_n 1 dX3_takes_107 rfl ?_
  refine z_iload_n 3 dX3_takes_108 rfl ?_
  refine z_bipush dX3_takes_109 rfl ?_
  refine z_isub dX3_takes_111 ?_
  refine z_iast (r := D) dX3_takes_112 is21 ka21 (wD) (by omega) (fun r21_112 f21_112 => ?_)
  refine z_aload_n 0 dX3_takes_113 rfl ?_
  refine z_getR dX3_takes_114 fX3_18_3 i1_7 ka1 ?_
  refine z_iload_n 1 dX3_takes_117 rfl ?_
  refine z_iald (r := r21_112) dX3_takes_118 is21 ka21 (rfl) (by omega) ?_
  have uv1 : r21_112 it = b - 48 := by rw [f21_112, up_s]
  refine z_iconst dX3_takes_119 ?_
  refine z_icmp_lt (tgt := 138) dX3_takes_120 rfl (by omega) (fun uc120 => ?_) (fun uc120 => ?_)
  ·
    refine z_iconst dX3_takes_138 ?_
    exact z_zret C dX3_takes_139 rfl (by first | exact bi_01 | decide | omega) ⟨_, rfl, Or.inr (Or.inr ⟨by omega, bi0 (by omega), by rw [f21_112]⟩)⟩
  ·
    refine z_aload_n 0 dX3_takes_123 rfl ?_
    refine z_getR dX3_takes_124 fX3_18_3 i1_7 ka1 ?_
    refine z_iload_n 1 dX3_takes_127 rfl ?_
    refine z_iald (r := r21_112) dX3_takes_128 is21 ka21 (rfl) (by omega) ?_
    refine z_bipush dX3_takes_129 rfl ?_
    refine z_icmp_gt (tgt := 138) dX3_takes_131 rfl (by omega) (fun uc131 => ?_) (fun uc131 => ?_)
    ·
      refine z_iconst dX3_takes_138 ?_
      exact z_zret C dX3_takes_139 rfl (by first | exact bi_01 | decide | omega) ⟨_, rfl, Or.inr (Or.inr ⟨by omega, bi0 (by omega), by rw [f21_112]⟩)⟩
    ·
      refine z_iconst dX3_takes_134 ?_
      refine z_goto (tgt := 139) dX3_takes_135 rfl ?_
      exact z_zret C dX3_takes_139 rfl (by first | exact bi_01 | decide | omega) ⟨_, rfl, Or.inr (Or.inr ⟨by omega, bi1 (by omega), by rw [f21_112]⟩)⟩
set_option maxRecDepth 100000 in
theorem ct_X2_takes (en : zE) (M : zW) (A : Int → Int) (G : Int → Int) (K : Int → Int) (H : Int → Int) (S : Int → Int) (wA : M 24 = A) (wG : M 25 = G) (wK : M 26 = K) (wH : M 27 = H) (wS : M 28 = S) (it : Int) (sp : Int) (b : Int) (h0 : (0 ≤ it ∧ it ≤ 7) ∧ (0 ≤ sp ∧ sp ≤ 4) ∧ (0 ≤ b ∧ b ≤ 255)) : Ct en kA yX2_takes mX2_takes [rf en 2, vi it, vi sp, vi b] M (pX (fun x N => (sp = 0 ∧ x = bi (tel 0 b ≠ -9) ∧ upR M 24 (up A it (pst 0 b)) = N) ∨ (sp = 1 ∧ x = bi (tel 1 b ≠ -9) ∧ upR M 25 (up G it (pst 1 b)) = N) ∨ (sp = 2 ∧ x = bi (tel 2 b ≠ -9) ∧ upR M 26 (up K it (pst 2 b)) = N) ∨ (sp = 3 ∧ x = bi (tel 3 b ≠ -9) ∧ upR M 27 (up H it (pst 3 b)) = N) ∨ (sp = 4 ∧ x = bi (tel 4 b ≠ -9) ∧ upR M 28 (up S it (pst 4 b)) = N))) := by
  refine Ct.of (by decide +kernel) rfl [(0, rf en 2), (1, vi it), (2, vi sp), (3, vi b)] rfl (Nat.le_of_ble_eq_true rfl) (fun cx C => ?_)
  refine z_iload_n 1 dX2_takes_0 rfl ?_
  refine z_bipush dX2_takes_1 rfl ?_
  refine z_nI dX2_takes_3 lX2_27 (by decide) (ct_X6_within en M _ (7) (by omega)) rfl rfl (by exact Nat.le_of_ble_eq_true rfl) ?_
  refine z_ifne_b (tgt := 11) dX2_takes_6 rfl (fun uc6 => ?_) (fun uc6 => absurd uc6 (by omega))
  refine z_iload_n 2 dX2_takes_11 rfl ?_
  refine z_top (fun usw12 eusw12 => ?_)
  by_cases uk12_0 : usw12 = 0
  ·
    refine z_tsw (tgt := 44) (0) uk12_0 dX2_takes_12 (by decide) rfl rfl ?_
    refine z_aload_n 0 dX2_takes_44 rfl ?_
    refine z_getR dX2_takes_45 fX2_9_2 i2_5 ka2 ?_
    refine z_iload_n 1 dX2_takes_48 rfl ?_
    refine z_iload_n 3 dX2_takes_49 rfl ?_
    refine z_bipush dX2_takes_50 rfl ?_
    refine z_isub dX2_takes_52 ?_
    refine z_iast (r := A) dX2_takes_53 is24 ka24 (wA) (by omega) (fun r24_53 f24_53 => ?_)
    refine z_aload_n 0 dX2_takes_54 rfl ?_
    refine z_getR dX2_takes_55 fX2_9_2 i2_5 ka2 ?_
    refine z_iload_n 1 dX2_takes_58 rfl ?_
    refine z_iald (r := r24_53) dX2_takes_59 is24 ka24 (rfl) (by omega) ?_
    have uv1 : r24_53 it = b - 97 := by rw [f24_53, up_s]
    refine z_nI dX2_takes_60 lX2_31 (by decide) (ct_X6_isTown en (upR M 24 r24_53) _ (by omega)) rfl rfl (by exact Nat.le_of_ble_eq_true rfl) ?_
    exact z_zret C dX2_takes_63 rfl (by first | exact bi_01 | decide | omega) ⟨_, rfl, Or.inl ⟨by omega, bi_cong ⟨fun uz => (tel_b 0 b (by decide)).mpr (by omega), fun uz => by have uz2 := (tel_b 0 b (by decide)).mp uz; omega⟩, by rw [f24_53]; rfl⟩⟩
  by_cases uk12_1 : usw12 = 1
  ·
    refine z_tsw (tgt := 64) (1) uk12_1 dX2_takes_12 (by decide) rfl rfl ?_
    refine z_aload_n 0 dX2_takes_64 rfl ?_
    refine z_getR dX2_takes_65 fX2_15_2 i2_6 ka2 ?_
    refine z_iload_n 1 dX2_takes_68 rfl ?_
    refine z_iload_n 3 dX2_takes_69 rfl ?_
    refine z_bipush dX2_takes_70 rfl ?_
    refine z_isub dX2_takes_72 ?_
    refine z_iast (r := G) dX2_takes_73 is25 ka25 (wG) (by omega) (fun r25_73 f25_73 => ?_)
    refine z_aload_n 0 dX2_takes_74 rfl ?_
    refine z_getR dX2_takes_75 fX2_15_2 i2_6 ka2 ?_
    refine z_iload_n 1 dX2_takes_78 rfl ?_
    refine z_iald (r := r25_73) dX2_takes_79 is25 ka25 (rfl) (by omega) ?_
    have uv1 : r25_73 it = b - 48 := by rw [f25_73, up_s]
    refine z_bipush dX2_takes_80 rfl ?_
    refine z_nI dX2_takes_82 lX2_27 (by decide) (ct_X6_within en (upR M 25 r25_73) _ (9) (by omega)) rfl rfl (by exact Nat.le_of_ble_eq_true rfl) ?_
    exact z_zret C dX2_takes_85 rfl (by first | exact bi_01 | decide | omega) ⟨_, rfl, Or.inr (Or.inl ⟨by omega, bi_cong ⟨fun uz => (tel_b 1 b (by decide)).mpr (by omega), fun uz => by have uz2 := (tel_b 1 b (by decide)).mp uz; omega⟩, by rw [f25_73]; rfl⟩)⟩
  by_cases uk12_2 : usw12 = 2
  ·
    refine z_tsw (tgt := 86) (2) uk12_2 dX2_takes_12 (by decide) rfl rfl ?_
    refine z_aload_n 0 dX2_takes_86 rfl ?_
    refine z_getR dX2_takes_87 fX2_18_2 i2_7 ka2 ?_
    refine z_iload_n 1 dX2_takes_90 rfl ?_
    refine z_iload_n 3 dX2_takes_91 rfl ?_
    refine z_bipush dX2_takes_92 rfl ?_
    refine z_icmp_ne (tgt := 101) dX2_takes_94 rfl (by omega) (fun uc94 => ?_) (fun uc94 => ?_)
    ·
      refine z_iload_n 3 dX2_takes_101 rfl ?_
      refine z_bipush dX2_takes_102 rfl ?_
      refine z_icmp_ne (tgt := 111) dX2_takes_104 rfl (by omega) (fun uc104 => ?_) (fun uc104 => ?_)
      ·
        refine z_iconst dX2_takes_111 ?_
        refine z_iast (r := K) dX2_takes_112 is26 ka26 (wK) (by omega) (fun r26_112 f26_112 => ?_)
        refine z_iload_n 3 dX2_takes_113 rfl ?_
        refine z_bipush dX2_takes_114 rfl ?_
        refine z_icmp_eq (tgt := 131) dX2_takes_116 rfl (by omega) (fun uc116 => ?_) (fun uc116 => ?_)
        ·
          refine z_iconst dX2_takes_131 ?_
          refine z_goto (tgt := 136) dX2_takes_132 rfl ?_
          exact z_zret C dX2_takes_136 rfl (by first | exact bi_01 | decide | omega) ⟨_, rfl, Or.inr (Or.inr (Or.inl ⟨by omega, bi1 ((tel_b 2 b (by decide)).mpr (by omega)), by rw [f26_112]; congr 2; unfold pst; rw [if_pos rfl]; (repeat' split) <;> omega⟩))⟩
        ·
          refine z_iload_n 3 dX2_takes_119 rfl ?_
          refine z_bipush dX2_takes_120 rfl ?_
          refine z_icmp_eq (tgt := 131) dX2_takes_122 rfl (by omega) (fun uc122 => ?_) (fun uc122 => ?_)
          ·
            refine z_iconst dX2_takes_131 ?_
            refine z_goto (tgt := 136) dX2_takes_132 rfl ?_
            exact z_zret C dX2_takes_136 rfl (by first | exact bi_01 | decide | omega) ⟨_, rfl, Or.inr (Or.inr (Or.inl ⟨by omega, bi1 ((tel_b 2 b (by decide)).mpr (by omega)), by rw [f26_112]; congr 2; unfold pst; rw [if_pos rfl]; (repeat' split) <;> omega⟩))⟩
          ·
            refine z_iload_n 3 dX2_takes_125 rfl ?_
            refine z_bipush dX2_takes_126 rfl ?_
            refine z_icmp_ne (tgt := 135) dX2_takes_128 rfl (by omega) (fun uc128 => ?_) (fun uc128 => ?_)
            ·
              refine z_iconst dX2_takes_135 ?_
              exact z_zret C dX2_takes_136 rfl (by first | exact bi_01 | decide | omega) ⟨_, rfl, Or.inr (Or.inr (Or.inl ⟨by omega, bi0 (fun uz => by have uz2 := (tel_b 2 b (by decide)).mp uz; omega), by rw [f26_112]; congr 2; unfold pst; rw [if_pos rfl]; (repeat' split) <;> omega⟩))⟩
            ·
              refine z_iconst dX2_takes_131 ?_
              refine z_goto (tgt := 136) dX2_takes_132 rfl ?_
              exact z_zret C dX2_takes_136 rfl (by first | exact bi_01 | decide | omega) ⟨_, rfl, Or.inr (Or.inr (Or.inl ⟨by omega, bi1 ((tel_b 2 b (by decide)).mpr (by omega)), by rw [f26_112]; congr 2; unfold pst; rw [if_pos rfl]; (repeat' split) <;> omega⟩))⟩
      ·
        refine z_iconst dX2_takes_107 ?_
        refine z_goto (tgt := 112) dX2_takes_108 rfl ?_
        refine z_iast (r := K) dX2_takes_112 is26 ka26 (wK) (by omega) (fun r26_112 f26_112 => ?_)
        refine z_iload_n 3 dX2_takes_113 rfl ?_
        refine z_bipush dX2_takes_114 rfl ?_
        refine z_icmp_eq (tgt := 131) dX2_takes_116 rfl (by omega) (fun uc116 => ?_) (fun uc116 => ?_)
        ·
          refine z_iconst dX2_takes_131 ?_
          refine z_goto (tgt := 136) dX2_takes_132 rfl ?_
          exact z_zret C dX2_takes_136 rfl (by first | exact bi_01 | decide | omega) ⟨_, rfl, Or.inr (Or.inr (Or.inl ⟨by omega, bi1 ((tel_b 2 b (by decide)).mpr (by omega)), by rw [f26_112]; congr 2; unfold pst; rw [if_pos rfl]; (repeat' split) <;> omega⟩))⟩
        ·
          refine z_iload_n 3 dX2_takes_119 rfl ?_
          refine z_bipush dX2_takes_120 rfl ?_
          refine z_icmp_eq (tgt := 131) dX2_takes_122 rfl (by omega) (fun uc122 => ?_) (fun uc122 => ?_)
          ·
            refine z_iconst dX2_takes_131 ?_
            refine z_goto (tgt := 136) dX2_takes_132 rfl ?_
            exact z_zret C dX2_takes_136 rfl (by first | exact bi_01 | decide | omega) ⟨_, rfl, Or.inr (Or.inr (Or.inl ⟨by omega, bi1 ((tel_b 2 b (by decide)).mpr (by omega)), by rw [f26_112]; congr 2; unfold pst; rw [if_pos rfl]; (repeat' split) <;> omega⟩))⟩
          ·
            refine z_iload_n 3 dX2_takes_125 rfl ?_
            refine z_bipush dX2_takes_126 rfl ?_
            refine z_icmp_ne (tgt := 135) dX2_takes_128 rfl (by omega) (fun uc128 => ?_) (fun uc128 => ?_)
            ·
              refine z_iconst dX2_takes_135 ?_
              exact z_zret C dX2_takes_136 rfl (by first | exact bi_01 | decide | omega) ⟨_, rfl, Or.inr (Or.inr (Or.inl ⟨by omega, bi0 (fun uz => by have uz2 := (tel_b 2 b (by decide)).mp uz; omega), by rw [f26_112]; congr 2; unfold pst; rw [if_pos rfl]; (repeat' split) <;> omega⟩))⟩
            ·
              refine z_iconst dX2_takes_131 ?_
              refine z_goto (tgt := 136) dX2_takes_132 rfl ?_
              exact z_zret C dX2_takes_136 rfl (by first | exact bi_01 | decide | omega) ⟨_, rfl, Or.inr (Or.inr (Or.inl ⟨by omega, bi1 ((tel_b 2 b (by decide)).mpr (by omega)), by rw [f26_112]; congr 2; unfold pst; rw [if_pos rfl]; (repeat' split) <;> omega⟩))⟩
    ·
      refine z_iconst dX2_takes_97 ?_
      refine z_goto (tgt := 112) dX2_takes_98 rfl ?_
      refine z_iast (r := K) dX2_takes_112 is26 ka26 (wK) (by omega) (fun r26_112 f26_112 => ?_)
      refine z_iload_n 3 dX2_takes_113 rfl ?_
      refine z_bipush dX2_takes_114 rfl ?_
      refine z_icmp_eq (tgt := 131) dX2_takes_116 rfl (by omega) (fun uc116 => ?_) (fun uc116 => ?_)
      ·
        refine z_iconst dX2_takes_131 ?_
        refine z_goto (tgt := 136) dX2_takes_132 rfl ?_
        exact z_zret C dX2_takes_136 rfl (by first | exact bi_01 | decide | omega) ⟨_, rfl, Or.inr (Or.inr (Or.inl ⟨by omega, bi1 ((tel_b 2 b (by decide)).mpr (by omega)), by rw [f26_112]; congr 2; unfold pst; rw [if_pos rfl]; (repeat' split) <;> omega⟩))⟩
      ·
        refine z_iload_n 3 dX2_takes_119 rfl ?_
        refine z_bipush dX2_takes_120 rfl ?_
        refine z_icmp_eq (tgt := 131) dX2_takes_122 rfl (by omega) (fun uc122 => ?_) (fun uc122 => ?_)
        ·
          refine z_iconst dX2_takes_131 ?_
          refine z_goto (tgt := 136) dX2_takes_132 rfl ?_
          exact z_zret C dX2_takes_136 rfl (by first | exact bi_01 | decide | omega) ⟨_, rfl, Or.inr (Or.inr (Or.inl ⟨by omega, bi1 ((tel_b 2 b (by decide)).mpr (by omega)), by rw [f26_112]; congr 2; unfold pst; rw [if_pos rfl]; (repeat' split) <;> omega⟩))⟩
        ·
          refine z_iload_n 3 dX2_takes_125 rfl ?_
          refine z_bipush dX2_takes_126 rfl ?_
          refine z_icmp_ne (tgt := 135) dX2_takes_128 rfl (by omega) (fun uc128 => ?_) (fun uc128 => ?_)
          ·
            refine z_iconst dX2_takes_135 ?_
            exact z_zret C dX2_takes_136 rfl (by first | exact bi_01 | decide | omega) ⟨_, rfl, Or.inr (Or.inr (Or.inl ⟨by omega, bi0 (fun uz => by have uz2 := (tel_b 2 b (by decide)).mp uz; omega), by rw [f26_112]; congr 2; unfold pst; rw [if_pos rfl]; (repeat' split) <;> omega⟩))⟩
          ·
            refine z_iconst dX2_takes_131 ?_
            refine z_goto (tgt := 136) dX2_takes_132 rfl ?_
            exact z_zret C dX2_takes_136 rfl (by first | exact bi_01 | decide | omega) ⟨_, rfl, Or.inr (Or.inr (Or.inl ⟨by omega, bi1 ((tel_b 2 b (by decide)).mpr (by omega)), by rw [f26_112]; congr 2; unfold pst; rw [if_pos rfl]; (repeat' split) <;> omega⟩))⟩
  by_cases uk12_3 : usw12 = 3
  ·
    refine z_tsw (tgt := 137) (3) uk12_3 dX2_takes_12 (by decide) rfl rfl ?_
    refine z_aload_n 0 dX2_takes_137 rfl ?_
    refine z_getR dX2_takes_138 fX2_21_2 i2_8 ka2 ?_
    refine z_iload_n 1 dX2_takes_141 rfl ?_
    refine z_iload_n 3 dX2_takes_142 rfl ?_
    refine z_bipush dX2_takes_143 rfl ?_
    refine z_isub dX2_takes_145 ?_
    refine z_iast (r := H) dX2_takes_146 is27 ka27 (wH) (by omega) (fun r27_146 f27_146 => ?_)
    refine z_aload_n 0 dX2_takes_147 rfl ?_
    refine z_getR dX2_takes_148 fX2_21_2 i2_8 ka2 ?_
    refine z_iload_n 1 dX2_takes_151 rfl ?_
    refine z_iald (r := r27_146) dX2_takes_152 is27 ka27 (rfl) (by omega) ?_
    have uv1 : r27_146 it = b - 48 := by rw [f27_146, up_s]
    refine z_bipush dX2_takes_153 rfl ?_
    refine z_nI dX2_takes_155 lX2_27 (by decide) (ct_X6_within en (upR M 27 r27_146) _ (9) (by omega)) rfl rfl (by exact Nat.le_of_ble_eq_true rfl) ?_
    exact z_zret C dX2_takes_158 rfl (by first | exact bi_01 | decide | omega) ⟨_, rfl, Or.inr (Or.inr (Or.inr (Or.inl ⟨by omega, bi_cong ⟨fun uz => (tel_b 3 b (by decide)).mpr (by omega), fun uz => by have uz2 := (tel_b 3 b (by decide)).mp uz; omega⟩, by rw [f27_146]; rfl⟩)))⟩
  refine z_tswD (tgt := 159) dX2_takes_12 (by omega) rfl ?_
  refine z_aload_n 0 dX2_takes_159 rfl ?_
  refine z_getR dX2_takes_160 fX2_24_2 i2_9 ka2 ?_
  refine z_iload_n 1 dX2_takes_163 rfl ?_
  refine z_iload_n 3 dX2_takes_164 rfl ?_
  refine z_bipush dX2_takes_165 rfl ?_
  refine z_icmp_ne (tgt := 174) dX2_takes_167 rfl (by omega) (fun uc167 => ?_) (fun uc167 => ?_)
  ·
    refine z_iload_n 3 dX2_takes_174 rfl ?_
    refine z_bipush dX2_takes_175 rfl ?_
    refine z_isub dX2_takes_177 ?_
    refine z_iast (r := S) dX2_takes_178 is28 ka28 (wS) (by omega) (fun r28_178 f28_178 => ?_)
    refine z_iload_n 3 dX2_takes_179 rfl ?_
    refine z_bipush dX2_takes_180 rfl ?_
    refine z_icmp_eq (tgt := 199) dX2_takes_182 rfl (by omega) (fun uc182 => ?_) (fun uc182 => ?_)
    · first
      | (exfalso; omega)
      |
          refine z_iconst dX2_takes_199 ?_
          refine z_goto (tgt := 204) dX2_takes_200 rfl ?_
          exact z_zret C dX2_takes_204 rfl (by first | exact bi_01 | decide | omega) ⟨_, rfl, Or.inr (Or.inr (Or.inr (Or.inr (⟨by omega, bi1 ((tel_b 4 b (by decide)).mpr (by omega)), by rw [f28_178]; congr 2; unfold pst; rw [if_neg (by decide), if_pos rfl]; split <;> omega⟩))))⟩
    · first
      | (exfalso; omega)
      |
          refine z_aload_n 0 dX2_takes_185 rfl ?_
          refine z_getR dX2_takes_186 fX2_24_2 i2_9 ka2 ?_
          refine z_iload_n 1 dX2_takes_189 rfl ?_
          refine z_iald (r := r28_178) dX2_takes_190 is28 ka28 (rfl) (by omega) ?_
          have uv1 : r28_178 it = b - 97 := by rw [f28_178, up_s]
          refine z_bipush dX2_takes_191 rfl ?_
          refine z_nI dX2_takes_193 lX2_27 (by decide) (ct_X6_within en (upR M 28 r28_178) _ (7) (by omega)) rfl rfl (by exact Nat.le_of_ble_eq_true rfl) ?_
          refine z_ifeq_b (tgt := 203) dX2_takes_196 rfl (fun uc196 => ?_) (fun uc196 => ?_)
          ·
            refine z_iconst dX2_takes_203 ?_
            exact z_zret C dX2_takes_204 rfl (by first | exact bi_01 | decide | omega) ⟨_, rfl, Or.inr (Or.inr (Or.inr (Or.inr (⟨by omega, bi0 (fun uz => by have uz2 := (tel_b 4 b (by decide)).mp uz; omega), by rw [f28_178]; congr 2; unfold pst; rw [if_neg (by decide), if_pos rfl]; split <;> omega⟩))))⟩
          ·
            refine z_iconst dX2_takes_199 ?_
            refine z_goto (tgt := 204) dX2_takes_200 rfl ?_
            exact z_zret C dX2_takes_204 rfl (by first | exact bi_01 | decide | omega) ⟨_, rfl, Or.inr (Or.inr (Or.inr (Or.inr (⟨by omega, bi1 ((tel_b 4 b (by decide)).mpr (by omega)), by rw [f28_178]; congr 2; unfold pst; rw [if_neg (by decide), if_pos rfl]; split <;> omega⟩))))⟩
  ·
    refine z_iconst dX2_takes_170 ?_
    refine z_goto (tgt := 178) dX2_takes_171 rfl ?_
    refine z_iast (r := S) dX2_takes_178 is28 ka28 (wS) (by omega) (fun r28_178 f28_178 => ?_)
    refine z_iload_n 3 dX2_takes_179 rfl ?_
    refine z_bipush dX2_takes_180 rfl ?_
    refine z_icmp_eq (tgt := 199) dX2_takes_182 rfl (by omega) (fun uc182 => ?_) (fun uc182 => ?_)
    · first
      | (exfalso; omega)
      |
          refine z_iconst dX2_takes_199 ?_
          refine z_goto (tgt := 204) dX2_takes_200 rfl ?_
          exact z_zret C dX2_takes_204 rfl (by first | exact bi_01 | decide | omega) ⟨_, rfl, Or.inr (Or.inr (Or.inr (Or.inr (⟨by omega, bi1 ((tel_b 4 b (by decide)).mpr (by omega)), by rw [f28_178]; congr 2; unfold pst; rw [if_neg (by decide), if_pos rfl]; split <;> omega⟩))))⟩
    · first
      | (exfalso; omega)
      |
          refine z_aload_n 0 dX2_takes_185 rfl ?_
          refine z_getR dX2_takes_186 fX2_24_2 i2_9 ka2 ?_
          refine z_iload_n 1 dX2_takes_189 rfl ?_
          refine z_iald (r := r28_178) dX2_takes_190 is28 ka28 (rfl) (by omega) ?_
          have uv1 : r28_178 it = b - 97 := by rw [f28_178, up_s]
          refine z_bipush dX2_takes_191 rfl ?_
          refine z_nI dX2_takes_193 lX2_27 (by decide) (ct_X6_within en (upR M 28 r28_178) _ (7) (by omega)) rfl rfl (by exact Nat.le_of_ble_eq_true rfl) ?_
          refine z_ifeq_b (tgt := 203) dX2_takes_196 rfl (fun uc196 => ?_) (fun uc196 => ?_)
          ·
            refine z_iconst dX2_takes_203 ?_
            exact z_zret C dX2_takes_204 rfl (by first | exact bi_01 | decide | omega) ⟨_, rfl, Or.inr (Or.inr (Or.inr (Or.inr (⟨by omega, bi0 (fun uz => by have uz2 := (tel_b 4 b (by decide)).mp uz; omega), by rw [f28_178]; congr 2; unfold pst; rw [if_neg (by decide), if_pos rfl]; split <;> omega⟩))))⟩
          ·
            refine z_iconst dX2_takes_199 ?_
            refine z_goto (tgt := 204) dX2_takes_200 rfl ?_
            exact z_zret C dX2_takes_204 rfl (by first | exact bi_01 | decide | omega) ⟨_, rfl, Or.inr (Or.inr (Or.inr (Or.inr (⟨by omega, bi1 ((tel_b 4 b (by decide)).mpr (by omega)), by rw [f28_178]; congr 2; unfold pst; rw [if_neg (by decide), if_pos rfl]; split <;> omega⟩))))⟩
set_option maxRecDepth 100000 in
theorem ct_X5_readAnew_1 (en : zE) (M : zW) (O1 : Int → Int) (Bc : Int → Int) (F : Int → Int) (G : Int → Int) (D : Int → Int) (wO1 : M 1 = O1) (wBc : M 18 = Bc) (wF : M 19 = F) (wG : M 20 = G) (wD : M 21 = D) (hO : O1 0 = 3 ∧ 0 ≤ O1 2 ∧ O1 2 ≤ 47) (hB : ∀ j, 0 ≤ j → j < O1 2 → 0 ≤ Bc j ∧ Bc j ≤ 255) : Ct en kA yX5_readAnew mX5_readAnew [rf en 1] M (pN (fun N => ∃ (r19 r20 r21 : Int → Int) (v : Int), rdF Bc (O1 2) v ∧ (v = -1 → raIT Bc r19 r20 r21 (O1 2)) ∧ (upR (upR (upR (upR M 1 (up (up O1 3 v) 4 (rCnt (O1 2) v))) 19 r19) 20 r20) 21 r21) = N)) := by
  refine Ct.of (by decide +kernel) rfl [(0, rf en 1)] rfl (Nat.le_of_ble_eq_true rfl) (fun cx C => ?_)
  refine z_iconst dX5_readAnew_0 ?_
  refine z_istore_n (fun y => [(0, rf en 1), (1, vi y)]) [1, 0] dX5_readAnew_1 (by decide) (fun _ => rfl) (fun uy uhy => ?_)
  subst uhy
  refine z_iconst dX5_readAnew_2 ?_
  refine z_istore_n (fun y => [(0, rf en 1), (1, vi (0)), (2, vi y)]) [1, 2, 0] dX5_readAnew_3 (by decide) (fun _ => rfl) (fun uy uhy => ?_)
  subst uhy
  refine z_aload_n 0 dX5_readAnew_4 rfl ?_
  refine z_iconst dX5_readAnew_5 ?_
  refine z_putI (r := O1) 3 rfl dX5_readAnew_6 pfX5_15_3 i1_3 ka1 (wO1) (fun r1_6 f1_6 => ?_)
  refine z_iconst dX5_readAnew_9 ?_
  refine z_istore_n (fun y => [(0, rf en 1), (1, vi (0)), (2, vi (0)), (3, vi y)]) [1, 2, 3, 0] dX5_readAnew_10 (by decide) (fun _ => rfl) (fun uy uhy => ?_)
  subst uhy
  have uL11 : ∀ (fu : Nat) (x1 : Int) (x2 : Int) (x3 : Int) (fl : Int) (r1 : Int → Int) (r19 : Int → Int) (r20 : Int → Int) (r21 : Int → Int), (O1 2 - x3).toNat < fu → (r1 = up O1 3 fl ∧ raI Bc (O1 2) x1 x2 x3 fl r19 r20 r21) → Z en kA cx mX5_readAnew (upR (upR (upR (upR M 1 r1) 19 r19) 20 r20) 21 r21) 11 [(0, rf en 1), (1, vi x1), (2, vi x2), (3, vi x3)] [] := by
    intro fu
    induction fu with
    | zero => intro x1 x2 x3 fl r1 r19 r20 r21 uhf; exact absurd uhf (Nat.not_lt_zero _)
    | succ fu uih11 =>
      intro x1 x2 x3 fl r1 r19 r20 r21 uf11 uI11
      obtain ⟨uq1, uq2⟩ := uI11
      have uo3 : r1 3 = fl := by rw [uq1, up_s]
      have uo2 : r1 2 = O1 2 := by rw [uq1, up_n _ _ (by decide)]
      have uo0 : r1 0 = 3 := by rw [uq1, up_n _ _ (by decide)]; exact hO.1
      have uqr := uq2.1
      have uqs : (0 ≤ x1 ∧ x1 ≤ 12) ∧ (0 ≤ x2 ∧ x2 ≤ 3) ∧ (fl = -1 ∨ fl = x3 - 1) := by rcases uq2.2 with ⟨ua, ⟨ub, uc⟩, ud⟩ | ⟨ua, ub⟩ <;> omega
      refine z_iload_n 3 dX5_readAnew_11 rfl ?_
      refine z_aload_n 0 dX5_readAnew_12 rfl ?_
      refine z_getI (r := r1) 2 rfl dX5_readAnew_13 fX5_22_3 i1_2 ka1 (rfl) ?_
      refine z_icmp_ge (tgt := 126) dX5_readAnew_16 rfl (by omega) (fun uc16 => ?_) (fun uc16 => ?_)
      ·
        refine z_aload_n 0 dX5_readAnew_126 rfl ?_
        refine z_getI (r := r1) 3 rfl dX5_readAnew_127 fX5_15_3 i1_3 ka1 (rfl) ?_
        refine z_iconst dX5_readAnew_130 ?_
        refine z_icmp_ne (tgt := 157) dX5_readAnew_131 rfl (by omega) (fun uc131 => ?_) (fun uc131 => ?_)
        · first
          | (exfalso; omega)
          |
              rw [uo3] at uc131
              skip
              skip
              refine z_aload_n 0 dX5_readAnew_157 rfl ?_
              refine z_aload_n 0 dX5_readAnew_158 rfl ?_
              refine z_getI (r := r1) 3 rfl dX5_readAnew_159 fX5_15_3 i1_3 ka1 (rfl) ?_
              refine z_iconst dX5_readAnew_162 ?_
              refine z_icmp_ne (tgt := 179) dX5_readAnew_163 rfl (by omega) (fun uc163 => ?_) (fun uc163 => ?_)
              · first
                | (exfalso; omega)
                |
                    refine z_iconst dX5_readAnew_179 ?_
                    refine z_putI' (r := r1) 4 rfl (fun r => (upR (upR (upR (upR M 1 r) 19 r19) 20 r20) 21 r21)) dX5_readAnew_180 pfX5_41_3 i1_4 ka1 (rfl) (fun _ => uu4 (by decide) (by decide) (by decide)) (fun r1_180 f1_180 => ?_)
                    exact z_vret C dX5_readAnew_183 rfl ⟨rfl, ⟨r19, r20, r21, fl, raI_e1 uq2 uc131, fun uz => absurd uz uc131, by rw [show r1_180 = up (up O1 3 fl) 4 (rCnt (O1 2) fl) by (rw [f1_180]; rw [uq1, rCnt, if_neg uc131])]⟩⟩
              · first
                | (exfalso; omega)
                |
                    refine z_aload_n 0 dX5_readAnew_166 rfl ?_
                    refine z_getI (r := r1) 2 rfl dX5_readAnew_167 fX5_22_3 i1_2 ka1 (rfl) ?_
                    refine z_if_le (tgt := 179) dX5_readAnew_170 rfl (by omega) (fun uc170 => ?_) (fun uc170 => ?_)
                    · first
                      | (exfalso; omega)
                      |
                          refine z_iconst dX5_readAnew_179 ?_
                          refine z_putI' (r := r1) 4 rfl (fun r => (upR (upR (upR (upR M 1 r) 19 r19) 20 r20) 21 r21)) dX5_readAnew_180 pfX5_41_3 i1_4 ka1 (rfl) (fun _ => uu4 (by decide) (by decide) (by decide)) (fun r1_180 f1_180 => ?_)
                          exact z_vret C dX5_readAnew_183 rfl ⟨rfl, ⟨r19, r20, r21, fl, raI_e1 uq2 uc131, fun uz => absurd uz uc131, by rw [show r1_180 = up (up O1 3 fl) 4 (rCnt (O1 2) fl) by (rw [f1_180]; rw [uq1, rCnt, if_neg uc131])]⟩⟩
                    · first
                      | (exfalso; omega)
                      |
                          refine z_iload_n 1 dX5_readAnew_173 rfl ?_
                          refine z_iconst dX5_readAnew_174 ?_
                          refine z_iadd dX5_readAnew_175 ?_
                          refine z_goto (tgt := 180) dX5_readAnew_176 rfl ?_
                          refine z_putI' (r := r1) 4 rfl (fun r => (upR (upR (upR (upR M 1 r) 19 r19) 20 r20) 21 r21)) dX5_readAnew_180 pfX5_41_3 i1_4 ka1 (rfl) (fun _ => uu4 (by decide) (by decide) (by decide)) (fun r1_180 f1_180 => ?_)
                          exact z_vret C dX5_readAnew_183 rfl ⟨rfl, ⟨r19, r20, r21, fl, raI_e1 uq2 uc131, fun uz => absurd uz uc131, by rw [show r1_180 = up (up O1 3 fl) 4 (rCnt (O1 2) fl) by (rw [f1_180]; rw [uq1, rCnt, if_neg uc131])]⟩⟩
        · first
          | (exfalso; omega)
          |
              rw [uo3] at uc131
              have uGn : raIG Bc x1 x2 (O1 2) r19 r20 r21 := by rcases uq2.2 with uz | uz; exact (show x3 = O1 2 by omega) ▸ uz.2; exact absurd uz.1.1 (by omega)
              refine z_aload_n 0 dX5_readAnew_134 rfl ?_
              refine z_getI (r := r1) 2 rfl dX5_readAnew_135 fX5_22_3 i1_2 ka1 (rfl) ?_
              refine z_if_le (tgt := 157) dX5_readAnew_138 rfl (by omega) (fun uc138 => ?_) (fun uc138 => ?_)
              ·
                skip
                skip
                skip
                refine z_aload_n 0 dX5_readAnew_157 rfl ?_
                refine z_aload_n 0 dX5_readAnew_158 rfl ?_
                refine z_getI (r := r1) 3 rfl dX5_readAnew_159 fX5_15_3 i1_3 ka1 (rfl) ?_
                refine z_iconst dX5_readAnew_162 ?_
                refine z_icmp_ne (tgt := 179) dX5_readAnew_163 rfl (by omega) (fun uc163 => ?_) (fun uc163 => ?_)
                · first
                  | (exfalso; omega)
                  |
                      refine z_iconst dX5_readAnew_179 ?_
                      refine z_putI' (r := r1) 4 rfl (fun r => (upR (upR (upR (upR M 1 r) 19 r19) 20 r20) 21 r21)) dX5_readAnew_180 pfX5_41_3 i1_4 ka1 (rfl) (fun _ => uu4 (by decide) (by decide) (by decide)) (fun r1_180 f1_180 => ?_)
                      exact z_vret C dX5_readAnew_183 rfl ⟨rfl, ⟨r19, r20, r21, (-1), raI_e3 uGn (by omega) (by omega), fun _ => uGn.2.2, by rw [show r1_180 = up (up O1 3 (-1)) 4 (rCnt (O1 2) (-1)) by (rw [f1_180]; rw [uq1, uc131, rCnt, if_pos rfl]; congr 1; have uzz := uGn.1; omega)]⟩⟩
                · first
                  | (exfalso; omega)
                  |
                      refine z_aload_n 0 dX5_readAnew_166 rfl ?_
                      refine z_getI (r := r1) 2 rfl dX5_readAnew_167 fX5_22_3 i1_2 ka1 (rfl) ?_
                      refine z_if_le (tgt := 179) dX5_readAnew_170 rfl (by omega) (fun uc170 => ?_) (fun uc170 => ?_)
                      · first
                        | (exfalso; omega)
                        |
                            refine z_iconst dX5_readAnew_179 ?_
                            refine z_putI' (r := r1) 4 rfl (fun r => (upR (upR (upR (upR M 1 r) 19 r19) 20 r20) 21 r21)) dX5_readAnew_180 pfX5_41_3 i1_4 ka1 (rfl) (fun _ => uu4 (by decide) (by decide) (by decide)) (fun r1_180 f1_180 => ?_)
                            exact z_vret C dX5_readAnew_183 rfl ⟨rfl, ⟨r19, r20, r21, (-1), raI_e3 uGn (by omega) (by omega), fun _ => uGn.2.2, by rw [show r1_180 = up (up O1 3 (-1)) 4 (rCnt (O1 2) (-1)) by (rw [f1_180]; rw [uq1, uc131, rCnt, if_pos rfl]; congr 1; have uzz := uGn.1; omega)]⟩⟩
                      · first
                        | (exfalso; omega)
                        |
                            refine z_iload_n 1 dX5_readAnew_173 rfl ?_
                            refine z_iconst dX5_readAnew_174 ?_
                            refine z_iadd dX5_readAnew_175 ?_
                            refine z_goto (tgt := 180) dX5_readAnew_176 rfl ?_
                            refine z_putI' (r := r1) 4 rfl (fun r => (upR (upR (upR (upR M 1 r) 19 r19) 20 r20) 21 r21)) dX5_readAnew_180 pfX5_41_3 i1_4 ka1 (rfl) (fun _ => uu4 (by decide) (by decide) (by decide)) (fun r1_180 f1_180 => ?_)
                            exact z_vret C dX5_readAnew_183 rfl ⟨rfl, ⟨r19, r20, r21, (-1), raI_e3 uGn (by omega) (by omega), fun _ => uGn.2.2, by rw [show r1_180 = up (up O1 3 (-1)) 4 (rCnt (O1 2) (-1)) by (rw [f1_180]; rw [uq1, uc131, rCnt, if_pos rfl]; congr 1; have uzz := uGn.1; omega)]⟩⟩
              ·
                refine z_iload_n 2 dX5_readAnew_141 rfl ?_
                refine z_aload_n 0 dX5_readAnew_142 rfl ?_
                refine z_getI (r := r1) 0 rfl dX5_readAnew_143 fX5_19_3 i1_0 ka1 (rfl) ?_
                refine z_icmp_ge (tgt := 157) dX5_readAnew_146 rfl (by omega) (fun uc146 => ?_) (fun uc146 => ?_)
                ·
                  skip
                  skip
                  skip
                  refine z_aload_n 0 dX5_readAnew_157 rfl ?_
                  refine z_aload_n 0 dX5_readAnew_158 rfl ?_
                  refine z_getI (r := r1) 3 rfl dX5_readAnew_159 fX5_15_3 i1_3 ka1 (rfl) ?_
                  refine z_iconst dX5_readAnew_162 ?_
                  refine z_icmp_ne (tgt := 179) dX5_readAnew_163 rfl (by omega) (fun uc163 => ?_) (fun uc163 => ?_)
                  · first
                    | (exfalso; omega)
                    |
                        refine z_iconst dX5_readAnew_179 ?_
                        refine z_putI' (r := r1) 4 rfl (fun r => (upR (upR (upR (upR M 1 r) 19 r19) 20 r20) 21 r21)) dX5_readAnew_180 pfX5_41_3 i1_4 ka1 (rfl) (fun _ => uu4 (by decide) (by decide) (by decide)) (fun r1_180 f1_180 => ?_)
                        exact z_vret C dX5_readAnew_183 rfl ⟨rfl, ⟨r19, r20, r21, (-1), raI_e3 uGn (by omega) (by omega), fun _ => uGn.2.2, by rw [show r1_180 = up (up O1 3 (-1)) 4 (rCnt (O1 2) (-1)) by (rw [f1_180]; rw [uq1, uc131, rCnt, if_pos rfl]; congr 1; have uzz := uGn.1; omega)]⟩⟩
                  · first
                    | (exfalso; omega)
                    |
                        refine z_aload_n 0 dX5_readAnew_166 rfl ?_
                        refine z_getI (r := r1) 2 rfl dX5_readAnew_167 fX5_22_3 i1_2 ka1 (rfl) ?_
                        refine z_if_le (tgt := 179) dX5_readAnew_170 rfl (by omega) (fun uc170 => ?_) (fun uc170 => ?_)
                        · first
                          | (exfalso; omega)
                          |
                              refine z_iconst dX5_readAnew_179 ?_
                              refine z_putI' (r := r1) 4 rfl (fun r => (upR (upR (upR (upR M 1 r) 19 r19) 20 r20) 21 r21)) dX5_readAnew_180 pfX5_41_3 i1_4 ka1 (rfl) (fun _ => uu4 (by decide) (by decide) (by decide)) (fun r1_180 f1_180 => ?_)
                              exact z_vret C dX5_readAnew_183 rfl ⟨rfl, ⟨r19, r20, r21, (-1), raI_e3 uGn (by omega) (by omega), fun _ => uGn.2.2, by rw [show r1_180 = up (up O1 3 (-1)) 4 (rCnt (O1 2) (-1)) by (rw [f1_180]; rw [uq1, uc131, rCnt, if_pos rfl]; congr 1; have uzz := uGn.1; omega)]⟩⟩
                        · first
                          | (exfalso; omega)
                          |
                              refine z_iload_n 1 dX5_readAnew_173 rfl ?_
                              refine z_iconst dX5_readAnew_174 ?_
                              refine z_iadd dX5_readAnew_175 ?_
                              refine z_goto (tgt := 180) dX5_readAnew_176 rfl ?_
                              refine z_putI' (r := r1) 4 rfl (fun r => (upR (upR (upR (upR M 1 r) 19 r19) 20 r20) 21 r21)) dX5_readAnew_180 pfX5_41_3 i1_4 ka1 (rfl) (fun _ => uu4 (by decide) (by decide) (by decide)) (fun r1_180 f1_180 => ?_)
                              exact z_vret C dX5_readAnew_183 rfl ⟨rfl, ⟨r19, r20, r21, (-1), raI_e3 uGn (by omega) (by omega), fun _ => uGn.2.2, by rw [show r1_180 = up (up O1 3 (-1)) 4 (rCnt (O1 2) (-1)) by (rw [f1_180]; rw [uq1, uc131, rCnt, if_pos rfl]; congr 1; have uzz := uGn.1; omega)]⟩⟩
                ·
                  refine z_aload_n 0 dX5_readAnew_149 rfl ?_
                  refine z_aload_n 0 dX5_readAnew_150 rfl ?_
                  refine z_getI (r := r1) 2 rfl dX5_readAnew_151 fX5_22_3 i1_2 ka1 (rfl) ?_
                  refine z_putI' (r := r1) 3 rfl (fun r => (upR (upR (upR (upR M 1 r) 19 r19) 20 r20) 21 r21)) dX5_readAnew_154 pfX5_15_3 i1_3 ka1 (rfl) (fun _ => uu4 (by decide) (by decide) (by decide)) (fun r1_154 f1_154 => ?_)
                  skip
                  have uo5 : r1_154 3 = O1 2 := by rw [f1_154, up_s, uo2]
                  have uo6 : r1_154 2 = O1 2 := by rw [f1_154, up_n _ _ (by decide), uo2]
                  refine z_aload_n 0 dX5_readAnew_157 rfl ?_
                  refine z_aload_n 0 dX5_readAnew_158 rfl ?_
                  refine z_getI (r := r1_154) 3 rfl dX5_readAnew_159 fX5_15_3 i1_3 ka1 (rfl) ?_
                  refine z_iconst dX5_readAnew_162 ?_
                  refine z_icmp_ne (tgt := 179) dX5_readAnew_163 rfl (by omega) (fun uc163 => ?_) (fun uc163 => ?_)
                  · first
                    | (exfalso; omega)
                    |
                        refine z_iconst dX5_readAnew_179 ?_
                        refine z_putI' (r := r1_154) 4 rfl (fun r => (upR (upR (upR (upR M 1 r) 19 r19) 20 r20) 21 r21)) dX5_readAnew_180 pfX5_41_3 i1_4 ka1 (rfl) (fun _ => uu4 (by decide) (by decide) (by decide)) (fun r1_180 f1_180 => ?_)
                        exact z_vret C dX5_readAnew_183 rfl ⟨rfl, ⟨r19, r20, r21, (O1 2), raI_e2 uGn (by omega) (by omega), fun uz => absurd uz (by omega), by rw [show r1_180 = up (up O1 3 (O1 2)) 4 (rCnt (O1 2) (O1 2)) by (rw [f1_180]; rw [f1_154, uo2, uq1, up_up, rCnt, if_neg (by omega)])]⟩⟩
                  · first
                    | (exfalso; omega)
                    |
                        refine z_aload_n 0 dX5_readAnew_166 rfl ?_
                        refine z_getI (r := r1_154) 2 rfl dX5_readAnew_167 fX5_22_3 i1_2 ka1 (rfl) ?_
                        refine z_if_le (tgt := 179) dX5_readAnew_170 rfl (by omega) (fun uc170 => ?_) (fun uc170 => ?_)
                        · first
                          | (exfalso; omega)
                          |
                              refine z_iconst dX5_readAnew_179 ?_
                              refine z_putI' (r := r1_154) 4 rfl (fun r => (upR (upR (upR (upR M 1 r) 19 r19) 20 r20) 21 r21)) dX5_readAnew_180 pfX5_41_3 i1_4 ka1 (rfl) (fun _ => uu4 (by decide) (by decide) (by decide)) (fun r1_180 f1_180 => ?_)
                              exact z_vret C dX5_readAnew_183 rfl ⟨rfl, ⟨r19, r20, r21, (O1 2), raI_e2 uGn (by omega) (by omega), fun uz => absurd uz (by omega), by rw [show r1_180 = up (up O1 3 (O1 2)) 4 (rCnt (O1 2) (O1 2)) by (rw [f1_180]; rw [f1_154, uo2, uq1, up_up, rCnt, if_neg (by omega)])]⟩⟩
                        · first
                          | (exfalso; omega)
                          |
                              refine z_iload_n 1 dX5_readAnew_173 rfl ?_
                              refine z_iconst dX5_readAnew_174 ?_
                              refine z_iadd dX5_readAnew_175 ?_
                              refine z_goto (tgt := 180) dX5_readAnew_176 rfl ?_
                              refine z_putI' (r := r1_154) 4 rfl (fun r => (upR (upR (upR (upR M 1 r) 19 r19) 20 r20) 21 r21)) dX5_readAnew_180 pfX5_41_3 i1_4 ka1 (rfl) (fun _ => uu4 (by decide) (by decide) (by decide)) (fun r1_180 f1_180 => ?_)
                              exact z_vret C dX5_readAnew_183 rfl ⟨rfl, ⟨r19, r20, r21, (O1 2), raI_e2 uGn (by omega) (by omega), fun uz => absurd uz (by omega), by rw [show r1_180 = up (up O1 3 (O1 2)) 4 (rCnt (O1 2) (O1 2)) by (rw [f1_180]; rw [f1_154, uo2, uq1, up_up, rCnt, if_neg (by omega)])]⟩⟩
      ·
        refine z_aload_n 0 dX5_readAnew_19 rfl ?_
        refine z_getI (r := r1) 3 rfl dX5_readAnew_20 fX5_15_3 i1_3 ka1 (rfl) ?_
        refine z_iconst dX5_readAnew_23 ?_
        refine z_icmp_ne (tgt := 126) dX5_readAnew_24 rfl (by omega) (fun uc24 => ?_) (fun uc24 => ?_)
        ·
          refine z_aload_n 0 dX5_readAnew_126 rfl ?_
          refine z_getI (r := r1) 3 rfl dX5_readAnew_127 fX5_15_3 i1_3 ka1 (rfl) ?_
          refine z_iconst dX5_readAnew_130 ?_
          refine z_icmp_ne (tgt := 157) dX5_readAnew_131 rfl (by omega) (fun uc131 => ?_) (fun uc131 => ?_)
          · first
            | (exfalso; omega)
            |
                rw [uo3] at uc131
                skip
                skip
                refine z_aload_n 0 dX5_readAnew_157 rfl ?_
                refine z_aload_n 0 dX5_readAnew_158 rfl ?_
                refine z_getI (r := r1) 3 rfl dX5_readAnew_159 fX5_15_3 i1_3 ka1 (rfl) ?_
                refine z_iconst dX5_readAnew_162 ?_
                refine z_icmp_ne (tgt := 179) dX5_readAnew_163 rfl (by omega) (fun uc163 => ?_) (fun uc163 => ?_)
                · first
                  | (exfalso; omega)
                  |
                      refine z_iconst dX5_readAnew_179 ?_
                      refine z_putI' (r := r1) 4 rfl (fun r => (upR (upR (upR (upR M 1 r) 19 r19) 20 r20) 21 r21)) dX5_readAnew_180 pfX5_41_3 i1_4 ka1 (rfl) (fun _ => uu4 (by decide) (by decide) (by decide)) (fun r1_180 f1_180 => ?_)
                      exact z_vret C dX5_readAnew_183 rfl ⟨rfl, ⟨r19, r20, r21, fl, raI_e1 uq2 uc131, fun uz => absurd uz uc131, by rw [show r1_180 = up (up O1 3 fl) 4 (rCnt (O1 2) fl) by (rw [f1_180]; rw [uq1, rCnt, if_neg uc131])]⟩⟩
                · first
                  | (exfalso; omega)
                  |
                      refine z_aload_n 0 dX5_readAnew_166 rfl ?_
                      refine z_getI (r := r1) 2 rfl dX5_readAnew_167 fX5_22_3 i1_2 ka1 (rfl) ?_
                      refine z_if_le (tgt := 179) dX5_readAnew_170 rfl (by omega) (fun uc170 => ?_) (fun uc170 => ?_)
                      · first
                        | (exfalso; omega)
                        |
                            refine z_iconst dX5_readAnew_179 ?_
                            refine z_putI' (r := r1) 4 rfl (fun r => (upR (upR (upR (upR M 1 r) 19 r19) 20 r20) 21 r21)) dX5_readAnew_180 pfX5_41_3 i1_4 ka1 (rfl) (fun _ => uu4 (by decide) (by decide) (by decide)) (fun r1_180 f1_180 => ?_)
                            exact z_vret C dX5_readAnew_183 rfl ⟨rfl, ⟨r19, r20, r21, fl, raI_e1 uq2 uc131, fun uz => absurd uz uc131, by rw [show r1_180 = up (up O1 3 fl) 4 (rCnt (O1 2) fl) by (rw [f1_180]; rw [uq1, rCnt, if_neg uc131])]⟩⟩
                      · first
                        | (exfalso; omega)
                        |
                            refine z_iload_n 1 dX5_readAnew_173 rfl ?_
                            refine z_iconst dX5_readAnew_174 ?_
                            refine z_iadd dX5_readAnew_175 ?_
                            refine z_goto (tgt := 180) dX5_readAnew_176 rfl ?_
                            refine z_putI' (r := r1) 4 rfl (fun r => (upR (upR (upR (upR M 1 r) 19 r19) 20 r20) 21 r21)) dX5_readAnew_180 pfX5_41_3 i1_4 ka1 (rfl) (fun _ => uu4 (by decide) (by decide) (by decide)) (fun r1_180 f1_180 => ?_)
                            exact z_vret C dX5_readAnew_183 rfl ⟨rfl, ⟨r19, r20, r21, fl, raI_e1 uq2 uc131, fun uz => absurd uz uc131, by rw [show r1_180 = up (up O1 3 fl) 4 (rCnt (O1 2) fl) by (rw [f1_180]; rw [uq1, rCnt, if_neg uc131])]⟩⟩
          · first
            | (exfalso; omega)
            |
                rw [uo3] at uc131
                have uGn : raIG Bc x1 x2 (O1 2) r19 r20 r21 := by rcases uq2.2 with uz | uz; exact (show x3 = O1 2 by omega) ▸ uz.2; exact absurd uz.1.1 (by omega)
                refine z_aload_n 0 dX5_readAnew_134 rfl ?_
                refine z_getI (r := r1) 2 rfl dX5_readAnew_135 fX5_22_3 i1_2 ka1 (rfl) ?_
                refine z_if_le (tgt := 157) dX5_readAnew_138 rfl (by omega) (fun uc138 => ?_) (fun uc138 => ?_)
                ·
                  skip
                  skip
                  skip
                  refine z_aload_n 0 dX5_readAnew_157 rfl ?_
                  refine z_aload_n 0 dX5_readAnew_158 rfl ?_
                  refine z_getI (r := r1) 3 rfl dX5_readAnew_159 fX5_15_3 i1_3 ka1 (rfl) ?_
                  refine z_iconst dX5_readAnew_162 ?_
                  refine z_icmp_ne (tgt := 179) dX5_readAnew_163 rfl (by omega) (fun uc163 => ?_) (fun uc163 => ?_)
                  · first
                    | (exfalso; omega)
                    |
                        refine z_iconst dX5_readAnew_179 ?_
                        refine z_putI' (r := r1) 4 rfl (fun r => (upR (upR (upR (upR M 1 r) 19 r19) 20 r20) 21 r21)) dX5_readAnew_180 pfX5_41_3 i1_4 ka1 (rfl) (fun _ => uu4 (by decide) (by decide) (by decide)) (fun r1_180 f1_180 => ?_)
                        exact z_vret C dX5_readAnew_183 rfl ⟨rfl, ⟨r19, r20, r21, (-1), raI_e3 uGn (by omega) (by omega), fun _ => uGn.2.2, by rw [show r1_180 = up (up O1 3 (-1)) 4 (rCnt (O1 2) (-1)) by (rw [f1_180]; rw [uq1, uc131, rCnt, if_pos rfl]; congr 1; have uzz := uGn.1; omega)]⟩⟩
                  · first
                    | (exfalso; omega)
                    |
                        refine z_aload_n 0 dX5_readAnew_166 rfl ?_
                        refine z_getI (r := r1) 2 rfl dX5_readAnew_167 fX5_22_3 i1_2 ka1 (rfl) ?_
                        refine z_if_le (tgt := 179) dX5_readAnew_170 rfl (by omega) (fun uc170 => ?_) (fun uc170 => ?_)
                        · first
                          | (exfalso; omega)
                          |
                              refine z_iconst dX5_readAnew_179 ?_
                              refine z_putI' (r := r1) 4 rfl (fun r => (upR (upR (upR (upR M 1 r) 19 r19) 20 r20) 21 r21)) dX5_readAnew_180 pfX5_41_3 i1_4 ka1 (rfl) (fun _ => uu4 (by decide) (by decide) (by decide)) (fun r1_180 f1_180 => ?_)
                              exact z_vret C dX5_readAnew_183 rfl ⟨rfl, ⟨r19, r20, r21, (-1), raI_e3 uGn (by omega) (by omega), fun _ => uGn.2.2, by rw [show r1_180 = up (up O1 3 (-1)) 4 (rCnt (O1 2) (-1)) by (rw [f1_180]; rw [uq1, uc131, rCnt, if_pos rfl]; congr 1; have uzz := uGn.1; omega)]⟩⟩
                        · first
                          | (exfalso; omega)
                          |
                              refine z_iload_n 1 dX5_readAnew_173 rfl ?_
                              refine z_iconst dX5_readAnew_174 ?_
                              refine z_iadd dX5_readAnew_175 ?_
                              refine z_goto (tgt := 180) dX5_readAnew_176 rfl ?_
                              refine z_putI' (r := r1) 4 rfl (fun r => (upR (upR (upR (upR M 1 r) 19 r19) 20 r20) 21 r21)) dX5_readAnew_180 pfX5_41_3 i1_4 ka1 (rfl) (fun _ => uu4 (by decide) (by decide) (by decide)) (fun r1_180 f1_180 => ?_)
                              exact z_vret C dX5_readAnew_183 rfl ⟨rfl, ⟨r19, r20, r21, (-1), raI_e3 uGn (by omega) (by omega), fun _ => uGn.2.2, by rw [show r1_180 = up (up O1 3 (-1)) 4 (rCnt (O1 2) (-1)) by (rw [f1_180]; rw [uq1, uc131, rCnt, if_pos rfl]; congr 1; have uzz := uGn.1; omega)]⟩⟩
                ·
                  refine z_iload_n 2 dX5_readAnew_141 rfl ?_
                  refine z_aload_n 0 dX5_readAnew_142 rfl ?_
                  refine z_getI (r := r1) 0 rfl dX5_readAnew_143 fX5_19_3 i1_0 ka1 (rfl) ?_
                  refine z_icmp_ge (tgt := 157) dX5_readAnew_146 rfl (by omega) (fun uc146 => ?_) (fun uc146 => ?_)
                  ·
                    skip
                    skip
                    skip
                    refine z_aload_n 0 dX5_readAnew_157 rfl ?_
                    refine z_aload_n 0 dX5_readAnew_158 rfl ?_
                    refine z_getI (r := r1) 3 rfl dX5_readAnew_159 fX5_15_3 i1_3 ka1 (rfl) ?_
                    refine z_iconst dX5_readAnew_162 ?_
                    refine z_icmp_ne (tgt := 179) dX5_readAnew_163 rfl (by omega) (fun uc163 => ?_) (fun uc163 => ?_)
                    · first
                      | (exfalso; omega)
                      |
                          refine z_iconst dX5_readAnew_179 ?_
                          refine z_putI' (r := r1) 4 rfl (fun r => (upR (upR (upR (upR M 1 r) 19 r19) 20 r20) 21 r21)) dX5_readAnew_180 pfX5_41_3 i1_4 ka1 (rfl) (fun _ => uu4 (by decide) (by decide) (by decide)) (fun r1_180 f1_180 => ?_)
                          exact z_vret C dX5_readAnew_183 rfl ⟨rfl, ⟨r19, r20, r21, (-1), raI_e3 uGn (by omega) (by omega), fun _ => uGn.2.2, by rw [show r1_180 = up (up O1 3 (-1)) 4 (rCnt (O1 2) (-1)) by (rw [f1_180]; rw [uq1, uc131, rCnt, if_pos rfl]; congr 1; have uzz := uGn.1; omega)]⟩⟩
                    · first
                      | (exfalso; omega)
                      |
                          refine z_aload_n 0 dX5_readAnew_166 rfl ?_
                          refine z_getI (r := r1) 2 rfl dX5_readAnew_167 fX5_22_3 i1_2 ka1 (rfl) ?_
                          refine z_if_le (tgt := 179) dX5_readAnew_170 rfl (by omega) (fun uc170 => ?_) (fun uc170 => ?_)
                          · first
                            | (exfalso; omega)
                            |
                                refine z_iconst dX5_readAnew_179 ?_
                                refine z_putI' (r := r1) 4 rfl (fun r => (upR (upR (upR (upR M 1 r) 19 r19) 20 r20) 21 r21)) dX5_readAnew_180 pfX5_41_3 i1_4 ka1 (rfl) (fun _ => uu4 (by decide) (by decide) (by decide)) (fun r1_180 f1_180 => ?_)
                                exact z_vret C dX5_readAnew_183 rfl ⟨rfl, ⟨r19, r20, r21, (-1), raI_e3 uGn (by omega) (by omega), fun _ => uGn.2.2, by rw [show r1_180 = up (up O1 3 (-1)) 4 (rCnt (O1 2) (-1)) by (rw [f1_180]; rw [uq1, uc131, rCnt, if_pos rfl]; congr 1; have uzz := uGn.1; omega)]⟩⟩
                          · first
                            | (exfalso; omega)
                            |
                                refine z_iload_n 1 dX5_readAnew_173 rfl ?_
                                refine z_iconst dX5_readAnew_174 ?_
                                refine z_iadd dX5_readAnew_175 ?_
                                refine z_goto (tgt := 180) dX5_readAnew_176 rfl ?_
                                refine z_putI' (r := r1) 4 rfl (fun r => (upR (upR (upR (upR M 1 r) 19 r19) 20 r20) 21 r21)) dX5_readAnew_180 pfX5_41_3 i1_4 ka1 (rfl) (fun _ => uu4 (by decide) (by decide) (by decide)) (fun r1_180 f1_180 => ?_)
                                exact z_vret C dX5_readAnew_183 rfl ⟨rfl, ⟨r19, r20, r21, (-1), raI_e3 uGn (by omega) (by omega), fun _ => uGn.2.2, by rw [show r1_180 = up (up O1 3 (-1)) 4 (rCnt (O1 2) (-1)) by (rw [f1_180]; rw [uq1, uc131, rCnt, if_pos rfl]; congr 1; have uzz := uGn.1; omega)]⟩⟩
                  ·
                    refine z_aload_n 0 dX5_readAnew_149 rfl ?_
                    refine z_aload_n 0 dX5_readAnew_150 rfl ?_
                    refine z_getI (r := r1) 2 rfl dX5_readAnew_151 fX5_22_3 i1_2 ka1 (rfl) ?_
                    refine z_putI' (r := r1) 3 rfl (fun r => (upR (upR (upR (upR M 1 r) 19 r19) 20 r20) 21 r21)) dX5_readAnew_154 pfX5_15_3 i1_3 ka1 (rfl) (fun _ => uu4 (by decide) (by decide) (by decide)) (fun r1_154 f1_154 => ?_)
                    skip
                    have uo5 : r1_154 3 = O1 2 := by rw [f1_154, up_s, uo2]
                    have uo6 : r1_154 2 = O1 2 := by rw [f1_154, up_n _ _ (by decide), uo2]
                    refine z_aload_n 0 dX5_readAnew_157 rfl ?_
                    refine z_aload_n 0 dX5_readAnew_158 rfl ?_
                    refine z_getI (r := r1_154) 3 rfl dX5_readAnew_159 fX5_15_3 i1_3 ka1 (rfl) ?_
                    refine z_iconst dX5_readAnew_162 ?_
                    refine z_icmp_ne (tgt := 179) dX5_readAnew_163 rfl (by omega) (fun uc163 => ?_) (fun uc163 => ?_)
                    · first
                      | (exfalso; omega)
                      |
                          refine z_iconst dX5_readAnew_179 ?_
                          refine z_putI' (r := r1_154) 4 rfl (fun r => (upR (upR (upR (upR M 1 r) 19 r19) 20 r20) 21 r21)) dX5_readAnew_180 pfX5_41_3 i1_4 ka1 (rfl) (fun _ => uu4 (by decide) (by decide) (by decide)) (fun r1_180 f1_180 => ?_)
                          exact z_vret C dX5_readAnew_183 rfl ⟨rfl, ⟨r19, r20, r21, (O1 2), raI_e2 uGn (by omega) (by omega), fun uz => absurd uz (by omega), by rw [show r1_180 = up (up O1 3 (O1 2)) 4 (rCnt (O1 2) (O1 2)) by (rw [f1_180]; rw [f1_154, uo2, uq1, up_up, rCnt, if_neg (by omega)])]⟩⟩
                    · first
                      | (exfalso; omega)
                      |
                          refine z_aload_n 0 dX5_readAnew_166 rfl ?_
                          refine z_getI (r := r1_154) 2 rfl dX5_readAnew_167 fX5_22_3 i1_2 ka1 (rfl) ?_
                          refine z_if_le (tgt := 179) dX5_readAnew_170 rfl (by omega) (fun uc170 => ?_) (fun uc170 => ?_)
                          · first
                            | (exfalso; omega)
                            |
                                refine z_iconst dX5_readAnew_179 ?_
                                refine z_putI' (r := r1_154) 4 rfl (fun r => (upR (upR (upR (upR M 1 r) 19 r19) 20 r20) 21 r21)) dX5_readAnew_180 pfX5_41_3 i1_4 ka1 (rfl) (fun _ => uu4 (by decide) (by decide) (by decide)) (fun r1_180 f1_180 => ?_)
                                exact z_vret C dX5_readAnew_183 rfl ⟨rfl, ⟨r19, r20, r21, (O1 2), raI_e2 uGn (by omega) (by omega), fun uz => absurd uz (by omega), by rw [show r1_180 = up (up O1 3 (O1 2)) 4 (rCnt (O1 2) (O1 2)) by (rw [f1_180]; rw [f1_154, uo2, uq1, up_up, rCnt, if_neg (by omega)])]⟩⟩
                          · first
                            | (exfalso; omega)
                            |
                                refine z_iload_n 1 dX5_readAnew_173 rfl ?_
                                refine z_iconst dX5_readAnew_174 ?_
                                refine z_iadd dX5_readAnew_175 ?_
                                refine z_goto (tgt := 180) dX5_readAnew_176 rfl ?_
                                refine z_putI' (r := r1_154) 4 rfl (fun r => (upR (upR (upR (upR M 1 r) 19 r19) 20 r20) 21 r21)) dX5_readAnew_180 pfX5_41_3 i1_4 ka1 (rfl) (fun _ => uu4 (by decide) (by decide) (by decide)) (fun r1_180 f1_180 => ?_)
                                exact z_vret C dX5_readAnew_183 rfl ⟨rfl, ⟨r19, r20, r21, (O1 2), raI_e2 uGn (by omega) (by omega), fun uz => absurd uz (by omega), by rw [show r1_180 = up (up O1 3 (O1 2)) 4 (rCnt (O1 2) (O1 2)) by (rw [f1_180]; rw [f1_154, uo2, uq1, up_up, rCnt, if_neg (by omega)])]⟩⟩
        ·
          have uG : raIG Bc x1 x2 x3 r19 r20 r21 := by rcases uq2.2 with uz | uz; exact uz.2; exact absurd uz.1.1 (by omega)
          have uG1 := uG.1
          have ub := hB x3 (by omega) (by omega)
          refine z_iload_n 2 dX5_readAnew_27 rfl ?_
          refine z_aload_n 0 dX5_readAnew_28 rfl ?_
          refine z_getI (r := r1) 0 rfl dX5_readAnew_29 fX5_19_3 i1_0 ka1 (rfl) ?_
          refine z_icmp_ne (tgt := 39) dX5_readAnew_32 rfl (by omega) (fun uc32 => ?_) (fun uc32 => ?_)
          ·
            refine z_iconst dX5_readAnew_39 ?_
            refine z_istore (fun y => [(0, rf en 1), (1, vi x1), (2, vi x2), (3, vi x3), (4, vi y)]) [1, 2, 3, 4, 0] dX5_readAnew_40 (by decide) (fun _ => rfl) (fun uy uhy => ?_)
            subst uhy
            refine z_iload 4 dX5_readAnew_42 rfl ?_
            refine z_if_eq (tgt := 66) dX5_readAnew_44 rfl (by omega) (fun _ => ?_) (fun z => absurd z (by decide))
            have uhF : x2 = 1 → -1000 ≤ r19 x1 ∧ r19 x1 ≤ 1000 := fun uz => by have uz2 := rV_rg Bc (x3 - 1); rw [ra_F (by omega) uG uz]; omega
            refine z_aload_n 0 dX5_readAnew_66 rfl ?_
            refine z_iload_n 1 dX5_readAnew_67 rfl ?_
            refine z_iload_n 2 dX5_readAnew_68 rfl ?_
            refine z_aload_n 0 dX5_readAnew_69 rfl ?_
            refine z_getR dX5_readAnew_70 fX5_9_3 i1_1 ka1 ?_
            refine z_iload_n 3 dX5_readAnew_73 rfl ?_
            refine z_iald (r := Bc) dX5_readAnew_74 is18 ka18 (wBc) (by omega) ?_
            refine z_uX dX5_readAnew_75 lX5_37_1 (by decide) ka1 io1 rfl (ct_X3_takes en (upR (upR (upR (upR M 1 r1) 19 r19) 20 r20) 21 r21) r19 r20 r21 rfl rfl rfl _ _ _ (by omega) uhF) rfl rfl (by exact Nat.le_of_ble_eq_true rfl) (fun uv75 uN75 uh75 => ?_)
            rcases uh75 with ⟨uk75, rfl, rfl⟩ | ⟨uk75, rfl, rfl⟩ | ⟨uk75, rfl, rfl⟩
            ·
              rw [uu3 (a := 19) (b0 := 20) (b1 := 21) (by decide) (by decide)]
              refine z_istore (fun y => [(0, rf en 1), (1, vi x1), (2, vi x2), (3, vi x3), (4, vi (0)), (5, vi y)]) [1, 2, 3, 4, 5, 0] dX5_readAnew_78 (by decide) (fun _ => rfl) (fun x5_78 e5_78 => ?_)
              have uw5 : 0 ≤ x5_78 ∧ x5_78 ≤ 1 := by rw [e5_78]; exact bi_rg _
              refine z_aload_n 0 dX5_readAnew_80 rfl ?_
              refine z_iload 5 dX5_readAnew_81 rfl ?_
              refine z_if_eq (tgt := 90) dX5_readAnew_83 rfl (by omega) (fun uc83 => ?_) (fun uc83 => ?_)
              ·
                refine z_iload_n 3 dX5_readAnew_90 rfl ?_
                refine z_putI' (r := r1) 3 rfl (fun r => (upR (upR (upR (upR M 1 r) 19 (up r19 x1 ((Bc x3) - 97))) 20 r20) 21 r21)) dX5_readAnew_91 pfX5_15_3 i1_3 ka1 (rfl) (fun _ => uu4 (by decide) (by decide) (by decide)) (fun r1_91 f1_91 => ?_)
                refine z_iload 4 dX5_readAnew_94 rfl ?_
                refine z_if_eq (tgt := 105) dX5_readAnew_96 rfl (by omega) (fun _ => ?_) (fun z => absurd z (by decide))
                refine z_iload_n 1 dX5_readAnew_105 rfl ?_
                refine z_istore_n (fun y => [(0, rf en 1), (1, vi y), (2, vi x2), (3, vi x3), (4, vi (0)), (5, vi x5_78)]) [1, 0, 2, 3, 4, 5] dX5_readAnew_106 (by decide) (fun _ => rfl) (fun x1_106 e1_106 => ?_)
                refine z_iload 4 dX5_readAnew_107 rfl ?_
                refine z_if_eq (tgt := 116) dX5_readAnew_109 rfl (by omega) (fun _ => ?_) (fun z => absurd z (by decide))
                refine z_iload_n 2 dX5_readAnew_116 rfl ?_
                refine z_iconst dX5_readAnew_117 ?_
                refine z_iadd dX5_readAnew_118 ?_
                refine z_istore_n (fun y => [(0, rf en 1), (1, vi x1_106), (2, vi y), (3, vi x3), (4, vi (0)), (5, vi x5_78)]) [1, 2, 0, 3, 4, 5] dX5_readAnew_119 (by decide) (fun _ => rfl) (fun x2_119 e2_119 => ?_)
                refine z_iinc (fun y => [(0, rf en 1), (1, vi x1_106), (2, vi x2_119), (3, vi y), (4, vi (0)), (5, vi x5_78)]) [1, 2, 3, 0, 4, 5] 3 dX5_readAnew_120 rfl (by decide) (fun _ => rfl) (fun x3_120 e3_120 => ?_)
                refine z_goto (tgt := 11) dX5_readAnew_123 rfl ?_
                refine z_lv [0, 1, 2, 3] [(0, rf en 1), (1, vi x1_106), (2, vi x2_119), (3, vi x3_120)] rfl ?_
                have ucw := bi_z.mp (e5_78 ▸ uc83)
                exact uih11 x1_106 x2_119 x3_120 x3 r1_91 (up r19 x1 ((Bc x3) - 97)) r20 r21 (by omega) (⟨by rw [f1_91, uq1, up_up], by rw [e3_120]; exact raI_bad (up r19 x1 ((Bc x3) - 97)) r20 r21 (by omega) (by omega) uG ((rb_0 (x := x3) (by omega)).mpr (by exact ucw))⟩)
              ·
                refine z_iconst dX5_readAnew_86 ?_
                refine z_goto (tgt := 91) dX5_readAnew_87 rfl ?_
                refine z_putI' (r := r1) 3 rfl (fun r => (upR (upR (upR (upR M 1 r) 19 (up r19 x1 ((Bc x3) - 97))) 20 r20) 21 r21)) dX5_readAnew_91 pfX5_15_3 i1_3 ka1 (rfl) (fun _ => uu4 (by decide) (by decide) (by decide)) (fun r1_91 f1_91 => ?_)
                refine z_iload 4 dX5_readAnew_94 rfl ?_
                refine z_if_eq (tgt := 105) dX5_readAnew_96 rfl (by omega) (fun _ => ?_) (fun z => absurd z (by decide))
                refine z_iload_n 1 dX5_readAnew_105 rfl ?_
                refine z_istore_n (fun y => [(0, rf en 1), (1, vi y), (2, vi x2), (3, vi x3), (4, vi (0)), (5, vi x5_78)]) [1, 0, 2, 3, 4, 5] dX5_readAnew_106 (by decide) (fun _ => rfl) (fun x1_106 e1_106 => ?_)
                refine z_iload 4 dX5_readAnew_107 rfl ?_
                refine z_if_eq (tgt := 116) dX5_readAnew_109 rfl (by omega) (fun _ => ?_) (fun z => absurd z (by decide))
                refine z_iload_n 2 dX5_readAnew_116 rfl ?_
                refine z_iconst dX5_readAnew_117 ?_
                refine z_iadd dX5_readAnew_118 ?_
                refine z_istore_n (fun y => [(0, rf en 1), (1, vi x1_106), (2, vi y), (3, vi x3), (4, vi (0)), (5, vi x5_78)]) [1, 2, 0, 3, 4, 5] dX5_readAnew_119 (by decide) (fun _ => rfl) (fun x2_119 e2_119 => ?_)
                refine z_iinc (fun y => [(0, rf en 1), (1, vi x1_106), (2, vi x2_119), (3, vi y), (4, vi (0)), (5, vi x5_78)]) [1, 2, 3, 0, 4, 5] 3 dX5_readAnew_120 rfl (by decide) (fun _ => rfl) (fun x3_120 e3_120 => ?_)
                refine z_goto (tgt := 11) dX5_readAnew_123 rfl ?_
                refine z_lv [0, 1, 2, 3] [(0, rf en 1), (1, vi x1_106), (2, vi x2_119), (3, vi x3_120)] rfl ?_
                have ucw := bi_nz.mp (e5_78 ▸ uc83)
                exact uih11 x1_106 x2_119 x3_120 (-1) r1_91 (up r19 x1 ((Bc x3) - 97)) r20 r21 (by omega) (⟨by rw [f1_91, uq1, up_up], by rw [e1_106, e2_119, e3_120]; exact raI_t0 (by omega) uG (by omega) (fun uz => by have uz2 := (rb_0 (x := x3) (by omega)).mp uz; exact uz2 (by exact ucw)) (rv_01 (x := x3) (by omega) (ucw))⟩)
            ·
              rw [uu2 (a := 20) (b0 := 21) (by decide)]
              refine z_istore (fun y => [(0, rf en 1), (1, vi x1), (2, vi x2), (3, vi x3), (4, vi (0)), (5, vi y)]) [1, 2, 3, 4, 5, 0] dX5_readAnew_78 (by decide) (fun _ => rfl) (fun x5_78 e5_78 => ?_)
              have uw5 : 0 ≤ x5_78 ∧ x5_78 ≤ 1 := by rw [e5_78]; exact bi_rg _
              refine z_aload_n 0 dX5_readAnew_80 rfl ?_
              refine z_iload 5 dX5_readAnew_81 rfl ?_
              refine z_if_eq (tgt := 90) dX5_readAnew_83 rfl (by omega) (fun uc83 => ?_) (fun uc83 => ?_)
              ·
                refine z_iload_n 3 dX5_readAnew_90 rfl ?_
                refine z_putI' (r := r1) 3 rfl (fun r => (upR (upR (upR (upR M 1 r) 19 r19) 20 (up r20 x1 ((Bc x3) - 97))) 21 r21)) dX5_readAnew_91 pfX5_15_3 i1_3 ka1 (rfl) (fun _ => uu4 (by decide) (by decide) (by decide)) (fun r1_91 f1_91 => ?_)
                refine z_iload 4 dX5_readAnew_94 rfl ?_
                refine z_if_eq (tgt := 105) dX5_readAnew_96 rfl (by omega) (fun _ => ?_) (fun z => absurd z (by decide))
                refine z_iload_n 1 dX5_readAnew_105 rfl ?_
                refine z_istore_n (fun y => [(0, rf en 1), (1, vi y), (2, vi x2), (3, vi x3), (4, vi (0)), (5, vi x5_78)]) [1, 0, 2, 3, 4, 5] dX5_readAnew_106 (by decide) (fun _ => rfl) (fun x1_106 e1_106 => ?_)
                refine z_iload 4 dX5_readAnew_107 rfl ?_
                refine z_if_eq (tgt := 116) dX5_readAnew_109 rfl (by omega) (fun _ => ?_) (fun z => absurd z (by decide))
                refine z_iload_n 2 dX5_readAnew_116 rfl ?_
                refine z_iconst dX5_readAnew_117 ?_
                refine z_iadd dX5_readAnew_118 ?_
                refine z_istore_n (fun y => [(0, rf en 1), (1, vi x1_106), (2, vi y), (3, vi x3), (4, vi (0)), (5, vi x5_78)]) [1, 2, 0, 3, 4, 5] dX5_readAnew_119 (by decide) (fun _ => rfl) (fun x2_119 e2_119 => ?_)
                refine z_iinc (fun y => [(0, rf en 1), (1, vi x1_106), (2, vi x2_119), (3, vi y), (4, vi (0)), (5, vi x5_78)]) [1, 2, 3, 0, 4, 5] 3 dX5_readAnew_120 rfl (by decide) (fun _ => rfl) (fun x3_120 e3_120 => ?_)
                refine z_goto (tgt := 11) dX5_readAnew_123 rfl ?_
                refine z_lv [0, 1, 2, 3] [(0, rf en 1), (1, vi x1_106), (2, vi x2_119), (3, vi x3_120)] rfl ?_
                have ucw := bi_z.mp (e5_78 ▸ uc83)
                exact uih11 x1_106 x2_119 x3_120 x3 r1_91 r19 (up r20 x1 ((Bc x3) - 97)) r21 (by omega) (⟨by rw [f1_91, uq1, up_up], by rw [e3_120]; exact raI_bad r19 (up r20 x1 ((Bc x3) - 97)) r21 (by omega) (by omega) uG ((rb_1 (x := x3) (by omega)).mpr (by rw [← ra_F (by omega) uG (by omega)]; exact ucw))⟩)
              ·
                refine z_iconst dX5_readAnew_86 ?_
                refine z_goto (tgt := 91) dX5_readAnew_87 rfl ?_
                refine z_putI' (r := r1) 3 rfl (fun r => (upR (upR (upR (upR M 1 r) 19 r19) 20 (up r20 x1 ((Bc x3) - 97))) 21 r21)) dX5_readAnew_91 pfX5_15_3 i1_3 ka1 (rfl) (fun _ => uu4 (by decide) (by decide) (by decide)) (fun r1_91 f1_91 => ?_)
                refine z_iload 4 dX5_readAnew_94 rfl ?_
                refine z_if_eq (tgt := 105) dX5_readAnew_96 rfl (by omega) (fun _ => ?_) (fun z => absurd z (by decide))
                refine z_iload_n 1 dX5_readAnew_105 rfl ?_
                refine z_istore_n (fun y => [(0, rf en 1), (1, vi y), (2, vi x2), (3, vi x3), (4, vi (0)), (5, vi x5_78)]) [1, 0, 2, 3, 4, 5] dX5_readAnew_106 (by decide) (fun _ => rfl) (fun x1_106 e1_106 => ?_)
                refine z_iload 4 dX5_readAnew_107 rfl ?_
                refine z_if_eq (tgt := 116) dX5_readAnew_109 rfl (by omega) (fun _ => ?_) (fun z => absurd z (by decide))
                refine z_iload_n 2 dX5_readAnew_116 rfl ?_
                refine z_iconst dX5_readAnew_117 ?_
                refine z_iadd dX5_readAnew_118 ?_
                refine z_istore_n (fun y => [(0, rf en 1), (1, vi x1_106), (2, vi y), (3, vi x3), (4, vi (0)), (5, vi x5_78)]) [1, 2, 0, 3, 4, 5] dX5_readAnew_119 (by decide) (fun _ => rfl) (fun x2_119 e2_119 => ?_)
                refine z_iinc (fun y => [(0, rf en 1), (1, vi x1_106), (2, vi x2_119), (3, vi y), (4, vi (0)), (5, vi x5_78)]) [1, 2, 3, 0, 4, 5] 3 dX5_readAnew_120 rfl (by decide) (fun _ => rfl) (fun x3_120 e3_120 => ?_)
                refine z_goto (tgt := 11) dX5_readAnew_123 rfl ?_
                refine z_lv [0, 1, 2, 3] [(0, rf en 1), (1, vi x1_106), (2, vi x2_119), (3, vi x3_120)] rfl ?_
                have ucw := bi_nz.mp (e5_78 ▸ uc83)
                exact uih11 x1_106 x2_119 x3_120 (-1) r1_91 r19 (up r20 x1 ((Bc x3) - 97)) r21 (by omega) (⟨by rw [f1_91, uq1, up_up], by rw [e1_106, e2_119, e3_120]; exact raI_t1 (by omega) uG (by omega) (fun uz => by have uz2 := (rb_1 (x := x3) (by omega)).mp uz; exact uz2 (by rw [← ra_F (by omega) uG (by omega)]; exact ucw)) (rv_01 (x := x3) (by omega) (ucw.1))⟩)
            ·
              rw [uu1 (a := 21)]
              refine z_istore (fun y => [(0, rf en 1), (1, vi x1), (2, vi x2), (3, vi x3), (4, vi (0)), (5, vi y)]) [1, 2, 3, 4, 5, 0] dX5_readAnew_78 (by decide) (fun _ => rfl) (fun x5_78 e5_78 => ?_)
              have uw5 : 0 ≤ x5_78 ∧ x5_78 ≤ 1 := by rw [e5_78]; exact bi_rg _
              refine z_aload_n 0 dX5_readAnew_80 rfl ?_
              refine z_iload 5 dX5_readAnew_81 rfl ?_
              refine z_if_eq (tgt := 90) dX5_readAnew_83 rfl (by omega) (fun uc83 => ?_) (fun uc83 => ?_)
              ·
                refine z_iload_n 3 dX5_readAnew_90 rfl ?_
                refine z_putI' (r := r1) 3 rfl (fun r => (upR (upR (upR (upR M 1 r) 19 r19) 20 r20) 21 (up r21 x1 ((Bc x3) - 48)))) dX5_readAnew_91 pfX5_15_3 i1_3 ka1 (rfl) (fun _ => uu4 (by decide) (by decide) (by decide)) (fun r1_91 f1_91 => ?_)
                refine z_iload 4 dX5_readAnew_94 rfl ?_
                refine z_if_eq (tgt := 105) dX5_readAnew_96 rfl (by omega) (fun _ => ?_) (fun z => absurd z (by decide))
                refine z_iload_n 1 dX5_readAnew_105 rfl ?_
                refine z_istore_n (fun y => [(0, rf en 1), (1, vi y), (2, vi x2), (3, vi x3), (4, vi (0)), (5, vi x5_78)]) [1, 0, 2, 3, 4, 5] dX5_readAnew_106 (by decide) (fun _ => rfl) (fun x1_106 e1_106 => ?_)
                refine z_iload 4 dX5_readAnew_107 rfl ?_
                refine z_if_eq (tgt := 116) dX5_readAnew_109 rfl (by omega) (fun _ => ?_) (fun z => absurd z (by decide))
                refine z_iload_n 2 dX5_readAnew_116 rfl ?_
                refine z_iconst dX5_readAnew_117 ?_
                refine z_iadd dX5_readAnew_118 ?_
                refine z_istore_n (fun y => [(0, rf en 1), (1, vi x1_106), (2, vi y), (3, vi x3), (4, vi (0)), (5, vi x5_78)]) [1, 2, 0, 3, 4, 5] dX5_readAnew_119 (by decide) (fun _ => rfl) (fun x2_119 e2_119 => ?_)
                refine z_iinc (fun y => [(0, rf en 1), (1, vi x1_106), (2, vi x2_119), (3, vi y), (4, vi (0)), (5, vi x5_78)]) [1, 2, 3, 0, 4, 5] 3 dX5_readAnew_120 rfl (by decide) (fun _ => rfl) (fun x3_120 e3_120 => ?_)
                refine z_goto (tgt := 11) dX5_readAnew_123 rfl ?_
                refine z_lv [0, 1, 2, 3] [(0, rf en 1), (1, vi x1_106), (2, vi x2_119), (3, vi x3_120)] rfl ?_
                have ucw := bi_z.mp (e5_78 ▸ uc83)
                exact uih11 x1_106 x2_119 x3_120 x3 r1_91 r19 r20 (up r21 x1 ((Bc x3) - 48)) (by omega) (⟨by rw [f1_91, uq1, up_up], by rw [e3_120]; exact raI_bad r19 r20 (up r21 x1 ((Bc x3) - 48)) (by omega) (by omega) uG ((rb_2 (x := x3) (by omega)).mpr (by exact ucw))⟩)
              ·
                refine z_iconst dX5_readAnew_86 ?_
                refine z_goto (tgt := 91) dX5_readAnew_87 rfl ?_
                refine z_putI' (r := r1) 3 rfl (fun r => (upR (upR (upR (upR M 1 r) 19 r19) 20 r20) 21 (up r21 x1 ((Bc x3) - 48)))) dX5_readAnew_91 pfX5_15_3 i1_3 ka1 (rfl) (fun _ => uu4 (by decide) (by decide) (by decide)) (fun r1_91 f1_91 => ?_)
                refine z_iload 4 dX5_readAnew_94 rfl ?_
                refine z_if_eq (tgt := 105) dX5_readAnew_96 rfl (by omega) (fun _ => ?_) (fun z => absurd z (by decide))
                refine z_iload_n 1 dX5_readAnew_105 rfl ?_
                refine z_istore_n (fun y => [(0, rf en 1), (1, vi y), (2, vi x2), (3, vi x3), (4, vi (0)), (5, vi x5_78)]) [1, 0, 2, 3, 4, 5] dX5_readAnew_106 (by decide) (fun _ => rfl) (fun x1_106 e1_106 => ?_)
                refine z_iload 4 dX5_readAnew_107 rfl ?_
                refine z_if_eq (tgt := 116) dX5_readAnew_109 rfl (by omega) (fun _ => ?_) (fun z => absurd z (by decide))
                refine z_iload_n 2 dX5_readAnew_116 rfl ?_
                refine z_iconst dX5_readAnew_117 ?_
                refine z_iadd dX5_readAnew_118 ?_
                refine z_istore_n (fun y => [(0, rf en 1), (1, vi x1_106), (2, vi y), (3, vi x3), (4, vi (0)), (5, vi x5_78)]) [1, 2, 0, 3, 4, 5] dX5_readAnew_119 (by decide) (fun _ => rfl) (fun x2_119 e2_119 => ?_)
                refine z_iinc (fun y => [(0, rf en 1), (1, vi x1_106), (2, vi x2_119), (3, vi y), (4, vi (0)), (5, vi x5_78)]) [1, 2, 3, 0, 4, 5] 3 dX5_readAnew_120 rfl (by decide) (fun _ => rfl) (fun x3_120 e3_120 => ?_)
                refine z_goto (tgt := 11) dX5_readAnew_123 rfl ?_
                refine z_lv [0, 1, 2, 3] [(0, rf en 1), (1, vi x1_106), (2, vi x2_119), (3, vi x3_120)] rfl ?_
                have ucw := bi_nz.mp (e5_78 ▸ uc83)
                exact uih11 x1_106 x2_119 x3_120 (-1) r1_91 r19 r20 (up r21 x1 ((Bc x3) - 48)) (by omega) (⟨by rw [f1_91, uq1, up_up], by rw [e1_106, e2_119, e3_120]; exact raI_t2 (by omega) uG (by omega) (fun uz => by have uz2 := (rb_2 (x := x3) (by omega)).mp uz; exact uz2 (by exact ucw)) (rv_2 (x := x3) (by omega) ucw)⟩)
          ·
            refine z_iconst dX5_readAnew_35 ?_
            refine z_goto (tgt := 40) dX5_readAnew_36 rfl ?_
            refine z_istore (fun y => [(0, rf en 1), (1, vi x1), (2, vi x2), (3, vi x3), (4, vi y)]) [1, 2, 3, 4, 0] dX5_readAnew_40 (by decide) (fun _ => rfl) (fun uy uhy => ?_)
            subst uhy
            refine z_iload 4 dX5_readAnew_42 rfl ?_
            refine z_if_eq (tgt := 66) dX5_readAnew_44 rfl (by omega) (fun z => absurd z (by decide)) (fun _ => ?_)
            refine z_aload_n 0 dX5_readAnew_47 rfl ?_
            refine z_getR dX5_readAnew_48 fX5_9_3 i1_1 ka1 ?_
            refine z_iload_n 3 dX5_readAnew_51 rfl ?_
            refine z_iald (r := Bc) dX5_readAnew_52 is18 ka18 (wBc) (by omega) ?_
            refine z_bipush dX5_readAnew_53 rfl ?_
            refine z_icmp_ne (tgt := 62) dX5_readAnew_55 rfl (by omega) (fun uc55 => ?_) (fun uc55 => ?_)
            ·
              refine z_iconst dX5_readAnew_62 ?_
              refine z_goto (tgt := 78) dX5_readAnew_63 rfl ?_
              refine z_istore (fun y => [(0, rf en 1), (1, vi x1), (2, vi x2), (3, vi x3), (4, vi (1)), (5, vi y)]) [1, 2, 3, 4, 5, 0] dX5_readAnew_78 (by decide) (fun _ => rfl) (fun uy uhy => ?_)
              subst uhy
              skip
              refine z_aload_n 0 dX5_readAnew_80 rfl ?_
              refine z_iload 5 dX5_readAnew_81 rfl ?_
              refine z_if_eq (tgt := 90) dX5_readAnew_83 rfl (by omega) (fun _ => ?_) (fun z => absurd z (by decide))
              refine z_iload_n 3 dX5_readAnew_90 rfl ?_
              refine z_putI' (r := r1) 3 rfl (fun r => (upR (upR (upR (upR M 1 r) 19 r19) 20 r20) 21 r21)) dX5_readAnew_91 pfX5_15_3 i1_3 ka1 (rfl) (fun _ => uu4 (by decide) (by decide) (by decide)) (fun r1_91 f1_91 => ?_)
              refine z_iload 4 dX5_readAnew_94 rfl ?_
              refine z_if_eq (tgt := 105) dX5_readAnew_96 rfl (by omega) (fun z => absurd z (by decide)) (fun _ => ?_)
              refine z_iload_n 1 dX5_readAnew_99 rfl ?_
              refine z_iconst dX5_readAnew_100 ?_
              refine z_iadd dX5_readAnew_101 ?_
              refine z_goto (tgt := 106) dX5_readAnew_102 rfl ?_
              refine z_istore_n (fun y => [(0, rf en 1), (1, vi y), (2, vi x2), (3, vi x3), (4, vi (1)), (5, vi (0))]) [1, 0, 2, 3, 4, 5] dX5_readAnew_106 (by decide) (fun _ => rfl) (fun x1_106 e1_106 => ?_)
              refine z_iload 4 dX5_readAnew_107 rfl ?_
              refine z_if_eq (tgt := 116) dX5_readAnew_109 rfl (by omega) (fun z => absurd z (by decide)) (fun _ => ?_)
              refine z_iconst dX5_readAnew_112 ?_
              refine z_goto (tgt := 119) dX5_readAnew_113 rfl ?_
              refine z_istore_n (fun y => [(0, rf en 1), (1, vi x1_106), (2, vi y), (3, vi x3), (4, vi (1)), (5, vi (0))]) [1, 2, 0, 3, 4, 5] dX5_readAnew_119 (by decide) (fun _ => rfl) (fun uy uhy => ?_)
              subst uhy
              refine z_iinc (fun y => [(0, rf en 1), (1, vi x1_106), (2, vi (0)), (3, vi y), (4, vi (1)), (5, vi (0))]) [1, 2, 3, 0, 4, 5] 3 dX5_readAnew_120 rfl (by decide) (fun _ => rfl) (fun x3_120 e3_120 => ?_)
              refine z_goto (tgt := 11) dX5_readAnew_123 rfl ?_
              refine z_lv [0, 1, 2, 3] [(0, rf en 1), (1, vi x1_106), (2, vi (0)), (3, vi x3_120)] rfl ?_
              exact uih11 x1_106 (0) x3_120 x3 r1_91 r19 r20 r21 (by omega) (⟨by rw [f1_91, uq1, up_up], by rw [e3_120]; exact raI_bad r19 r20 r21 (by omega) (by omega) uG ((rb_3 (x := x3) (by omega)).mpr (by omega))⟩)
            ·
              refine z_iconst dX5_readAnew_58 ?_
              refine z_goto (tgt := 78) dX5_readAnew_59 rfl ?_
              refine z_istore (fun y => [(0, rf en 1), (1, vi x1), (2, vi x2), (3, vi x3), (4, vi (1)), (5, vi y)]) [1, 2, 3, 4, 5, 0] dX5_readAnew_78 (by decide) (fun _ => rfl) (fun uy uhy => ?_)
              subst uhy
              skip
              refine z_aload_n 0 dX5_readAnew_80 rfl ?_
              refine z_iload 5 dX5_readAnew_81 rfl ?_
              refine z_if_eq (tgt := 90) dX5_readAnew_83 rfl (by omega) (fun z => absurd z (by decide)) (fun _ => ?_)
              refine z_iconst dX5_readAnew_86 ?_
              refine z_goto (tgt := 91) dX5_readAnew_87 rfl ?_
              refine z_putI' (r := r1) 3 rfl (fun r => (upR (upR (upR (upR M 1 r) 19 r19) 20 r20) 21 r21)) dX5_readAnew_91 pfX5_15_3 i1_3 ka1 (rfl) (fun _ => uu4 (by decide) (by decide) (by decide)) (fun r1_91 f1_91 => ?_)
              refine z_iload 4 dX5_readAnew_94 rfl ?_
              refine z_if_eq (tgt := 105) dX5_readAnew_96 rfl (by omega) (fun z => absurd z (by decide)) (fun _ => ?_)
              refine z_iload_n 1 dX5_readAnew_99 rfl ?_
              refine z_iconst dX5_readAnew_100 ?_
              refine z_iadd dX5_readAnew_101 ?_
              refine z_goto (tgt := 106) dX5_readAnew_102 rfl ?_
              refine z_istore_n (fun y => [(0, rf en 1), (1, vi y), (2, vi x2), (3, vi x3), (4, vi (1)), (5, vi (1))]) [1, 0, 2, 3, 4, 5] dX5_readAnew_106 (by decide) (fun _ => rfl) (fun x1_106 e1_106 => ?_)
              refine z_iload 4 dX5_readAnew_107 rfl ?_
              refine z_if_eq (tgt := 116) dX5_readAnew_109 rfl (by omega) (fun z => absurd z (by decide)) (fun _ => ?_)
              refine z_iconst dX5_readAnew_112 ?_
              refine z_goto (tgt := 119) dX5_readAnew_113 rfl ?_
              refine z_istore_n (fun y => [(0, rf en 1), (1, vi x1_106), (2, vi y), (3, vi x3), (4, vi (1)), (5, vi (1))]) [1, 2, 0, 3, 4, 5] dX5_readAnew_119 (by decide) (fun _ => rfl) (fun uy uhy => ?_)
              subst uhy
              refine z_iinc (fun y => [(0, rf en 1), (1, vi x1_106), (2, vi (0)), (3, vi y), (4, vi (1)), (5, vi (1))]) [1, 2, 3, 0, 4, 5] 3 dX5_readAnew_120 rfl (by decide) (fun _ => rfl) (fun x3_120 e3_120 => ?_)
              refine z_goto (tgt := 11) dX5_readAnew_123 rfl ?_
              refine z_lv [0, 1, 2, 3] [(0, rf en 1), (1, vi x1_106), (2, vi (0)), (3, vi x3_120)] rfl ?_
              exact uih11 x1_106 (0) x3_120 (-1) r1_91 r19 r20 r21 (by omega) (⟨by rw [f1_91, uq1, up_up], by rw [e1_106, e3_120]; exact raI_semi (by omega) uG (by omega) (fun uz => ((rb_3 (x := x3) (by omega)).mp uz) (by omega))⟩)
  refine Z.eqM (upR_id (k := 19) wF) ?_
  refine Z.eqM (upR_id (k := 20) wG) ?_
  refine Z.eqM (upR_id (k := 21) wD) ?_
  exact uL11 _ 0 0 0 (-1) r1_6 F G D (Nat.lt_succ_self _) (⟨f1_6, raI_0 Bc hO.2.1 F G D⟩)
set_option maxRecDepth 100000 in
theorem ct_X5_readAnew_2 (en : zE) (M : zW) (O1 : Int → Int) (Bc : Int → Int) (A : Int → Int) (G : Int → Int) (K : Int → Int) (H : Int → Int) (S : Int → Int) (wO1 : M 2 = O1) (wBc : M 23 = Bc) (wA : M 24 = A) (wG : M 25 = G) (wK : M 26 = K) (wH : M 27 = H) (wS : M 28 = S) (hO : O1 0 = 5 ∧ 0 ≤ O1 2 ∧ O1 2 ≤ 47) (hB : ∀ j, 0 ≤ j → j < O1 2 → 0 ≤ Bc j ∧ Bc j ≤ 255) : Ct en kA yX5_readAnew mX5_readAnew [rf en 2] M (pN (fun N => ∃ (r24 r25 r26 r27 r28 : Int → Int) (v : Int), pdF Bc (O1 2) v ∧ (v = -1 → paIT Bc r24 r25 r26 r27 r28 (O1 2)) ∧ (upR (upR (upR (upR (upR (upR M 2 (up (up O1 3 v) 4 (pCnt (O1 2) v))) 24 r24) 25 r25) 26 r26) 27 r27) 28 r28) = N)) := by
  refine Ct.of (by decide +kernel) rfl [(0, rf en 2)] rfl (Nat.le_of_ble_eq_true rfl) (fun cx C => ?_)
  refine z_iconst dX5_readAnew_0 ?_
  refine z_istore_n (fun y => [(0, rf en 2), (1, vi y)]) [1, 0] dX5_readAnew_1 (by decide) (fun _ => rfl) (fun uy uhy => ?_)
  subst uhy
  refine z_iconst dX5_readAnew_2 ?_
  refine z_istore_n (fun y => [(0, rf en 2), (1, vi (0)), (2, vi y)]) [1, 2, 0] dX5_readAnew_3 (by decide) (fun _ => rfl) (fun uy uhy => ?_)
  subst uhy
  refine z_aload_n 0 dX5_readAnew_4 rfl ?_
  refine z_iconst dX5_readAnew_5 ?_
  refine z_putI (r := O1) 3 rfl dX5_readAnew_6 pfX5_15_2 i2_3 ka2 (wO1) (fun r2_6 f2_6 => ?_)
  refine z_iconst dX5_readAnew_9 ?_
  refine z_istore_n (fun y => [(0, rf en 2), (1, vi (0)), (2, vi (0)), (3, vi y)]) [1, 2, 3, 0] dX5_readAnew_10 (by decide) (fun _ => rfl) (fun uy uhy => ?_)
  subst uhy
  have uL11 : ∀ (fu : Nat) (x1 : Int) (x2 : Int) (x3 : Int) (fl : Int) (r2 : Int → Int) (r24 : Int → Int) (r25 : Int → Int) (r26 : Int → Int) (r27 : Int → Int) (r28 : Int → Int), (O1 2 - x3).toNat < fu → (r2 = up O1 3 fl ∧ paI Bc (O1 2) x1 x2 x3 fl r24 r25 r26 r27 r28) → Z en kA cx mX5_readAnew (upR (upR (upR (upR (upR (upR M 2 r2) 24 r24) 25 r25) 26 r26) 27 r27) 28 r28) 11 [(0, rf en 2), (1, vi x1), (2, vi x2), (3, vi x3)] [] := by
    intro fu
    induction fu with
    | zero => intro x1 x2 x3 fl r2 r24 r25 r26 r27 r28 uhf; exact absurd uhf (Nat.not_lt_zero _)
    | succ fu uih11 =>
      intro x1 x2 x3 fl r2 r24 r25 r26 r27 r28 uf11 uI11
      obtain ⟨uq1, uq2⟩ := uI11
      have uo3 : r2 3 = fl := by rw [uq1, up_s]
      have uo2 : r2 2 = O1 2 := by rw [uq1, up_n _ _ (by decide)]
      have uo0 : r2 0 = 5 := by rw [uq1, up_n _ _ (by decide)]; exact hO.1
      have uqr := uq2.1
      have uqs : (0 ≤ x1 ∧ x1 ≤ 12) ∧ (0 ≤ x2 ∧ x2 ≤ 5) ∧ (fl = -1 ∨ fl = x3 - 1) := by rcases uq2.2 with ⟨ua, ⟨ub, uc⟩, ud⟩ | ⟨ua, ub⟩ <;> omega
      refine z_iload_n 3 dX5_readAnew_11 rfl ?_
      refine z_aload_n 0 dX5_readAnew_12 rfl ?_
      refine z_getI (r := r2) 2 rfl dX5_readAnew_13 fX5_22_2 i2_2 ka2 (rfl) ?_
      refine z_icmp_ge (tgt := 126) dX5_readAnew_16 rfl (by omega) (fun uc16 => ?_) (fun uc16 => ?_)
      ·
        refine z_aload_n 0 dX5_readAnew_126 rfl ?_
        refine z_getI (r := r2) 3 rfl dX5_readAnew_127 fX5_15_2 i2_3 ka2 (rfl) ?_
        refine z_iconst dX5_readAnew_130 ?_
        refine z_icmp_ne (tgt := 157) dX5_readAnew_131 rfl (by omega) (fun uc131 => ?_) (fun uc131 => ?_)
        · first
          | (exfalso; omega)
          |
              rw [uo3] at uc131
              skip
              skip
              refine z_aload_n 0 dX5_readAnew_157 rfl ?_
              refine z_aload_n 0 dX5_readAnew_158 rfl ?_
              refine z_getI (r := r2) 3 rfl dX5_readAnew_159 fX5_15_2 i2_3 ka2 (rfl) ?_
              refine z_iconst dX5_readAnew_162 ?_
              refine z_icmp_ne (tgt := 179) dX5_readAnew_163 rfl (by omega) (fun uc163 => ?_) (fun uc163 => ?_)
              · first
                | (exfalso; omega)
                |
                    refine z_iconst dX5_readAnew_179 ?_
                    refine z_putI' (r := r2) 4 rfl (fun r => (upR (upR (upR (upR (upR (upR M 2 r) 24 r24) 25 r25) 26 r26) 27 r27) 28 r28)) dX5_readAnew_180 pfX5_41_2 i2_4 ka2 (rfl) (fun _ => uu6 (by decide) (by decide) (by decide) (by decide) (by decide)) (fun r2_180 f2_180 => ?_)
                    exact z_vret C dX5_readAnew_183 rfl ⟨rfl, ⟨r24, r25, r26, r27, r28, fl, paI_e1 uq2 uc131, fun uz => absurd uz uc131, by rw [show r2_180 = up (up O1 3 fl) 4 (pCnt (O1 2) fl) by (rw [f2_180]; rw [uq1, pCnt, if_neg uc131])]⟩⟩
              · first
                | (exfalso; omega)
                |
                    refine z_aload_n 0 dX5_readAnew_166 rfl ?_
                    refine z_getI (r := r2) 2 rfl dX5_readAnew_167 fX5_22_2 i2_2 ka2 (rfl) ?_
                    refine z_if_le (tgt := 179) dX5_readAnew_170 rfl (by omega) (fun uc170 => ?_) (fun uc170 => ?_)
                    · first
                      | (exfalso; omega)
                      |
                          refine z_iconst dX5_readAnew_179 ?_
                          refine z_putI' (r := r2) 4 rfl (fun r => (upR (upR (upR (upR (upR (upR M 2 r) 24 r24) 25 r25) 26 r26) 27 r27) 28 r28)) dX5_readAnew_180 pfX5_41_2 i2_4 ka2 (rfl) (fun _ => uu6 (by decide) (by decide) (by decide) (by decide) (by decide)) (fun r2_180 f2_180 => ?_)
                          exact z_vret C dX5_readAnew_183 rfl ⟨rfl, ⟨r24, r25, r26, r27, r28, fl, paI_e1 uq2 uc131, fun uz => absurd uz uc131, by rw [show r2_180 = up (up O1 3 fl) 4 (pCnt (O1 2) fl) by (rw [f2_180]; rw [uq1, pCnt, if_neg uc131])]⟩⟩
                    · first
                      | (exfalso; omega)
                      |
                          refine z_iload_n 1 dX5_readAnew_173 rfl ?_
                          refine z_iconst dX5_readAnew_174 ?_
                          refine z_iadd dX5_readAnew_175 ?_
                          refine z_goto (tgt := 180) dX5_readAnew_176 rfl ?_
                          refine z_putI' (r := r2) 4 rfl (fun r => (upR (upR (upR (upR (upR (upR M 2 r) 24 r24) 25 r25) 26 r26) 27 r27) 28 r28)) dX5_readAnew_180 pfX5_41_2 i2_4 ka2 (rfl) (fun _ => uu6 (by decide) (by decide) (by decide) (by decide) (by decide)) (fun r2_180 f2_180 => ?_)
                          exact z_vret C dX5_readAnew_183 rfl ⟨rfl, ⟨r24, r25, r26, r27, r28, fl, paI_e1 uq2 uc131, fun uz => absurd uz uc131, by rw [show r2_180 = up (up O1 3 fl) 4 (pCnt (O1 2) fl) by (rw [f2_180]; rw [uq1, pCnt, if_neg uc131])]⟩⟩
        · first
          | (exfalso; omega)
          |
              rw [uo3] at uc131
              have uGn : paIG Bc x1 x2 (O1 2) r24 r25 r26 r27 r28 := by rcases uq2.2 with uz | uz; exact (show x3 = O1 2 by omega) ▸ uz.2; exact absurd uz.1.1 (by omega)
              refine z_aload_n 0 dX5_readAnew_134 rfl ?_
              refine z_getI (r := r2) 2 rfl dX5_readAnew_135 fX5_22_2 i2_2 ka2 (rfl) ?_
              refine z_if_le (tgt := 157) dX5_readAnew_138 rfl (by omega) (fun uc138 => ?_) (fun uc138 => ?_)
              ·
                skip
                skip
                skip
                refine z_aload_n 0 dX5_readAnew_157 rfl ?_
                refine z_aload_n 0 dX5_readAnew_158 rfl ?_
                refine z_getI (r := r2) 3 rfl dX5_readAnew_159 fX5_15_2 i2_3 ka2 (rfl) ?_
                refine z_iconst dX5_readAnew_162 ?_
                refine z_icmp_ne (tgt := 179) dX5_readAnew_163 rfl (by omega) (fun uc163 => ?_) (fun uc163 => ?_)
                · first
                  | (exfalso; omega)
                  |
                      refine z_iconst dX5_readAnew_179 ?_
                      refine z_putI' (r := r2) 4 rfl (fun r => (upR (upR (upR (upR (upR (upR M 2 r) 24 r24) 25 r25) 26 r26) 27 r27) 28 r28)) dX5_readAnew_180 pfX5_41_2 i2_4 ka2 (rfl) (fun _ => uu6 (by decide) (by decide) (by decide) (by decide) (by decide)) (fun r2_180 f2_180 => ?_)
                      exact z_vret C dX5_readAnew_183 rfl ⟨rfl, ⟨r24, r25, r26, r27, r28, (-1), paI_e3 uGn (by omega) (by omega), fun _ => uGn.2.2, by rw [show r2_180 = up (up O1 3 (-1)) 4 (pCnt (O1 2) (-1)) by (rw [f2_180]; rw [uq1, uc131, pCnt, if_pos rfl]; congr 1; have uzz := uGn.1; omega)]⟩⟩
                · first
                  | (exfalso; omega)
                  |
                      refine z_aload_n 0 dX5_readAnew_166 rfl ?_
                      refine z_getI (r := r2) 2 rfl dX5_readAnew_167 fX5_22_2 i2_2 ka2 (rfl) ?_
                      refine z_if_le (tgt := 179) dX5_readAnew_170 rfl (by omega) (fun uc170 => ?_) (fun uc170 => ?_)
                      · first
                        | (exfalso; omega)
                        |
                            refine z_iconst dX5_readAnew_179 ?_
                            refine z_putI' (r := r2) 4 rfl (fun r => (upR (upR (upR (upR (upR (upR M 2 r) 24 r24) 25 r25) 26 r26) 27 r27) 28 r28)) dX5_readAnew_180 pfX5_41_2 i2_4 ka2 (rfl) (fun _ => uu6 (by decide) (by decide) (by decide) (by decide) (by decide)) (fun r2_180 f2_180 => ?_)
                            exact z_vret C dX5_readAnew_183 rfl ⟨rfl, ⟨r24, r25, r26, r27, r28, (-1), paI_e3 uGn (by omega) (by omega), fun _ => uGn.2.2, by rw [show r2_180 = up (up O1 3 (-1)) 4 (pCnt (O1 2) (-1)) by (rw [f2_180]; rw [uq1, uc131, pCnt, if_pos rfl]; congr 1; have uzz := uGn.1; omega)]⟩⟩
                      · first
                        | (exfalso; omega)
                        |
                            refine z_iload_n 1 dX5_readAnew_173 rfl ?_
                            refine z_iconst dX5_readAnew_174 ?_
                            refine z_iadd dX5_readAnew_175 ?_
                            refine z_goto (tgt := 180) dX5_readAnew_176 rfl ?_
                            refine z_putI' (r := r2) 4 rfl (fun r => (upR (upR (upR (upR (upR (upR M 2 r) 24 r24) 25 r25) 26 r26) 27 r27) 28 r28)) dX5_readAnew_180 pfX5_41_2 i2_4 ka2 (rfl) (fun _ => uu6 (by decide) (by decide) (by decide) (by decide) (by decide)) (fun r2_180 f2_180 => ?_)
                            exact z_vret C dX5_readAnew_183 rfl ⟨rfl, ⟨r24, r25, r26, r27, r28, (-1), paI_e3 uGn (by omega) (by omega), fun _ => uGn.2.2, by rw [show r2_180 = up (up O1 3 (-1)) 4 (pCnt (O1 2) (-1)) by (rw [f2_180]; rw [uq1, uc131, pCnt, if_pos rfl]; congr 1; have uzz := uGn.1; omega)]⟩⟩
              ·
                refine z_iload_n 2 dX5_readAnew_141 rfl ?_
                refine z_aload_n 0 dX5_readAnew_142 rfl ?_
                refine z_getI (r := r2) 0 rfl dX5_readAnew_143 fX5_19_2 i2_0 ka2 (rfl) ?_
                refine z_icmp_ge (tgt := 157) dX5_readAnew_146 rfl (by omega) (fun uc146 => ?_) (fun uc146 => ?_)
                ·
                  skip
                  skip
                  skip
                  refine z_aload_n 0 dX5_readAnew_157 rfl ?_
                  refine z_aload_n 0 dX5_readAnew_158 rfl ?_
                  refine z_getI (r := r2) 3 rfl dX5_readAnew_159 fX5_15_2 i2_3 ka2 (rfl) ?_
                  refine z_iconst dX5_readAnew_162 ?_
                  refine z_icmp_ne (tgt := 179) dX5_readAnew_163 rfl (by omega) (fun uc163 => ?_) (fun uc163 => ?_)
                  · first
                    | (exfalso; omega)
                    |
                        refine z_iconst dX5_readAnew_179 ?_
                        refine z_putI' (r := r2) 4 rfl (fun r => (upR (upR (upR (upR (upR (upR M 2 r) 24 r24) 25 r25) 26 r26) 27 r27) 28 r28)) dX5_readAnew_180 pfX5_41_2 i2_4 ka2 (rfl) (fun _ => uu6 (by decide) (by decide) (by decide) (by decide) (by decide)) (fun r2_180 f2_180 => ?_)
                        exact z_vret C dX5_readAnew_183 rfl ⟨rfl, ⟨r24, r25, r26, r27, r28, (-1), paI_e3 uGn (by omega) (by omega), fun _ => uGn.2.2, by rw [show r2_180 = up (up O1 3 (-1)) 4 (pCnt (O1 2) (-1)) by (rw [f2_180]; rw [uq1, uc131, pCnt, if_pos rfl]; congr 1; have uzz := uGn.1; omega)]⟩⟩
                  · first
                    | (exfalso; omega)
                    |
                        refine z_aload_n 0 dX5_readAnew_166 rfl ?_
                        refine z_getI (r := r2) 2 rfl dX5_readAnew_167 fX5_22_2 i2_2 ka2 (rfl) ?_
                        refine z_if_le (tgt := 179) dX5_readAnew_170 rfl (by omega) (fun uc170 => ?_) (fun uc170 => ?_)
                        · first
                          | (exfalso; omega)
                          |
                              refine z_iconst dX5_readAnew_179 ?_
                              refine z_putI' (r := r2) 4 rfl (fun r => (upR (upR (upR (upR (upR (upR M 2 r) 24 r24) 25 r25) 26 r26) 27 r27) 28 r28)) dX5_readAnew_180 pfX5_41_2 i2_4 ka2 (rfl) (fun _ => uu6 (by decide) (by decide) (by decide) (by decide) (by decide)) (fun r2_180 f2_180 => ?_)
                              exact z_vret C dX5_readAnew_183 rfl ⟨rfl, ⟨r24, r25, r26, r27, r28, (-1), paI_e3 uGn (by omega) (by omega), fun _ => uGn.2.2, by rw [show r2_180 = up (up O1 3 (-1)) 4 (pCnt (O1 2) (-1)) by (rw [f2_180]; rw [uq1, uc131, pCnt, if_pos rfl]; congr 1; have uzz := uGn.1; omega)]⟩⟩
                        · first
                          | (exfalso; omega)
                          |
                              refine z_iload_n 1 dX5_readAnew_173 rfl ?_
                              refine z_iconst dX5_readAnew_174 ?_
                              refine z_iadd dX5_readAnew_175 ?_
                              refine z_goto (tgt := 180) dX5_readAnew_176 rfl ?_
                              refine z_putI' (r := r2) 4 rfl (fun r => (upR (upR (upR (upR (upR (upR M 2 r) 24 r24) 25 r25) 26 r26) 27 r27) 28 r28)) dX5_readAnew_180 pfX5_41_2 i2_4 ka2 (rfl) (fun _ => uu6 (by decide) (by decide) (by decide) (by decide) (by decide)) (fun r2_180 f2_180 => ?_)
                              exact z_vret C dX5_readAnew_183 rfl ⟨rfl, ⟨r24, r25, r26, r27, r28, (-1), paI_e3 uGn (by omega) (by omega), fun _ => uGn.2.2, by rw [show r2_180 = up (up O1 3 (-1)) 4 (pCnt (O1 2) (-1)) by (rw [f2_180]; rw [uq1, uc131, pCnt, if_pos rfl]; congr 1; have uzz := uGn.1; omega)]⟩⟩
                ·
                  refine z_aload_n 0 dX5_readAnew_149 rfl ?_
                  refine z_aload_n 0 dX5_readAnew_150 rfl ?_
                  refine z_getI (r := r2) 2 rfl dX5_readAnew_151 fX5_22_2 i2_2 ka2 (rfl) ?_
                  refine z_putI' (r := r2) 3 rfl (fun r => (upR (upR (upR (upR (upR (upR M 2 r) 24 r24) 25 r25) 26 r26) 27 r27) 28 r28)) dX5_readAnew_154 pfX5_15_2 i2_3 ka2 (rfl) (fun _ => uu6 (by decide) (by decide) (by decide) (by decide) (by decide)) (fun r2_154 f2_154 => ?_)
                  skip
                  have uo5 : r2_154 3 = O1 2 := by rw [f2_154, up_s, uo2]
                  have uo6 : r2_154 2 = O1 2 := by rw [f2_154, up_n _ _ (by decide), uo2]
                  refine z_aload_n 0 dX5_readAnew_157 rfl ?_
                  refine z_aload_n 0 dX5_readAnew_158 rfl ?_
                  refine z_getI (r := r2_154) 3 rfl dX5_readAnew_159 fX5_15_2 i2_3 ka2 (rfl) ?_
                  refine z_iconst dX5_readAnew_162 ?_
                  refine z_icmp_ne (tgt := 179) dX5_readAnew_163 rfl (by omega) (fun uc163 => ?_) (fun uc163 => ?_)
                  · first
                    | (exfalso; omega)
                    |
                        refine z_iconst dX5_readAnew_179 ?_
                        refine z_putI' (r := r2_154) 4 rfl (fun r => (upR (upR (upR (upR (upR (upR M 2 r) 24 r24) 25 r25) 26 r26) 27 r27) 28 r28)) dX5_readAnew_180 pfX5_41_2 i2_4 ka2 (rfl) (fun _ => uu6 (by decide) (by decide) (by decide) (by decide) (by decide)) (fun r2_180 f2_180 => ?_)
                        exact z_vret C dX5_readAnew_183 rfl ⟨rfl, ⟨r24, r25, r26, r27, r28, (O1 2), paI_e2 uGn (by omega) (by omega), fun uz => absurd uz (by omega), by rw [show r2_180 = up (up O1 3 (O1 2)) 4 (pCnt (O1 2) (O1 2)) by (rw [f2_180]; rw [f2_154, uo2, uq1, up_up, pCnt, if_neg (by omega)])]⟩⟩
                  · first
                    | (exfalso; omega)
                    |
                        refine z_aload_n 0 dX5_readAnew_166 rfl ?_
                        refine z_getI (r := r2_154) 2 rfl dX5_readAnew_167 fX5_22_2 i2_2 ka2 (rfl) ?_
                        refine z_if_le (tgt := 179) dX5_readAnew_170 rfl (by omega) (fun uc170 => ?_) (fun uc170 => ?_)
                        · first
                          | (exfalso; omega)
                          |
                              refine z_iconst dX5_readAnew_179 ?_
                              refine z_putI' (r := r2_154) 4 rfl (fun r => (upR (upR (upR (upR (upR (upR M 2 r) 24 r24) 25 r25) 26 r26) 27 r27) 28 r28)) dX5_readAnew_180 pfX5_41_2 i2_4 ka2 (rfl) (fun _ => uu6 (by decide) (by decide) (by decide) (by decide) (by decide)) (fun r2_180 f2_180 => ?_)
                              exact z_vret C dX5_readAnew_183 rfl ⟨rfl, ⟨r24, r25, r26, r27, r28, (O1 2), paI_e2 uGn (by omega) (by omega), fun uz => absurd uz (by omega), by rw [show r2_180 = up (up O1 3 (O1 2)) 4 (pCnt (O1 2) (O1 2)) by (rw [f2_180]; rw [f2_154, uo2, uq1, up_up, pCnt, if_neg (by omega)])]⟩⟩
                        · first
                          | (exfalso; omega)
                          |
                              refine z_iload_n 1 dX5_readAnew_173 rfl ?_
                              refine z_iconst dX5_readAnew_174 ?_
                              refine z_iadd dX5_readAnew_175 ?_
                              refine z_goto (tgt := 180) dX5_readAnew_176 rfl ?_
                              refine z_putI' (r := r2_154) 4 rfl (fun r => (upR (upR (upR (upR (upR (upR M 2 r) 24 r24) 25 r25) 26 r26) 27 r27) 28 r28)) dX5_readAnew_180 pfX5_41_2 i2_4 ka2 (rfl) (fun _ => uu6 (by decide) (by decide) (by decide) (by decide) (by decide)) (fun r2_180 f2_180 => ?_)
                              exact z_vret C dX5_readAnew_183 rfl ⟨rfl, ⟨r24, r25, r26, r27, r28, (O1 2), paI_e2 uGn (by omega) (by omega), fun uz => absurd uz (by omega), by rw [show r2_180 = up (up O1 3 (O1 2)) 4 (pCnt (O1 2) (O1 2)) by (rw [f2_180]; rw [f2_154, uo2, uq1, up_up, pCnt, if_neg (by omega)])]⟩⟩
      ·
        refine z_aload_n 0 dX5_readAnew_19 rfl ?_
        refine z_getI (r := r2) 3 rfl dX5_readAnew_20 fX5_15_2 i2_3 ka2 (rfl) ?_
        refine z_iconst dX5_readAnew_23 ?_
        refine z_icmp_ne (tgt := 126) dX5_readAnew_24 rfl (by omega) (fun uc24 => ?_) (fun uc24 => ?_)
        ·
          refine z_aload_n 0 dX5_readAnew_126 rfl ?_
          refine z_getI (r := r2) 3 rfl dX5_readAnew_127 fX5_15_2 i2_3 ka2 (rfl) ?_
          refine z_iconst dX5_readAnew_130 ?_
          refine z_icmp_ne (tgt := 157) dX5_readAnew_131 rfl (by omega) (fun uc131 => ?_) (fun uc131 => ?_)
          · first
            | (exfalso; omega)
            |
                rw [uo3] at uc131
                skip
                skip
                refine z_aload_n 0 dX5_readAnew_157 rfl ?_
                refine z_aload_n 0 dX5_readAnew_158 rfl ?_
                refine z_getI (r := r2) 3 rfl dX5_readAnew_159 fX5_15_2 i2_3 ka2 (rfl) ?_
                refine z_iconst dX5_readAnew_162 ?_
                refine z_icmp_ne (tgt := 179) dX5_readAnew_163 rfl (by omega) (fun uc163 => ?_) (fun uc163 => ?_)
                · first
                  | (exfalso; omega)
                  |
                      refine z_iconst dX5_readAnew_179 ?_
                      refine z_putI' (r := r2) 4 rfl (fun r => (upR (upR (upR (upR (upR (upR M 2 r) 24 r24) 25 r25) 26 r26) 27 r27) 28 r28)) dX5_readAnew_180 pfX5_41_2 i2_4 ka2 (rfl) (fun _ => uu6 (by decide) (by decide) (by decide) (by decide) (by decide)) (fun r2_180 f2_180 => ?_)
                      exact z_vret C dX5_readAnew_183 rfl ⟨rfl, ⟨r24, r25, r26, r27, r28, fl, paI_e1 uq2 uc131, fun uz => absurd uz uc131, by rw [show r2_180 = up (up O1 3 fl) 4 (pCnt (O1 2) fl) by (rw [f2_180]; rw [uq1, pCnt, if_neg uc131])]⟩⟩
                · first
                  | (exfalso; omega)
                  |
                      refine z_aload_n 0 dX5_readAnew_166 rfl ?_
                      refine z_getI (r := r2) 2 rfl dX5_readAnew_167 fX5_22_2 i2_2 ka2 (rfl) ?_
                      refine z_if_le (tgt := 179) dX5_readAnew_170 rfl (by omega) (fun uc170 => ?_) (fun uc170 => ?_)
                      · first
                        | (exfalso; omega)
                        |
                            refine z_iconst dX5_readAnew_179 ?_
                            refine z_putI' (r := r2) 4 rfl (fun r => (upR (upR (upR (upR (upR (upR M 2 r) 24 r24) 25 r25) 26 r26) 27 r27) 28 r28)) dX5_readAnew_180 pfX5_41_2 i2_4 ka2 (rfl) (fun _ => uu6 (by decide) (by decide) (by decide) (by decide) (by decide)) (fun r2_180 f2_180 => ?_)
                            exact z_vret C dX5_readAnew_183 rfl ⟨rfl, ⟨r24, r25, r26, r27, r28, fl, paI_e1 uq2 uc131, fun uz => absurd uz uc131, by rw [show r2_180 = up (up O1 3 fl) 4 (pCnt (O1 2) fl) by (rw [f2_180]; rw [uq1, pCnt, if_neg uc131])]⟩⟩
                      · first
                        | (exfalso; omega)
                        |
                            refine z_iload_n 1 dX5_readAnew_173 rfl ?_
                            refine z_iconst dX5_readAnew_174 ?_
                            refine z_iadd dX5_readAnew_175 ?_
                            refine z_goto (tgt := 180) dX5_readAnew_176 rfl ?_
                            refine z_putI' (r := r2) 4 rfl (fun r => (upR (upR (upR (upR (upR (upR M 2 r) 24 r24) 25 r25) 26 r26) 27 r27) 28 r28)) dX5_readAnew_180 pfX5_41_2 i2_4 ka2 (rfl) (fun _ => uu6 (by decide) (by decide) (by decide) (by decide) (by decide)) (fun r2_180 f2_180 => ?_)
                            exact z_vret C dX5_readAnew_183 rfl ⟨rfl, ⟨r24, r25, r26, r27, r28, fl, paI_e1 uq2 uc131, fun uz => absurd uz uc131, by rw [show r2_180 = up (up O1 3 fl) 4 (pCnt (O1 2) fl) by (rw [f2_180]; rw [uq1, pCnt, if_neg uc131])]⟩⟩
          · first
            | (exfalso; omega)
            |
                rw [uo3] at uc131
                have uGn : paIG Bc x1 x2 (O1 2) r24 r25 r26 r27 r28 := by rcases uq2.2 with uz | uz; exact (show x3 = O1 2 by omega) ▸ uz.2; exact absurd uz.1.1 (by omega)
                refine z_aload_n 0 dX5_readAnew_134 rfl ?_
                refine z_getI (r := r2) 2 rfl dX5_readAnew_135 fX5_22_2 i2_2 ka2 (rfl) ?_
                refine z_if_le (tgt := 157) dX5_readAnew_138 rfl (by omega) (fun uc138 => ?_) (fun uc138 => ?_)
                ·
                  skip
                  skip
                  skip
                  refine z_aload_n 0 dX5_readAnew_157 rfl ?_
                  refine z_aload_n 0 dX5_readAnew_158 rfl ?_
                  refine z_getI (r := r2) 3 rfl dX5_readAnew_159 fX5_15_2 i2_3 ka2 (rfl) ?_
                  refine z_iconst dX5_readAnew_162 ?_
                  refine z_icmp_ne (tgt := 179) dX5_readAnew_163 rfl (by omega) (fun uc163 => ?_) (fun uc163 => ?_)
                  · first
                    | (exfalso; omega)
                    |
                        refine z_iconst dX5_readAnew_179 ?_
                        refine z_putI' (r := r2) 4 rfl (fun r => (upR (upR (upR (upR (upR (upR M 2 r) 24 r24) 25 r25) 26 r26) 27 r27) 28 r28)) dX5_readAnew_180 pfX5_41_2 i2_4 ka2 (rfl) (fun _ => uu6 (by decide) (by decide) (by decide) (by decide) (by decide)) (fun r2_180 f2_180 => ?_)
                        exact z_vret C dX5_readAnew_183 rfl ⟨rfl, ⟨r24, r25, r26, r27, r28, (-1), paI_e3 uGn (by omega) (by omega), fun _ => uGn.2.2, by rw [show r2_180 = up (up O1 3 (-1)) 4 (pCnt (O1 2) (-1)) by (rw [f2_180]; rw [uq1, uc131, pCnt, if_pos rfl]; congr 1; have uzz := uGn.1; omega)]⟩⟩
                  · first
                    | (exfalso; omega)
                    |
                        refine z_aload_n 0 dX5_readAnew_166 rfl ?_
                        refine z_getI (r := r2) 2 rfl dX5_readAnew_167 fX5_22_2 i2_2 ka2 (rfl) ?_
                        refine z_if_le (tgt := 179) dX5_readAnew_170 rfl (by omega) (fun uc170 => ?_) (fun uc170 => ?_)
                        · first
                          | (exfalso; omega)
                          |
                              refine z_iconst dX5_readAnew_179 ?_
                              refine z_putI' (r := r2) 4 rfl (fun r => (upR (upR (upR (upR (upR (upR M 2 r) 24 r24) 25 r25) 26 r26) 27 r27) 28 r28)) dX5_readAnew_180 pfX5_41_2 i2_4 ka2 (rfl) (fun _ => uu6 (by decide) (by decide) (by decide) (by decide) (by decide)) (fun r2_180 f2_180 => ?_)
                              exact z_vret C dX5_readAnew_183 rfl ⟨rfl, ⟨r24, r25, r26, r27, r28, (-1), paI_e3 uGn (by omega) (by omega), fun _ => uGn.2.2, by rw [show r2_180 = up (up O1 3 (-1)) 4 (pCnt (O1 2) (-1)) by (rw [f2_180]; rw [uq1, uc131, pCnt, if_pos rfl]; congr 1; have uzz := uGn.1; omega)]⟩⟩
                        · first
                          | (exfalso; omega)
                          |
                              refine z_iload_n 1 dX5_readAnew_173 rfl ?_
                              refine z_iconst dX5_readAnew_174 ?_
                              refine z_iadd dX5_readAnew_175 ?_
                              refine z_goto (tgt := 180) dX5_readAnew_176 rfl ?_
                              refine z_putI' (r := r2) 4 rfl (fun r => (upR (upR (upR (upR (upR (upR M 2 r) 24 r24) 25 r25) 26 r26) 27 r27) 28 r28)) dX5_readAnew_180 pfX5_41_2 i2_4 ka2 (rfl) (fun _ => uu6 (by decide) (by decide) (by decide) (by decide) (by decide)) (fun r2_180 f2_180 => ?_)
                              exact z_vret C dX5_readAnew_183 rfl ⟨rfl, ⟨r24, r25, r26, r27, r28, (-1), paI_e3 uGn (by omega) (by omega), fun _ => uGn.2.2, by rw [show r2_180 = up (up O1 3 (-1)) 4 (pCnt (O1 2) (-1)) by (rw [f2_180]; rw [uq1, uc131, pCnt, if_pos rfl]; congr 1; have uzz := uGn.1; omega)]⟩⟩
                ·
                  refine z_iload_n 2 dX5_readAnew_141 rfl ?_
                  refine z_aload_n 0 dX5_readAnew_142 rfl ?_
                  refine z_getI (r := r2) 0 rfl dX5_readAnew_143 fX5_19_2 i2_0 ka2 (rfl) ?_
                  refine z_icmp_ge (tgt := 157) dX5_readAnew_146 rfl (by omega) (fun uc146 => ?_) (fun uc146 => ?_)
                  ·
                    skip
                    skip
                    skip
                    refine z_aload_n 0 dX5_readAnew_157 rfl ?_
                    refine z_aload_n 0 dX5_readAnew_158 rfl ?_
                    refine z_getI (r := r2) 3 rfl dX5_readAnew_159 fX5_15_2 i2_3 ka2 (rfl) ?_
                    refine z_iconst dX5_readAnew_162 ?_
                    refine z_icmp_ne (tgt := 179) dX5_readAnew_163 rfl (by omega) (fun uc163 => ?_) (fun uc163 => ?_)
                    · first
                      | (exfalso; omega)
                      |
                          refine z_iconst dX5_readAnew_179 ?_
                          refine z_putI' (r := r2) 4 rfl (fun r => (upR (upR (upR (upR (upR (upR M 2 r) 24 r24) 25 r25) 26 r26) 27 r27) 28 r28)) dX5_readAnew_180 pfX5_41_2 i2_4 ka2 (rfl) (fun _ => uu6 (by decide) (by decide) (by decide) (by decide) (by decide)) (fun r2_180 f2_180 => ?_)
                          exact z_vret C dX5_readAnew_183 rfl ⟨rfl, ⟨r24, r25, r26, r27, r28, (-1), paI_e3 uGn (by omega) (by omega), fun _ => uGn.2.2, by rw [show r2_180 = up (up O1 3 (-1)) 4 (pCnt (O1 2) (-1)) by (rw [f2_180]; rw [uq1, uc131, pCnt, if_pos rfl]; congr 1; have uzz := uGn.1; omega)]⟩⟩
                    · first
                      | (exfalso; omega)
                      |
                          refine z_aload_n 0 dX5_readAnew_166 rfl ?_
                          refine z_getI (r := r2) 2 rfl dX5_readAnew_167 fX5_22_2 i2_2 ka2 (rfl) ?_
                          refine z_if_le (tgt := 179) dX5_readAnew_170 rfl (by omega) (fun uc170 => ?_) (fun uc170 => ?_)
                          · first
                            | (exfalso; omega)
                            |
                                refine z_iconst dX5_readAnew_179 ?_
                                refine z_putI' (r := r2) 4 rfl (fun r => (upR (upR (upR (upR (upR (upR M 2 r) 24 r24) 25 r25) 26 r26) 27 r27) 28 r28)) dX5_readAnew_180 pfX5_41_2 i2_4 ka2 (rfl) (fun _ => uu6 (by decide) (by decide) (by decide) (by decide) (by decide)) (fun r2_180 f2_180 => ?_)
                                exact z_vret C dX5_readAnew_183 rfl ⟨rfl, ⟨r24, r25, r26, r27, r28, (-1), paI_e3 uGn (by omega) (by omega), fun _ => uGn.2.2, by rw [show r2_180 = up (up O1 3 (-1)) 4 (pCnt (O1 2) (-1)) by (rw [f2_180]; rw [uq1, uc131, pCnt, if_pos rfl]; congr 1; have uzz := uGn.1; omega)]⟩⟩
                          · first
                            | (exfalso; omega)
                            |
                                refine z_iload_n 1 dX5_readAnew_173 rfl ?_
                                refine z_iconst dX5_readAnew_174 ?_
                                refine z_iadd dX5_readAnew_175 ?_
                                refine z_goto (tgt := 180) dX5_readAnew_176 rfl ?_
                                refine z_putI' (r := r2) 4 rfl (fun r => (upR (upR (upR (upR (upR (upR M 2 r) 24 r24) 25 r25) 26 r26) 27 r27) 28 r28)) dX5_readAnew_180 pfX5_41_2 i2_4 ka2 (rfl) (fun _ => uu6 (by decide) (by decide) (by decide) (by decide) (by decide)) (fun r2_180 f2_180 => ?_)
                                exact z_vret C dX5_readAnew_183 rfl ⟨rfl, ⟨r24, r25, r26, r27, r28, (-1), paI_e3 uGn (by omega) (by omega), fun _ => uGn.2.2, by rw [show r2_180 = up (up O1 3 (-1)) 4 (pCnt (O1 2) (-1)) by (rw [f2_180]; rw [uq1, uc131, pCnt, if_pos rfl]; congr 1; have uzz := uGn.1; omega)]⟩⟩
                  ·
                    refine z_aload_n 0 dX5_readAnew_149 rfl ?_
                    refine z_aload_n 0 dX5_readAnew_150 rfl ?_
                    refine z_getI (r := r2) 2 rfl dX5_readAnew_151 fX5_22_2 i2_2 ka2 (rfl) ?_
                    refine z_putI' (r := r2) 3 rfl (fun r => (upR (upR (upR (upR (upR (upR M 2 r) 24 r24) 25 r25) 26 r26) 27 r27) 28 r28)) dX5_readAnew_154 pfX5_15_2 i2_3 ka2 (rfl) (fun _ => uu6 (by decide) (by decide) (by decide) (by decide) (by decide)) (fun r2_154 f2_154 => ?_)
                    skip
                    have uo5 : r2_154 3 = O1 2 := by rw [f2_154, up_s, uo2]
                    have uo6 : r2_154 2 = O1 2 := by rw [f2_154, up_n _ _ (by decide), uo2]
                    refine z_aload_n 0 dX5_readAnew_157 rfl ?_
                    refine z_aload_n 0 dX5_readAnew_158 rfl ?_
                    refine z_getI (r := r2_154) 3 rfl dX5_readAnew_159 fX5_15_2 i2_3 ka2 (rfl) ?_
                    refine z_iconst dX5_readAnew_162 ?_
                    refine z_icmp_ne (tgt := 179) dX5_readAnew_163 rfl (by omega) (fun uc163 => ?_) (fun uc163 => ?_)
                    · first
                      | (exfalso; omega)
                      |
                          refine z_iconst dX5_readAnew_179 ?_
                          refine z_putI' (r := r2_154) 4 rfl (fun r => (upR (upR (upR (upR (upR (upR M 2 r) 24 r24) 25 r25) 26 r26) 27 r27) 28 r28)) dX5_readAnew_180 pfX5_41_2 i2_4 ka2 (rfl) (fun _ => uu6 (by decide) (by decide) (by decide) (by decide) (by decide)) (fun r2_180 f2_180 => ?_)
                          exact z_vret C dX5_readAnew_183 rfl ⟨rfl, ⟨r24, r25, r26, r27, r28, (O1 2), paI_e2 uGn (by omega) (by omega), fun uz => absurd uz (by omega), by rw [show r2_180 = up (up O1 3 (O1 2)) 4 (pCnt (O1 2) (O1 2)) by (rw [f2_180]; rw [f2_154, uo2, uq1, up_up, pCnt, if_neg (by omega)])]⟩⟩
                    · first
                      | (exfalso; omega)
                      |
                          refine z_aload_n 0 dX5_readAnew_166 rfl ?_
                          refine z_getI (r := r2_154) 2 rfl dX5_readAnew_167 fX5_22_2 i2_2 ka2 (rfl) ?_
                          refine z_if_le (tgt := 179) dX5_readAnew_170 rfl (by omega) (fun uc170 => ?_) (fun uc170 => ?_)
                          · first
                            | (exfalso; omega)
                            |
                                refine z_iconst dX5_readAnew_179 ?_
                                refine z_putI' (r := r2_154) 4 rfl (fun r => (upR (upR (upR (upR (upR (upR M 2 r) 24 r24) 25 r25) 26 r26) 27 r27) 28 r28)) dX5_readAnew_180 pfX5_41_2 i2_4 ka2 (rfl) (fun _ => uu6 (by decide) (by decide) (by decide) (by decide) (by decide)) (fun r2_180 f2_180 => ?_)
                                exact z_vret C dX5_readAnew_183 rfl ⟨rfl, ⟨r24, r25, r26, r27, r28, (O1 2), paI_e2 uGn (by omega) (by omega), fun uz => absurd uz (by omega), by rw [show r2_180 = up (up O1 3 (O1 2)) 4 (pCnt (O1 2) (O1 2)) by (rw [f2_180]; rw [f2_154, uo2, uq1, up_up, pCnt, if_neg (by omega)])]⟩⟩
                          · first
                            | (exfalso; omega)
                            |
                                refine z_iload_n 1 dX5_readAnew_173 rfl ?_
                                refine z_iconst dX5_readAnew_174 ?_
                                refine z_iadd dX5_readAnew_175 ?_
                                refine z_goto (tgt := 180) dX5_readAnew_176 rfl ?_
                                refine z_putI' (r := r2_154) 4 rfl (fun r => (upR (upR (upR (upR (upR (upR M 2 r) 24 r24) 25 r25) 26 r26) 27 r27) 28 r28)) dX5_readAnew_180 pfX5_41_2 i2_4 ka2 (rfl) (fun _ => uu6 (by decide) (by decide) (by decide) (by decide) (by decide)) (fun r2_180 f2_180 => ?_)
                                exact z_vret C dX5_readAnew_183 rfl ⟨rfl, ⟨r24, r25, r26, r27, r28, (O1 2), paI_e2 uGn (by omega) (by omega), fun uz => absurd uz (by omega), by rw [show r2_180 = up (up O1 3 (O1 2)) 4 (pCnt (O1 2) (O1 2)) by (rw [f2_180]; rw [f2_154, uo2, uq1, up_up, pCnt, if_neg (by omega)])]⟩⟩
        ·
          have uG : paIG Bc x1 x2 x3 r24 r25 r26 r27 r28 := by rcases uq2.2 with uz | uz; exact uz.2; exact absurd uz.1.1 (by omega)
          have uG1 := uG.1
          have ub := hB x3 (by omega) (by omega)
          refine z_iload_n 2 dX5_readAnew_27 rfl ?_
          refine z_aload_n 0 dX5_readAnew_28 rfl ?_
          refine z_getI (r := r2) 0 rfl dX5_readAnew_29 fX5_19_2 i2_0 ka2 (rfl) ?_
          refine z_icmp_ne (tgt := 39) dX5_readAnew_32 rfl (by omega) (fun uc32 => ?_) (fun uc32 => ?_)
          ·
            refine z_iconst dX5_readAnew_39 ?_
            refine z_istore (fun y => [(0, rf en 2), (1, vi x1), (2, vi x2), (3, vi x3), (4, vi y)]) [1, 2, 3, 4, 0] dX5_readAnew_40 (by decide) (fun _ => rfl) (fun uy uhy => ?_)
            subst uhy
            refine z_iload 4 dX5_readAnew_42 rfl ?_
            refine z_if_eq (tgt := 66) dX5_readAnew_44 rfl (by omega) (fun _ => ?_) (fun z => absurd z (by decide))
            refine z_aload_n 0 dX5_readAnew_66 rfl ?_
            refine z_iload_n 1 dX5_readAnew_67 rfl ?_
            refine z_iload_n 2 dX5_readAnew_68 rfl ?_
            refine z_aload_n 0 dX5_readAnew_69 rfl ?_
            refine z_getR dX5_readAnew_70 fX5_9_2 i2_1 ka2 ?_
            refine z_iload_n 3 dX5_readAnew_73 rfl ?_
            refine z_iald (r := Bc) dX5_readAnew_74 is23 ka23 (wBc) (by omega) ?_
            refine z_uX dX5_readAnew_75 lX5_37_2 (by decide) ka2 io2 rfl (ct_X2_takes en (upR (upR (upR (upR (upR (upR M 2 r2) 24 r24) 25 r25) 26 r26) 27 r27) 28 r28) r24 r25 r26 r27 r28 rfl rfl rfl rfl rfl _ _ _ (by omega)) rfl rfl (by exact Nat.le_of_ble_eq_true rfl) (fun uv75 uN75 uh75 => ?_)
            rcases uh75 with ⟨uk75, rfl, rfl⟩ | ⟨uk75, rfl, rfl⟩ | ⟨uk75, rfl, rfl⟩ | ⟨uk75, rfl, rfl⟩ | ⟨uk75, rfl, rfl⟩
            ·
              rw [uu5 (a := 24) (b0 := 25) (b1 := 26) (b2 := 27) (b3 := 28) (by decide) (by decide) (by decide) (by decide)]
              refine z_istore (fun y => [(0, rf en 2), (1, vi x1), (2, vi x2), (3, vi x3), (4, vi (0)), (5, vi y)]) [1, 2, 3, 4, 5, 0] dX5_readAnew_78 (by decide) (fun _ => rfl) (fun x5_78 e5_78 => ?_)
              have uw5 : 0 ≤ x5_78 ∧ x5_78 ≤ 1 := by rw [e5_78]; exact bi_rg _
              refine z_aload_n 0 dX5_readAnew_80 rfl ?_
              refine z_iload 5 dX5_readAnew_81 rfl ?_
              refine z_if_eq (tgt := 90) dX5_readAnew_83 rfl (by omega) (fun uc83 => ?_) (fun uc83 => ?_)
              ·
                refine z_iload_n 3 dX5_readAnew_90 rfl ?_
                refine z_putI' (r := r2) 3 rfl (fun r => (upR (upR (upR (upR (upR (upR M 2 r) 24 (up r24 x1 (pst 0 (Bc x3)))) 25 r25) 26 r26) 27 r27) 28 r28)) dX5_readAnew_91 pfX5_15_2 i2_3 ka2 (rfl) (fun _ => uu6 (by decide) (by decide) (by decide) (by decide) (by decide)) (fun r2_91 f2_91 => ?_)
                refine z_iload 4 dX5_readAnew_94 rfl ?_
                refine z_if_eq (tgt := 105) dX5_readAnew_96 rfl (by omega) (fun _ => ?_) (fun z => absurd z (by decide))
                refine z_iload_n 1 dX5_readAnew_105 rfl ?_
                refine z_istore_n (fun y => [(0, rf en 2), (1, vi y), (2, vi x2), (3, vi x3), (4, vi (0)), (5, vi x5_78)]) [1, 0, 2, 3, 4, 5] dX5_readAnew_106 (by decide) (fun _ => rfl) (fun x1_106 e1_106 => ?_)
                refine z_iload 4 dX5_readAnew_107 rfl ?_
                refine z_if_eq (tgt := 116) dX5_readAnew_109 rfl (by omega) (fun _ => ?_) (fun z => absurd z (by decide))
                refine z_iload_n 2 dX5_readAnew_116 rfl ?_
                refine z_iconst dX5_readAnew_117 ?_
                refine z_iadd dX5_readAnew_118 ?_
                refine z_istore_n (fun y => [(0, rf en 2), (1, vi x1_106), (2, vi y), (3, vi x3), (4, vi (0)), (5, vi x5_78)]) [1, 2, 0, 3, 4, 5] dX5_readAnew_119 (by decide) (fun _ => rfl) (fun x2_119 e2_119 => ?_)
                refine z_iinc (fun y => [(0, rf en 2), (1, vi x1_106), (2, vi x2_119), (3, vi y), (4, vi (0)), (5, vi x5_78)]) [1, 2, 3, 0, 4, 5] 3 dX5_readAnew_120 rfl (by decide) (fun _ => rfl) (fun x3_120 e3_120 => ?_)
                refine z_goto (tgt := 11) dX5_readAnew_123 rfl ?_
                refine z_lv [0, 1, 2, 3] [(0, rf en 2), (1, vi x1_106), (2, vi x2_119), (3, vi x3_120)] rfl ?_
                have ucw := bi_z.mp (e5_78 ▸ uc83)
                exact uih11 x1_106 x2_119 x3_120 x3 r2_91 (up r24 x1 (pst 0 (Bc x3))) r25 r26 r27 r28 (by omega) (⟨by rw [f2_91, uq1, up_up], by rw [e3_120]; exact paI_bad (up r24 x1 (pst 0 (Bc x3))) r25 r26 r27 r28 (by omega) (by omega) uG ((pb_k (x := x3) (k := 0) (by omega)).mpr (by exact ucw))⟩)
              ·
                refine z_iconst dX5_readAnew_86 ?_
                refine z_goto (tgt := 91) dX5_readAnew_87 rfl ?_
                refine z_putI' (r := r2) 3 rfl (fun r => (upR (upR (upR (upR (upR (upR M 2 r) 24 (up r24 x1 (pst 0 (Bc x3)))) 25 r25) 26 r26) 27 r27) 28 r28)) dX5_readAnew_91 pfX5_15_2 i2_3 ka2 (rfl) (fun _ => uu6 (by decide) (by decide) (by decide) (by decide) (by decide)) (fun r2_91 f2_91 => ?_)
                refine z_iload 4 dX5_readAnew_94 rfl ?_
                refine z_if_eq (tgt := 105) dX5_readAnew_96 rfl (by omega) (fun _ => ?_) (fun z => absurd z (by decide))
                refine z_iload_n 1 dX5_readAnew_105 rfl ?_
                refine z_istore_n (fun y => [(0, rf en 2), (1, vi y), (2, vi x2), (3, vi x3), (4, vi (0)), (5, vi x5_78)]) [1, 0, 2, 3, 4, 5] dX5_readAnew_106 (by decide) (fun _ => rfl) (fun x1_106 e1_106 => ?_)
                refine z_iload 4 dX5_readAnew_107 rfl ?_
                refine z_if_eq (tgt := 116) dX5_readAnew_109 rfl (by omega) (fun _ => ?_) (fun z => absurd z (by decide))
                refine z_iload_n 2 dX5_readAnew_116 rfl ?_
                refine z_iconst dX5_readAnew_117 ?_
                refine z_iadd dX5_readAnew_118 ?_
                refine z_istore_n (fun y => [(0, rf en 2), (1, vi x1_106), (2, vi y), (3, vi x3), (4, vi (0)), (5, vi x5_78)]) [1, 2, 0, 3, 4, 5] dX5_readAnew_119 (by decide) (fun _ => rfl) (fun x2_119 e2_119 => ?_)
                refine z_iinc (fun y => [(0, rf en 2), (1, vi x1_106), (2, vi x2_119), (3, vi y), (4, vi (0)), (5, vi x5_78)]) [1, 2, 3, 0, 4, 5] 3 dX5_readAnew_120 rfl (by decide) (fun _ => rfl) (fun x3_120 e3_120 => ?_)
                refine z_goto (tgt := 11) dX5_readAnew_123 rfl ?_
                refine z_lv [0, 1, 2, 3] [(0, rf en 2), (1, vi x1_106), (2, vi x2_119), (3, vi x3_120)] rfl ?_
                have ucw := bi_nz.mp (e5_78 ▸ uc83)
                exact uih11 x1_106 x2_119 x3_120 (-1) r2_91 (up r24 x1 (pst 0 (Bc x3))) r25 r26 r27 r28 (by omega) (⟨by rw [f2_91, uq1, up_up], by rw [e1_106, e2_119, e3_120]; exact paI_t0 (by omega) uG (by omega) (fun uz => by have uz2 := (pb_k (x := x3) (k := 0) (by omega)).mp uz; exact uz2 (by exact ucw)) (pv_k (x := x3) (by omega) (by decide) ucw)⟩)
            ·
              rw [uu4 (a := 25) (b0 := 26) (b1 := 27) (b2 := 28) (by decide) (by decide) (by decide)]
              refine z_istore (fun y => [(0, rf en 2), (1, vi x1), (2, vi x2), (3, vi x3), (4, vi (0)), (5, vi y)]) [1, 2, 3, 4, 5, 0] dX5_readAnew_78 (by decide) (fun _ => rfl) (fun x5_78 e5_78 => ?_)
              have uw5 : 0 ≤ x5_78 ∧ x5_78 ≤ 1 := by rw [e5_78]; exact bi_rg _
              refine z_aload_n 0 dX5_readAnew_80 rfl ?_
              refine z_iload 5 dX5_readAnew_81 rfl ?_
              refine z_if_eq (tgt := 90) dX5_readAnew_83 rfl (by omega) (fun uc83 => ?_) (fun uc83 => ?_)
              ·
                refine z_iload_n 3 dX5_readAnew_90 rfl ?_
                refine z_putI' (r := r2) 3 rfl (fun r => (upR (upR (upR (upR (upR (upR M 2 r) 24 r24) 25 (up r25 x1 (pst 1 (Bc x3)))) 26 r26) 27 r27) 28 r28)) dX5_readAnew_91 pfX5_15_2 i2_3 ka2 (rfl) (fun _ => uu6 (by decide) (by decide) (by decide) (by decide) (by decide)) (fun r2_91 f2_91 => ?_)
                refine z_iload 4 dX5_readAnew_94 rfl ?_
                refine z_if_eq (tgt := 105) dX5_readAnew_96 rfl (by omega) (fun _ => ?_) (fun z => absurd z (by decide))
                refine z_iload_n 1 dX5_readAnew_105 rfl ?_
                refine z_istore_n (fun y => [(0, rf en 2), (1, vi y), (2, vi x2), (3, vi x3), (4, vi (0)), (5, vi x5_78)]) [1, 0, 2, 3, 4, 5] dX5_readAnew_106 (by decide) (fun _ => rfl) (fun x1_106 e1_106 => ?_)
                refine z_iload 4 dX5_readAnew_107 rfl ?_
                refine z_if_eq (tgt := 116) dX5_readAnew_109 rfl (by omega) (fun _ => ?_) (fun z => absurd z (by decide))
                refine z_iload_n 2 dX5_readAnew_116 rfl ?_
                refine z_iconst dX5_readAnew_117 ?_
                refine z_iadd dX5_readAnew_118 ?_
                refine z_istore_n (fun y => [(0, rf en 2), (1, vi x1_106), (2, vi y), (3, vi x3), (4, vi (0)), (5, vi x5_78)]) [1, 2, 0, 3, 4, 5] dX5_readAnew_119 (by decide) (fun _ => rfl) (fun x2_119 e2_119 => ?_)
                refine z_iinc (fun y => [(0, rf en 2), (1, vi x1_106), (2, vi x2_119), (3, vi y), (4, vi (0)), (5, vi x5_78)]) [1, 2, 3, 0, 4, 5] 3 dX5_readAnew_120 rfl (by decide) (fun _ => rfl) (fun x3_120 e3_120 => ?_)
                refine z_goto (tgt := 11) dX5_readAnew_123 rfl ?_
                refine z_lv [0, 1, 2, 3] [(0, rf en 2), (1, vi x1_106), (2, vi x2_119), (3, vi x3_120)] rfl ?_
                have ucw := bi_z.mp (e5_78 ▸ uc83)
                exact uih11 x1_106 x2_119 x3_120 x3 r2_91 r24 (up r25 x1 (pst 1 (Bc x3))) r26 r27 r28 (by omega) (⟨by rw [f2_91, uq1, up_up], by rw [e3_120]; exact paI_bad r24 (up r25 x1 (pst 1 (Bc x3))) r26 r27 r28 (by omega) (by omega) uG ((pb_k (x := x3) (k := 1) (by omega)).mpr (by exact ucw))⟩)
              ·
                refine z_iconst dX5_readAnew_86 ?_
                refine z_goto (tgt := 91) dX5_readAnew_87 rfl ?_
                refine z_putI' (r := r2) 3 rfl (fun r => (upR (upR (upR (upR (upR (upR M 2 r) 24 r24) 25 (up r25 x1 (pst 1 (Bc x3)))) 26 r26) 27 r27) 28 r28)) dX5_readAnew_91 pfX5_15_2 i2_3 ka2 (rfl) (fun _ => uu6 (by decide) (by decide) (by decide) (by decide) (by decide)) (fun r2_91 f2_91 => ?_)
                refine z_iload 4 dX5_readAnew_94 rfl ?_
                refine z_if_eq (tgt := 105) dX5_readAnew_96 rfl (by omega) (fun _ => ?_) (fun z => absurd z (by decide))
                refine z_iload_n 1 dX5_readAnew_105 rfl ?_
                refine z_istore_n (fun y => [(0, rf en 2), (1, vi y), (2, vi x2), (3, vi x3), (4, vi (0)), (5, vi x5_78)]) [1, 0, 2, 3, 4, 5] dX5_readAnew_106 (by decide) (fun _ => rfl) (fun x1_106 e1_106 => ?_)
                refine z_iload 4 dX5_readAnew_107 rfl ?_
                refine z_if_eq (tgt := 116) dX5_readAnew_109 rfl (by omega) (fun _ => ?_) (fun z => absurd z (by decide))
                refine z_iload_n 2 dX5_readAnew_116 rfl ?_
                refine z_iconst dX5_readAnew_117 ?_
                refine z_iadd dX5_readAnew_118 ?_
                refine z_istore_n (fun y => [(0, rf en 2), (1, vi x1_106), (2, vi y), (3, vi x3), (4, vi (0)), (5, vi x5_78)]) [1, 2, 0, 3, 4, 5] dX5_readAnew_119 (by decide) (fun _ => rfl) (fun x2_119 e2_119 => ?_)
                refine z_iinc (fun y => [(0, rf en 2), (1, vi x1_106), (2, vi x2_119), (3, vi y), (4, vi (0)), (5, vi x5_78)]) [1, 2, 3, 0, 4, 5] 3 dX5_readAnew_120 rfl (by decide) (fun _ => rfl) (fun x3_120 e3_120 => ?_)
                refine z_goto (tgt := 11) dX5_readAnew_123 rfl ?_
                refine z_lv [0, 1, 2, 3] [(0, rf en 2), (1, vi x1_106), (2, vi x2_119), (3, vi x3_120)] rfl ?_
                have ucw := bi_nz.mp (e5_78 ▸ uc83)
                exact uih11 x1_106 x2_119 x3_120 (-1) r2_91 r24 (up r25 x1 (pst 1 (Bc x3))) r26 r27 r28 (by omega) (⟨by rw [f2_91, uq1, up_up], by rw [e1_106, e2_119, e3_120]; exact paI_t1 (by omega) uG (by omega) (fun uz => by have uz2 := (pb_k (x := x3) (k := 1) (by omega)).mp uz; exact uz2 (by exact ucw)) (pv_k (x := x3) (by omega) (by decide) ucw)⟩)
            ·
              rw [uu3 (a := 26) (b0 := 27) (b1 := 28) (by decide) (by decide)]
              refine z_istore (fun y => [(0, rf en 2), (1, vi x1), (2, vi x2), (3, vi x3), (4, vi (0)), (5, vi y)]) [1, 2, 3, 4, 5, 0] dX5_readAnew_78 (by decide) (fun _ => rfl) (fun x5_78 e5_78 => ?_)
              have uw5 : 0 ≤ x5_78 ∧ x5_78 ≤ 1 := by rw [e5_78]; exact bi_rg _
              refine z_aload_n 0 dX5_readAnew_80 rfl ?_
              refine z_iload 5 dX5_readAnew_81 rfl ?_
              refine z_if_eq (tgt := 90) dX5_readAnew_83 rfl (by omega) (fun uc83 => ?_) (fun uc83 => ?_)
              ·
                refine z_iload_n 3 dX5_readAnew_90 rfl ?_
                refine z_putI' (r := r2) 3 rfl (fun r => (upR (upR (upR (upR (upR (upR M 2 r) 24 r24) 25 r25) 26 (up r26 x1 (pst 2 (Bc x3)))) 27 r27) 28 r28)) dX5_readAnew_91 pfX5_15_2 i2_3 ka2 (rfl) (fun _ => uu6 (by decide) (by decide) (by decide) (by decide) (by decide)) (fun r2_91 f2_91 => ?_)
                refine z_iload 4 dX5_readAnew_94 rfl ?_
                refine z_if_eq (tgt := 105) dX5_readAnew_96 rfl (by omega) (fun _ => ?_) (fun z => absurd z (by decide))
                refine z_iload_n 1 dX5_readAnew_105 rfl ?_
                refine z_istore_n (fun y => [(0, rf en 2), (1, vi y), (2, vi x2), (3, vi x3), (4, vi (0)), (5, vi x5_78)]) [1, 0, 2, 3, 4, 5] dX5_readAnew_106 (by decide) (fun _ => rfl) (fun x1_106 e1_106 => ?_)
                refine z_iload 4 dX5_readAnew_107 rfl ?_
                refine z_if_eq (tgt := 116) dX5_readAnew_109 rfl (by omega) (fun _ => ?_) (fun z => absurd z (by decide))
                refine z_iload_n 2 dX5_readAnew_116 rfl ?_
                refine z_iconst dX5_readAnew_117 ?_
                refine z_iadd dX5_readAnew_118 ?_
                refine z_istore_n (fun y => [(0, rf en 2), (1, vi x1_106), (2, vi y), (3, vi x3), (4, vi (0)), (5, vi x5_78)]) [1, 2, 0, 3, 4, 5] dX5_readAnew_119 (by decide) (fun _ => rfl) (fun x2_119 e2_119 => ?_)
                refine z_iinc (fun y => [(0, rf en 2), (1, vi x1_106), (2, vi x2_119), (3, vi y), (4, vi (0)), (5, vi x5_78)]) [1, 2, 3, 0, 4, 5] 3 dX5_readAnew_120 rfl (by decide) (fun _ => rfl) (fun x3_120 e3_120 => ?_)
                refine z_goto (tgt := 11) dX5_readAnew_123 rfl ?_
                refine z_lv [0, 1, 2, 3] [(0, rf en 2), (1, vi x1_106), (2, vi x2_119), (3, vi x3_120)] rfl ?_
                have ucw := bi_z.mp (e5_78 ▸ uc83)
                exact uih11 x1_106 x2_119 x3_120 x3 r2_91 r24 r25 (up r26 x1 (pst 2 (Bc x3))) r27 r28 (by omega) (⟨by rw [f2_91, uq1, up_up], by rw [e3_120]; exact paI_bad r24 r25 (up r26 x1 (pst 2 (Bc x3))) r27 r28 (by omega) (by omega) uG ((pb_k (x := x3) (k := 2) (by omega)).mpr (by exact ucw))⟩)
              ·
                refine z_iconst dX5_readAnew_86 ?_
                refine z_goto (tgt := 91) dX5_readAnew_87 rfl ?_
                refine z_putI' (r := r2) 3 rfl (fun r => (upR (upR (upR (upR (upR (upR M 2 r) 24 r24) 25 r25) 26 (up r26 x1 (pst 2 (Bc x3)))) 27 r27) 28 r28)) dX5_readAnew_91 pfX5_15_2 i2_3 ka2 (rfl) (fun _ => uu6 (by decide) (by decide) (by decide) (by decide) (by decide)) (fun r2_91 f2_91 => ?_)
                refine z_iload 4 dX5_readAnew_94 rfl ?_
                refine z_if_eq (tgt := 105) dX5_readAnew_96 rfl (by omega) (fun _ => ?_) (fun z => absurd z (by decide))
                refine z_iload_n 1 dX5_readAnew_105 rfl ?_
                refine z_istore_n (fun y => [(0, rf en 2), (1, vi y), (2, vi x2), (3, vi x3), (4, vi (0)), (5, vi x5_78)]) [1, 0, 2, 3, 4, 5] dX5_readAnew_106 (by decide) (fun _ => rfl) (fun x1_106 e1_106 => ?_)
                refine z_iload 4 dX5_readAnew_107 rfl ?_
                refine z_if_eq (tgt := 116) dX5_readAnew_109 rfl (by omega) (fun _ => ?_) (fun z => absurd z (by decide))
                refine z_iload_n 2 dX5_readAnew_116 rfl ?_
                refine z_iconst dX5_readAnew_117 ?_
                refine z_iadd dX5_readAnew_118 ?_
                refine z_istore_n (fun y => [(0, rf en 2), (1, vi x1_106), (2, vi y), (3, vi x3), (4, vi (0)), (5, vi x5_78)]) [1, 2, 0, 3, 4, 5] dX5_readAnew_119 (by decide) (fun _ => rfl) (fun x2_119 e2_119 => ?_)
                refine z_iinc (fun y => [(0, rf en 2), (1, vi x1_106), (2, vi x2_119), (3, vi y), (4, vi (0)), (5, vi x5_78)]) [1, 2, 3, 0, 4, 5] 3 dX5_readAnew_120 rfl (by decide) (fun _ => rfl) (fun x3_120 e3_120 => ?_)
                refine z_goto (tgt := 11) dX5_readAnew_123 rfl ?_
                refine z_lv [0, 1, 2, 3] [(0, rf en 2), (1, vi x1_106), (2, vi x2_119), (3, vi x3_120)] rfl ?_
                have ucw := bi_nz.mp (e5_78 ▸ uc83)
                exact uih11 x1_106 x2_119 x3_120 (-1) r2_91 r24 r25 (up r26 x1 (pst 2 (Bc x3))) r27 r28 (by omega) (⟨by rw [f2_91, uq1, up_up], by rw [e1_106, e2_119, e3_120]; exact paI_t2 (by omega) uG (by omega) (fun uz => by have uz2 := (pb_k (x := x3) (k := 2) (by omega)).mp uz; exact uz2 (by exact ucw)) (pv_k (x := x3) (by omega) (by decide) ucw)⟩)
            ·
              rw [uu2 (a := 27) (b0 := 28) (by decide)]
              refine z_istore (fun y => [(0, rf en 2), (1, vi x1), (2, vi x2), (3, vi x3), (4, vi (0)), (5, vi y)]) [1, 2, 3, 4, 5, 0] dX5_readAnew_78 (by decide) (fun _ => rfl) (fun x5_78 e5_78 => ?_)
              have uw5 : 0 ≤ x5_78 ∧ x5_78 ≤ 1 := by rw [e5_78]; exact bi_rg _
              refine z_aload_n 0 dX5_readAnew_80 rfl ?_
              refine z_iload 5 dX5_readAnew_81 rfl ?_
              refine z_if_eq (tgt := 90) dX5_readAnew_83 rfl (by omega) (fun uc83 => ?_) (fun uc83 => ?_)
              ·
                refine z_iload_n 3 dX5_readAnew_90 rfl ?_
                refine z_putI' (r := r2) 3 rfl (fun r => (upR (upR (upR (upR (upR (upR M 2 r) 24 r24) 25 r25) 26 r26) 27 (up r27 x1 (pst 3 (Bc x3)))) 28 r28)) dX5_readAnew_91 pfX5_15_2 i2_3 ka2 (rfl) (fun _ => uu6 (by decide) (by decide) (by decide) (by decide) (by decide)) (fun r2_91 f2_91 => ?_)
                refine z_iload 4 dX5_readAnew_94 rfl ?_
                refine z_if_eq (tgt := 105) dX5_readAnew_96 rfl (by omega) (fun _ => ?_) (fun z => absurd z (by decide))
                refine z_iload_n 1 dX5_readAnew_105 rfl ?_
                refine z_istore_n (fun y => [(0, rf en 2), (1, vi y), (2, vi x2), (3, vi x3), (4, vi (0)), (5, vi x5_78)]) [1, 0, 2, 3, 4, 5] dX5_readAnew_106 (by decide) (fun _ => rfl) (fun x1_106 e1_106 => ?_)
                refine z_iload 4 dX5_readAnew_107 rfl ?_
                refine z_if_eq (tgt := 116) dX5_readAnew_109 rfl (by omega) (fun _ => ?_) (fun z => absurd z (by decide))
                refine z_iload_n 2 dX5_readAnew_116 rfl ?_
                refine z_iconst dX5_readAnew_117 ?_
                refine z_iadd dX5_readAnew_118 ?_
                refine z_istore_n (fun y => [(0, rf en 2), (1, vi x1_106), (2, vi y), (3, vi x3), (4, vi (0)), (5, vi x5_78)]) [1, 2, 0, 3, 4, 5] dX5_readAnew_119 (by decide) (fun _ => rfl) (fun x2_119 e2_119 => ?_)
                refine z_iinc (fun y => [(0, rf en 2), (1, vi x1_106), (2, vi x2_119), (3, vi y), (4, vi (0)), (5, vi x5_78)]) [1, 2, 3, 0, 4, 5] 3 dX5_readAnew_120 rfl (by decide) (fun _ => rfl) (fun x3_120 e3_120 => ?_)
                refine z_goto (tgt := 11) dX5_readAnew_123 rfl ?_
                refine z_lv [0, 1, 2, 3] [(0, rf en 2), (1, vi x1_106), (2, vi x2_119), (3, vi x3_120)] rfl ?_
                have ucw := bi_z.mp (e5_78 ▸ uc83)
                exact uih11 x1_106 x2_119 x3_120 x3 r2_91 r24 r25 r26 (up r27 x1 (pst 3 (Bc x3))) r28 (by omega) (⟨by rw [f2_91, uq1, up_up], by rw [e3_120]; exact paI_bad r24 r25 r26 (up r27 x1 (pst 3 (Bc x3))) r28 (by omega) (by omega) uG ((pb_k (x := x3) (k := 3) (by omega)).mpr (by exact ucw))⟩)
              ·
                refine z_iconst dX5_readAnew_86 ?_
                refine z_goto (tgt := 91) dX5_readAnew_87 rfl ?_
                refine z_putI' (r := r2) 3 rfl (fun r => (upR (upR (upR (upR (upR (upR M 2 r) 24 r24) 25 r25) 26 r26) 27 (up r27 x1 (pst 3 (Bc x3)))) 28 r28)) dX5_readAnew_91 pfX5_15_2 i2_3 ka2 (rfl) (fun _ => uu6 (by decide) (by decide) (by decide) (by decide) (by decide)) (fun r2_91 f2_91 => ?_)
                refine z_iload 4 dX5_readAnew_94 rfl ?_
                refine z_if_eq (tgt := 105) dX5_readAnew_96 rfl (by omega) (fun _ => ?_) (fun z => absurd z (by decide))
                refine z_iload_n 1 dX5_readAnew_105 rfl ?_
                refine z_istore_n (fun y => [(0, rf en 2), (1, vi y), (2, vi x2), (3, vi x3), (4, vi (0)), (5, vi x5_78)]) [1, 0, 2, 3, 4, 5] dX5_readAnew_106 (by decide) (fun _ => rfl) (fun x1_106 e1_106 => ?_)
                refine z_iload 4 dX5_readAnew_107 rfl ?_
                refine z_if_eq (tgt := 116) dX5_readAnew_109 rfl (by omega) (fun _ => ?_) (fun z => absurd z (by decide))
                refine z_iload_n 2 dX5_readAnew_116 rfl ?_
                refine z_iconst dX5_readAnew_117 ?_
                refine z_iadd dX5_readAnew_118 ?_
                refine z_istore_n (fun y => [(0, rf en 2), (1, vi x1_106), (2, vi y), (3, vi x3), (4, vi (0)), (5, vi x5_78)]) [1, 2, 0, 3, 4, 5] dX5_readAnew_119 (by decide) (fun _ => rfl) (fun x2_119 e2_119 => ?_)
                refine z_iinc (fun y => [(0, rf en 2), (1, vi x1_106), (2, vi x2_119), (3, vi y), (4, vi (0)), (5, vi x5_78)]) [1, 2, 3, 0, 4, 5] 3 dX5_readAnew_120 rfl (by decide) (fun _ => rfl) (fun x3_120 e3_120 => ?_)
                refine z_goto (tgt := 11) dX5_readAnew_123 rfl ?_
                refine z_lv [0, 1, 2, 3] [(0, rf en 2), (1, vi x1_106), (2, vi x2_119), (3, vi x3_120)] rfl ?_
                have ucw := bi_nz.mp (e5_78 ▸ uc83)
                exact uih11 x1_106 x2_119 x3_120 (-1) r2_91 r24 r25 r26 (up r27 x1 (pst 3 (Bc x3))) r28 (by omega) (⟨by rw [f2_91, uq1, up_up], by rw [e1_106, e2_119, e3_120]; exact paI_t3 (by omega) uG (by omega) (fun uz => by have uz2 := (pb_k (x := x3) (k := 3) (by omega)).mp uz; exact uz2 (by exact ucw)) (pv_k (x := x3) (by omega) (by decide) ucw)⟩)
            ·
              rw [uu1 (a := 28)]
              refine z_istore (fun y => [(0, rf en 2), (1, vi x1), (2, vi x2), (3, vi x3), (4, vi (0)), (5, vi y)]) [1, 2, 3, 4, 5, 0] dX5_readAnew_78 (by decide) (fun _ => rfl) (fun x5_78 e5_78 => ?_)
              have uw5 : 0 ≤ x5_78 ∧ x5_78 ≤ 1 := by rw [e5_78]; exact bi_rg _
              refine z_aload_n 0 dX5_readAnew_80 rfl ?_
              refine z_iload 5 dX5_readAnew_81 rfl ?_
              refine z_if_eq (tgt := 90) dX5_readAnew_83 rfl (by omega) (fun uc83 => ?_) (fun uc83 => ?_)
              ·
                refine z_iload_n 3 dX5_readAnew_90 rfl ?_
                refine z_putI' (r := r2) 3 rfl (fun r => (upR (upR (upR (upR (upR (upR M 2 r) 24 r24) 25 r25) 26 r26) 27 r27) 28 (up r28 x1 (pst 4 (Bc x3))))) dX5_readAnew_91 pfX5_15_2 i2_3 ka2 (rfl) (fun _ => uu6 (by decide) (by decide) (by decide) (by decide) (by decide)) (fun r2_91 f2_91 => ?_)
                refine z_iload 4 dX5_readAnew_94 rfl ?_
                refine z_if_eq (tgt := 105) dX5_readAnew_96 rfl (by omega) (fun _ => ?_) (fun z => absurd z (by decide))
                refine z_iload_n 1 dX5_readAnew_105 rfl ?_
                refine z_istore_n (fun y => [(0, rf en 2), (1, vi y), (2, vi x2), (3, vi x3), (4, vi (0)), (5, vi x5_78)]) [1, 0, 2, 3, 4, 5] dX5_readAnew_106 (by decide) (fun _ => rfl) (fun x1_106 e1_106 => ?_)
                refine z_iload 4 dX5_readAnew_107 rfl ?_
                refine z_if_eq (tgt := 116) dX5_readAnew_109 rfl (by omega) (fun _ => ?_) (fun z => absurd z (by decide))
                refine z_iload_n 2 dX5_readAnew_116 rfl ?_
                refine z_iconst dX5_readAnew_117 ?_
                refine z_iadd dX5_readAnew_118 ?_
                refine z_istore_n (fun y => [(0, rf en 2), (1, vi x1_106), (2, vi y), (3, vi x3), (4, vi (0)), (5, vi x5_78)]) [1, 2, 0, 3, 4, 5] dX5_readAnew_119 (by decide) (fun _ => rfl) (fun x2_119 e2_119 => ?_)
                refine z_iinc (fun y => [(0, rf en 2), (1, vi x1_106), (2, vi x2_119), (3, vi y), (4, vi (0)), (5, vi x5_78)]) [1, 2, 3, 0, 4, 5] 3 dX5_readAnew_120 rfl (by decide) (fun _ => rfl) (fun x3_120 e3_120 => ?_)
                refine z_goto (tgt := 11) dX5_readAnew_123 rfl ?_
                refine z_lv [0, 1, 2, 3] [(0, rf en 2), (1, vi x1_106), (2, vi x2_119), (3, vi x3_120)] rfl ?_
                have ucw := bi_z.mp (e5_78 ▸ uc83)
                exact uih11 x1_106 x2_119 x3_120 x3 r2_91 r24 r25 r26 r27 (up r28 x1 (pst 4 (Bc x3))) (by omega) (⟨by rw [f2_91, uq1, up_up], by rw [e3_120]; exact paI_bad r24 r25 r26 r27 (up r28 x1 (pst 4 (Bc x3))) (by omega) (by omega) uG ((pb_k (x := x3) (k := 4) (by omega)).mpr (by exact ucw))⟩)
              ·
                refine z_iconst dX5_readAnew_86 ?_
                refine z_goto (tgt := 91) dX5_readAnew_87 rfl ?_
                refine z_putI' (r := r2) 3 rfl (fun r => (upR (upR (upR (upR (upR (upR M 2 r) 24 r24) 25 r25) 26 r26) 27 r27) 28 (up r28 x1 (pst 4 (Bc x3))))) dX5_readAnew_91 pfX5_15_2 i2_3 ka2 (rfl) (fun _ => uu6 (by decide) (by decide) (by decide) (by decide) (by decide)) (fun r2_91 f2_91 => ?_)
                refine z_iload 4 dX5_readAnew_94 rfl ?_
                refine z_if_eq (tgt := 105) dX5_readAnew_96 rfl (by omega) (fun _ => ?_) (fun z => absurd z (by decide))
                refine z_iload_n 1 dX5_readAnew_105 rfl ?_
                refine z_istore_n (fun y => [(0, rf en 2), (1, vi y), (2, vi x2), (3, vi x3), (4, vi (0)), (5, vi x5_78)]) [1, 0, 2, 3, 4, 5] dX5_readAnew_106 (by decide) (fun _ => rfl) (fun x1_106 e1_106 => ?_)
                refine z_iload 4 dX5_readAnew_107 rfl ?_
                refine z_if_eq (tgt := 116) dX5_readAnew_109 rfl (by omega) (fun _ => ?_) (fun z => absurd z (by decide))
                refine z_iload_n 2 dX5_readAnew_116 rfl ?_
                refine z_iconst dX5_readAnew_117 ?_
                refine z_iadd dX5_readAnew_118 ?_
                refine z_istore_n (fun y => [(0, rf en 2), (1, vi x1_106), (2, vi y), (3, vi x3), (4, vi (0)), (5, vi x5_78)]) [1, 2, 0, 3, 4, 5] dX5_readAnew_119 (by decide) (fun _ => rfl) (fun x2_119 e2_119 => ?_)
                refine z_iinc (fun y => [(0, rf en 2), (1, vi x1_106), (2, vi x2_119), (3, vi y), (4, vi (0)), (5, vi x5_78)]) [1, 2, 3, 0, 4, 5] 3 dX5_readAnew_120 rfl (by decide) (fun _ => rfl) (fun x3_120 e3_120 => ?_)
                refine z_goto (tgt := 11) dX5_readAnew_123 rfl ?_
                refine z_lv [0, 1, 2, 3] [(0, rf en 2), (1, vi x1_106), (2, vi x2_119), (3, vi x3_120)] rfl ?_
                have ucw := bi_nz.mp (e5_78 ▸ uc83)
                exact uih11 x1_106 x2_119 x3_120 (-1) r2_91 r24 r25 r26 r27 (up r28 x1 (pst 4 (Bc x3))) (by omega) (⟨by rw [f2_91, uq1, up_up], by rw [e1_106, e2_119, e3_120]; exact paI_t4 (by omega) uG (by omega) (fun uz => by have uz2 := (pb_k (x := x3) (k := 4) (by omega)).mp uz; exact uz2 (by exact ucw)) (pv_k (x := x3) (by omega) (by decide) ucw)⟩)
          ·
            refine z_iconst dX5_readAnew_35 ?_
            refine z_goto (tgt := 40) dX5_readAnew_36 rfl ?_
            refine z_istore (fun y => [(0, rf en 2), (1, vi x1), (2, vi x2), (3, vi x3), (4, vi y)]) [1, 2, 3, 4, 0] dX5_readAnew_40 (by decide) (fun _ => rfl) (fun uy uhy => ?_)
            subst uhy
            refine z_iload 4 dX5_readAnew_42 rfl ?_
            refine z_if_eq (tgt := 66) dX5_readAnew_44 rfl (by omega) (fun z => absurd z (by decide)) (fun _ => ?_)
            refine z_aload_n 0 dX5_readAnew_47 rfl ?_
            refine z_getR dX5_readAnew_48 fX5_9_2 i2_1 ka2 ?_
            refine z_iload_n 3 dX5_readAnew_51 rfl ?_
            refine z_iald (r := Bc) dX5_readAnew_52 is23 ka23 (wBc) (by omega) ?_
            refine z_bipush dX5_readAnew_53 rfl ?_
            refine z_icmp_ne (tgt := 62) dX5_readAnew_55 rfl (by omega) (fun uc55 => ?_) (fun uc55 => ?_)
            ·
              refine z_iconst dX5_readAnew_62 ?_
              refine z_goto (tgt := 78) dX5_readAnew_63 rfl ?_
              refine z_istore (fun y => [(0, rf en 2), (1, vi x1), (2, vi x2), (3, vi x3), (4, vi (1)), (5, vi y)]) [1, 2, 3, 4, 5, 0] dX5_readAnew_78 (by decide) (fun _ => rfl) (fun uy uhy => ?_)
              subst uhy
              skip
              refine z_aload_n 0 dX5_readAnew_80 rfl ?_
              refine z_iload 5 dX5_readAnew_81 rfl ?_
              refine z_if_eq (tgt := 90) dX5_readAnew_83 rfl (by omega) (fun _ => ?_) (fun z => absurd z (by decide))
              refine z_iload_n 3 dX5_readAnew_90 rfl ?_
              refine z_putI' (r := r2) 3 rfl (fun r => (upR (upR (upR (upR (upR (upR M 2 r) 24 r24) 25 r25) 26 r26) 27 r27) 28 r28)) dX5_readAnew_91 pfX5_15_2 i2_3 ka2 (rfl) (fun _ => uu6 (by decide) (by decide) (by decide) (by decide) (by decide)) (fun r2_91 f2_91 => ?_)
              refine z_iload 4 dX5_readAnew_94 rfl ?_
              refine z_if_eq (tgt := 105) dX5_readAnew_96 rfl (by omega) (fun z => absurd z (by decide)) (fun _ => ?_)
              refine z_iload_n 1 dX5_readAnew_99 rfl ?_
              refine z_iconst dX5_readAnew_100 ?_
              refine z_iadd dX5_readAnew_101 ?_
              refine z_goto (tgt := 106) dX5_readAnew_102 rfl ?_
              refine z_istore_n (fun y => [(0, rf en 2), (1, vi y), (2, vi x2), (3, vi x3), (4, vi (1)), (5, vi (0))]) [1, 0, 2, 3, 4, 5] dX5_readAnew_106 (by decide) (fun _ => rfl) (fun x1_106 e1_106 => ?_)
              refine z_iload 4 dX5_readAnew_107 rfl ?_
              refine z_if_eq (tgt := 116) dX5_readAnew_109 rfl (by omega) (fun z => absurd z (by decide)) (fun _ => ?_)
              refine z_iconst dX5_readAnew_112 ?_
              refine z_goto (tgt := 119) dX5_readAnew_113 rfl ?_
              refine z_istore_n (fun y => [(0, rf en 2), (1, vi x1_106), (2, vi y), (3, vi x3), (4, vi (1)), (5, vi (0))]) [1, 2, 0, 3, 4, 5] dX5_readAnew_119 (by decide) (fun _ => rfl) (fun uy uhy => ?_)
              subst uhy
              refine z_iinc (fun y => [(0, rf en 2), (1, vi x1_106), (2, vi (0)), (3, vi y), (4, vi (1)), (5, vi (0))]) [1, 2, 3, 0, 4, 5] 3 dX5_readAnew_120 rfl (by decide) (fun _ => rfl) (fun x3_120 e3_120 => ?_)
              refine z_goto (tgt := 11) dX5_readAnew_123 rfl ?_
              refine z_lv [0, 1, 2, 3] [(0, rf en 2), (1, vi x1_106), (2, vi (0)), (3, vi x3_120)] rfl ?_
              exact uih11 x1_106 (0) x3_120 x3 r2_91 r24 r25 r26 r27 r28 (by omega) (⟨by rw [f2_91, uq1, up_up], by rw [e3_120]; exact paI_bad r24 r25 r26 r27 r28 (by omega) (by omega) uG ((pb_5 (x := x3) (by omega)).mpr (by omega))⟩)
            ·
              refine z_iconst dX5_readAnew_58 ?_
              refine z_goto (tgt := 78) dX5_readAnew_59 rfl ?_
              refine z_istore (fun y => [(0, rf en 2), (1, vi x1), (2, vi x2), (3, vi x3), (4, vi (1)), (5, vi y)]) [1, 2, 3, 4, 5, 0] dX5_readAnew_78 (by decide) (fun _ => rfl) (fun uy uhy => ?_)
              subst uhy
              skip
              refine z_aload_n 0 dX5_readAnew_80 rfl ?_
              refine z_iload 5 dX5_readAnew_81 rfl ?_
              refine z_if_eq (tgt := 90) dX5_readAnew_83 rfl (by omega) (fun z => absurd z (by decide)) (fun _ => ?_)
              refine z_iconst dX5_readAnew_86 ?_
              refine z_goto (tgt := 91) dX5_readAnew_87 rfl ?_
              refine z_putI' (r := r2) 3 rfl (fun r => (upR (upR (upR (upR (upR (upR M 2 r) 24 r24) 25 r25) 26 r26) 27 r27) 28 r28)) dX5_readAnew_91 pfX5_15_2 i2_3 ka2 (rfl) (fun _ => uu6 (by decide) (by decide) (by decide) (by decide) (by decide)) (fun r2_91 f2_91 => ?_)
              refine z_iload 4 dX5_readAnew_94 rfl ?_
              refine z_if_eq (tgt := 105) dX5_readAnew_96 rfl (by omega) (fun z => absurd z (by decide)) (fun _ => ?_)
              refine z_iload_n 1 dX5_readAnew_99 rfl ?_
              refine z_iconst dX5_readAnew_100 ?_
              refine z_iadd dX5_readAnew_101 ?_
              refine z_goto (tgt := 106) dX5_readAnew_102 rfl ?_
              refine z_istore_n (fun y => [(0, rf en 2), (1, vi y), (2, vi x2), (3, vi x3), (4, vi (1)), (5, vi (1))]) [1, 0, 2, 3, 4, 5] dX5_readAnew_106 (by decide) (fun _ => rfl) (fun x1_106 e1_106 => ?_)
              refine z_iload 4 dX5_readAnew_107 rfl ?_
              refine z_if_eq (tgt := 116) dX5_readAnew_109 rfl (by omega) (fun z => absurd z (by decide)) (fun _ => ?_)
              refine z_iconst dX5_readAnew_112 ?_
              refine z_goto (tgt := 119) dX5_readAnew_113 rfl ?_
              refine z_istore_n (fun y => [(0, rf en 2), (1, vi x1_106), (2, vi y), (3, vi x3), (4, vi (1)), (5, vi (1))]) [1, 2, 0, 3, 4, 5] dX5_readAnew_119 (by decide) (fun _ => rfl) (fun uy uhy => ?_)
              subst uhy
              refine z_iinc (fun y => [(0, rf en 2), (1, vi x1_106), (2, vi (0)), (3, vi y), (4, vi (1)), (5, vi (1))]) [1, 2, 3, 0, 4, 5] 3 dX5_readAnew_120 rfl (by decide) (fun _ => rfl) (fun x3_120 e3_120 => ?_)
              refine z_goto (tgt := 11) dX5_readAnew_123 rfl ?_
              refine z_lv [0, 1, 2, 3] [(0, rf en 2), (1, vi x1_106), (2, vi (0)), (3, vi x3_120)] rfl ?_
              exact uih11 x1_106 (0) x3_120 (-1) r2_91 r24 r25 r26 r27 r28 (by omega) (⟨by rw [f2_91, uq1, up_up], by rw [e1_106, e3_120]; exact paI_semi (by omega) uG (by omega) (fun uz => ((pb_5 (x := x3) (by omega)).mp uz) (by omega))⟩)
  refine Z.eqM (upR_id (k := 24) wA) ?_
  refine Z.eqM (upR_id (k := 25) wG) ?_
  refine Z.eqM (upR_id (k := 26) wK) ?_
  refine Z.eqM (upR_id (k := 27) wH) ?_
  refine Z.eqM (upR_id (k := 28) wS) ?_
  exact uL11 _ 0 0 0 (-1) r2_6 A G K H S (Nat.lt_succ_self _) (⟨f2_6, paI_0 Bc hO.2.1 A G K H S⟩)
