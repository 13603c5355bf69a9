/-! how many hear alike: the reference's list, the class's count -/
theorem getD_l {L M : List Int} {n : Nat} (h : n < L.length) : (L ++ M).getD n 0 = L.getD n 0 := by
  rw [List.getD_eq_getElem?_getD, List.getD_eq_getElem?_getD, List.getElem?_append_left h]
theorem cntL_app {L M : List Int} {c : Int} : ∀ n : Nat, n ≤ L.length → cntL (L ++ M) c n = cntL L c n
  | 0, _ => rfl
  | n + 1, h => by rw [cntL, cntL, cntL_app n (by omega), getD_l (by omega)]
def cHl (T W : Int → Int) (tw sm c : Int) : Nat → Int
  | 0 => 0
  | n + 1 => cHl T W tw sm c n + (if bitq sm n ∧ c = hA (up T 0 n) W tw then 1 else 0)
theorem cnt_hl (T W : Int → Int) (tw sm c : Int) : ∀ n : Nat, cntL (hl T W tw sm n) c (hl T W tw sm n).length = cHl T W tw sm c n
  | 0 => rfl
  | n + 1 => by
    have ih := cnt_hl T W tw sm c n
    rw [hl, cHl]
    by_cases q : bitq sm n
    · rw [if_pos q, List.length_append]
      show cntL _ c ((hl T W tw sm n).length + 1) = _
      rw [cntL, cntL_app _ (Nat.le_refl _), ih]
      have e : (hl T W tw sm n ++ [hA (up T 0 n) W tw]).getD (hl T W tw sm n).length 0 = hA (up T 0 n) W tw := by
        rw [List.getD_eq_getElem?_getD, List.getElem?_append_right (Nat.le_refl _)]; simp
      rw [e]
      congr 1
      by_cases z : c = hA (up T 0 n) W tw
      · rw [if_pos z, if_pos ⟨q, z⟩]
      · rw [if_neg z, if_neg (fun y => z y.2)]
    · rw [if_neg q, List.append_nil, ih, if_neg (fun y => q y.1), Int.add_zero]
theorem mem_hl (T W : Int → Int) (tw sm x : Int) : ∀ n : Nat, x ∈ hl T W tw sm n ↔ ∃ b : Nat, b < n ∧ bitq sm b ∧ x = hA (up T 0 b) W tw
  | 0 => ⟨fun h => absurd h List.not_mem_nil, fun ⟨b, h, _⟩ => absurd h (Nat.not_lt_zero b)⟩
  | n + 1 => by
    have ih := mem_hl T W tw sm x n
    rw [hl, List.mem_append, ih]
    by_cases q : bitq sm n
    · rw [if_pos q, List.mem_singleton]
      constructor
      · rintro (⟨b, h1, h2⟩ | h)
        · exact ⟨b, by omega, h2⟩
        · exact ⟨n, Nat.lt_succ_self n, q, h⟩
      · rintro ⟨b, h1, h2, h3⟩
        by_cases e : b = n
        · subst e; exact Or.inr h3
        · exact Or.inl ⟨b, by omega, h2, h3⟩
    · rw [if_neg q]
      constructor
      · rintro (⟨b, h1, h2⟩ | h)
        · exact ⟨b, by omega, h2⟩
        · exact absurd h List.not_mem_nil
      · rintro ⟨b, h1, h2, h3⟩
        by_cases e : b = n
        · subst e; exact absurd h2 q
        · exact Or.inl ⟨b, by omega, h2, h3⟩
theorem mst_le (L : List Int) : ∀ n : Nat, ∀ i : Nat, i < n → cntL L (L.getD i 0) L.length ≤ mstL L n
  | 0, i, h => absurd h (Nat.not_lt_zero i)
  | n + 1, i, h => by
    have ih := mst_le L n
    rw [mstL]
    by_cases e : i = n
    · subst e; split <;> omega
    · have := ih i (by omega)
      split <;> omega
theorem mst_at (L : List Int) : ∀ n : Nat, mstL L n = 0 ∨ ∃ i : Nat, i < n ∧ mstL L n = cntL L (L.getD i 0) L.length
  | 0 => Or.inl rfl
  | n + 1 => by
    rw [mstL]
    by_cases q : mstL L n < cntL L (L.getD n 0) L.length
    · rw [if_pos q]; exact Or.inr ⟨n, Nat.lt_succ_self n, rfl⟩
    · rw [if_neg q]
      rcases mst_at L n with h | ⟨i, h1, h2⟩
      · exact Or.inl h
      · exact Or.inr ⟨i, by omega, h2⟩
theorem mC_le (K : Int → Int) (sm : Int) : ∀ n : Nat, ∀ b : Nat, b < n → bitq sm b → cBn K sm b 8 ≤ mCx K sm n
  | 0, b, h, _ => absurd h (Nat.not_lt_zero b)
  | n + 1, b, h, hb => by
    have ih := mC_le K sm n b
    rw [mCx]
    by_cases e : b = n
    · subst e; rw [if_pos hb]; omega
    · have := ih (by omega) hb
      omega
theorem mC_at (K : Int → Int) (sm : Int) : ∀ n : Nat, mCx K sm n = 0 ∨ ∃ b : Nat, b < n ∧ bitq sm b ∧ mCx K sm n = cBn K sm b 8
  | 0 => Or.inl rfl
  | n + 1 => by
    have r := mCx_rg K sm n
    have r2 := cBn_rg K sm n 8
    have ih := mC_at K sm n
    rw [mCx]
    by_cases q : bitq sm n ∧ mCx K sm n ≤ cBn K sm n 8
    · rw [if_pos q.1, show max (mCx K sm n) (cBn K sm n 8) = cBn K sm n 8 by omega]
      exact Or.inr ⟨n, Nat.lt_succ_self n, q.1, rfl⟩
    · have e : max (mCx K sm n) (if bitq sm n then cBn K sm n 8 else 0) = mCx K sm n := by
        by_cases z : bitq sm n
        · have : ¬ mCx K sm n ≤ cBn K sm n 8 := fun y => q ⟨z, y⟩
          rw [if_pos z]; omega
        · rw [if_neg z]; omega
      rw [e]
      rcases ih with h | ⟨b, h1, h2⟩
      · exact Or.inl h
      · exact Or.inr ⟨b, by omega, h2⟩
theorem ky_eq {T c : Int → Int} (hT : tOK T) (hc : wB c) {t a b : Int} (ht : 0 ≤ t ∧ t ≤ 7) (ha : 0 ≤ a ∧ a ≤ 7) (hb : 0 ≤ b ∧ b ≤ 7) : kyC c t b = kyC c t a ↔ hA (up T 0 a) (cW c) t = hA (up T 0 b) (cW c) t := by
  have h1 := hc (8 * a + t) (by omega) (by omega)
  have h2 := hc (8 * b + t) (by omega) (by omega)
  have e1 : hA (up T 0 a) (cW c) t = min (T 1 + T 2 + cW c (8 * a + t)) 9999 := rfl
  have e2 : hA (up T 0 b) (cW c) t = min (T 1 + T 2 + cW c (8 * b + t)) 9999 := rfl
  rw [e1, e2]
  unfold kyC cW
  rw [show b * 8 + t = 8 * b + t by omega, show a * 8 + t = 8 * a + t by omega]
  repeat' split
  all_goals omega
theorem cB_cH {T c : Int → Int} (hT : tOK T) (hc : wB c) {t a : Int} (sm : Int) (ht : 0 ≤ t ∧ t ≤ 7) (ha : 0 ≤ a ∧ a ≤ 7) : ∀ n : Nat, n ≤ 8 → cBn (kyC c t) sm a n = cHl T (cW c) t sm (hA (up T 0 a) (cW c) t) n
  | 0, _ => rfl
  | n + 1, hn => by
    rw [cBn, cHl, cB_cH hT hc sm ht ha n (by omega)]
    have := ky_eq hT hc ht ha (b := (n : Int)) (by omega)
    simp only [this]
theorem ma_ok {T c : Int → Int} (hT : tOK T) (hc : wB c) {t : Int} (sm : Int) (ht : 0 ≤ t ∧ t ≤ 7) : mCx (kyC c t) sm 8 = maO T (cW c) t sm := by
  have hcount : ∀ a : Int, 0 ≤ a ∧ a ≤ 7 → cBn (kyC c t) sm a 8 = cntL (hl T (cW c) t sm 8) (hA (up T 0 a) (cW c) t) (hl T (cW c) t sm 8).length := fun a ha => by
    rw [cB_cH hT hc sm ht ha 8 (Nat.le_refl 8), cnt_hl]
  have r := mCx_rg (kyC c t) sm 8
  unfold maO
  apply Int.le_antisymm
  · rcases mC_at (kyC c t) sm 8 with h | ⟨b, h1, h2, h3⟩
    · rw [h]
      rcases mst_at (hl T (cW c) t sm 8) (hl T (cW c) t sm 8).length with g | ⟨i, g1, g2⟩
      · omega
      · have := mstL_rg (hl T (cW c) t sm 8) (hl T (cW c) t sm 8).length
        omega
    · rw [h3, hcount b (by omega)]
      have hm := (mem_hl T (cW c) t sm (hA (up T 0 b) (cW c) t) 8).mpr ⟨b, h1, h2, rfl⟩
      obtain ⟨i, g1, g2⟩ := List.getElem_of_mem hm
      have := mst_le (hl T (cW c) t sm 8) (hl T (cW c) t sm 8).length i g1
      rw [List.getD_eq_getElem?_getD, List.getElem?_eq_getElem g1] at this
      simp only [Option.getD_some, g2] at this
      exact this
  · rcases mst_at (hl T (cW c) t sm 8) (hl T (cW c) t sm 8).length with g | ⟨i, g1, g2⟩
    · omega
    · rw [g2]
      have hm : (hl T (cW c) t sm 8).getD i 0 ∈ hl T (cW c) t sm 8 := by
        rw [List.getD_eq_getElem?_getD, List.getElem?_eq_getElem g1]
        exact List.getElem_mem g1
      obtain ⟨b, h1, h2, h3⟩ := (mem_hl T (cW c) t sm _ 8).mp hm
      rw [h3, ← hcount b (by omega)]
      exact mC_le (kyC c t) sm 8 b h1 h2
theorem ak_cong {f g : Int → Int} (h : ∀ t, 0 ≤ t → t ≤ 7 → f t = g t) : ∀ n : Nat, n ≤ 7 → akM f n = akM g n
  | 0, _ => by rw [akM, akM, h 0 (by decide) (by decide)]
  | n + 1, hn => by rw [akM, akM, ak_cong h n (by omega), h _ (by omega) (by omega)]
theorem ak_S (T W : Int → Int) (sm : Int) : ∀ n : Nat, akS T W sm n = akM (fun t => maO T W t sm) n
  | 0 => rfl
  | n + 1 => by rw [akS, akM, ak_S T W sm n]
theorem ak_ok {T c P : Int → Int} (hT : tOK T) (hc : wB c) (np : Int) (Sg : Int → Int) (ns : Nat) : (akM (fun t => mCx (kyC c t) (fiS T (cW c) P np Sg ns 0 8 : Int) 8) 7).1 = akO T (cW c) P np Sg ns := by
  unfold akO
  rw [ak_S, ak_cong (fun t h1 h2 => ma_ok hT hc _ ⟨h1, h2⟩) 7 (Nat.le_refl 7)]
