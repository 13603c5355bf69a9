/-! sheets -/
theorem cutv_rg {f v : Int} (h : rg32 v) : rg32 (cutv f v) := by
  unfold cutv
  split
  · omega
  · split <;> omega
/-- one sheet told anew -/
theorem RelSh.put {M L : zW} (R : RelSh M) {k : Nat} (hk : k < 4) (hL : ∀ s : Nat, s < 4 → s ≠ k → L (10 + s) = M (10 + s) ∧ L (14 + s) = M (14 + s)) (hF : ∀ s : Nat, s < 4 → s ≠ k → L 38 s = M 38 s ∧ L 39 s = M 39 s) (hI : ∀ s : Nat, s < 4 → s ≠ k → ∀ i, 0 ≤ i → i < 60 → L 40 (60 * (s : Int) + i) = M 40 (60 * (s : Int) + i)) (h1 : RelS1 (L (10 + k)) (L (14 + k)) (L 38) (L 39) (L 40) k) (h2 : ∀ j, 0 ≤ j → j < 240 → rg32 (L 40 j)) : RelSh L := by
  refine ⟨fun s hs => ?_, h2⟩
  by_cases q : s = k
  · subst q; exact h1
  · obtain ⟨a1, a2, a3, a4, a5, a6⟩ := R.1 s hs
    obtain ⟨b1, b2⟩ := hL s hs q
    obtain ⟨c1, c2⟩ := hF s hs q
    rw [b1, b2]
    refine ⟨a1, a2, c1.trans a3, by rw [c2]; exact a4, fun z => ?_, a6⟩
    obtain ⟨d1, d2⟩ := a5 z
    exact ⟨c2.trans d1, fun i u v => (hI s hs q i u (by omega)).trans (d2 i u v)⟩
theorem fin_sheet {M N L : zW} (R : Rel M) {ia ib ic : Int} {x y : Int} (hr : -2147483648 ≤ ia ∧ ia < 2147483648 ∧ -2147483648 ≤ ib ∧ ib < 2147483648 ∧ -2147483648 ≤ ic ∧ ic < 2147483648) (h1 : (¬ (((0 ≤ ia ∧ ia ≤ 3) ∧ (0 ≤ ib ∧ ib ≤ 2)) ∧ ic ≤ 60) ∧ x = -2 ∧ M = N) ∨ ((((0 ≤ ia ∧ ia ≤ 3) ∧ (0 ≤ ib ∧ ib ≤ 2)) ∧ ic < 0) ∧ x = -15 ∧ upR M 0 (up (M 0) 10 5) = N) ∨ ((((0 ≤ ia ∧ ia ≤ 3) ∧ (0 ≤ ib ∧ ib ≤ 2)) ∧ 0 ≤ ic ∧ ic ≤ 60) ∧ x = ic ∧ upR (upR M (10 + ia.toNat) (up (up (M (10 + ia.toNat)) 0 ib) 1 ic)) (14 + ia.toNat) (fil (fun _ => 0) (M (14 + ia.toNat)) 0 60) = N)) (h2 : ((¬ ((0 ≤ ia ∧ ia ≤ 3) ∧ (0 ≤ ib ∧ ib ≤ 2) ∧ ic ≤ 60)) ∧ y = -2 ∧ N = L) ∨ ((((0 ≤ ia ∧ ia ≤ 3) ∧ (0 ≤ ib ∧ ib ≤ 2) ∧ ic ≤ 60) ∧ ic < 0) ∧ y = -15 ∧ upR N 37 (up (M 37) 4 5) = L) ∨ ((((0 ≤ ia ∧ ia ≤ 3) ∧ (0 ≤ ib ∧ ib ≤ 2) ∧ ic ≤ 60) ∧ 0 ≤ ic) ∧ y = ic ∧ upR (upR (upR N 38 (up (M 38) ia ib)) 39 (up (M 39) ia ic)) 40 (fil (fun _ => 0) (M 40) (60 * ia) ic) = L)) : x = y ∧ Rel L := by
  rcases h1 with ⟨c1, rfl, rfl⟩ | ⟨c1, rfl, rfl⟩ | ⟨c1, e1, rfl⟩
  · rcases h2 with ⟨c2, e2, rfl⟩ | ⟨c2, e2, rfl⟩ | ⟨c2, e2, rfl⟩
    · exact ⟨e2.symm, R⟩
    · exfalso; omega
    · exfalso; omega
  · rcases h2 with ⟨c2, e2, rfl⟩ | ⟨c2, e2, rfl⟩ | ⟨c2, e2, rfl⟩
    · exfalso; omega
    · exact ⟨e2.symm, R.fi 5⟩
    · exfalso; omega
  · rcases h2 with ⟨c2, e2, rfl⟩ | ⟨c2, e2, rfl⟩ | ⟨c2, e2, rfl⟩
    · exfalso; omega
    · exfalso; omega
    · refine ⟨e1.trans e2.symm, ?_⟩
      have hk : ia.toNat < 4 := by omega
      have ek : ((ia.toNat : Nat) : Int) = ia := by omega
      refine R.of (fun q hq => by have z := relA_n q hq; rw [upR_ne (by omega), upR_ne (by omega), upR_ne (by omega), upR_ne (by omega), upR_ne (by omega)]) (by rw [upR_ne (by omega), upR_ne (by omega), upR_ne (by omega), upR_ne (by omega), upR_ne (by omega)]) (by rw [upR_ne (by omega), upR_ne (by omega), upR_ne (by omega), upR_ne (by omega), upR_ne (by omega)]) (by rw [upR_ne (by omega), upR_ne (by omega), upR_ne (by omega), upR_ne (by omega), upR_ne (by omega)]) (by rw [upR_ne (by omega), upR_ne (by omega), upR_ne (by omega), upR_ne (by omega), upR_ne (by omega)]) (by rw [upR_ne (by omega), upR_ne (by omega), upR_ne (by omega), upR_ne (by omega), upR_ne (by omega)]) (R.2.2.2.put hk (fun s hs hn => ⟨by rw [upR_ne (by omega), upR_ne (by omega), upR_ne (by omega), upR_ne (by omega), upR_ne (by omega)], by rw [upR_ne (by omega), upR_ne (by omega), upR_ne (by omega), upR_ne (by omega), upR_ne (by omega)]⟩) (fun s hs hn => ⟨?_, ?_⟩) (fun s hs hn i u v => ?_) ?_ (fun j u v => ?_))
      · rw [upR_ne (by omega), upR_ne (by omega), upR_eq, up_n _ _ (by omega)]
      · rw [upR_ne (by omega), upR_eq, up_n _ _ (by omega)]
      · rw [upR_eq, fil_out _ _ (by omega)]
      · have e38 : upR (upR (upR (upR (upR M (10 + ia.toNat) (up (up (M (10 + ia.toNat)) 0 ib) 1 ic)) (14 + ia.toNat) (fil (fun _ => 0) (M (14 + ia.toNat)) 0 60)) 38 (up (M 38) ia ib)) 39 (up (M 39) ia ic)) 40 (fil (fun _ => 0) (M 40) (60 * ia) ic) 38 = up (M 38) ia ib := by rw [upR_ne (by omega), upR_ne (by omega), upR_eq]
        rw [e38]
        rw [show ∀ W : zW, ∀ f : Int → Int, upR W 40 f 40 = f from fun _ _ => upR_eq]
        rw [show ∀ W : zW, ∀ f g : Int → Int, upR (upR W 39 f) 40 g 39 = f from fun _ _ _ => by rw [upR_ne (by omega), upR_eq]]
        rw [show upR (upR (upR (upR (upR M (10 + ia.toNat) (up (up (M (10 + ia.toNat)) 0 ib) 1 ic)) (14 + ia.toNat) (fil (fun _ => 0) (M (14 + ia.toNat)) 0 60)) 38 (up (M 38) ia ib)) 39 (up (M 39) ia ic)) 40 (fil (fun _ => 0) (M 40) (60 * ia) ic) (10 + ia.toNat) = up (up (M (10 + ia.toNat)) 0 ib) 1 ic by rw [upR_ne (by omega), upR_ne (by omega), upR_ne (by omega), upR_ne (by omega), upR_eq]]
        rw [show upR (upR (upR (upR (upR M (10 + ia.toNat) (up (up (M (10 + ia.toNat)) 0 ib) 1 ic)) (14 + ia.toNat) (fil (fun _ => 0) (M (14 + ia.toNat)) 0 60)) 38 (up (M 38) ia ib)) 39 (up (M 39) ia ic)) 40 (fil (fun _ => 0) (M 40) (60 * ia) ic) (14 + ia.toNat) = fil (fun _ => 0) (M (14 + ia.toNat)) 0 60 by rw [upR_ne (by omega), upR_ne (by omega), upR_ne (by omega), upR_eq]]
        rw [ek]
        have e0 : up (up (M (10 + ia.toNat)) 0 ib) 1 ic 0 = ib := by rw [up_n _ _ (by decide), up_s]
        have e1 : up (up (M (10 + ia.toNat)) 0 ib) 1 ic 1 = ic := up_s _ _ _
        unfold RelS1
        rw [e0, e1, up_s, up_s]
        refine ⟨by omega, by omega, rfl, by omega, fun _ => ⟨rfl, fun i u v => ?_⟩, fun j u v => ?_⟩
        · rw [fil_in _ _ (by omega), fil_in _ _ (by omega)]
        · rw [fil_in _ _ (by omega)]; decide
      · rw [upR_eq]
        by_cases q : 60 * ia ≤ j ∧ j < 60 * ia + ic
        · rw [fil_in _ _ q]; decide
        · rw [fil_out _ _ q]; exact R.gI j u v
theorem fin_lose {M N L : zW} (R : Rel M) {ia : Int} {x y : Int} (hr : -2147483648 ≤ ia ∧ ia < 2147483648) (h1 : (¬ (0 ≤ ia ∧ ia ≤ 3) ∧ x = -2 ∧ M = N) ∨ (((0 ≤ ia ∧ ia ≤ 3) ∧ M (10 + ia.toNat) 0 = -1) ∧ x = -11 ∧ upR M 0 (up (M 0) 10 1) = N) ∨ (((0 ≤ ia ∧ ia ≤ 3) ∧ M (10 + ia.toNat) 0 ≠ -1) ∧ x = M (10 + ia.toNat) 1 ∧ upR (upR M (10 + ia.toNat) (up (up (M (10 + ia.toNat)) 0 (-1)) 1 0)) (14 + ia.toNat) (fil (fun _ => 0) (M (14 + ia.toNat)) 0 60) = N)) (h2 : ((¬ (0 ≤ ia ∧ ia ≤ 3)) ∧ y = -2 ∧ N = L) ∨ (((0 ≤ ia ∧ ia ≤ 3) ∧ (M 38) ia < 0) ∧ y = -11 ∧ upR N 37 (up (M 37) 4 1) = L) ∨ (((0 ≤ ia ∧ ia ≤ 3) ∧ 0 ≤ (M 38) ia) ∧ y = (M 39) ia ∧ upR N 38 (up (M 38) ia (-1)) = L)) : x = y ∧ Rel L := by
  have hg := fun h => R.sh (s := ia) h
  rcases h1 with ⟨c1, rfl, rfl⟩ | ⟨⟨c1, d1⟩, rfl, rfl⟩ | ⟨⟨c1, d1⟩, rfl, rfl⟩
  · rcases h2 with ⟨c2, rfl, rfl⟩ | ⟨c2, rfl, rfl⟩ | ⟨c2, rfl, rfl⟩
    · exact ⟨rfl, R⟩
    · exfalso; omega
    · exfalso; omega
  · obtain ⟨a1, a2, a3, -⟩ := hg c1
    rcases h2 with ⟨c2, rfl, rfl⟩ | ⟨c2, rfl, rfl⟩ | ⟨c2, rfl, rfl⟩
    · exfalso; omega
    · exact ⟨rfl, R.fi 1⟩
    · exfalso; omega
  · obtain ⟨a1, a2, a3, a4, a5, a6⟩ := hg c1
    rcases h2 with ⟨c2, rfl, rfl⟩ | ⟨c2, rfl, rfl⟩ | ⟨c2, rfl, rfl⟩
    · exfalso; omega
    · exfalso; omega
    · refine ⟨(a5 d1).1.symm, ?_⟩
      have hk : ia.toNat < 4 := by omega
      have ek : ((ia.toNat : Nat) : Int) = ia := by omega
      refine R.of (fun q hq => by have z := relA_n q hq; rw [upR_ne (by omega), upR_ne (by omega), upR_ne (by omega)]) (by rw [upR_ne (by omega), upR_ne (by omega), upR_ne (by omega)]) (by rw [upR_ne (by omega), upR_ne (by omega), upR_ne (by omega)]) (by rw [upR_ne (by omega), upR_ne (by omega), upR_ne (by omega)]) (by rw [upR_ne (by omega), upR_ne (by omega), upR_ne (by omega)]) (by rw [upR_ne (by omega), upR_ne (by omega), upR_ne (by omega)]) (R.2.2.2.put hk (fun s hs hn => ⟨by rw [upR_ne (by omega), upR_ne (by omega), upR_ne (by omega)], by rw [upR_ne (by omega), upR_ne (by omega), upR_ne (by omega)]⟩) (fun s hs hn => ⟨?_, ?_⟩) (fun s hs hn i u v => ?_) ?_ (fun j u v => ?_))
      · rw [upR_eq, up_n _ _ (by omega)]
      · rw [upR_ne (by omega), upR_ne (by omega), upR_ne (by omega)]
      · rw [upR_ne (by omega), upR_ne (by omega), upR_ne (by omega)]
      · rw [show ∀ W : zW, ∀ f : Int → Int, upR W 38 f 38 = f from fun _ _ => upR_eq]
        rw [show upR (upR (upR M (10 + ia.toNat) (up (up (M (10 + ia.toNat)) 0 (-1)) 1 0)) (14 + ia.toNat) (fil (fun _ => 0) (M (14 + ia.toNat)) 0 60)) 38 (up (M 38) ia (-1)) (10 + ia.toNat) = up (up (M (10 + ia.toNat)) 0 (-1)) 1 0 by rw [upR_ne (by omega), upR_ne (by omega), upR_eq]]
        rw [show upR (upR (upR M (10 + ia.toNat) (up (up (M (10 + ia.toNat)) 0 (-1)) 1 0)) (14 + ia.toNat) (fil (fun _ => 0) (M (14 + ia.toNat)) 0 60)) 38 (up (M 38) ia (-1)) (14 + ia.toNat) = fil (fun _ => 0) (M (14 + ia.toNat)) 0 60 by rw [upR_ne (by omega), upR_eq]]
        rw [show upR (upR (upR M (10 + ia.toNat) (up (up (M (10 + ia.toNat)) 0 (-1)) 1 0)) (14 + ia.toNat) (fil (fun _ => 0) (M (14 + ia.toNat)) 0 60)) 38 (up (M 38) ia (-1)) 39 = M 39 by rw [upR_ne (by omega), upR_ne (by omega), upR_ne (by omega)]]
        rw [ek]
        have e0 : up (up (M (10 + ia.toNat)) 0 (-1)) 1 0 0 = -1 := by rw [up_n _ _ (by decide), up_s]
        have e1 : up (up (M (10 + ia.toNat)) 0 (-1)) 1 0 1 = 0 := up_s _ _ _
        unfold RelS1
        rw [e0, e1, up_s]
        refine ⟨by omega, by omega, rfl, a4, fun z => absurd rfl z, fun j u v => ?_⟩
        rw [fil_in _ _ (by omega)]; decide
      · rw [upR_ne (by omega), upR_ne (by omega), upR_ne (by omega)]; exact R.gI j u v
theorem fin_get {M N L : zW} (R : Rel M) {ia ib ic : Int} {x y : Int} (hr : -2147483648 ≤ ia ∧ ia < 2147483648 ∧ -2147483648 ≤ ib ∧ ib < 2147483648 ∧ -2147483648 ≤ ic ∧ ic < 2147483648) (h1 : (¬ ((0 ≤ ia ∧ ia ≤ 3) ∧ (0 ≤ ib ∧ ib ≤ 2)) ∧ x = -2147483648 ∧ M = N) ∨ ((((0 ≤ ia ∧ ia ≤ 3) ∧ (0 ≤ ib ∧ ib ≤ 2)) ∧ M (10 + ia.toNat) 0 = -1) ∧ x = -2147483648 ∧ upR M 0 (up (M 0) 10 1) = N) ∨ ((((0 ≤ ia ∧ ia ≤ 3) ∧ (0 ≤ ib ∧ ib ≤ 2)) ∧ M (10 + ia.toNat) 0 ≠ -1 ∧ M (10 + ia.toNat) 0 ≠ ib) ∧ x = -2147483648 ∧ upR M 0 (up (M 0) 10 3) = N) ∨ ((((0 ≤ ia ∧ ia ≤ 3) ∧ (0 ≤ ib ∧ ib ≤ 2)) ∧ M (10 + ia.toNat) 0 = ib ∧ ¬ (0 ≤ ic ∧ ic + 1 ≤ M (10 + ia.toNat) 1)) ∧ x = -2147483648 ∧ upR M 0 (up (M 0) 10 2) = N) ∨ ((((0 ≤ ia ∧ ia ≤ 3) ∧ (0 ≤ ib ∧ ib ≤ 2)) ∧ M (10 + ia.toNat) 0 = ib ∧ (0 ≤ ic ∧ ic + 1 ≤ M (10 + ia.toNat) 1)) ∧ x = M (14 + ia.toNat) ic ∧ M = N)) (h2 : ((¬ ((0 ≤ ia ∧ ia ≤ 3) ∧ (0 ≤ ib ∧ ib ≤ 2))) ∧ y = -2147483648 ∧ N = L) ∨ ((((0 ≤ ia ∧ ia ≤ 3) ∧ (0 ≤ ib ∧ ib ≤ 2)) ∧ (M 38) ia < 0) ∧ y = -2147483648 ∧ upR N 37 (up (M 37) 4 1) = L) ∨ ((((0 ≤ ia ∧ ia ≤ 3) ∧ (0 ≤ ib ∧ ib ≤ 2)) ∧ 0 ≤ (M 38) ia ∧ (M 38) ia ≠ ib) ∧ y = -2147483648 ∧ upR N 37 (up (M 37) 4 3) = L) ∨ ((((0 ≤ ia ∧ ia ≤ 3) ∧ (0 ≤ ib ∧ ib ≤ 2)) ∧ 0 ≤ (M 38) ia ∧ (M 38) ia = ib ∧ ¬ (0 ≤ ic ∧ ic ≤ (M 39) ia - 1)) ∧ y = -2147483648 ∧ upR N 37 (up (M 37) 4 2) = L) ∨ ((((0 ≤ ia ∧ ia ≤ 3) ∧ (0 ≤ ib ∧ ib ≤ 2)) ∧ 0 ≤ (M 38) ia ∧ (M 38) ia = ib ∧ 0 ≤ ic ∧ ic ≤ (M 39) ia - 1) ∧ y = (M 40) (60 * ia + ic) ∧ N = L)) : x = y ∧ Rel L := by
  have hg := fun h => R.sh (s := ia) h
  rcases h1 with ⟨c1, rfl, rfl⟩ | ⟨⟨c1, d1⟩, rfl, rfl⟩ | ⟨⟨c1, d1⟩, rfl, rfl⟩ | ⟨⟨c1, d1⟩, rfl, rfl⟩ | ⟨⟨c1, d1⟩, rfl, rfl⟩
  · rcases h2 with ⟨c2, rfl, rfl⟩ | ⟨⟨c2, d2⟩, rfl, rfl⟩ | ⟨⟨c2, d2⟩, rfl, rfl⟩ | ⟨⟨c2, d2⟩, rfl, rfl⟩ | ⟨⟨c2, d2⟩, rfl, rfl⟩
    · exact ⟨rfl, R⟩
    · exact absurd c2 c1
    · exact absurd c2 c1
    · exact absurd c2 c1
    · exact absurd c2 c1
  · obtain ⟨a1, a2, a3, -⟩ := hg c1.1
    rcases h2 with ⟨c2, rfl, rfl⟩ | ⟨⟨c2, d2⟩, rfl, rfl⟩ | ⟨⟨c2, d2⟩, rfl, rfl⟩ | ⟨⟨c2, d2⟩, rfl, rfl⟩ | ⟨⟨c2, d2⟩, rfl, rfl⟩
    · exact absurd c1 c2
    · exact ⟨rfl, R.fi 1⟩
    · exfalso; omega
    · exfalso; omega
    · exfalso; omega
  · obtain ⟨a1, a2, a3, -⟩ := hg c1.1
    rcases h2 with ⟨c2, rfl, rfl⟩ | ⟨⟨c2, d2⟩, rfl, rfl⟩ | ⟨⟨c2, d2⟩, rfl, rfl⟩ | ⟨⟨c2, d2⟩, rfl, rfl⟩ | ⟨⟨c2, d2⟩, rfl, rfl⟩
    · exact absurd c1 c2
    · exfalso; omega
    · exact ⟨rfl, R.fi 3⟩
    · exfalso; omega
    · exfalso; omega
  · obtain ⟨a1, a2, a3, a4, a5, a6⟩ := hg c1.1
    have a7 := (a5 (by omega)).1
    rcases h2 with ⟨c2, rfl, rfl⟩ | ⟨⟨c2, d2⟩, rfl, rfl⟩ | ⟨⟨c2, d2⟩, rfl, rfl⟩ | ⟨⟨c2, d2⟩, rfl, rfl⟩ | ⟨⟨c2, d2⟩, rfl, rfl⟩
    · exact absurd c1 c2
    · exfalso; omega
    · exfalso; omega
    · exact ⟨rfl, R.fi 2⟩
    · exfalso; omega
  · obtain ⟨a1, a2, a3, a4, a5, a6⟩ := hg c1.1
    have a7 := a5 (by omega)
    have a8 := a7.1
    rcases h2 with ⟨c2, rfl, rfl⟩ | ⟨⟨c2, d2⟩, rfl, rfl⟩ | ⟨⟨c2, d2⟩, rfl, rfl⟩ | ⟨⟨c2, d2⟩, rfl, rfl⟩ | ⟨⟨c2, d2⟩, rfl, rfl⟩
    · exact absurd c1 c2
    · exfalso; omega
    · exfalso; omega
    · exfalso; omega
    · exact ⟨(a7.2 ic (by omega) (by omega)).symm, R⟩
theorem fin_lay {M N L : zW} (R : Rel M) {ia ib ic id : Int} {x y : Int} (hr : -2147483648 ≤ ia ∧ ia < 2147483648 ∧ -2147483648 ≤ ib ∧ ib < 2147483648 ∧ -2147483648 ≤ ic ∧ ic < 2147483648 ∧ -2147483648 ≤ id ∧ id < 2147483648) (h1 : (¬ ((0 ≤ ia ∧ ia ≤ 3) ∧ (0 ≤ ib ∧ ib ≤ 2)) ∧ x = -2 ∧ M = N) ∨ ((((0 ≤ ia ∧ ia ≤ 3) ∧ (0 ≤ ib ∧ ib ≤ 2)) ∧ M (10 + ia.toNat) 0 = -1) ∧ x = -11 ∧ upR M 0 (up (M 0) 10 1) = N) ∨ ((((0 ≤ ia ∧ ia ≤ 3) ∧ (0 ≤ ib ∧ ib ≤ 2)) ∧ M (10 + ia.toNat) 0 ≠ -1 ∧ M (10 + ia.toNat) 0 ≠ ib) ∧ x = -13 ∧ upR M 0 (up (M 0) 10 3) = N) ∨ ((((0 ≤ ia ∧ ia ≤ 3) ∧ (0 ≤ ib ∧ ib ≤ 2)) ∧ M (10 + ia.toNat) 0 = ib ∧ ¬ (0 ≤ ic ∧ ic + 1 ≤ M (10 + ia.toNat) 1)) ∧ x = -12 ∧ upR M 0 (up (M 0) 10 2) = N) ∨ ((((0 ≤ ia ∧ ia ≤ 3) ∧ (0 ≤ ib ∧ ib ≤ 2)) ∧ M (10 + ia.toNat) 0 = ib ∧ (0 ≤ ic ∧ ic + 1 ≤ M (10 + ia.toNat) 1)) ∧ x = 1 ∧ upR M (14 + ia.toNat) (up (M (14 + ia.toNat)) ic (cutv (M (10 + ia.toNat) 0) id)) = N)) (h2 : ((¬ ((0 ≤ ia ∧ ia ≤ 3) ∧ (0 ≤ ib ∧ ib ≤ 2))) ∧ y = -2 ∧ N = L) ∨ ((((0 ≤ ia ∧ ia ≤ 3) ∧ (0 ≤ ib ∧ ib ≤ 2)) ∧ (M 38) ia < 0) ∧ y = -11 ∧ upR N 37 (up (M 37) 4 1) = L) ∨ ((((0 ≤ ia ∧ ia ≤ 3) ∧ (0 ≤ ib ∧ ib ≤ 2)) ∧ 0 ≤ (M 38) ia ∧ (M 38) ia ≠ ib) ∧ y = -13 ∧ upR N 37 (up (M 37) 4 3) = L) ∨ ((((0 ≤ ia ∧ ia ≤ 3) ∧ (0 ≤ ib ∧ ib ≤ 2)) ∧ 0 ≤ (M 38) ia ∧ (M 38) ia = ib ∧ ¬ (0 ≤ ic ∧ ic ≤ (M 39) ia - 1)) ∧ y = -12 ∧ upR N 37 (up (M 37) 4 2) = L) ∨ ((((0 ≤ ia ∧ ia ≤ 3) ∧ (0 ≤ ib ∧ ib ≤ 2)) ∧ 0 ≤ (M 38) ia ∧ (M 38) ia = ib ∧ 0 ≤ ic ∧ ic ≤ (M 39) ia - 1) ∧ y = 1 ∧ upR N 40 (up (M 40) (60 * ia + ic) (cutv ib id)) = L)) : x = y ∧ Rel L := by
  have hg := fun h => R.sh (s := ia) h
  rcases h1 with ⟨c1, rfl, rfl⟩ | ⟨⟨c1, d1⟩, rfl, rfl⟩ | ⟨⟨c1, d1⟩, rfl, rfl⟩ | ⟨⟨c1, d1⟩, rfl, rfl⟩ | ⟨⟨c1, d1⟩, rfl, rfl⟩
  · rcases h2 with ⟨c2, rfl, rfl⟩ | ⟨⟨c2, d2⟩, rfl, rfl⟩ | ⟨⟨c2, d2⟩, rfl, rfl⟩ | ⟨⟨c2, d2⟩, rfl, rfl⟩ | ⟨⟨c2, d2⟩, rfl, rfl⟩
    · exact ⟨rfl, R⟩
    · exact absurd c2 c1
    · exact absurd c2 c1
    · exact absurd c2 c1
    · exact absurd c2 c1
  · obtain ⟨a1, a2, a3, -⟩ := hg c1.1
    rcases h2 with ⟨c2, rfl, rfl⟩ | ⟨⟨c2, d2⟩, rfl, rfl⟩ | ⟨⟨c2, d2⟩, rfl, rfl⟩ | ⟨⟨c2, d2⟩, rfl, rfl⟩ | ⟨⟨c2, d2⟩, rfl, rfl⟩
    · exact absurd c1 c2
    · exact ⟨rfl, R.fi 1⟩
    · exfalso; omega
    · exfalso; omega
    · exfalso; omega
  · obtain ⟨a1, a2, a3, -⟩ := hg c1.1
    rcases h2 with ⟨c2, rfl, rfl⟩ | ⟨⟨c2, d2⟩, rfl, rfl⟩ | ⟨⟨c2, d2⟩, rfl, rfl⟩ | ⟨⟨c2, d2⟩, rfl, rfl⟩ | ⟨⟨c2, d2⟩, rfl, rfl⟩
    · exact absurd c1 c2
    · exfalso; omega
    · exact ⟨rfl, R.fi 3⟩
    · exfalso; omega
    · exfalso; omega
  · obtain ⟨a1, a2, a3, a4, a5, a6⟩ := hg c1.1
    have a7 := (a5 (by omega)).1
    rcases h2 with ⟨c2, rfl, rfl⟩ | ⟨⟨c2, d2⟩, rfl, rfl⟩ | ⟨⟨c2, d2⟩, rfl, rfl⟩ | ⟨⟨c2, d2⟩, rfl, rfl⟩ | ⟨⟨c2, d2⟩, rfl, rfl⟩
    · exact absurd c1 c2
    · exfalso; omega
    · exfalso; omega
    · exact ⟨rfl, R.fi 2⟩
    · exfalso; omega
  · obtain ⟨a1, a2, a3, a4, a5, a6⟩ := hg c1.1
    have a7 := a5 (by omega)
    have a8 := a7.1
    rcases h2 with ⟨c2, rfl, rfl⟩ | ⟨⟨c2, d2⟩, rfl, rfl⟩ | ⟨⟨c2, d2⟩, rfl, rfl⟩ | ⟨⟨c2, d2⟩, rfl, rfl⟩ | ⟨⟨c2, d2⟩, rfl, rfl⟩
    · exact absurd c1 c2
    · exfalso; omega
    · exfalso; omega
    · exfalso; omega
    · refine ⟨rfl, ?_⟩
      have hk : ia.toNat < 4 := by omega
      have ek : ((ia.toNat : Nat) : Int) = ia := by omega
      have hv : rg32 (cutv ib id) := cutv_rg (by omega)
      rw [d1.1]
      refine R.of (fun q hq => by have z := relA_n q hq; rw [upR_ne (by omega), upR_ne (by omega)]) (by rw [upR_ne (by omega), upR_ne (by omega)]) (by rw [upR_ne (by omega), upR_ne (by omega)]) (by rw [upR_ne (by omega), upR_ne (by omega)]) (by rw [upR_ne (by omega), upR_ne (by omega)]) (by rw [upR_ne (by omega), upR_ne (by omega)]) (R.2.2.2.put hk (fun s hs hn => ⟨by rw [upR_ne (by omega), upR_ne (by omega)], by rw [upR_ne (by omega), upR_ne (by omega)]⟩) (fun s hs hn => ⟨by rw [upR_ne (by omega), upR_ne (by omega)], by rw [upR_ne (by omega), upR_ne (by omega)]⟩) (fun s hs hn i u v => ?_) ?_ (fun j u v => ?_))
      · rw [upR_eq, up_n _ _ (by omega)]
      · rw [show ∀ W : zW, ∀ f : Int → Int, upR W 40 f 40 = f from fun _ _ => upR_eq]
        rw [upR_ne (show 10 + ia.toNat ≠ 40 by omega), upR_ne (show 10 + ia.toNat ≠ 14 + ia.toNat by omega), upR_ne (show 14 + ia.toNat ≠ 40 by omega), upR_eq, upR_ne (show 38 ≠ 40 by omega), upR_ne (show 38 ≠ 14 + ia.toNat by omega), upR_ne (show 39 ≠ 40 by omega), upR_ne (show 39 ≠ 14 + ia.toNat by omega), ek]
        refine ⟨a1, a2, a3, a4, fun z => ⟨a8, fun i u v => ?_⟩, fun j u v => ?_⟩
        · by_cases q : i = ic
          · rw [q, up_s, up_s]
          · rw [up_n _ _ q, up_n _ _ (by omega)]; exact a7.2 i u v
        · by_cases q : j = ic
          · rw [q, up_s]; exact hv
          · rw [up_n _ _ q]; exact a6 j u v
      · rw [upR_eq]
        by_cases q : j = 60 * ia + ic
        · rw [q, up_s]; exact hv
        · rw [up_n _ _ q]; exact R.gI j u v
theorem fin_copy {M N L : zW} (R : Rel M) {ia ib ic id ie : Int} {x y : Int} (hr : -2147483648 ≤ ia ∧ ia < 2147483648 ∧ -2147483648 ≤ ib ∧ ib < 2147483648 ∧ -2147483648 ≤ ic ∧ ic < 2147483648 ∧ -2147483648 ≤ id ∧ id < 2147483648 ∧ -2147483648 ≤ ie ∧ ie < 2147483648) (h1 : (¬ ((0 ≤ ia ∧ ia ≤ 3) ∧ (0 ≤ ic ∧ ic ≤ 3)) ∧ x = -2 ∧ M = N) ∨ ((((0 ≤ ia ∧ ia ≤ 3) ∧ (0 ≤ ic ∧ ic ≤ 3)) ∧ (M (10 + ia.toNat) 0 = -1 ∨ M (10 + ic.toNat) 0 = -1)) ∧ x = -11 ∧ upR M 0 (up (M 0) 10 1) = N) ∨ ((((0 ≤ ia ∧ ia ≤ 3) ∧ (0 ≤ ic ∧ ic ≤ 3)) ∧ ¬ (M (10 + ia.toNat) 0 = -1 ∨ M (10 + ic.toNat) 0 = -1) ∧ M (10 + ia.toNat) 0 ≠ M (10 + ic.toNat) 0) ∧ x = -14 ∧ upR M 0 (up (M 0) 10 4) = N) ∨ ((((0 ≤ ia ∧ ia ≤ 3) ∧ (0 ≤ ic ∧ ic ≤ 3)) ∧ ¬ (M (10 + ia.toNat) 0 = -1 ∨ M (10 + ic.toNat) 0 = -1) ∧ M (10 + ia.toNat) 0 = M (10 + ic.toNat) 0 ∧ ¬ ((0 ≤ ib ∧ 0 ≤ ie ∧ ib + ie ≤ M (10 + ia.toNat) 1) ∧ (0 ≤ id ∧ 0 ≤ ie ∧ id + ie ≤ M (10 + ic.toNat) 1))) ∧ x = -12 ∧ upR M 0 (up (M 0) 10 2) = N) ∨ ((((0 ≤ ia ∧ ia ≤ 3) ∧ (0 ≤ ic ∧ ic ≤ 3)) ∧ ¬ (M (10 + ia.toNat) 0 = -1 ∨ M (10 + ic.toNat) 0 = -1) ∧ M (10 + ia.toNat) 0 = M (10 + ic.toNat) 0 ∧ ((0 ≤ ib ∧ 0 ≤ ie ∧ ib + ie ≤ M (10 + ia.toNat) 1) ∧ (0 ≤ id ∧ 0 ≤ ie ∧ id + ie ≤ M (10 + ic.toNat) 1))) ∧ x = 1 ∧ upR M (14 + ic.toNat) (cpy (M (14 + ia.toNat)) (M (14 + ic.toNat)) ib id ie) = N)) (h2 : ((¬ ((0 ≤ ia ∧ ia ≤ 3) ∧ (0 ≤ ic ∧ ic ≤ 3))) ∧ y = -2 ∧ N = L) ∨ ((((0 ≤ ia ∧ ia ≤ 3) ∧ (0 ≤ ic ∧ ic ≤ 3)) ∧ ((M 38) ia < 0 ∨ (M 38) ic < 0)) ∧ y = -11 ∧ upR N 37 (up (M 37) 4 1) = L) ∨ ((((0 ≤ ia ∧ ia ≤ 3) ∧ (0 ≤ ic ∧ ic ≤ 3)) ∧ 0 ≤ (M 38) ia ∧ 0 ≤ (M 38) ic ∧ (M 38) ia ≠ (M 38) ic) ∧ y = -14 ∧ upR N 37 (up (M 37) 4 4) = L) ∨ ((((0 ≤ ia ∧ ia ≤ 3) ∧ (0 ≤ ic ∧ ic ≤ 3)) ∧ 0 ≤ (M 38) ia ∧ 0 ≤ (M 38) ic ∧ (M 38) ia = (M 38) ic ∧ ¬ (0 ≤ ib ∧ 0 ≤ id ∧ 0 ≤ ie ∧ ib + ie ≤ (M 39) ia ∧ id + ie ≤ (M 39) ic)) ∧ y = -12 ∧ upR N 37 (up (M 37) 4 2) = L) ∨ ((((0 ≤ ia ∧ ia ≤ 3) ∧ (0 ≤ ic ∧ ic ≤ 3)) ∧ 0 ≤ (M 38) ia ∧ 0 ≤ (M 38) ic ∧ (M 38) ia = (M 38) ic ∧ (0 ≤ ib ∧ 0 ≤ id ∧ 0 ≤ ie ∧ ib + ie ≤ (M 39) ia ∧ id + ie ≤ (M 39) ic)) ∧ y = 1 ∧ ∃ v, upR (upR N 41 v) 40 (fil (fun q => (M 40) (60 * ia + ib + q)) (M 40) (60 * ic + id) ie) = L)) : x = y ∧ Rel L := by
  have hg := fun h => R.sh (s := ia) h
  have hh := fun h => R.sh (s := ic) h
  rcases h1 with ⟨c1, rfl, rfl⟩ | ⟨⟨c1, d1⟩, rfl, rfl⟩ | ⟨⟨c1, d1⟩, rfl, rfl⟩ | ⟨⟨c1, d1⟩, rfl, rfl⟩ | ⟨⟨c1, d1⟩, rfl, rfl⟩
  · rcases h2 with ⟨c2, rfl, rfl⟩ | ⟨⟨c2, d2⟩, rfl, rfl⟩ | ⟨⟨c2, d2⟩, rfl, rfl⟩ | ⟨⟨c2, d2⟩, rfl, rfl⟩ | ⟨⟨c2, d2⟩, rfl, v0, rfl⟩
    · exact ⟨rfl, R⟩
    · exact absurd c2 c1
    · exact absurd c2 c1
    · exact absurd c2 c1
    · exact absurd c2 c1
  · obtain ⟨a1, a2, a3, -⟩ := hg c1.1
    obtain ⟨b1, b2, b3, -⟩ := hh c1.2
    rcases h2 with ⟨c2, rfl, rfl⟩ | ⟨⟨c2, d2⟩, rfl, rfl⟩ | ⟨⟨c2, d2⟩, rfl, rfl⟩ | ⟨⟨c2, d2⟩, rfl, rfl⟩ | ⟨⟨c2, d2⟩, rfl, v0, rfl⟩
    · exact absurd c1 c2
    · exact ⟨rfl, R.fi 1⟩
    · exfalso; omega
    · exfalso; omega
    · exfalso; omega
  · obtain ⟨a1, a2, a3, -⟩ := hg c1.1
    obtain ⟨b1, b2, b3, -⟩ := hh c1.2
    rcases h2 with ⟨c2, rfl, rfl⟩ | ⟨⟨c2, d2⟩, rfl, rfl⟩ | ⟨⟨c2, d2⟩, rfl, rfl⟩ | ⟨⟨c2, d2⟩, rfl, rfl⟩ | ⟨⟨c2, d2⟩, rfl, v0, rfl⟩
    · exact absurd c1 c2
    · exfalso; omega
    · exact ⟨rfl, R.fi 4⟩
    · exfalso; omega
    · exfalso; omega
  · obtain ⟨a1, a2, a3, a4, a5, a6⟩ := hg c1.1
    obtain ⟨b1, b2, b3, b4, b5, b6⟩ := hh c1.2
    have a7 := (a5 (by omega)).1
    have b7 := (b5 (by omega)).1
    rcases h2 with ⟨c2, rfl, rfl⟩ | ⟨⟨c2, d2⟩, rfl, rfl⟩ | ⟨⟨c2, d2⟩, rfl, rfl⟩ | ⟨⟨c2, d2⟩, rfl, rfl⟩ | ⟨⟨c2, d2⟩, rfl, v0, rfl⟩
    · exact absurd c1 c2
    · exfalso; omega
    · exfalso; omega
    · exact ⟨rfl, R.fi 2⟩
    · exfalso; omega
  · obtain ⟨a1, a2, a3, a4, a5, a6⟩ := hg c1.1
    obtain ⟨b1, b2, b3, b4, b5, b6⟩ := hh c1.2
    have a7 := a5 (by omega)
    have b7 := b5 (by omega)
    have a8 := a7.1
    have b8 := b7.1
    rcases h2 with ⟨c2, rfl, rfl⟩ | ⟨⟨c2, d2⟩, rfl, rfl⟩ | ⟨⟨c2, d2⟩, rfl, rfl⟩ | ⟨⟨c2, d2⟩, rfl, rfl⟩ | ⟨⟨c2, d2⟩, rfl, v0, rfl⟩
    · exact absurd c1 c2
    · exfalso; omega
    · exfalso; omega
    · exfalso; omega
    · refine ⟨rfl, ?_⟩
      have hk : ic.toNat < 4 := by omega
      have ek : ((ic.toNat : Nat) : Int) = ic := by omega
      refine R.of (fun q hq => by have z := relA_n q hq; rw [upR_ne (by omega), upR_ne (by omega), upR_ne (by omega)]) (by rw [upR_ne (by omega), upR_ne (by omega), upR_ne (by omega)]) (by rw [upR_ne (by omega), upR_ne (by omega), upR_ne (by omega)]) (by rw [upR_ne (by omega), upR_ne (by omega), upR_ne (by omega)]) (by rw [upR_ne (by omega), upR_ne (by omega), upR_ne (by omega)]) (by rw [upR_ne (by omega), upR_ne (by omega), upR_ne (by omega)]) (R.2.2.2.put hk (fun s hs hn => ⟨by rw [upR_ne (by omega), upR_ne (by omega), upR_ne (by omega)], by rw [upR_ne (by omega), upR_ne (by omega), upR_ne (by omega)]⟩) (fun s hs hn => ⟨by rw [upR_ne (by omega), upR_ne (by omega), upR_ne (by omega)], by rw [upR_ne (by omega), upR_ne (by omega), upR_ne (by omega)]⟩) (fun s hs hn i u v => ?_) ?_ (fun j u v => ?_))
      · rw [upR_eq, fil_out _ _ (by omega)]
      · rw [show ∀ W : zW, ∀ f : Int → Int, upR W 40 f 40 = f from fun _ _ => upR_eq]
        rw [upR_ne (show 10 + ic.toNat ≠ 40 by omega), upR_ne (show 10 + ic.toNat ≠ 41 by omega), upR_ne (show 10 + ic.toNat ≠ 14 + ic.toNat by omega), upR_ne (show 14 + ic.toNat ≠ 40 by omega), upR_ne (show 14 + ic.toNat ≠ 41 by omega), upR_eq, upR_ne (show 38 ≠ 40 by omega), upR_ne (show 38 ≠ 41 by omega), upR_ne (show 38 ≠ 14 + ic.toNat by omega), upR_ne (show 39 ≠ 40 by omega), upR_ne (show 39 ≠ 41 by omega), upR_ne (show 39 ≠ 14 + ic.toNat by omega), ek]
        refine ⟨b1, b2, b3, b4, fun z => ⟨b8, fun i u v => ?_⟩, fun j u v => ?_⟩
        · by_cases q : id ≤ i ∧ i < id + ie
          · rw [fil_in _ _ (by omega)]
            unfold cpy
            rw [if_pos q]
            have w := a7.2 (ib + (i - id)) (by omega) (by omega)
            rw [← w]
            congr 1
            omega
          · rw [fil_out _ _ (by omega)]
            unfold cpy
            rw [if_neg q]
            exact b7.2 i u v
        · unfold cpy
          by_cases q : id ≤ j ∧ j < id + ie
          · rw [if_pos q]; exact a6 _ (by omega) (by omega)
          · rw [if_neg q]; exact b6 j u v
      · rw [upR_eq]
        by_cases q : 60 * ic + id ≤ j ∧ j < 60 * ic + id + ie
        · rw [fil_in _ _ q]; exact R.gI _ (by omega) (by omega)
        · rw [fil_out _ _ q]; exact R.gI j u v
theorem fin_read {M N L : zW} (R : Rel M) {ia : Int} {x y : Int} (hr : -2147483648 ≤ ia ∧ ia < 2147483648) (h1 : (¬ (0 ≤ ia ∧ ia ≤ 3) ∧ x = -2 ∧ M = N) ∨ (((0 ≤ ia ∧ ia ≤ 3) ∧ M (10 + ia.toNat) 0 = -1) ∧ x = -11 ∧ upR M 0 (up (M 0) 10 1) = N) ∨ (((0 ≤ ia ∧ ia ≤ 3) ∧ M (10 + ia.toNat) 0 ≠ -1) ∧ ∃ r7 r8 : Int → Int, rdQ (M (14 + ia.toNat)) 0 (M (10 + ia.toNat) 1) (sgC (M 7) (M 8)) ((M 0) 8) x (sgC r7 r8) ∧ upR (upR (upR M 7 r7) 8 r8) 0 (up (M 0) 8 ((M 0) 8 + x)) = N)) (h2 : ((¬ (0 ≤ ia ∧ ia ≤ 3)) ∧ y = -2 ∧ N = L) ∨ (((0 ≤ ia ∧ ia ≤ 3) ∧ (M 38) ia < 0) ∧ y = -11 ∧ upR N 37 (up (M 37) 4 1) = L) ∨ (((0 ≤ ia ∧ ia ≤ 3) ∧ 0 ≤ (M 38) ia) ∧ ∃ r51 : Int → Int, rdQ (M 40) (60 * ia) ((M 39) ia) (M 51) ((M 37) 16) y r51 ∧ upR (upR N 51 r51) 37 (up (M 37) 16 ((M 37) 16 + y)) = L)) : x = y ∧ Rel L := by
  have hg := fun h => R.sh (s := ia) h
  rcases h1 with ⟨c1, rfl, rfl⟩ | ⟨⟨c1, d1⟩, rfl, rfl⟩ | ⟨⟨c1, d1⟩, r7, r8, u1, rfl⟩
  · rcases h2 with ⟨c2, rfl, rfl⟩ | ⟨⟨c2, d2⟩, rfl, rfl⟩ | ⟨⟨c2, d2⟩, r51, u2, rfl⟩
    · exact ⟨rfl, R⟩
    · exfalso; omega
    · exfalso; omega
  · obtain ⟨a1, a2, a3, -⟩ := hg c1
    rcases h2 with ⟨c2, rfl, rfl⟩ | ⟨⟨c2, d2⟩, rfl, rfl⟩ | ⟨⟨c2, d2⟩, r51, u2, rfl⟩
    · exfalso; omega
    · exact ⟨rfl, R.fi 1⟩
    · exfalso; omega
  · obtain ⟨a1, a2, a3, a4, a5, a6⟩ := hg c1
    rcases h2 with ⟨c2, rfl, rfl⟩ | ⟨⟨c2, d2⟩, rfl, rfl⟩ | ⟨⟨c2, d2⟩, r51, u2, rfl⟩
    · exfalso; omega
    · exfalso; omega
    · obtain ⟨a7, a8⟩ := a5 d1
      have e := R.e16
      rw [R.eS, e, a7] at u2
      obtain ⟨rfl, hs⟩ := rdQ_one (fun j u v => by rw [Int.zero_add]; exact (a8 j u v).symm) u1 u2
      refine ⟨rfl, ?_⟩
      obtain ⟨r1, ⟨s1, s2, s3, s4⟩, f, h⟩ := R
      obtain ⟨⟨⟨p1, p2, p3⟩, p4, p5⟩, -⟩ := u1
      refine ⟨r1.tr (fun q hq => by have z := relA_n q hq; rw [upR_ne (by omega), upR_ne (by omega), upR_ne (by omega), upR_ne (by omega), upR_ne (by omega)]), ⟨?_, ?_, hs.symm, fun j a b => ?_⟩, ?_, h.tr (fun q hq => by have z := relS_n q hq; rw [upR_ne (by omega), upR_ne (by omega), upR_ne (by omega), upR_ne (by omega), upR_ne (by omega)])⟩
      · show 0 ≤ up (M 0) 8 (M 0 8 + x) 8 ∧ up (M 0) 8 (M 0 8 + x) 8 ≤ 8
        rw [up_s]; omega
      · show up (M 37) 16 (M 37 16 + x) 16 = up (M 0) 8 (M 0 8 + x) 8
        rw [up_s, up_s, e]
      · show (0 ≤ r7 j ∧ r7 j ≤ 7) ∧ (0 ≤ r8 j ∧ r8 j ≤ 1)
        by_cases q : M 0 8 ≤ j ∧ j < M 0 8 + x
        · have w := p4 (j - M 0 8) (by omega) (by omega)
          rw [show M 0 8 + (j - M 0 8) = j by omega, sgC_0, sgC_1] at w
          rw [w.2.1, w.2.2]; exact w.1
        · have w1 := p5 (2 * j) (by omega)
          have w2 := p5 (2 * j + 1) (by omega)
          rw [sgC_0, sgC_0] at w1
          rw [sgC_1, sgC_1] at w2
          rw [w1, w2]; exact s4 j a b
      · show up (M 37) 16 (M 37 16 + x) 4 = up (M 0) 8 (M 0 8 + x) 10
        rw [up_n _ _ (by decide), up_n _ _ (by decide)]; exact f
theorem fin_write {M N L : zW} (R : Rel M) {ia ib : Int} {x y : Int} (hr : -2147483648 ≤ ia ∧ ia < 2147483648 ∧ -2147483648 ≤ ib ∧ ib < 2147483648) (h1 : (¬ ((0 ≤ ia ∧ ia ≤ 1) ∧ (0 ≤ ib ∧ ib ≤ 3)) ∧ x = -2 ∧ M = N) ∨ ((((0 ≤ ia ∧ ia ≤ 1) ∧ (0 ≤ ib ∧ ib ≤ 3)) ∧ M (10 + ib.toNat) 0 = -1) ∧ x = -11 ∧ upR M 0 (up (M 0) 10 1) = N) ∨ ((((0 ≤ ia ∧ ia ≤ 1) ∧ (0 ≤ ib ∧ ib ≤ 3)) ∧ M (10 + ib.toNat) 0 ≠ -1) ∧ x = min 8 (M (10 + ib.toNat) 1) ∧ kc (upR M (14 + ib.toNat) (fil (fun t => cutv (M (10 + ib.toNat) 0) (hBy (M 3) (cW (M 22)) t ia)) (M (14 + ib.toNat)) 0 (min 8 (M (10 + ib.toNat) 1)))) N)) (h2 : ((¬ ((0 ≤ ia ∧ ia ≤ 1) ∧ (0 ≤ ib ∧ ib ≤ 3))) ∧ y = -2 ∧ N = L) ∨ ((((0 ≤ ia ∧ ia ≤ 1) ∧ (0 ≤ ib ∧ ib ≤ 3)) ∧ (M 38) ib < 0) ∧ y = -11 ∧ upR N 37 (up (M 37) 4 1) = L) ∨ ((((0 ≤ ia ∧ ia ≤ 1) ∧ (0 ≤ ib ∧ ib ≤ 3)) ∧ 0 ≤ (M 38) ib) ∧ y = min ((M 39) ib) 8 ∧ ∃ (nr np : Int) (Rd P2 Wy : Int → Int), Fnd (M 42) (M 43) nr np Rd P2 Wy ∧ kp (upR N 40 (fil (fun t => cutv ((M 38) ib) (hBy (M 46) Wy t ia)) (M 40) (60 * ib) (min ((M 39) ib) 8))) L)) : x = y ∧ Rel L := by
  have hg := fun h => R.sh (s := ib) h
  rcases h1 with ⟨c1, rfl, rfl⟩ | ⟨⟨c1, d1⟩, rfl, rfl⟩ | ⟨⟨c1, d1⟩, rfl, k1⟩
  · rcases h2 with ⟨c2, rfl, rfl⟩ | ⟨⟨c2, d2⟩, rfl, rfl⟩ | ⟨⟨c2, d2⟩, rfl, u2⟩
    · exact ⟨rfl, R⟩
    · exfalso; omega
    · exfalso; omega
  · obtain ⟨a1, a2, a3, -⟩ := hg c1.2
    rcases h2 with ⟨c2, rfl, rfl⟩ | ⟨⟨c2, d2⟩, rfl, rfl⟩ | ⟨⟨c2, d2⟩, rfl, u2⟩
    · exfalso; omega
    · exact ⟨rfl, R.fi 1⟩
    · exfalso; omega
  · obtain ⟨a1, a2, a3, a4, a5, a6⟩ := hg c1.2
    rcases h2 with ⟨c2, rfl, rfl⟩ | ⟨⟨c2, d2⟩, rfl, rfl⟩ | ⟨⟨c2, d2⟩, rfl, u2⟩
    · exfalso; omega
    · exfalso; omega
    · obtain ⟨a7, a8⟩ := a5 d1
      obtain ⟨nr, np, Rd, P2, Wy, hF, k2⟩ := u2
      obtain ⟨e1, e2, f1, f2, f3, f4, f5, f6, f7⟩ := R.f hF
      rw [a7, a3] at k2
      refine ⟨by rw [a7]; omega, ?_⟩
      have hk : ib.toNat < 4 := by omega
      have ek : ((ib.toNat : Nat) : Int) = ib := by omega
      have hb : ∀ t, 0 ≤ t → t < 8 → rg32 (cutv (M (10 + ib.toNat) 0) (hBy (M 3) (cW (M 22)) t ia)) := fun t u v => cutv_rg (by
        have q := hBy_rg (wh := ia) R.hT (cW_ok R.hc) (t := t) (by omega)
        omega)
      have eL : ∀ q, q ∉ scC → q ∉ scrL → q ≠ 37 → q ≠ 40 → q ≠ 14 + ib.toNat → L q = M q := fun q z1 z2 z3 z4 z5 => by
        rw [k2.1 q z2 z3, upR_ne z4, k1 q z1, upR_ne z5]
      have e40 : L 40 = fil (fun t => cutv (M (10 + ib.toNat) 0) (hBy (M 46) Wy t ia)) (M 40) (60 * ib) (min (M (10 + ib.toNat) 1) 8) := by
        rw [k2.1 40 (by decide) (by decide), upR_eq]
      have e14 : L (14 + ib.toNat) = fil (fun t => cutv (M (10 + ib.toNat) 0) (hBy (M 3) (cW (M 22)) t ia)) (M (14 + ib.toNat)) 0 (min 8 (M (10 + ib.toNat) 1)) := by
        have z := relS_c (14 + ib.toNat) (relS_in hk).2
        rw [k2.1 _ z.2.1 z.2.2, upR_ne (by omega), k1 _ z.1, upR_eq]
      have e37 : L 37 4 = M 37 4 ∧ L 37 16 = M 37 16 := by
        rw [k2.2 4 (by decide) (by decide) (by decide), k2.2 16 (by decide) (by decide) (by decide), upR_ne (by omega), k1 37 (by decide), upR_ne (by omega)]
        exact ⟨rfl, rfl⟩
      have hS : RelSh L := by
        refine R.2.2.2.put hk (fun s hs hn => ?_) (fun s hs hn => ?_) (fun s hs hn i u v => ?_) ?_ (fun j u v => ?_)
        · have z1 := relS_c (10 + s) (relS_in hs).1
          have z2 := relS_c (14 + s) (relS_in hs).2
          exact ⟨eL _ z1.1 z1.2.1 z1.2.2 (by omega) (by omega), eL _ z2.1 z2.2.1 z2.2.2 (by omega) (by omega)⟩
        · rw [eL 38 (by decide) (by decide) (by decide) (by decide) (by omega), eL 39 (by decide) (by decide) (by decide) (by decide) (by omega)]
          exact ⟨rfl, rfl⟩
        · rw [e40, fil_out _ _ (by omega)]
        · have z1 := relS_c (10 + ib.toNat) (relS_in hk).1
          rw [eL _ z1.1 z1.2.1 z1.2.2 (by omega) (by omega), e14, eL 38 (by decide) (by decide) (by decide) (by decide) (by omega), eL 39 (by decide) (by decide) (by decide) (by decide) (by omega), e40, ek]
          refine ⟨a1, a2, a3, a4, fun z => ⟨a7, fun i u v => ?_⟩, fun j u v => ?_⟩
          · by_cases q : i < min 8 (M (10 + ib.toNat) 1)
            · rw [fil_in _ _ (by omega), fil_in _ _ (by omega), show 60 * ib + i - 60 * ib = i - 0 by omega, R.eT, hBy_c R.hT f3 (by omega)]
            · rw [fil_out _ _ (by omega), fil_out _ _ (by omega)]; exact a8 i u v
          · by_cases q : j < min 8 (M (10 + ib.toNat) 1)
            · rw [fil_in _ _ (by omega)]; exact hb _ (by omega) (by omega)
            · rw [fil_out _ _ (by omega)]; exact a6 j u v
        · rw [e40]
          by_cases q : 60 * ib ≤ j ∧ j < 60 * ib + min (M (10 + ib.toNat) 1) 8
          · rw [fil_in _ _ q, R.eT, hBy_c R.hT f3 (by omega)]; exact hb _ (by omega) (by omega)
          · rw [fil_out _ _ q]; exact R.gI j u v
      refine ⟨R.1.tr (fun q hq => ?_), ?_, ?_, hS⟩
      · have z := relA_c q hq
        have z2 := relA_n q hq
        exact eL q z.1 z.2.1 z.2.2 (by omega) (by omega)
      · rw [eL 0 (by decide) (by decide) (by decide) (by decide) (by omega), eL 7 (by decide) (by decide) (by decide) (by decide) (by omega), eL 8 (by decide) (by decide) (by decide) (by decide) (by omega), eL 51 (by decide) (by decide) (by decide) (by decide) (by omega), e37.2]
        exact R.2.1
      · rw [e37.1, eL 0 (by decide) (by decide) (by decide) (by decide) (by omega)]
        exact R.2.2.1

