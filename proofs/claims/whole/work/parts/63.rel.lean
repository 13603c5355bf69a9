/-! the class's cells and the reference's tell the same -/
theorem rBad_c {B C : Int → Int} {n : Int} (h : ∀ j, 0 ≤ j → j < n → B j = C j) {j : Int} (a : 0 ≤ j) (b : j < n) : rBad B j ↔ rBad C j := by
  have e : rV B j = rV C j := by unfold rV; rw [h j a b]
  unfold rBad
  by_cases z : j % 4 = 1
  · have e2 : rV B (j - 1) = rV C (j - 1) := by unfold rV; rw [h (j - 1) (by omega) (by omega)]
    rw [e, e2]
  · rw [e]
    exact ⟨fun y => y.elim Or.inl (fun u => absurd u.1 z), fun y => y.elim Or.inl (fun u => absurd u.1 z)⟩
theorem rdF_c {B C : Int → Int} {n x : Int} (h : ∀ j, 0 ≤ j → j < n → B j = C j) (k : rdF B n x) : rdF C n x := by
  rcases k with ⟨a1, a2, a3, a4⟩ | ⟨a1, a2, a3, a4⟩ | ⟨a1, a2, a3⟩
  · exact Or.inl ⟨a1, a2, (rBad_c h a1 a2).mp a3, fun j u v z => a4 j u v ((rBad_c h u (by omega)).mpr z)⟩
  · exact Or.inr (Or.inl ⟨a1, a2, a3, fun j u v z => a4 j u v ((rBad_c h u v).mpr z)⟩)
  · exact Or.inr (Or.inr ⟨a1, a2, fun j u v z => a3 j u v ((rBad_c h u v).mpr z)⟩)
theorem raIT_c {B C F G D : Int → Int} {n : Int} (h : ∀ j, 0 ≤ j → j < n → B j = C j) (k : raIT B F G D n) : raIT C F G D n := fun j a b c => by
  rw [k j a b c]; unfold rV; rw [h j a b]
theorem pdF_c {B C : Int → Int} {n x : Int} (h : ∀ j, 0 ≤ j → j < n → B j = C j) (k : pdF B n x) : pdF C n x := by
  have e : ∀ j, 0 ≤ j → j < n → (pBad B j ↔ pBad C j) := fun j a b => by unfold pBad pVl; rw [h j a b]
  rcases k with ⟨a1, a2, a3, a4⟩ | ⟨a1, a2, a3, a4⟩ | ⟨a1, a2, a3⟩
  · exact Or.inl ⟨a1, a2, (e x a1 a2).mp a3, fun j u v z => a4 j u v ((e j u (by omega)).mpr z)⟩
  · exact Or.inr (Or.inl ⟨a1, a2, a3, fun j u v z => a4 j u v ((e j u v).mpr z)⟩)
  · exact Or.inr (Or.inr ⟨a1, a2, fun j u v z => a3 j u v ((e j u v).mpr z)⟩)
theorem paIT_c {B C A G K H S : Int → Int} {n : Int} (h : ∀ j, 0 ≤ j → j < n → B j = C j) (k : paIT B A G K H S n) : paIT C A G K H S n := fun j a b c => by
  rw [k j a b c]; unfold pVl; rw [h j a b]
def RelRd (O1 Br F G D c B Y : Int → Int) : Prop := O1 0 = 3 ∧ (0 ≤ O1 2 ∧ O1 2 ≤ 47) ∧ Y 0 = O1 2 ∧ (∀ j, 0 ≤ j → j < O1 2 → Br j = B j) ∧ rdF B (O1 2) (O1 3) ∧ O1 4 = rCnt (O1 2) (O1 3) ∧ (O1 3 = -1 → raIT B F G D (O1 2)) ∧ ∃ W, c = gA F G D W (O1 4).toNat
def RelPs (O2 Bp A G K H S B Y : Int → Int) : Prop := O2 0 = 5 ∧ (0 ≤ O2 2 ∧ O2 2 ≤ 47) ∧ Y 1 = O2 2 ∧ (∀ j, 0 ≤ j → j < O2 2 → Bp j = B (48 + j)) ∧ pdF (fun i => B (48 + i)) (O2 2) (O2 3) ∧ O2 4 = pCnt (O2 2) (O2 3) ∧ (O2 3 = -1 → paIT (fun i => B (48 + i)) A G K H S (O2 2))
def RelA (M : zW) : Prop := RelRd (M 1) (M 18) (M 19) (M 20) (M 21) (M 22) (M 42) (M 43) ∧ RelPs (M 2) (M 23) (M 24) (M 25) (M 26) (M 27) (M 28) (M 42) (M 43) ∧ (∀ j, 0 ≤ j → j < 96 → 0 ≤ M 42 j ∧ M 42 j ≤ 255) ∧ tOK (M 3) ∧ M 46 = M 3
def RelSn (O0 Q7 Q8 : Int → Int) (o : Int) (Sg : Int → Int) : Prop := (0 ≤ O0 8 ∧ O0 8 ≤ 8) ∧ o = O0 8 ∧ Sg = sgC Q7 Q8 ∧ ∀ j, 0 ≤ j → j < 8 → (0 ≤ Q7 j ∧ Q7 j ≤ 7) ∧ (0 ≤ Q8 j ∧ Q8 j ≤ 1)
abbrev rg32 (x : Int) : Prop := -2147483648 ≤ x ∧ x ≤ 2147483647
def RelS1 (Sr Ir F S I : Int → Int) (s : Int) : Prop := (-1 ≤ Sr 0 ∧ Sr 0 ≤ 2) ∧ (0 ≤ Sr 1 ∧ Sr 1 ≤ 60) ∧ F s = Sr 0 ∧ (0 ≤ S s ∧ S s ≤ 60) ∧ (Sr 0 ≠ -1 → S s = Sr 1 ∧ ∀ i, 0 ≤ i → i < Sr 1 → I (60 * s + i) = Ir i) ∧ ∀ j, 0 ≤ j → j < 60 → rg32 (Ir j)
def RelSh (M : zW) : Prop := (∀ s : Nat, s < 4 → RelS1 (M (10 + s)) (M (14 + s)) (M 38) (M 39) (M 40) s) ∧ ∀ j, 0 ≤ j → j < 240 → rg32 (M 40 j)
def Rel (M : zW) : Prop := RelA M ∧ RelSn (M 0) (M 7) (M 8) (M 37 16) (M 51) ∧ M 37 4 = M 0 10 ∧ RelSh M
abbrev relA : List Nat := [1, 2, 3, 18, 19, 20, 21, 22, 23, 24, 25, 26, 27, 28, 42, 43, 46]
abbrev relS : List Nat := [10, 11, 12, 13, 14, 15, 16, 17, 38, 39, 40]
theorem relA_n : ∀ q ∈ relA, (q < 10 ∨ 18 ≤ q) ∧ q ≠ 0 ∧ q ≠ 4 ∧ q ≠ 5 ∧ q ≠ 6 ∧ q ≠ 7 ∧ q ≠ 8 ∧ q ≠ 37 ∧ q ≠ 38 ∧ q ≠ 39 ∧ q ≠ 40 ∧ q ≠ 41 ∧ q ≠ 44 ∧ q ≠ 45 ∧ q ≠ 47 ∧ q ≠ 51 := by decide
theorem relS_n : ∀ q ∈ relS, ((10 ≤ q ∧ q ≤ 17) ∨ (38 ≤ q ∧ q ≤ 40)) := by decide
theorem relA_c : ∀ q ∈ relA, q ∉ scC ∧ q ∉ scrL ∧ q ≠ 37 := by decide
theorem relS_c : ∀ q ∈ relS, q ∉ scC ∧ q ∉ scrL ∧ q ≠ 37 := by decide
theorem relS_in {s : Nat} (h : s < 4) : 10 + s ∈ relS ∧ 14 + s ∈ relS := by
  have : s = 0 ∨ s = 1 ∨ s = 2 ∨ s = 3 := by omega
  rcases this with rfl | rfl | rfl | rfl <;> decide
theorem RelA.tr {M L : zW} (h : ∀ k, k ∈ relA → L k = M k) (R : RelA M) : RelA L := by
  unfold RelA
  rw [h 1 (by decide), h 2 (by decide), h 3 (by decide), h 18 (by decide), h 19 (by decide), h 20 (by decide), h 21 (by decide), h 22 (by decide), h 23 (by decide), h 24 (by decide), h 25 (by decide), h 26 (by decide), h 27 (by decide), h 28 (by decide), h 42 (by decide), h 43 (by decide), h 46 (by decide)]
  exact R
theorem RelSh.tr {M L : zW} (h : ∀ k, k ∈ relS → L k = M k) (R : RelSh M) : RelSh L := by
  refine ⟨fun s hs => ?_, ?_⟩
  · rw [h _ (relS_in hs).1, h _ (relS_in hs).2, h 38 (by decide), h 39 (by decide), h 40 (by decide)]
    exact R.1 s hs
  · rw [h 40 (by decide)]; exact R.2
theorem Rel.kq {M N L : zW} (R : Rel M) (h1 : kc M N) (h2 : kp N L) : Rel L := by
  have e : ∀ q, q ∉ scC → q ∉ scrL → q ≠ 37 → L q = M q := fun q a b c => (h2.1 q b c).trans (h1 q a)
  obtain ⟨r1, r2, r3, r4⟩ := R
  refine ⟨r1.tr (fun q hq => ?_), ?_, ?_, r4.tr (fun q hq => ?_)⟩
  · have z := relA_c q hq; exact e q z.1 z.2.1 z.2.2
  · rw [e 0 (by decide) (by decide) (by decide), e 7 (by decide) (by decide) (by decide), e 8 (by decide) (by decide) (by decide), e 51 (by decide) (by decide) (by decide), h2.2 16 (by decide) (by decide) (by decide), h1 37 (by decide)]; exact r2
  · rw [e 0 (by decide) (by decide) (by decide), h2.2 4 (by decide) (by decide) (by decide), h1 37 (by decide)]; exact r3
  · have z := relS_c q hq; exact e q z.1 z.2.1 z.2.2
theorem Rel.hT {M : zW} (R : Rel M) : tOK (M 3) := R.1.2.2.2.1
theorem Rel.eT {M : zW} (R : Rel M) : M 46 = M 3 := R.1.2.2.2.2
theorem Rel.gT {M : zW} (R : Rel M) : tOK (M 46) := by rw [R.eT]; exact R.hT
theorem Rel.gB {M : zW} (R : Rel M) : ∀ j, 0 ≤ j → j < 96 → 0 ≤ M 42 j ∧ M 42 j ≤ 255 := R.1.2.2.1
theorem Rel.y0 {M : zW} (R : Rel M) : M 43 0 = M 1 2 := R.1.1.2.2.1
theorem Rel.y1 {M : zW} (R : Rel M) : M 43 1 = M 2 2 := R.1.2.1.2.2.1
theorem Rel.z1 {M : zW} (R : Rel M) : 0 ≤ M 1 2 ∧ M 1 2 ≤ 47 := R.1.1.2.1
theorem Rel.z2 {M : zW} (R : Rel M) : 0 ≤ M 2 2 ∧ M 2 2 ≤ 47 := R.1.2.1.2.1
theorem Rel.gY {M : zW} (R : Rel M) : ∀ j, 0 ≤ j → j < 2 → 0 ≤ M 43 j ∧ M 43 j ≤ 47 := fun j a b => by
  have h1 := R.z1
  have h2 := R.z2
  rcases (show j = 0 ∨ j = 1 by omega) with rfl | rfl
  · rw [R.y0]; exact h1
  · rw [R.y1]; exact h2
theorem Rel.hO {M : zW} (R : Rel M) : 0 ≤ M 1 4 ∧ M 1 4 ≤ 12 := by
  have h := rd_cnt R.z1 R.1.1.2.2.2.2.1
  rw [R.1.1.2.2.2.2.2.1]; exact ⟨h.1, h.2.1⟩
theorem Rel.hR {M : zW} (R : Rel M) : rdOK (tR (M 19) (M 20) (M 21)) (M 1 4) := by
  rw [R.1.1.2.2.2.2.2.1]
  exact rd_ok R.z1 R.1.1.2.2.2.2.1 R.1.1.2.2.2.2.2.2.1
theorem Rel.hP {M : zW} (R : Rel M) : (0 ≤ M 2 4 ∧ M 2 4 ≤ 8) ∧ pOK (tP (M 24) (M 25) (M 26) (M 27) (M 28)) (M 2 4) := by
  have h := pd_cnt R.z2 R.1.2.1.2.2.2.2.1
  rw [R.1.2.1.2.2.2.2.2.1]
  exact ⟨⟨h.1, h.2.1⟩, pd_ok R.z2 R.1.2.1.2.2.2.2.1 R.1.2.1.2.2.2.2.2.2⟩
theorem Rel.hc {M : zW} (R : Rel M) : wB (M 22) := by
  obtain ⟨W, h⟩ := R.1.1.2.2.2.2.2.2.2
  rw [h]; exact gA_ok R.hR R.hO.1
theorem Rel.h6 {M : zW} (R : Rel M) : w63 (M 22) := by
  obtain ⟨W, h⟩ := R.1.1.2.2.2.2.2.2.2
  rw [h]; exact gA_63 R.hO R.hR
theorem Rel.hs {M : zW} (R : Rel M) : (0 ≤ M 0 8 ∧ M 0 8 ≤ 8) ∧ ∀ j, 0 ≤ j → j < M 0 8 → (0 ≤ M 7 j ∧ M 7 j ≤ 7) ∧ (0 ≤ M 8 j ∧ M 8 j ≤ 1) := ⟨R.2.1.1, fun j a b => R.2.1.2.2.2 j a (by have := R.2.1.1; omega)⟩
theorem Rel.e16 {M : zW} (R : Rel M) : M 37 16 = M 0 8 := R.2.1.2.1
theorem Rel.gO {M : zW} (R : Rel M) : 0 ≤ M 37 16 ∧ M 37 16 ≤ 8 := by rw [R.e16]; exact R.hs.1
theorem Rel.eS {M : zW} (R : Rel M) : M 51 = sgC (M 7) (M 8) := R.2.1.2.2.1
theorem Rel.gG {M : zW} (R : Rel M) : ∀ j, 0 ≤ j → j < 16 → 0 ≤ M 51 j ∧ M 51 j ≤ 7 := fun j a b => by
  have h := R.2.1.2.2.2 (j / 2) (by omega) (by omega)
  rw [R.eS]; unfold sgC
  split <;> omega
theorem Rel.hX {M : zW} (R : Rel M) : (M 1 0 = 3 ∧ 0 ≤ M 1 2 ∧ M 1 2 ≤ 47) ∧ (∀ j, 0 ≤ j → j < M 1 2 → 0 ≤ M 18 j ∧ M 18 j ≤ 255) ∧ (M 2 0 = 5 ∧ 0 ≤ M 2 2 ∧ M 2 2 ≤ 47) ∧ (∀ j, 0 ≤ j → j < M 2 2 → 0 ≤ M 23 j ∧ M 23 j ≤ 255) := by
  have h1 := R.z1
  have h2 := R.z2
  refine ⟨⟨R.1.1.1, h1⟩, fun j a b => ?_, ⟨R.1.2.1.1, h2⟩, fun j a b => ?_⟩
  · rw [R.1.1.2.2.2.1 j a b]; exact R.gB j a (by omega)
  · rw [R.1.2.1.2.2.2.1 j a b]; exact R.gB (48 + j) (by omega) (by omega)
theorem Rel.sh {M : zW} (R : Rel M) {s : Int} (h : 0 ≤ s ∧ s ≤ 3) : RelS1 (M (10 + s.toNat)) (M (14 + s.toNat)) (M 38) (M 39) (M 40) s := by
  have := R.2.2.2.1 s.toNat (by omega)
  rw [show ((s.toNat : Nat) : Int) = s by omega] at this
  exact this
theorem Rel.gF {M : zW} (R : Rel M) : ∀ j, 0 ≤ j → j < 4 → -1 ≤ M 38 j ∧ M 38 j ≤ 2 := fun j a b => by
  obtain ⟨h1, h2, h3, -⟩ := R.sh (s := j) (by omega)
  omega
theorem Rel.gS {M : zW} (R : Rel M) : ∀ j, 0 ≤ j → j < 4 → 0 ≤ M 39 j ∧ M 39 j ≤ 60 := fun j a b => (R.sh (s := j) (by omega)).2.2.2.1
theorem Rel.gI {M : zW} (R : Rel M) : ∀ j, 0 ≤ j → j < 240 → -2147483648 ≤ M 40 j ∧ M 40 j ≤ 2147483647 := R.2.2.2.2
theorem Rel.hS {M : zW} (R : Rel M) : ((-1 ≤ M 10 0 ∧ M 10 0 ≤ 2) ∧ (0 ≤ M 10 1 ∧ M 10 1 ≤ 60)) ∧ ((-1 ≤ M 11 0 ∧ M 11 0 ≤ 2) ∧ (0 ≤ M 11 1 ∧ M 11 1 ≤ 60)) ∧ ((-1 ≤ M 12 0 ∧ M 12 0 ≤ 2) ∧ (0 ≤ M 12 1 ∧ M 12 1 ≤ 60)) ∧ ((-1 ≤ M 13 0 ∧ M 13 0 ≤ 2) ∧ (0 ≤ M 13 1 ∧ M 13 1 ≤ 60)) := by
  have h0 := R.2.2.2.1 0 (by decide)
  have h1 := R.2.2.2.1 1 (by decide)
  have h2 := R.2.2.2.1 2 (by decide)
  have h3 := R.2.2.2.1 3 (by decide)
  exact ⟨⟨h0.1, h0.2.1⟩, ⟨h1.1, h1.2.1⟩, ⟨h2.1, h2.2.1⟩, ⟨h3.1, h3.2.1⟩⟩
theorem Rel.hI {M : zW} (R : Rel M) : ∀ j, 0 ≤ j → j < 60 → (-2147483648 ≤ M 14 j ∧ M 14 j ≤ 2147483647) ∧ (-2147483648 ≤ M 15 j ∧ M 15 j ≤ 2147483647) ∧ (-2147483648 ≤ M 16 j ∧ M 16 j ≤ 2147483647) ∧ (-2147483648 ≤ M 17 j ∧ M 17 j ≤ 2147483647) := fun j a b =>
  ⟨(R.2.2.2.1 0 (by decide)).2.2.2.2.2 j a b, (R.2.2.2.1 1 (by decide)).2.2.2.2.2 j a b, (R.2.2.2.1 2 (by decide)).2.2.2.2.2 j a b, (R.2.2.2.1 3 (by decide)).2.2.2.2.2 j a b⟩
theorem Rel.own {M : zW} (R : Rel M) : Fnd (M 42) (M 43) (M 1 4) (M 2 4) (tR (M 19) (M 20) (M 21)) (tP (M 24) (M 25) (M 26) (M 27) (M 28)) (fwA (tR (M 19) (M 20) (M 21)) 4095 (fun _ => 0) (M 1 4).toNat) := by
  obtain ⟨a1, a2, a3, a4, a5, a6, a7, a8⟩ := R.1.1
  obtain ⟨b1, b2, b3, b4, b5, b6, b7⟩ := R.1.2.1
  exact ⟨M 1 3, M 2 3, by rw [a3]; exact a5, by rw [a3]; exact a6, by rw [a3]; exact a7, by rw [b3]; exact b5, by rw [b3]; exact b6, by rw [b3]; exact b7, _, rfl⟩
theorem Rel.f {M : zW} (R : Rel M) {nr np : Int} {Rd P Wy : Int → Int} (h : Fnd (M 42) (M 43) nr np Rd P Wy) : nr = M 1 4 ∧ np = M 2 4 ∧ Rq Rd (tR (M 19) (M 20) (M 21)) nr ∧ Pq P (tP (M 24) (M 25) (M 26) (M 27) (M 28)) np ∧ Wq Wy (cW (M 22)) ∧ wOK Wy ∧ pOK P np ∧ (0 ≤ np ∧ np ≤ 8) ∧ (0 ≤ nr ∧ nr ≤ 12) := by
  have hY := R.gY
  obtain ⟨e1, e2⟩ := Fnd.one h R.own
  obtain ⟨c1, c2, c3⟩ := Fnd.can hY h
  obtain ⟨d1, d2, d3⟩ := Fnd.can hY R.own
  obtain ⟨g1, g2, g3, g4, g5⟩ := Fnd.rg hY h
  rw [← e1] at d1 d3
  rw [← e2] at d2
  obtain ⟨W, hW⟩ := R.1.1.2.2.2.2.2.2.2
  have hn : (((M 1 4).toNat : Nat) : Int) = M 1 4 := Int.toNat_of_nonneg R.hO.1
  have hw : ∀ j, 0 ≤ j → j < 64 → fwA (tR (M 19) (M 20) (M 21)) 4095 (fun _ => 0) (M 1 4).toNat j = cW (M 22) j := fun j a b => by
    rw [hW]
    exact (way_eq (by have := R.hO; omega) (by rw [hn]; exact R.hR) j a b).symm
  refine ⟨e1, e2, fun j a b => (c1 j a b).trans (d1 j a b).symm, fun j a b => (c2 j a b).trans (d2 j a b).symm, fun j a b => ?_, g5, g4, g2, g1⟩
  rw [c3 j a b, ← d3 j a b, e1]
  exact hw j a b
theorem fin_way {M N L : zW} (R : Rel M) {ia ib : Int} {x y : Int} (hr : -2147483648 ≤ ia ∧ ia < 2147483648 ∧ -2147483648 ≤ ib ∧ ib < 2147483648) (h1 : x = (if (0 ≤ ia ∧ ia ≤ 7) ∧ (0 ≤ ib ∧ ib ≤ 7) then orN (cW (M 22) (8 * ia + ib)) else -2) ∧ kc M N) (h2 : ∃ (nr np : Int) (Rd P2 Wy : Int → Int), Fnd (M 42) (M 43) nr np Rd P2 Wy ∧ y = (if (0 ≤ ia ∧ ia ≤ 7) ∧ (0 ≤ ib ∧ ib ≤ 7) then orN (Wy (8 * ia + ib)) else -2) ∧ kp N L) : x = y ∧ Rel L := by
  obtain ⟨rfl, k1⟩ := h1
  obtain ⟨nr, np, Rd, P2, Wy, hF, rfl, k2⟩ := h2
  obtain ⟨e1, e2, f1, f2, f3, f4, f5, f6, f7⟩ := R.f hF
  refine ⟨?_, R.kq k1 k2⟩
  by_cases c : (0 ≤ ia ∧ ia ≤ 7) ∧ (0 ≤ ib ∧ ib ≤ 7)
  · rw [if_pos c, if_pos c, f3 _ (by omega) (by omega)]
  · rw [if_neg c, if_neg c]
theorem fin_hears {M N L : zW} (R : Rel M) {ia ib : Int} {x y : Int} (hr : -2147483648 ≤ ia ∧ ia < 2147483648 ∧ -2147483648 ≤ ib ∧ ib < 2147483648) (h1 : x = (if (0 ≤ ia ∧ ia ≤ 7) ∧ (0 ≤ ib ∧ ib ≤ 2) then hBy (M 3) (cW (M 22)) ia ib else -2) ∧ kc M N) (h2 : ∃ (nr np : Int) (Rd P2 Wy : Int → Int), Fnd (M 42) (M 43) nr np Rd P2 Wy ∧ y = (if (0 ≤ ia ∧ ia ≤ 7) ∧ (0 ≤ ib ∧ ib ≤ 2) then hBy (M 46) Wy ia ib else -2) ∧ kp N L) : x = y ∧ Rel L := by
  obtain ⟨rfl, k1⟩ := h1
  obtain ⟨nr, np, Rd, P2, Wy, hF, rfl, k2⟩ := h2
  obtain ⟨e1, e2, f1, f2, f3, f4, f5, f6, f7⟩ := R.f hF
  refine ⟨?_, R.kq k1 k2⟩
  rw [R.eT]
  by_cases c : (0 ≤ ia ∧ ia ≤ 7) ∧ (0 ≤ ib ∧ ib ≤ 2)
  · rw [if_pos c, if_pos c, hBy_c R.hT f3 c.1]
  · rw [if_neg c, if_neg c]
theorem fin_crowned {M N L : zW} (R : Rel M) {x y : Int} (h1 : x = orN (crO (M 3) (cW (M 22))) ∧ kc M N) (h2 : ∃ (nr np : Int) (Rd P2 Wy : Int → Int), Fnd (M 42) (M 43) nr np Rd P2 Wy ∧ y = orN (crO (M 46) Wy) ∧ kp N L) : x = y ∧ Rel L := by
  obtain ⟨rfl, k1⟩ := h1
  obtain ⟨nr, np, Rd, P2, Wy, hF, rfl, k2⟩ := h2
  obtain ⟨e1, e2, f1, f2, f3, f4, f5, f6, f7⟩ := R.f hF
  refine ⟨?_, R.kq k1 k2⟩
  rw [R.eT, crO_c R.hT f3]
theorem fin_knew {M N L : zW} (R : Rel M) {ia : Int} {x y : Int} (hr : -2147483648 ≤ ia ∧ ia < 2147483648) (h1 : x = (if 0 ≤ ia ∧ ia ≤ 99 then (knB (M 3) (cW (M 22)) ia 8 : Int) else -2) ∧ kc M N) (h2 : ∃ (nr np : Int) (Rd P2 Wy : Int → Int), Fnd (M 42) (M 43) nr np Rd P2 Wy ∧ y = (if 0 ≤ ia ∧ ia ≤ 99 then (knB (M 46) Wy ia 8 : Int) else -2) ∧ kp N L) : x = y ∧ Rel L := by
  obtain ⟨rfl, k1⟩ := h1
  obtain ⟨nr, np, Rd, P2, Wy, hF, rfl, k2⟩ := h2
  obtain ⟨e1, e2, f1, f2, f3, f4, f5, f6, f7⟩ := R.f hF
  refine ⟨?_, R.kq k1 k2⟩
  rw [R.eT, knB_c R.hT f3 8 (Nat.le_refl 8)]
theorem fin_rides {M N L : zW} (R : Rel M) {ia ib : Int} {x y : Int} (hr : -2147483648 ≤ ia ∧ ia < 2147483648 ∧ -2147483648 ≤ ib ∧ ib < 2147483648) (h1 : x = (if (0 ≤ ia ∧ ia ≤ (M 2) 4 - 1) ∧ (0 ≤ ib ∧ ib ≤ 2) then (if ib = 0 then orN (coO (M 3) (cW (M 22)) (tP (M 24) (M 25) (M 26) (M 27) (M 28)) ((M 2) 4) ia) else if ib = 1 then enO (M 3) (cW (M 22)) (tP (M 24) (M 25) (M 26) (M 27) (M 28)) ((M 2) 4) ia else riO (M 3) (cW (M 22)) (tP (M 24) (M 25) (M 26) (M 27) (M 28)) ((M 2) 4) ia) else -2) ∧ kc M N) (h2 : ∃ (nr np : Int) (Rd P2 Wy : Int → Int), Fnd (M 42) (M 43) nr np Rd P2 Wy ∧ y = (if (0 ≤ ia ∧ ia ≤ np - 1) ∧ (0 ≤ ib ∧ ib ≤ 2) then (if ib = 0 then orN (coO (M 46) Wy P2 np ia) else if ib = 1 then enO (M 46) Wy P2 np ia else riO (M 46) Wy P2 np ia) else -2) ∧ kp N L) : x = y ∧ Rel L := by
  obtain ⟨rfl, k1⟩ := h1
  obtain ⟨nr, np, Rd, P2, Wy, hF, rfl, k2⟩ := h2
  obtain ⟨e1, e2, f1, f2, f3, f4, f5, f6, f7⟩ := R.f hF
  refine ⟨?_, R.kq k1 k2⟩
  subst e2
  rw [R.eT]
  by_cases c : (0 ≤ ia ∧ ia ≤ M 2 4 - 1) ∧ (0 ≤ ib ∧ ib ≤ 2)
  · rw [if_pos c, if_pos c, coO_c R.hT f3 f5 f2 (p := ia) (by omega), enO_c R.hT f4 f3 f5 f2 (p := ia) (by omega), riO_c R.hT f4 f3 f5 f2 f6 ia (by omega) (by omega)]
  · rw [if_neg c, if_neg c]
theorem fin_lost {M N L : zW} (R : Rel M) {ia : Int} {x y : Int} (hr : -2147483648 ≤ ia ∧ ia < 2147483648) (h1 : x = (if 0 ≤ ia ∧ ia ≤ 1 then (if ia = 0 then wns (M 3) (cW (M 22)) (tP (M 24) (M 25) (M 26) (M 27) (M 28)) ((M 2) 4) else lsO (M 3) (cW (M 22)) (tP (M 24) (M 25) (M 26) (M 27) (M 28)) ((M 2) 4) ((M 2) 4).toNat) else -2) ∧ kc M N) (h2 : ∃ (nr np : Int) (Rd P2 Wy : Int → Int), Fnd (M 42) (M 43) nr np Rd P2 Wy ∧ y = (if 0 ≤ ia ∧ ia ≤ 1 then (if ia = 0 then wns (M 46) Wy P2 np else lsO (M 46) Wy P2 np np.toNat) else -2) ∧ kp N L) : x = y ∧ Rel L := by
  obtain ⟨rfl, k1⟩ := h1
  obtain ⟨nr, np, Rd, P2, Wy, hF, rfl, k2⟩ := h2
  obtain ⟨e1, e2, f1, f2, f3, f4, f5, f6, f7⟩ := R.f hF
  refine ⟨?_, R.kq k1 k2⟩
  subst e2
  rw [R.eT, wns_c R.hT f4 f3 f5 f2 f6.1, lsO_c R.hT f4 f3 f5 f2 (M 2 4).toNat (by omega)]
theorem fin_swear {M N L : zW} (R : Rel M) {ia : Int} {x y : Int} (hr : -2147483648 ≤ ia ∧ ia < 2147483648) (h1 : x = (if 0 ≤ ia ∧ ia ≤ 1 then (if ia = 0 then (pcw (twS (enX (up (M 3) 5 0) (cW (M 22)) (tP (M 24) (M 25) (M 26) (M 27) (M 28)) ((M 2) 4)) (M 24) (M 28) 8) : Int) else (twS (enX (up (M 3) 5 0) (cW (M 22)) (tP (M 24) (M 25) (M 26) (M 27) (M 28)) ((M 2) 4)) (M 24) (M 28) 8 : Int)) else -2) ∧ kc M N) (h2 : ∃ (nr np : Int) (Rd P2 Wy : Int → Int), Fnd (M 42) (M 43) nr np Rd P2 Wy ∧ y = (if 0 ≤ ia ∧ ia ≤ 1 then (if ia = 0 then (pcn (swS (M 46) Wy P2 np 255).toNat : Int) else swS (M 46) Wy P2 np 255) else -2) ∧ kp N L) : x = y ∧ Rel L := by
  obtain ⟨rfl, k1⟩ := h1
  obtain ⟨nr, np, Rd, P2, Wy, hF, rfl, k2⟩ := h2
  obtain ⟨e1, e2, f1, f2, f3, f4, f5, f6, f7⟩ := R.f hF
  refine ⟨?_, R.kq k1 k2⟩
  subst e2
  have q := sw_ok R.hT R.hc R.hP
  rw [R.eT, swS_c R.hT f4 f3 f5 f2 f6.1 255 (Nat.le_refl 255), q.2, q.1]
theorem fin_place {M N L : zW} (R : Rel M) {ia : Int} {x y : Int} (hr : -2147483648 ≤ ia ∧ ia < 2147483648) (h1 : x = (if 0 ≤ ia ∧ ia ≤ 1 then (if ia = 0 then (plS (M 3) (cW (M 22)) (tP (M 24) (M 25) (M 26) (M 27) (M 28)) ((M 2) 4) 8).1 else (plS (M 3) (cW (M 22)) (tP (M 24) (M 25) (M 26) (M 27) (M 28)) ((M 2) 4) 8).2.1) else -2) ∧ kc M N) (h2 : ∃ (nr np : Int) (Rd P2 Wy : Int → Int), Fnd (M 42) (M 43) nr np Rd P2 Wy ∧ y = (if 0 ≤ ia ∧ ia ≤ 1 then (if ia = 0 then (plS (M 46) Wy P2 np 8).1 else (plS (M 46) Wy P2 np 8).2.1) else -2) ∧ kp N L) : x = y ∧ Rel L := by
  obtain ⟨rfl, k1⟩ := h1
  obtain ⟨nr, np, Rd, P2, Wy, hF, rfl, k2⟩ := h2
  obtain ⟨e1, e2, f1, f2, f3, f4, f5, f6, f7⟩ := R.f hF
  refine ⟨?_, R.kq k1 k2⟩
  subst e2
  rw [R.eT, plS_c R.hT f4 f3 f5 f2 f6.1 8 (Nat.le_refl 8)]
theorem fin_litter {M N L : zW} (R : Rel M) {ia : Int} {x y : Int} (hr : -2147483648 ≤ ia ∧ ia < 2147483648) (h1 : x = (if 0 ≤ ia ∧ ia ≤ 1 then (if ia = 0 then (ltS (M 3) (cW (M 22)) (tP (M 24) (M 25) (M 26) (M 27) (M 28)) ((M 2) 4) 10).1 else (ltS (M 3) (cW (M 22)) (tP (M 24) (M 25) (M 26) (M 27) (M 28)) ((M 2) 4) 10).2) else -2) ∧ kc M N) (h2 : ∃ (nr np : Int) (Rd P2 Wy : Int → Int), Fnd (M 42) (M 43) nr np Rd P2 Wy ∧ y = (if 0 ≤ ia ∧ ia ≤ 1 then (if ia = 0 then (ltS (M 46) Wy P2 np 10).1 else (ltS (M 46) Wy P2 np 10).2) else -2) ∧ kp N L) : x = y ∧ Rel L := by
  obtain ⟨rfl, k1⟩ := h1
  obtain ⟨nr, np, Rd, P2, Wy, hF, rfl, k2⟩ := h2
  obtain ⟨e1, e2, f1, f2, f3, f4, f5, f6, f7⟩ := R.f hF
  refine ⟨?_, R.kq k1 k2⟩
  subst e2
  rw [R.eT, ltS_c R.hT f4 f3 f5 f2 f6.1 10 (Nat.le_refl 10)]
theorem fin_fits {M N L : zW} (R : Rel M) {ia : Int} {x y : Int} (hr : -2147483648 ≤ ia ∧ ia < 2147483648) (h1 : x = (if 0 ≤ ia ∧ ia ≤ 1 then (if ia = 0 then (fiS (M 3) (cW (M 22)) (tP (M 24) (M 25) (M 26) (M 27) (M 28)) ((M 2) 4) (sgC (M 7) (M 8)) ((M 0) 8).toNat 2 10 : Int) else (fiS (M 3) (cW (M 22)) (tP (M 24) (M 25) (M 26) (M 27) (M 28)) ((M 2) 4) (sgC (M 7) (M 8)) ((M 0) 8).toNat 0 8 : Int)) else -2) ∧ kc M N) (h2 : ∃ (nr np : Int) (Rd P2 Wy : Int → Int), Fnd (M 42) (M 43) nr np Rd P2 Wy ∧ y = (if 0 ≤ ia ∧ ia ≤ 1 then (if ia = 0 then (fiS (M 46) Wy P2 np (M 51) ((M 37) 16).toNat 2 10 : Int) else (fiS (M 46) Wy P2 np (M 51) ((M 37) 16).toNat 0 8 : Int)) else -2) ∧ kp N L) : x = y ∧ Rel L := by
  obtain ⟨rfl, k1⟩ := h1
  obtain ⟨nr, np, Rd, P2, Wy, hF, rfl, k2⟩ := h2
  obtain ⟨e1, e2, f1, f2, f3, f4, f5, f6, f7⟩ := R.f hF
  refine ⟨?_, R.kq k1 k2⟩
  subst e2
  rw [R.eT, R.e16, R.eS, fi2_c R.hT f4 f3 f5 f2, fi0_c R.hT f4 f3 f5 f2]
theorem fin_ask {M N L : zW} (R : Rel M) {x y : Int} (h1 : x = (akM (fun t => mCx (kyC (M 22) t) (fiS (M 3) (cW (M 22)) (tP (M 24) (M 25) (M 26) (M 27) (M 28)) ((M 2) 4) (sgC (M 7) (M 8)) ((M 0) 8).toNat 0 8 : Int) 8) 7).1 ∧ kc M N) (h2 : ∃ (nr np : Int) (Rd P2 Wy : Int → Int), Fnd (M 42) (M 43) nr np Rd P2 Wy ∧ y = akO (M 46) Wy P2 np (M 51) ((M 37) 16).toNat ∧ kp N L) : x = y ∧ Rel L := by
  obtain ⟨rfl, k1⟩ := h1
  obtain ⟨nr, np, Rd, P2, Wy, hF, rfl, k2⟩ := h2
  obtain ⟨e1, e2, f1, f2, f3, f4, f5, f6, f7⟩ := R.f hF
  refine ⟨?_, R.kq k1 k2⟩
  subst e2
  rw [R.eT, R.e16, R.eS, akO_c R.hT f4 f3 f5 f2, ak_ok R.hT R.hc]
theorem fin_out {M N L : zW} (R : Rel M) {ia ib ic id : Int} {x y : Int} (hr : -2147483648 ≤ ia ∧ ia < 2147483648 ∧ -2147483648 ≤ ib ∧ ib < 2147483648 ∧ -2147483648 ≤ ic ∧ ic < 2147483648 ∧ -2147483648 ≤ id ∧ id < 2147483648) (h1 : x = (if (0 ≤ ia ∧ ia ≤ 16) ∧ (0 ≤ ib ∧ ib ≤ 7) ∧ (0 ≤ ic ∧ ic ≤ 99) ∧ (0 ≤ id ∧ id ≤ 1) then otV (M 3) (tR (M 19) (M 20) (M 21)) ((M 1) 4).toNat ia ib ic id else -9223372036854775806) ∧ kc M N) (h2 : ∃ (nr np : Int) (Rd P2 Wy : Int → Int), Fnd (M 42) (M 43) nr np Rd P2 Wy ∧ y = (if (0 ≤ ia ∧ ia ≤ 16) ∧ (0 ≤ ib ∧ ib ≤ 7) ∧ (0 ≤ ic ∧ ic ≤ 99) ∧ (0 ≤ id ∧ id ≤ 1) then otV (M 46) Rd nr.toNat ia ib ic id else -9223372036854775806) ∧ kp N L) : x = y ∧ Rel L := by
  obtain ⟨rfl, k1⟩ := h1
  obtain ⟨nr, np, Rd, P2, Wy, hF, rfl, k2⟩ := h2
  obtain ⟨e1, e2, f1, f2, f3, f4, f5, f6, f7⟩ := R.f hF
  refine ⟨?_, R.kq k1 k2⟩
  subst e1
  rw [R.eT, otV_c f1 f7.1]
theorem fin_reigns {M N L : zW} (R : Rel M) {ia ib ic : Int} {x y : Int} (hr : -2147483648 ≤ ia ∧ ia < 2147483648 ∧ -2147483648 ≤ ib ∧ ib < 2147483648 ∧ -2147483648 ≤ ic ∧ ic < 2147483648) (h1 : x = (if (1 ≤ ib ∧ ib ≤ 20) ∧ (ic = -1 ∨ (0 ≤ ic ∧ ic ≤ 7)) then rgS (M 3) (cW (M 22)) (tP (M 24) (M 25) (M 26) (M 27) (M 28)) ((M 2) 4) ia ic ib.toNat else -2) ∧ kc M N) (h2 : ∃ (nr np : Int) (Rd P2 Wy : Int → Int), Fnd (M 42) (M 43) nr np Rd P2 Wy ∧ y = (if (1 ≤ ib ∧ ib ≤ 20) ∧ (ic = -1 ∨ (0 ≤ ic ∧ ic ≤ 7)) then rgS (M 46) Wy P2 np ia ic ib.toNat else -2) ∧ kp N L) : x = y ∧ Rel L := by
  obtain ⟨rfl, k1⟩ := h1
  obtain ⟨nr, np, Rd, P2, Wy, hF, rfl, k2⟩ := h2
  obtain ⟨e1, e2, f1, f2, f3, f4, f5, f6, f7⟩ := R.f hF
  refine ⟨?_, R.kq k1 k2⟩
  subst e2
  rw [R.eT]
  by_cases c : (1 ≤ ib ∧ ib ≤ 20) ∧ (ic = -1 ∨ (0 ≤ ic ∧ ic ≤ 7))
  · rw [if_pos c, if_pos c, rgS_c R.hT f4 f3 f5 f2 f6.1 (by omega)]
  · rw [if_neg c, if_neg c]
theorem cn_eq {M : zW} (R : Rel M) {nr np : Int} {Rd P Wy : Int → Int} (h : Fnd (M 42) (M 43) nr np Rd P Wy) (k : Int) : cnC (M 0) (M 1) (M 2) (M 3) (cW (M 22)) (tP (M 24) (M 25) (M 26) (M 27) (M 28)) k = cnO (M 37) (M 43) (M 3) Wy P nr np k := by
  obtain ⟨e1, e2, f1, f2, f3, f4, f5, f6, f7⟩ := R.f h
  subst e1 e2
  unfold cnC cnO
  rw [R.y0, R.y1, R.e16, R.2.2.1, rcS_c f2 (M 2 4).toNat (by omega), rdn_c R.hT f3 f5 f2 (M 2 4).toNat (by omega)]
theorem fin_count {M N L : zW} (R : Rel M) {ia : Int} {x y : Int} (hr : -2147483648 ≤ ia ∧ ia < 2147483648) (h1 : x = (if ia = 0 then (M 1) 4 else if ia = 1 then (M 2) 4 else if ia = 2 then (M 1) 2 else if ia = 3 then (M 2) 2 else if ia = 4 then rcS (tP (M 24) (M 25) (M 26) (M 27) (M 28)) ((M 2) 4).toNat else if ia = 5 then rdn (M 3) (cW (M 22)) (tP (M 24) (M 25) (M 26) (M 27) (M 28)) ((M 2) 4) ((M 2) 4).toNat else if ia = 6 then (M 3) 5 else if ia = 7 then (M 0) 8 else if ia = 8 then (M 0) 10 else -2) ∧ kc M N) (h2 : ∃ (nr np : Int) (Rd P2 Wy : Int → Int), Fnd (M 42) (M 43) nr np Rd P2 Wy ∧ y = cnO (M 37) (M 43) (M 46) Wy P2 nr np ia ∧ kp N L) : x = y ∧ Rel L := by
  obtain ⟨rfl, k1⟩ := h1
  obtain ⟨nr, np, Rd, P2, Wy, hF, rfl, k2⟩ := h2
  refine ⟨?_, R.kq k1 k2⟩
  rw [R.eT, ← cn_eq R hF]
  rfl
theorem itN_c {f g : Int → Int → Int} (h : Int) : ∀ n : Nat, (∀ v k, 0 ≤ k → k < (n : Int) → f v k = g v k) → itN f h n = itN g h n
  | 0, _ => rfl
  | n + 1, hk => by rw [itN, itN, itN_c h n (fun v k a b => hk v k a (by omega)), hk _ _ (by omega) (by omega)]
theorem dg_eq {M : zW} (R : Rel M) {nr np : Int} {Rd P Wy : Int → Int} (hF : Fnd (M 42) (M 43) nr np Rd P Wy) {f0 f1 : Int} (h0 : rdF (M 42) (M 43 0) f0) (h1 : pdF (fun i => M 42 (48 + i)) (M 43 1) f1) (l : List Int) : dgV (cnC (M 0) (M 1) (M 2) (M 3) (cW (M 22)) (tP (M 24) (M 25) (M 26) (M 27) (M 28))) (M 1 3) (M 2 3) (M 3) (cW (M 22)) (tP (M 24) (M 25) (M 26) (M 27) (M 28)) (M 2 4) (tR (M 19) (M 20) (M 21)) (M 1 4) l = dgV (cnO (M 37) (M 43) (M 3) Wy P nr np) f0 f1 (M 3) Wy P np Rd nr l := by
  have hc : cnC (M 0) (M 1) (M 2) (M 3) (cW (M 22)) (tP (M 24) (M 25) (M 26) (M 27) (M 28)) = cnO (M 37) (M 43) (M 3) Wy P nr np := funext (cn_eq R hF)
  obtain ⟨e1, e2, f1', f2, f3, f4, f5, f6, f7⟩ := R.f hF
  subst e1 e2
  rw [R.y0] at h0
  rw [R.y1] at h1
  have g0 : f0 = M 1 3 := rdF_one h0 R.1.1.2.2.2.2.1
  have g1 : f1 = M 2 3 := pdF_one h1 R.1.2.1.2.2.2.2.1
  subst g0 g1
  rw [hc]
  unfold dgV
  have a1 : ∀ h : Int, itN (dT (M 3) (cW (M 22)) (tP (M 24) (M 25) (M 26) (M 27) (M 28)) (M 2 4)) h 8 = itN (dT (M 3) Wy P (M 2 4)) h 8 := fun h => itN_c h 8 (fun v k a b => by
    unfold dT
    rw [rgS_c R.hT f4 f3 f5 f2 f6.1 (by omega), f3 k (by omega) (by omega)]
    rw [itN_c (f := fun h q => 31 * h + w32 (hBy (M 3) (cW (M 22)) k q)) (g := fun h q => 31 * h + w32 (hBy (M 3) Wy k q)) _ 3 (fun w q _ _ => by rw [hBy_c R.hT f3 (by omega)])])
  have a2 : ∀ h : Int, itN (dR (tR (M 19) (M 20) (M 21))) h (M 1 4).toNat = itN (dR Rd) h (M 1 4).toNat := fun h => itN_c h _ (fun v k a b => by
    unfold dR
    exact itN_c v 3 (fun w q a2 b2 => by rw [f1' (3 * k + q) (by omega) (by omega)]))
  have a3 : ∀ h : Int, itN (dP (M 3) (cW (M 22)) (tP (M 24) (M 25) (M 26) (M 27) (M 28)) (M 2 4)) h (M 2 4).toNat = itN (dP (M 3) Wy P (M 2 4)) h (M 2 4).toNat := fun h => itN_c h _ (fun v k a b => by
    unfold dP
    rw [itN_c (f := fun h q => 31 * h + w32 (tP (M 24) (M 25) (M 26) (M 27) (M 28) (5 * k + q))) (g := fun h q => 31 * h + w32 (P (5 * k + q))) v 5 (fun w q a2 b2 => by rw [f2 (5 * k + q) (by omega) (by omega)])]
    exact itN_c _ 3 (fun w q a2 b2 => by
      unfold riV
      rw [coO_c R.hT f3 f5 f2 (p := k) (by omega), enO_c R.hT f4 f3 f5 f2 (p := k) (by omega), riO_c R.hT f4 f3 f5 f2 f6 k (by omega) (by omega)]))
  rw [a1, a2, a3]
theorem fin_digest {M N L : zW} (R : Rel M) {x y : Int} (h1 : x = dgV (cnC (M 0) (M 1) (M 2) (M 3) (cW (M 22)) (tP (M 24) (M 25) (M 26) (M 27) (M 28))) ((M 1) 3) ((M 2) 3) (M 3) (cW (M 22)) (tP (M 24) (M 25) (M 26) (M 27) (M 28)) ((M 2) 4) (tR (M 19) (M 20) (M 21)) ((M 1) 4) [w32 (orN (crO (M 3) (cW (M 22)))), w32 ((knB (M 3) (cW (M 22)) 5 8 : Int)), w32 (wns (M 3) (cW (M 22)) (tP (M 24) (M 25) (M 26) (M 27) (M 28)) ((M 2) 4)), w32 (lsO (M 3) (cW (M 22)) (tP (M 24) (M 25) (M 26) (M 27) (M 28)) ((M 2) 4) ((M 2) 4).toNat), w32 ((pcw (twS (enX (up (M 3) 5 0) (cW (M 22)) (tP (M 24) (M 25) (M 26) (M 27) (M 28)) ((M 2) 4)) (M 24) (M 28) 8) : Int)), w32 ((twS (enX (up (M 3) 5 0) (cW (M 22)) (tP (M 24) (M 25) (M 26) (M 27) (M 28)) ((M 2) 4)) (M 24) (M 28) 8 : Int)), w32 ((plS (M 3) (cW (M 22)) (tP (M 24) (M 25) (M 26) (M 27) (M 28)) ((M 2) 4) 8).1), w32 ((plS (M 3) (cW (M 22)) (tP (M 24) (M 25) (M 26) (M 27) (M 28)) ((M 2) 4) 8).2.1), w32 ((ltS (M 3) (cW (M 22)) (tP (M 24) (M 25) (M 26) (M 27) (M 28)) ((M 2) 4) 10).1), w32 ((ltS (M 3) (cW (M 22)) (tP (M 24) (M 25) (M 26) (M 27) (M 28)) ((M 2) 4) 10).2), w32 ((fiS (M 3) (cW (M 22)) (tP (M 24) (M 25) (M 26) (M 27) (M 28)) ((M 2) 4) (sgC (M 7) (M 8)) ((M 0) 8).toNat 2 10 : Int)), w32 ((fiS (M 3) (cW (M 22)) (tP (M 24) (M 25) (M 26) (M 27) (M 28)) ((M 2) 4) (sgC (M 7) (M 8)) ((M 0) 8).toNat 0 8 : Int)), w32 ((akM (fun t => mCx (kyC (M 22) t) (fiS (M 3) (cW (M 22)) (tP (M 24) (M 25) (M 26) (M 27) (M 28)) ((M 2) 4) (sgC (M 7) (M 8)) ((M 0) 8).toNat 0 8 : Int) 8) 7).1), otV (M 3) (tR (M 19) (M 20) (M 21)) ((M 1) 4).toNat 5 3 9 0, otV (M 3) (tR (M 19) (M 20) (M 21)) ((M 1) 4).toNat 5 3 9 1, w32 (rgS (M 3) (cW (M 22)) (tP (M 24) (M 25) (M 26) (M 27) (M 28)) ((M 2) 4) 7 (-1) 5)] ∧ kc M N) (h2 : ∃ (nr np : Int) (Rd P2 Wy : Int → Int) (f0 f1 : Int), Fnd (M 42) (M 43) nr np Rd P2 Wy ∧ rdF (M 42) ((M 43) 0) f0 ∧ pdF (fun i => (M 42) (48 + i)) ((M 43) 1) f1 ∧ y = dgV (cnO (M 37) (M 43) (M 46) Wy P2 nr np) f0 f1 (M 46) Wy P2 np Rd nr [w32 (orN (crO (M 46) Wy)), w32 (knB (M 46) Wy 5 8 : Int), w32 (wns (M 46) Wy P2 np), w32 (lsO (M 46) Wy P2 np np.toNat), w32 (pcn (swS (M 46) Wy P2 np 255).toNat : Int), w32 (swS (M 46) Wy P2 np 255), w32 (plS (M 46) Wy P2 np 8).1, w32 (plS (M 46) Wy P2 np 8).2.1, w32 (ltS (M 46) Wy P2 np 10).1, w32 (ltS (M 46) Wy P2 np 10).2, w32 (fiS (M 46) Wy P2 np (M 51) ((M 37) 16).toNat 2 10 : Int), w32 (fiS (M 46) Wy P2 np (M 51) ((M 37) 16).toNat 0 8 : Int), w32 (akO (M 46) Wy P2 np (M 51) ((M 37) 16).toNat), otV (M 46) Rd nr.toNat 5 3 9 0, otV (M 46) Rd nr.toNat 5 3 9 1, w32 (rgS (M 46) Wy P2 np 7 (-1) 5)] ∧ kp N L) : x = y ∧ Rel L := by
  obtain ⟨rfl, k1⟩ := h1
  obtain ⟨nr, np, Rd, P2, Wy, g0, g1, hF, u0, u1, rfl, k2⟩ := h2
  refine ⟨?_, R.kq k1 k2⟩
  rw [dg_eq R hF u0 u1]
  obtain ⟨e1, e2, f1, f2, f3, f4, f5, f6, f7⟩ := R.f hF
  subst e1 e2
  have q := sw_ok R.hT R.hc R.hP
  have q1 := crO_c R.hT f3
  have q2 := knB_c (d := 5) R.hT f3 8 (Nat.le_refl 8)
  have q3 := wns_c R.hT f4 f3 f5 f2 f6.1
  have q4 := lsO_c R.hT f4 f3 f5 f2 (M 2 4).toNat (by omega)
  have q5 := swS_c R.hT f4 f3 f5 f2 f6.1 255 (Nat.le_refl 255)
  have q6 := plS_c R.hT f4 f3 f5 f2 f6.1 8 (Nat.le_refl 8)
  have q7 := ltS_c R.hT f4 f3 f5 f2 f6.1 10 (Nat.le_refl 10)
  have q8 := fi2_c (Sg := M 51) (ns := (M 37 16).toNat) R.hT f4 f3 f5 f2
  have q9 := fi0_c (Sg := M 51) (ns := (M 37 16).toNat) R.hT f4 f3 f5 f2
  have q10 := akO_c (Sg := M 51) (ns := (M 37 16).toNat) R.hT f4 f3 f5 f2
  have q11 := ak_ok (P := tP (M 24) (M 25) (M 26) (M 27) (M 28)) R.hT R.hc (M 2 4) (M 51) (M 37 16).toNat
  have q12 := rgS_c (s := 7) R.hT f4 f3 f5 f2 f6.1 (tw := -1) (by decide) 5
  rw [R.eT, ← R.eS, ← R.e16, q1, q2, q3, q4, q5, q6, q7, q8, q9, q10, q11, q12, otV_c f1 f7.1, otV_c f1 f7.1, q.2, q.1]

