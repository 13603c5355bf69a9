/-! calls that change what is told -/
theorem Rel.of {M L : zW} (R : Rel M) (hA : ∀ q, q ∈ relA → L q = M q) (h0 : L 0 = M 0) (h7 : L 7 = M 7) (h8 : L 8 = M 8) (h37 : L 37 = M 37) (h51 : L 51 = M 51) (hS : RelSh L) : Rel L := by
  refine ⟨R.1.tr hA, ?_, ?_, hS⟩
  · rw [h0, h7, h8, h37, h51]; exact R.2.1
  · rw [h37, h0]; exact R.2.2.1
theorem Rel.fi {M : zW} (R : Rel M) (v : Int) : Rel (upR (upR M 0 (up (M 0) 10 v)) 37 (up (M 37) 4 v)) := by
  obtain ⟨r1, ⟨s1, s2, s3, s4⟩, f, h⟩ := R
  refine ⟨r1.tr (fun q hq => by have z := relA_n q hq; rw [upR_ne (by omega), upR_ne (by omega)]), ⟨?_, ?_, s3, s4⟩, ?_, h.tr (fun q hq => by have z := relS_n q hq; rw [upR_ne (by omega), upR_ne (by omega)])⟩
  · show 0 ≤ up (M 0) 10 v 8 ∧ up (M 0) 10 v 8 ≤ 8
    rw [up_n _ _ (by decide)]; exact s1
  · show up (M 37) 4 v 16 = up (M 0) 10 v 8
    rw [up_n _ _ (by decide), up_n _ _ (by decide)]; exact s2
  · show up (M 37) 4 v 4 = up (M 0) 10 v 10
    rw [up_s, up_s]
theorem fin_fault {M N L : zW} (R : Rel M) {ia : Int} {y : Int} (hr : -2147483648 ≤ ia ∧ ia < 2147483648) (h1 : M = N) (h2 : ((¬ (0 ≤ ia ∧ ia ≤ 1)) ∧ y = -2 ∧ N = L) ∨ (ia = 0 ∧ (∃ r44 : Int → Int, rdF (M 42) ((M 43) 0) y ∧ (y = -1 → ∀ j, 0 ≤ j → j < (M 43) 0 → j % 4 < 3 → r44 (3 * (j / 4) + j % 4) = rV (M 42) j) ∧ upR (upR N 37 (up (M 37) 7 (rCnt ((M 43) 0) y))) 44 r44 = L)) ∨ (ia = 1 ∧ (∃ r45 : Int → Int, pdF (fun i => (M 42) (48 + i)) ((M 43) 1) y ∧ (y = -1 → ∀ j, 0 ≤ j → j < (M 43) 1 → j % 6 < 5 → r45 (5 * (j / 6) + j % 6) = pVl (fun i => (M 42) (48 + i)) j) ∧ upR (upR N 37 (up (M 37) 9 (pCnt ((M 43) 1) y))) 45 r45 = L))) : (if ia = 0 then (M 1) 3 else if ia = 1 then (M 2) 3 else -2) = y ∧ Rel L := by
  subst h1
  rcases h2 with ⟨c, rfl, rfl⟩ | ⟨rfl, r44, u1, u2, rfl⟩ | ⟨rfl, r45, u1, u2, rfl⟩
  · exact ⟨(if_neg (by omega)).trans (if_neg (by omega)), R⟩
  · rw [R.y0] at u1
    exact ⟨(if_pos rfl).trans (rdF_one R.1.1.2.2.2.2.1 u1), R.kq (kc_r M) (kp_u (by decide) (kp_37 (fun j a _ _ => up_n _ _ a) (kp_r M)))⟩
  · rw [R.y1] at u1
    exact ⟨(if_neg (by decide)).trans ((if_pos rfl).trans (pdF_one R.1.2.1.2.2.2.2.1 u1)), R.kq (kc_r M) (kp_u (by decide) (kp_37 (fun j _ b _ => up_n _ _ b) (kp_r M)))⟩
theorem fin_road {M N L : zW} (R : Rel M) {ia ib : Int} {y : Int} (hr : -2147483648 ≤ ia ∧ ia < 2147483648 ∧ -2147483648 ≤ ib ∧ ib < 2147483648) (h1 : M = N) (h2 : ∃ v, (∃ r44 : Int → Int, rdF (M 42) ((M 43) 0) v ∧ (v = -1 → ∀ j, 0 ≤ j → j < (M 43) 0 → j % 4 < 3 → r44 (3 * (j / 4) + j % 4) = rV (M 42) j) ∧ upR (upR N 37 (up (M 37) 7 (rCnt ((M 43) 0) v))) 44 r44 = L) ∧ (((0 ≤ ia ∧ ia ≤ rCnt ((M 43) 0) v - 1) ∧ (0 ≤ ib ∧ ib ≤ 2) ∧ y = rV (M 42) (4 * ia + ib)) ∨ (¬ ((0 ≤ ia ∧ ia ≤ rCnt ((M 43) 0) v - 1) ∧ (0 ≤ ib ∧ ib ≤ 2)) ∧ y = -2))) : (if (0 ≤ ia ∧ ia ≤ (M 1) 4 - 1) ∧ (0 ≤ ib ∧ ib ≤ 2) then tR (M 19) (M 20) (M 21) (3 * ia + ib) else -2) = y ∧ Rel L := by
  subst h1
  obtain ⟨v, ⟨r44, u1, u2, rfl⟩, h3⟩ := h2
  rw [R.y0] at u1 h3
  have e := rdF_one u1 R.1.1.2.2.2.2.1
  subst e
  have ec := R.1.1.2.2.2.2.2.1
  have hn := rd_cnt R.z1 R.1.1.2.2.2.2.1
  rw [← ec] at h3 hn
  refine ⟨?_, R.kq (kc_r M) (kp_u (by decide) (kp_37 (fun j a _ _ => up_n _ _ a) (kp_r M)))⟩
  rcases h3 with ⟨a, b, rfl⟩ | ⟨c, rfl⟩
  · refine (if_pos ⟨a, b⟩).trans ?_
    have q := R.1.1.2.2.2.2.2.2.1 (hn.2.2 (by omega)).1 (4 * ia + ib) (by omega) (by have := (hn.2.2 (by omega)).2; omega) (by omega)
    rw [show 3 * ((4 * ia + ib) / 4) + (4 * ia + ib) % 4 = 3 * ia + ib by omega] at q
    exact q
  · exact if_neg c
theorem fin_person {M N L : zW} (R : Rel M) {ia ib : Int} {y : Int} (hr : -2147483648 ≤ ia ∧ ia < 2147483648 ∧ -2147483648 ≤ ib ∧ ib < 2147483648) (h1 : M = N) (h2 : ∃ v, (∃ r45 : Int → Int, pdF (fun i => (M 42) (48 + i)) ((M 43) 1) v ∧ (v = -1 → ∀ j, 0 ≤ j → j < (M 43) 1 → j % 6 < 5 → r45 (5 * (j / 6) + j % 6) = pVl (fun i => (M 42) (48 + i)) j) ∧ upR (upR N 37 (up (M 37) 9 (pCnt ((M 43) 1) v))) 45 r45 = L) ∧ (((0 ≤ ia ∧ ia ≤ pCnt ((M 43) 1) v - 1) ∧ (0 ≤ ib ∧ ib ≤ 4) ∧ y = pVl (fun i => (M 42) (48 + i)) (6 * ia + ib)) ∨ (¬ ((0 ≤ ia ∧ ia ≤ pCnt ((M 43) 1) v - 1) ∧ (0 ≤ ib ∧ ib ≤ 4)) ∧ y = -2))) : (if (0 ≤ ia ∧ ia ≤ (M 2) 4 - 1) ∧ (0 ≤ ib ∧ ib ≤ 4) then tP (M 24) (M 25) (M 26) (M 27) (M 28) (5 * ia + ib) else -2) = y ∧ Rel L := by
  subst h1
  obtain ⟨v, ⟨r45, u1, u2, rfl⟩, h3⟩ := h2
  rw [R.y1] at u1 h3
  have e := pdF_one u1 R.1.2.1.2.2.2.2.1
  subst e
  have ec := R.1.2.1.2.2.2.2.2.1
  have hn := pd_cnt R.z2 R.1.2.1.2.2.2.2.1
  rw [← ec] at h3 hn
  refine ⟨?_, R.kq (kc_r M) (kp_u (by decide) (kp_37 (fun j _ b _ => up_n _ _ b) (kp_r M)))⟩
  rcases h3 with ⟨a, b, rfl⟩ | ⟨c, rfl⟩
  · refine (if_pos ⟨a, b⟩).trans ?_
    have q := R.1.2.1.2.2.2.2.2.2 (hn.2.2 (by omega)).1 (6 * ia + ib) (by omega) (by have := (hn.2.2 (by omega)).2; omega) (by omega)
    rw [show 5 * ((6 * ia + ib) / 6) + (6 * ia + ib) % 6 = 5 * ia + ib by omega] at q
    exact q
  · exact if_neg c
theorem tm_eq {a : Int} (h : 0 ≤ a ∧ a ≤ 5) : tMost a = (if a = 5 then 255 else if a = 1 ∨ a = 2 then 9 else 7) := by
  rcases (show a = 0 ∨ a = 1 ∨ a = 2 ∨ a = 3 ∨ a = 4 ∨ a = 5 by omega) with rfl | rfl | rfl | rfl | rfl | rfl <;> decide
theorem tOK_set {T : Int → Int} (hT : tOK T) {a b : Int} (h : 0 ≤ a ∧ a ≤ 5) (hb : 0 ≤ b ∧ b ≤ tMost a) : tOK (up T a b) := by
  obtain ⟨h0, h1, h2, h3, h4, h5⟩ := hT
  rcases (show a = 0 ∨ a = 1 ∨ a = 2 ∨ a = 3 ∨ a = 4 ∨ a = 5 by omega) with rfl | rfl | rfl | rfl | rfl | rfl
  · exact ⟨hb, h1, h2, h3, h4, h5⟩
  · exact ⟨h0, hb, h2, h3, h4, h5⟩
  · exact ⟨h0, h1, hb, h3, h4, h5⟩
  · exact ⟨h0, h1, h2, hb, h4, h5⟩
  · exact ⟨h0, h1, h2, h3, hb, h5⟩
  · exact ⟨h0, h1, h2, h3, h4, hb⟩
theorem fin_set {M N L : zW} (R : Rel M) {ia ib : Int} {x y : Int} (hr : -2147483648 ≤ ia ∧ ia < 2147483648 ∧ -2147483648 ≤ ib ∧ ib < 2147483648) (h1 : ((¬ ((0 ≤ ia ∧ ia ≤ 5) ∧ (0 ≤ ib ∧ ib ≤ tMost ia))) ∧ x = -2 ∧ M = N) ∨ (((0 ≤ ia ∧ ia ≤ 5) ∧ (0 ≤ ib ∧ ib ≤ tMost ia)) ∧ x = (M 3) ia ∧ upR M 3 (up (M 3) ia ib) = N)) (h2 : ((¬ ((0 ≤ ia ∧ ia ≤ 5) ∧ (0 ≤ ib ∧ ib ≤ (if ia = 5 then 255 else if ia = 1 ∨ ia = 2 then 9 else 7)))) ∧ y = -2 ∧ N = L) ∨ (((0 ≤ ia ∧ ia ≤ 5) ∧ (0 ≤ ib ∧ ib ≤ (if ia = 5 then 255 else if ia = 1 ∨ ia = 2 then 9 else 7))) ∧ y = (M 46) ia ∧ upR N 46 (up (M 46) ia ib) = L)) : x = y ∧ Rel L := by
  rcases h1 with ⟨c1, rfl, rfl⟩ | ⟨c1, rfl, rfl⟩
  · rcases h2 with ⟨c2, rfl, rfl⟩ | ⟨c2, rfl, rfl⟩
    · exact ⟨rfl, R⟩
    · exact absurd ⟨c2.1, by rw [tm_eq c2.1]; exact c2.2⟩ c1
  · rcases h2 with ⟨c2, rfl, rfl⟩ | ⟨c2, rfl, rfl⟩
    · exact absurd ⟨c1.1, by rw [← tm_eq c1.1]; exact c1.2⟩ c2
    · refine ⟨by rw [R.eT], ?_⟩
      obtain ⟨⟨r1, r2, r3, r4, r5⟩, s, f, h⟩ := R
      exact ⟨⟨r1, r2, r3, tOK_set r4 c1.1 c1.2, by show up (M 46) ia ib = up (M 3) ia ib; rw [r5]⟩, s, f, h.tr (fun q hq => by have z := relS_n q hq; rw [upR_ne (by omega), upR_ne (by omega)])⟩
theorem sg_up (Q R : Int → Int) (n p v : Int) : up (up (sgC Q R) (2 * n) p) (2 * n + 1) v = sgC (up Q n p) (up R n v) := by
  funext j
  by_cases a : j = 2 * n + 1
  · subst a; rw [up_s, sgC_1, up_s]
  · rw [up_n _ _ a]
    by_cases b : j = 2 * n
    · subst b; rw [up_s, sgC_0, up_s]
    · rw [up_n _ _ b]
      unfold sgC
      by_cases c : j % 2 = 0
      · rw [if_pos c, if_pos c, up_n _ _ (by omega)]
      · rw [if_neg c, if_neg c, up_n _ _ (by omega)]
theorem fin_seen {M N L : zW} (R : Rel M) {ia ib : Int} {x y : Int} (hr : -2147483648 ≤ ia ∧ ia < 2147483648 ∧ -2147483648 ≤ ib ∧ ib < 2147483648) (h1 : (¬ okS ia ib ∧ x = -2 ∧ M = N) ∨ (okS ia ib ∧ 8 ≤ (M 0) 8 ∧ x = -4 ∧ M = N) ∨ (okS ia ib ∧ (M 0) 8 < 8 ∧ x = (M 0) 8 + 1 ∧ upR (upR (upR M 7 (up (M 7) ((M 0) 8) ia)) 8 (up (M 8) ((M 0) 8) ib)) 0 (up (M 0) 8 ((M 0) 8 + 1)) = N)) (h2 : (¬ okS ia ib ∧ y = -2 ∧ N = L) ∨ ((okS ia ib ∧ (M 37) 16 = 8) ∧ y = -4 ∧ N = L) ∨ ((okS ia ib ∧ (M 37) 16 < 8) ∧ y = (M 37) 16 + 1 ∧ ∃ r51 r37 : Int → Int, r51 = up (up (M 51) (2 * (M 37) 16) ia) (2 * (M 37) 16 + 1) ib ∧ r37 = up (M 37) 16 ((M 37) 16 + 1) ∧ upR (upR N 51 r51) 37 r37 = L)) : x = y ∧ Rel L := by
  have e := R.e16
  have z := R.hs.1
  rcases h1 with ⟨c1, rfl, rfl⟩ | ⟨c1, d1, rfl, rfl⟩ | ⟨c1, d1, rfl, rfl⟩
  · rcases h2 with ⟨c2, rfl, rfl⟩ | ⟨⟨c2, d2⟩, rfl, rfl⟩ | ⟨⟨c2, d2⟩, rfl, r51, r37, rfl, rfl, rfl⟩
    · exact ⟨rfl, R⟩
    · exact absurd c2 c1
    · exact absurd c2 c1
  · rcases h2 with ⟨c2, rfl, rfl⟩ | ⟨⟨c2, d2⟩, rfl, rfl⟩ | ⟨⟨c2, d2⟩, rfl, r51, r37, rfl, rfl, rfl⟩
    · exact absurd c1 c2
    · exact ⟨rfl, R⟩
    · exfalso; omega
  · rcases h2 with ⟨c2, rfl, rfl⟩ | ⟨⟨c2, d2⟩, rfl, rfl⟩ | ⟨⟨c2, d2⟩, rfl, r51, r37, rfl, rfl, rfl⟩
    · exact absurd c1 c2
    · exfalso; omega
    · refine ⟨by rw [e], ?_⟩
      obtain ⟨r1, ⟨s1, s2, s3, s4⟩, f, h⟩ := R
      refine ⟨r1.tr (fun q hq => by have z := relA_n q hq; rw [upR_ne (by omega), upR_ne (by omega), upR_ne (by omega), upR_ne (by omega), upR_ne (by omega)]), ⟨?_, ?_, ?_, fun j a b => ?_⟩, ?_, h.tr (fun q hq => by have z := relS_n q hq; rw [upR_ne (by omega), upR_ne (by omega), upR_ne (by omega), upR_ne (by omega), upR_ne (by omega)])⟩
      · show 0 ≤ up (M 0) 8 (M 0 8 + 1) 8 ∧ up (M 0) 8 (M 0 8 + 1) 8 ≤ 8
        rw [up_s]; omega
      · show up (M 37) 16 (M 37 16 + 1) 16 = up (M 0) 8 (M 0 8 + 1) 8
        rw [up_s, up_s, e]
      · show up (up (M 51) (2 * M 37 16) ia) (2 * M 37 16 + 1) ib = sgC (up (M 7) (M 0 8) ia) (up (M 8) (M 0 8) ib)
        rw [s3, e]; exact sg_up _ _ _ _ _
      · show (0 ≤ up (M 7) (M 0 8) ia j ∧ up (M 7) (M 0 8) ia j ≤ 7) ∧ (0 ≤ up (M 8) (M 0 8) ib j ∧ up (M 8) (M 0 8) ib j ≤ 1)
        by_cases q : j = M 0 8
        · rw [q, up_s, up_s]; exact c1
        · rw [up_n _ _ q, up_n _ _ q]; exact s4 j a b
      · show up (M 37) 16 (M 37 16 + 1) 4 = up (M 0) 8 (M 0 8 + 1) 10
        rw [up_n _ _ (by decide), up_n _ _ (by decide)]; exact f
theorem fin_forget {M : zW} (R : Rel M) : (M 0) 8 = (M 37) 16 ∧ Rel (upR (upR M 0 (up (M 0) 8 0)) 37 (up (M 37) 16 0)) := by
  refine ⟨R.e16.symm, ?_⟩
  obtain ⟨r1, ⟨s1, s2, s3, s4⟩, f, h⟩ := R
  refine ⟨r1.tr (fun q hq => by have z := relA_n q hq; rw [upR_ne (by omega), upR_ne (by omega)]), ⟨?_, ?_, s3, s4⟩, ?_, h.tr (fun q hq => by have z := relS_n q hq; rw [upR_ne (by omega), upR_ne (by omega)])⟩
  · show 0 ≤ up (M 0) 8 0 8 ∧ up (M 0) 8 0 8 ≤ 8
    rw [up_s]; omega
  · show up (M 37) 16 0 16 = up (M 0) 8 0 8
    rw [up_s, up_s]
  · show up (M 37) 16 0 4 = up (M 0) 8 0 10
    rw [up_n _ _ (by decide), up_n _ _ (by decide)]; exact f
/-! texts -/
theorem RelRd.new {O Br B Y W r19 r20 r21 : Int → Int} {v : Int} (h0 : O 0 = 3) (h2 : 0 ≤ O 2 ∧ O 2 ≤ 47) (hY : Y 0 = O 2) (hb : ∀ j, 0 ≤ j → j < O 2 → Br j = B j) (h5 : rdF Br (O 2) v) (h7 : v = -1 → raIT Br r19 r20 r21 (O 2)) : RelRd (up (up O 3 v) 4 (rCnt (O 2) v)) Br r19 r20 r21 (gA r19 r20 r21 W (rCnt (O 2) v).toNat) B Y := by
  have e0 : up (up O 3 v) 4 (rCnt (O 2) v) 0 = O 0 := by rw [up_n _ _ (by decide), up_n _ _ (by decide)]
  have e2 : up (up O 3 v) 4 (rCnt (O 2) v) 2 = O 2 := by rw [up_n _ _ (by decide), up_n _ _ (by decide)]
  have e3 : up (up O 3 v) 4 (rCnt (O 2) v) 3 = v := by rw [up_n _ _ (by decide), up_s]
  have e4 : up (up O 3 v) 4 (rCnt (O 2) v) 4 = rCnt (O 2) v := up_s _ _ _
  unfold RelRd
  rw [e0, e2, e3, e4]
  exact ⟨h0, h2, hY, hb, rdF_c hb h5, rfl, fun z => raIT_c hb (h7 z), W, rfl⟩
theorem RelPs.new {O Bp B Y A G K H S : Int → Int} {v : Int} (h0 : O 0 = 5) (h2 : 0 ≤ O 2 ∧ O 2 ≤ 47) (hY : Y 1 = O 2) (hb : ∀ j, 0 ≤ j → j < O 2 → Bp j = B (48 + j)) (h5 : pdF Bp (O 2) v) (h7 : v = -1 → paIT Bp A G K H S (O 2)) : RelPs (up (up O 3 v) 4 (pCnt (O 2) v)) Bp A G K H S B Y := by
  have e0 : up (up O 3 v) 4 (pCnt (O 2) v) 0 = O 0 := by rw [up_n _ _ (by decide), up_n _ _ (by decide)]
  have e2 : up (up O 3 v) 4 (pCnt (O 2) v) 2 = O 2 := by rw [up_n _ _ (by decide), up_n _ _ (by decide)]
  have e3 : up (up O 3 v) 4 (pCnt (O 2) v) 3 = v := by rw [up_n _ _ (by decide), up_s]
  have e4 : up (up O 3 v) 4 (pCnt (O 2) v) 4 = pCnt (O 2) v := up_s _ _ _
  unfold RelPs
  rw [e0, e2, e3, e4]
  exact ⟨h0, h2, hY, hb, pdF_c hb h5, rfl, fun z => paIT_c hb (h7 z)⟩
theorem RelRd.keep {O1 Br F G D c B Y B2 Y2 : Int → Int} (R : RelRd O1 Br F G D c B Y) (hY : Y2 0 = Y 0) (hB : ∀ j, 0 ≤ j → j < 47 → B j = B2 j) : RelRd O1 Br F G D c B2 Y2 := by
  obtain ⟨a1, a2, a3, a4, a5, a6, a7, a8⟩ := R
  have hb : ∀ j, 0 ≤ j → j < O1 2 → B j = B2 j := fun j u v => hB j u (by omega)
  exact ⟨a1, a2, hY.trans a3, fun j u v => (a4 j u v).trans (hb j u v), rdF_c hb a5, a6, fun z => raIT_c hb (a7 z), a8⟩
theorem RelPs.keep {O2 Bp A G K H S B Y B2 Y2 : Int → Int} (R : RelPs O2 Bp A G K H S B Y) (hY : Y2 1 = Y 1) (hB : ∀ j, 0 ≤ j → j < 47 → B (48 + j) = B2 (48 + j)) : RelPs O2 Bp A G K H S B2 Y2 := by
  obtain ⟨a1, a2, a3, a4, a5, a6, a7⟩ := R
  have hb : ∀ j, 0 ≤ j → j < O2 2 → B (48 + j) = B2 (48 + j) := fun j u v => hB j u (by omega)
  exact ⟨a1, a2, hY.trans a3, fun j u v => (a4 j u v).trans (hb j u v), pdF_c hb a5, a6, fun z => paIT_c hb (a7 z)⟩
theorem fin_type {M N L : zW} (R : Rel M) {ia ib : Int} {x y : Int} (hr : -2147483648 ≤ ia ∧ ia < 2147483648 ∧ -2147483648 ≤ ib ∧ ib < 2147483648) (h1 : ((¬ ((ia = 0 ∨ ia = 1) ∧ (0 ≤ ib ∧ ib ≤ 255))) ∧ x = -2 ∧ M = N) ∨ (ia = 0 ∧ (0 ≤ ib ∧ ib ≤ 255) ∧ 47 ≤ (M 1) 2 ∧ x = -4 ∧ M = N) ∨ (ia = 1 ∧ (0 ≤ ib ∧ ib ≤ 255) ∧ 47 ≤ (M 2) 2 ∧ x = -4 ∧ M = N) ∨ (ia = 0 ∧ (0 ≤ ib ∧ ib ≤ 255) ∧ (M 1) 2 < 47 ∧ x = (M 1) 2 + 1 ∧ rdN (upR (upR M 18 (up (M 18) ((M 1) 2) ib)) 1 (up (M 1) 2 ((M 1) 2 + 1))) (up (M 1) 2 ((M 1) 2 + 1)) (up (M 18) ((M 1) 2) ib) (M 22) N) ∨ (ia = 1 ∧ (0 ≤ ib ∧ ib ≤ 255) ∧ (M 2) 2 < 47 ∧ x = (M 2) 2 + 1 ∧ pdN (upR (upR M 23 (up (M 23) ((M 2) 2) ib)) 2 (up (M 2) 2 ((M 2) 2 + 1))) (up (M 2) 2 ((M 2) 2 + 1)) (up (M 23) ((M 2) 2) ib) N)) (h2 : ((¬ ((0 ≤ ia ∧ ia ≤ 1) ∧ (0 ≤ ib ∧ ib ≤ 255))) ∧ y = -2 ∧ N = L) ∨ ((((0 ≤ ia ∧ ia ≤ 1) ∧ (0 ≤ ib ∧ ib ≤ 255)) ∧ (M 43) ia = 47) ∧ y = -4 ∧ N = L) ∨ ((((0 ≤ ia ∧ ia ≤ 1) ∧ (0 ≤ ib ∧ ib ≤ 255)) ∧ (M 43) ia ≠ 47) ∧ y = (M 43) ia + 1 ∧ upR (upR N 42 (up (M 42) (48 * ia + (M 43) ia) ib)) 43 (up (M 43) ia ((M 43) ia + 1)) = L)) : x = y ∧ Rel L := by
  have y0 := R.y0
  have y1 := R.y1
  have z1 := R.z1
  have z2 := R.z2
  rcases h1 with ⟨c1, rfl, rfl⟩ | ⟨rfl, c1, d1, rfl, rfl⟩ | ⟨rfl, c1, d1, rfl, rfl⟩ | ⟨rfl, c1, d1, rfl, u1⟩ | ⟨rfl, c1, d1, rfl, u1⟩
  · rcases h2 with ⟨c2, rfl, rfl⟩ | ⟨⟨c2, d2⟩, rfl, rfl⟩ | ⟨⟨c2, d2⟩, rfl, rfl⟩
    · exact ⟨rfl, R⟩
    · exfalso; omega
    · exfalso; omega
  · rcases h2 with ⟨c2, rfl, rfl⟩ | ⟨⟨c2, d2⟩, rfl, rfl⟩ | ⟨⟨c2, d2⟩, rfl, rfl⟩
    · exfalso; omega
    · exact ⟨rfl, R⟩
    · exfalso; omega
  · rcases h2 with ⟨c2, rfl, rfl⟩ | ⟨⟨c2, d2⟩, rfl, rfl⟩ | ⟨⟨c2, d2⟩, rfl, rfl⟩
    · exfalso; omega
    · exact ⟨rfl, R⟩
    · exfalso; omega
  · rcases h2 with ⟨c2, rfl, rfl⟩ | ⟨⟨c2, d2⟩, rfl, rfl⟩ | ⟨⟨c2, d2⟩, rfl, rfl⟩
    · exfalso; omega
    · exfalso; omega
    · refine ⟨by rw [y0], ?_⟩
      obtain ⟨r19, r20, r21, v, w1, w2, rfl⟩ := u1
      obtain ⟨⟨r1, r2, r3, r4, r5⟩, s, f, h⟩ := R
      rw [y0]
      refine ⟨⟨RelRd.new ?_ ?_ ?_ ?_ w1 w2, r2.keep ?_ ?_, ?_, r4, r5⟩, s, f, h.tr (fun q hq => by have z := relS_n q hq; rw [upR_ne (by omega), upR_ne (by omega), upR_ne (by omega), upR_ne (by omega), upR_ne (by omega), upR_ne (by omega), upR_ne (by omega), upR_ne (by omega), upR_ne (by omega)])⟩
      · rw [up_n _ _ (by decide)]; exact r1.1
      · rw [up_s]; omega
      · show up (M 43) 0 (M 1 2 + 1) 0 = _
        rw [up_s, up_s]
      · intro j a b
        rw [up_s] at b
        show up (M 18) (M 1 2) ib j = up (M 42) (48 * 0 + M 1 2) ib j
        rw [show 48 * 0 + M 1 2 = M 1 2 by omega]
        by_cases q : j = M 1 2
        · rw [q, up_s, up_s]
        · rw [up_n _ _ q, up_n _ _ q]; exact r1.2.2.2.1 j a (by omega)
      · show up (M 43) 0 (M 1 2 + 1) 1 = M 43 1
        exact up_n _ _ (by decide)
      · intro j a b
        show M 42 (48 + j) = up (M 42) (48 * 0 + M 1 2) ib (48 + j)
        rw [up_n _ _ (by omega)]
      · intro j a b
        show 0 ≤ up (M 42) (48 * 0 + M 1 2) ib j ∧ up (M 42) (48 * 0 + M 1 2) ib j ≤ 255
        by_cases q : j = 48 * 0 + M 1 2
        · rw [q, up_s]; exact c1
        · rw [up_n _ _ q]; exact r3 j a b
  · rcases h2 with ⟨c2, rfl, rfl⟩ | ⟨⟨c2, d2⟩, rfl, rfl⟩ | ⟨⟨c2, d2⟩, rfl, rfl⟩
    · exfalso; omega
    · exfalso; omega
    · refine ⟨by rw [y1], ?_⟩
      obtain ⟨r24, r25, r26, r27, r28, v, w1, w2, rfl⟩ := u1
      obtain ⟨⟨r1, r2, r3, r4, r5⟩, s, f, h⟩ := R
      rw [y1]
      refine ⟨⟨r1.keep ?_ ?_, RelPs.new ?_ ?_ ?_ ?_ w1 w2, ?_, r4, r5⟩, s, f, h.tr (fun q hq => by have z := relS_n q hq; rw [upR_ne (by omega), upR_ne (by omega), upR_ne (by omega), upR_ne (by omega), upR_ne (by omega), upR_ne (by omega), upR_ne (by omega), upR_ne (by omega), upR_ne (by omega), upR_ne (by omega)])⟩
      · show up (M 43) 1 (M 2 2 + 1) 0 = M 43 0
        exact up_n _ _ (by decide)
      · intro j a b
        show M 42 j = up (M 42) (48 * 1 + M 2 2) ib j
        rw [up_n _ _ (by omega)]
      · rw [up_n _ _ (by decide)]; exact r2.1
      · rw [up_s]; omega
      · show up (M 43) 1 (M 2 2 + 1) 1 = _
        rw [up_s, up_s]
      · intro j a b
        rw [up_s] at b
        show up (M 23) (M 2 2) ib j = up (M 42) (48 * 1 + M 2 2) ib (48 + j)
        by_cases q : j = M 2 2
        · rw [q, up_s, show 48 * 1 + M 2 2 = 48 + M 2 2 by omega, up_s]
        · rw [up_n _ _ q, up_n _ _ (by omega)]; exact r2.2.2.2.1 j a (by omega)
      · intro j a b
        show 0 ≤ up (M 42) (48 * 1 + M 2 2) ib j ∧ up (M 42) (48 * 1 + M 2 2) ib j ≤ 255
        by_cases q : j = 48 * 1 + M 2 2
        · rw [q, up_s]; exact c1
        · rw [up_n _ _ q]; exact r3 j a b
/-- a text cut to m bytes: roads, persons -/
theorem cut_rd {M N : zW} (R : Rel M) {m w : Int} (hm : 0 ≤ m ∧ m ≤ M 1 2) (hw : w = m) (u : rdN (upR M 1 (up (M 1) 2 w)) (up (M 1) 2 w) (M 18) (M 22) N) : Rel (upR N 43 (up (M 43) 0 m)) := by
  subst hw
  have z1 := R.z1
  obtain ⟨r19, r20, r21, v, w1, w2, rfl⟩ := u
  obtain ⟨⟨r1, r2, r3, r4, r5⟩, s, f, h⟩ := R
  refine ⟨⟨RelRd.new ?_ ?_ ?_ ?_ w1 w2, r2.keep ?_ (fun _ _ _ => rfl), r3, r4, r5⟩, s, f, h.tr (fun q hq => by have z := relS_n q hq; rw [upR_ne (by omega), upR_ne (by omega), upR_ne (by omega), upR_ne (by omega), upR_ne (by omega), upR_ne (by omega), upR_ne (by omega)])⟩
  · rw [up_n _ _ (by decide)]; exact r1.1
  · rw [up_s]; omega
  · show up (M 43) 0 w 0 = _
    rw [up_s, up_s]
  · intro j a b
    rw [up_s] at b
    exact r1.2.2.2.1 j a (by omega)
  · show up (M 43) 0 w 1 = M 43 1
    exact up_n _ _ (by decide)
theorem cut_pd {M N : zW} (R : Rel M) {m w : Int} (hm : 0 ≤ m ∧ m ≤ M 2 2) (hw : w = m) (u : pdN (upR M 2 (up (M 2) 2 w)) (up (M 2) 2 w) (M 23) N) : Rel (upR N 43 (up (M 43) 1 m)) := by
  subst hw
  have z2 := R.z2
  obtain ⟨r24, r25, r26, r27, r28, v, w1, w2, rfl⟩ := u
  obtain ⟨⟨r1, r2, r3, r4, r5⟩, s, f, h⟩ := R
  refine ⟨⟨r1.keep ?_ (fun _ _ _ => rfl), RelPs.new ?_ ?_ ?_ ?_ w1 w2, r3, r4, r5⟩, s, f, h.tr (fun q hq => by have z := relS_n q hq; rw [upR_ne (by omega), upR_ne (by omega), upR_ne (by omega), upR_ne (by omega), upR_ne (by omega), upR_ne (by omega), upR_ne (by omega), upR_ne (by omega)])⟩
  · show up (M 43) 1 w 0 = M 43 0
    exact up_n _ _ (by decide)
  · rw [up_n _ _ (by decide)]; exact r2.1
  · rw [up_s]; omega
  · show up (M 43) 1 w 1 = _
    rw [up_s, up_s]
  · intro j a b
    rw [up_s] at b
    exact r2.2.2.2.1 j a (by omega)
theorem fin_wipe {M N L : zW} (R : Rel M) {ia : Int} {x y : Int} (hr : -2147483648 ≤ ia ∧ ia < 2147483648) (h1 : ((¬ (ia = 0 ∨ ia = 1)) ∧ x = -2 ∧ M = N) ∨ (ia = 0 ∧ x = (M 1) 2 ∧ rdN (upR M 1 (up (M 1) 2 (max 0 (min 0 ((M 1) 2))))) (up (M 1) 2 (max 0 (min 0 ((M 1) 2)))) (M 18) (M 22) N) ∨ (ia = 1 ∧ x = (M 2) 2 ∧ pdN (upR M 2 (up (M 2) 2 (max 0 (min 0 ((M 2) 2))))) (up (M 2) 2 (max 0 (min 0 ((M 2) 2)))) (M 23) N)) (h2 : ((¬ (0 ≤ ia ∧ ia ≤ 1)) ∧ y = -2 ∧ N = L) ∨ (((0 ≤ ia ∧ ia ≤ 1)) ∧ y = (M 43) ia ∧ upR N 43 (up (M 43) ia 0) = L)) : x = y ∧ Rel L := by
  have y0 := R.y0
  have y1 := R.y1
  have z1 := R.z1
  have z2 := R.z2
  rcases h1 with ⟨c1, rfl, rfl⟩ | ⟨rfl, rfl, u1⟩ | ⟨rfl, rfl, u1⟩
  · rcases h2 with ⟨c2, rfl, rfl⟩ | ⟨c2, rfl, rfl⟩
    · exact ⟨rfl, R⟩
    · exfalso; omega
  · rcases h2 with ⟨c2, rfl, rfl⟩ | ⟨c2, rfl, rfl⟩
    · exfalso; omega
    · exact ⟨y0.symm, cut_rd R (by omega) (by omega) u1⟩
  · rcases h2 with ⟨c2, rfl, rfl⟩ | ⟨c2, rfl, rfl⟩
    · exfalso; omega
    · exact ⟨y1.symm, cut_pd R (by omega) (by omega) u1⟩
theorem fin_undo {M N L : zW} (R : Rel M) {ia : Int} {x y : Int} (hr : -2147483648 ≤ ia ∧ ia < 2147483648) (h1 : ((¬ (ia = 0 ∨ ia = 1)) ∧ x = -2 ∧ M = N) ∨ (ia = 0 ∧ (M 1) 2 = 0 ∧ x = -3 ∧ M = N) ∨ (ia = 1 ∧ (M 2) 2 = 0 ∧ x = -3 ∧ M = N) ∨ (ia = 0 ∧ (M 1) 2 ≠ 0 ∧ x = (M 1) 2 - 1 ∧ rdN (upR M 1 (up (M 1) 2 (max 0 (min ((M 1) 2 - 1) ((M 1) 2))))) (up (M 1) 2 (max 0 (min ((M 1) 2 - 1) ((M 1) 2)))) (M 18) (M 22) N) ∨ (ia = 1 ∧ (M 2) 2 ≠ 0 ∧ x = (M 2) 2 - 1 ∧ pdN (upR M 2 (up (M 2) 2 (max 0 (min ((M 2) 2 - 1) ((M 2) 2))))) (up (M 2) 2 (max 0 (min ((M 2) 2 - 1) ((M 2) 2)))) (M 23) N)) (h2 : ((¬ (0 ≤ ia ∧ ia ≤ 1)) ∧ y = -2 ∧ N = L) ∨ (((0 ≤ ia ∧ ia ≤ 1) ∧ (M 43) ia = 0) ∧ y = -3 ∧ N = L) ∨ (((0 ≤ ia ∧ ia ≤ 1) ∧ (M 43) ia ≠ 0) ∧ y = (M 43) ia - 1 ∧ upR N 43 (up (M 43) ia ((M 43) ia - 1)) = L)) : x = y ∧ Rel L := by
  have y0 := R.y0
  have y1 := R.y1
  have z1 := R.z1
  have z2 := R.z2
  rcases h1 with ⟨c1, rfl, rfl⟩ | ⟨rfl, d1, rfl, rfl⟩ | ⟨rfl, d1, rfl, rfl⟩ | ⟨rfl, d1, rfl, u1⟩ | ⟨rfl, d1, rfl, u1⟩
  · rcases h2 with ⟨c2, rfl, rfl⟩ | ⟨⟨c2, d2⟩, rfl, rfl⟩ | ⟨⟨c2, d2⟩, rfl, rfl⟩
    · exact ⟨rfl, R⟩
    · exfalso; omega
    · exfalso; omega
  · rcases h2 with ⟨c2, rfl, rfl⟩ | ⟨⟨c2, d2⟩, rfl, rfl⟩ | ⟨⟨c2, d2⟩, rfl, rfl⟩
    · exfalso; omega
    · exact ⟨rfl, R⟩
    · exfalso; omega
  · rcases h2 with ⟨c2, rfl, rfl⟩ | ⟨⟨c2, d2⟩, rfl, rfl⟩ | ⟨⟨c2, d2⟩, rfl, rfl⟩
    · exfalso; omega
    · exact ⟨rfl, R⟩
    · exfalso; omega
  · rcases h2 with ⟨c2, rfl, rfl⟩ | ⟨⟨c2, d2⟩, rfl, rfl⟩ | ⟨⟨c2, d2⟩, rfl, rfl⟩
    · exfalso; omega
    · exfalso; omega
    · exact ⟨by rw [y0], cut_rd R (by omega) (by omega) u1⟩
  · rcases h2 with ⟨c2, rfl, rfl⟩ | ⟨⟨c2, d2⟩, rfl, rfl⟩ | ⟨⟨c2, d2⟩, rfl, rfl⟩
    · exfalso; omega
    · exfalso; omega
    · exact ⟨by rw [y1], cut_pd R (by omega) (by omega) u1⟩

