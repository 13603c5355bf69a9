/-! what is worked out hangs on the ways' 64 places and the persons' own places alone -/
abbrev Wq (W V : Int → Int) : Prop := ∀ j, 0 ≤ j → j < 64 → W j = V j
abbrev Pq (P Q : Int → Int) (np : Int) : Prop := ∀ j, 0 ≤ j → j < 5 * np → P j = Q j
theorem crO_c {T W V : Int → Int} (hT : tOK T) (h : Wq W V) : crO T W = crO T V := by
  unfold crO
  rw [hA_at hT (t := T 3) (by omega) h, h _ (by omega) (by omega)]
theorem lwA_c {T W V : Int → Int} (hT : tOK T) (h : Wq W V) {t : Int} (ht : 0 ≤ t ∧ t ≤ 7) : lwA T W t = lwA T V t := by
  unfold lwA
  rw [crO_c hT h, h _ (by omega) (by omega)]
theorem noA_c {T W V : Int → Int} (hT : tOK T) (h : Wq W V) {t : Int} (ht : 0 ≤ t ∧ t ≤ 7) : noA T W t = noA T V t := by
  unfold noA
  rw [hA_at hT ht h, lwA_c hT h ht]
theorem hBy_c {T W V : Int → Int} (hT : tOK T) (h : Wq W V) {t wh : Int} (ht : 0 ≤ t ∧ t ≤ 7) : hBy T W t wh = hBy T V t wh := by
  unfold hBy
  rw [hA_at hT ht h, lwA_c hT h ht, noA_c hT h ht]
theorem knB_c {T W V : Int → Int} (hT : tOK T) (h : Wq W V) {d : Int} : ∀ n : Nat, n ≤ 8 → knB T W d n = knB T V d n
  | 0, _ => rfl
  | n + 1, hn => by
    unfold knB
    rw [knB_c hT h n (by omega), hA_at hT (t := n) (by omega) h]
theorem coO_c {T W V P Q : Int → Int} {np p : Int} (hT : tOK T) (h : Wq W V) (hP : pOK P np) (hq : Pq P Q np) (hp : 0 ≤ p ∧ p < np) : coO T W P np p = coO T V Q np p := by
  unfold coO
  rw [← hq (5 * p + 4) (by omega) (by omega)]
  by_cases c : ¬ (0 ≤ P (5 * p + 4) ∧ P (5 * p + 4) ≤ np - 1) ∨ P (5 * p + 4) = p
  · rw [if_pos c, if_pos c]
  · obtain ⟨b1, b2, b3, b4, b5⟩ := hP p hp.1 hp.2
    obtain ⟨a1, -⟩ := hP (P (5 * p + 4)) (by omega) (by omega)
    rw [if_neg c, if_neg c, ← hq (5 * p) (by omega) (by omega), ← hq (5 * p + 2) (by omega) (by omega), ← hq (5 * P (5 * p + 4)) (by omega) (by omega), hA_at hT b1 h, h _ (by omega) (by omega)]
theorem enO_c {T W V P Q : Int → Int} {np p : Int} (hT : tOK T) (hW : wOK W) (h : Wq W V) (hP : pOK P np) (hq : Pq P Q np) (hp : 0 ≤ p ∧ p < np) : enO T W P np p = enO T V Q np p := by
  have h1 := coO_rg hT hW hP hp
  unfold enO enC
  rw [← coO_c hT h hP hq hp]
  by_cases c : coO T W P np p = 9999
  · rw [if_pos c, if_pos c]
  · obtain ⟨d1, d2, d3⟩ := h1.2.2 c
    obtain ⟨b1, b2, b3, b4, b5⟩ := hP p hp.1 hp.2
    obtain ⟨a1, a2, -⟩ := hP (P (5 * p + 4)) (by omega) (by omega)
    rw [if_neg c, if_neg c, ← hq (5 * p + 4) (by omega) (by omega), ← hq (5 * P (5 * p + 4)) (by omega) (by omega), ← hq (5 * P (5 * p + 4) + 1) (by omega) (by omega), ← hq (5 * p + 1) (by omega) (by omega), ← hq (5 * p + 2) (by omega) (by omega), lwA_c hT h a1, hA_at hT a1 h]
theorem wnO_c {T W V P Q : Int → Int} {np : Int} (hT : tOK T) (hW : wOK W) (h : Wq W V) (hP : pOK P np) (hq : Pq P Q np) : ∀ n : Nat, (n : Int) ≤ np → wnO T W P np n = wnO T V Q np n
  | 0, _ => rfl
  | n + 1, hn => by
    unfold wnO
    rw [wnO_c hT hW h hP hq n (by omega), enO_c hT hW h hP hq (p := n) (by omega)]
theorem wns_c {T W V P Q : Int → Int} {np : Int} (hT : tOK T) (hW : wOK W) (h : Wq W V) (hP : pOK P np) (hq : Pq P Q np) (hn : 0 ≤ np) : wns T W P np = wns T V Q np := wnO_c hT hW h hP hq _ (by omega)
theorem lsO_c {T W V P Q : Int → Int} {np : Int} (hT : tOK T) (hW : wOK W) (h : Wq W V) (hP : pOK P np) (hq : Pq P Q np) : ∀ n : Nat, (n : Int) ≤ np → lsO T W P np n = lsO T V Q np n
  | 0, _ => rfl
  | n + 1, hn => by
    unfold lsO
    rw [lsO_c hT hW h hP hq n (by omega), enO_c hT hW h hP hq (p := n) (by omega), coO_c hT h hP hq (p := n) (by omega)]
theorem rdn_c {T W V P Q : Int → Int} {np : Int} (hT : tOK T) (h : Wq W V) (hP : pOK P np) (hq : Pq P Q np) : ∀ n : Nat, (n : Int) ≤ np → rdn T W P np n = rdn T V Q np n
  | 0, _ => rfl
  | n + 1, hn => by
    unfold rdn
    rw [rdn_c hT h hP hq n (by omega), coO_c hT h hP hq (p := n) (by omega)]
theorem rcS_c {P Q : Int → Int} {np : Int} (hq : Pq P Q np) : ∀ n : Nat, (n : Int) ≤ np → rcS P n = rcS Q n
  | 0, _ => rfl
  | n + 1, hn => by
    unfold rcS
    rw [rcS_c hq n (by omega), hq _ (by omega) (by omega)]
theorem lvG_c {C D : Int → Int} {n : Nat} (h : ∀ q : Int, 0 ≤ q → q < n → C q = D q) : ∀ k, lvG C n k = lvG D n k
  | 0 => rfl
  | k + 1 => by
    unfold lvG
    rw [lvG_c h k, sel_cong n h]
theorem lvN_c {C D : Int → Int} {n : Nat} (h : ∀ q : Int, 0 ≤ q → q < n → C q = D q) (k : Nat) : lvN C n k = lvN D n k := by
  unfold lvN
  rw [lvG_c h k, sel_cong n h]
theorem tkR_c {P Q G : Int → Int} {np p : Int} (hq : Pq P Q np) (hp : 0 ≤ p ∧ p < np) : tkR P G p = tkR Q G p := by
  unfold tkR
  rw [hq _ (by omega) (by omega)]
theorem lvR_c {T W V P Q R S : Int → Int} {np : Int} (hT : tOK T) (hW : wOK W) (h : Wq W V) (hP : pOK P np) (hq : Pq P Q np) (hn : 0 ≤ np ∧ np ≤ 8) (hr : ∀ q : Int, 0 ≤ q → q < np → R q = S q) :
    ∀ k : Nat, (k : Int) ≤ np → ∀ q : Int, 0 ≤ q → q < np → lvR (coO T W P np) (enO T W P np) P R np.toNat k q = lvR (coO T V Q np) (enO T V Q np) Q S np.toNat k q
  | 0, _, q, h1, h2 => hr q h1 h2
  | k + 1, hk, q, h1, h2 => by
    have ih := lvR_c hT hW h hP hq hn hr k (by omega)
    have hC : ∀ q : Int, 0 ≤ q → q < (np.toNat : Nat) → coO T W P np q = coO T V Q np q := fun q a b => coO_c hT h hP hq ⟨a, by omega⟩
    obtain ⟨-, -, -, g4⟩ := lvG_at (coO T W P np) np.toNat (by omega) k (by omega)
    obtain ⟨g5, g6, -⟩ := g4 (by omega)
    unfold lvR
    rw [← lvN_c hC k, ← enO_c hT hW h hP hq (p := lvN (coO T W P np) np.toNat k) (by omega)]
    by_cases c : enO T W P np (lvN (coO T W P np) np.toNat k) = 1
    · have c1 := coO_rg hT hW hP (p := lvN (coO T W P np) np.toNat k) (by omega)
      have c2 := (enO_rg T W P np (lvN (coO T W P np) np.toNat k)).2.2 c
      rw [if_pos c, if_pos c, ← tkR_c hq (by omega)]
      exact tkR_cong ih (by omega) (by omega) q h1 h2
    · rw [if_neg c, if_neg c]; exact ih q h1 h2
theorem riO_c {T W V P Q : Int → Int} {np : Int} (hT : tOK T) (hW : wOK W) (h : Wq W V) (hP : pOK P np) (hq : Pq P Q np) (hn : 0 ≤ np ∧ np ≤ 8) : ∀ q : Int, 0 ≤ q → q < np → riO T W P np q = riO T V Q np q :=
  lvR_c hT hW h hP hq hn (fun q a b => hq _ (by omega) (by omega)) np.toNat (by omega)
theorem swS_c {T W V P Q : Int → Int} {np : Int} (hT : tOK T) (hW : wOK W) (h : Wq W V) (hP : pOK P np) (hq : Pq P Q np) (hn : 0 ≤ np) : ∀ k : Nat, k ≤ 255 → swS T W P np k = swS T V Q np k
  | 0, _ => rfl
  | k + 1, hk => by
    unfold swS
    rw [swS_c hT hW h hP hq hn k (by omega), wns_c (tOK_5 hT (by omega)) hW h hP hq hn]
theorem plS_c {T W V P Q : Int → Int} {np : Int} (hT : tOK T) (hW : wOK W) (h : Wq W V) (hP : pOK P np) (hq : Pq P Q np) (hn : 0 ≤ np) : ∀ k : Nat, k ≤ 8 → plS T W P np k = plS T V Q np k
  | 0, _ => rfl
  | k + 1, hk => by
    unfold plS
    rw [plS_c hT hW h hP hq hn k (by omega), wns_c (tOK_4 hT (v := k) (by omega)) hW h hP hq hn, crO_c (tOK_4 hT (v := k) (by omega)) h]
theorem ltS_c {T W V P Q : Int → Int} {np : Int} (hT : tOK T) (hW : wOK W) (h : Wq W V) (hP : pOK P np) (hq : Pq P Q np) (hn : 0 ≤ np) : ∀ k : Nat, k ≤ 10 → ltS T W P np k = ltS T V Q np k
  | 0, _ => rfl
  | k + 1, hk => by
    unfold ltS
    rw [ltS_c hT hW h hP hq hn k (by omega), wns_c (tOK_2 hT (v := k) (by omega)) hW h hP hq hn]
theorem snO_c {T W V P Q Sg : Int → Int} {np : Int} (hT : tOK T) (hW : wOK W) (h : Wq W V) (hP : pOK P np) (hq : Pq P Q np) : ∀ k : Nat, snO T W P np Sg k = snO T V Q np Sg k
  | 0 => rfl
  | k + 1 => by
    have e : (if (0 ≤ Sg (2 * (k : Int)) ∧ Sg (2 * (k : Int)) ≤ np - 1) ∧ enO T W P np (Sg (2 * (k : Int))) = 1 then (1 : Int) else 0) = (if (0 ≤ Sg (2 * (k : Int)) ∧ Sg (2 * (k : Int)) ≤ np - 1) ∧ enO T V Q np (Sg (2 * (k : Int))) = 1 then (1 : Int) else 0) := by
      by_cases c : 0 ≤ Sg (2 * (k : Int)) ∧ Sg (2 * (k : Int)) ≤ np - 1
      · rw [enO_c hT hW h hP hq (p := Sg (2 * (k : Int))) (by omega)]
      · rw [if_neg (fun z => c z.1), if_neg (fun z => c z.1)]
    unfold snO
    rw [snO_c hT hW h hP hq k, e]
theorem fiS_c {T W V P Q Sg : Int → Int} {np : Int} {ns : Nat} {kx : Int} (hT : ∀ v : Nat, v < 10 → (kx = 2 ∨ v < 8) → tOK (up T kx v)) (hW : wOK W) (h : Wq W V) (hP : pOK P np) (hq : Pq P Q np) : ∀ k : Nat, (k ≤ 10 ∧ (kx = 2 ∨ k ≤ 8)) → fiS T W P np Sg ns kx k = fiS T V Q np Sg ns kx k
  | 0, _ => rfl
  | k + 1, hk => by
    unfold fiS
    rw [fiS_c hT hW h hP hq k (by omega), snO_c (hT k (by omega) (by omega)) hW h hP hq]
theorem fi2_c {T W V P Q Sg : Int → Int} {np : Int} {ns : Nat} (hT : tOK T) (hW : wOK W) (h : Wq W V) (hP : pOK P np) (hq : Pq P Q np) : fiS T W P np Sg ns 2 10 = fiS T V Q np Sg ns 2 10 := fiS_c (fun v a _ => tOK_2 hT (by omega)) hW h hP hq 10 (by omega)
theorem fi0_c {T W V P Q Sg : Int → Int} {np : Int} {ns : Nat} (hT : tOK T) (hW : wOK W) (h : Wq W V) (hP : pOK P np) (hq : Pq P Q np) : fiS T W P np Sg ns 0 8 = fiS T V Q np Sg ns 0 8 := fiS_c (fun v a b => tOK_0 hT (by omega)) hW h hP hq 8 (by omega)
theorem hl_c {T W V : Int → Int} (hT : tOK T) (h : Wq W V) {tw sm : Int} (ht : 0 ≤ tw ∧ tw ≤ 7) : ∀ n : Nat, n ≤ 8 → hl T W tw sm n = hl T V tw sm n
  | 0, _ => rfl
  | n + 1, hn => by
    unfold hl
    rw [hl_c hT h ht n (by omega), hA_at (tOK_0 hT (v := n) (by omega)) ht h]
theorem maO_c {T W V : Int → Int} (hT : tOK T) (h : Wq W V) {tw sm : Int} (ht : 0 ≤ tw ∧ tw ≤ 7) : maO T W tw sm = maO T V tw sm := by
  unfold maO
  rw [hl_c hT h ht 8 (by omega)]
theorem akS_c {T W V : Int → Int} (hT : tOK T) (h : Wq W V) {sm : Int} : ∀ n : Nat, n ≤ 7 → akS T W sm n = akS T V sm n
  | 0, _ => by unfold akS; rw [maO_c hT h (by omega)]
  | n + 1, hn => by
    unfold akS
    rw [akS_c hT h n (by omega), maO_c hT h (tw := (n : Int) + 1) (by omega)]
theorem akO_c {T W V P Q Sg : Int → Int} {np : Int} {ns : Nat} (hT : tOK T) (hW : wOK W) (h : Wq W V) (hP : pOK P np) (hq : Pq P Q np) : akO T W P np Sg ns = akO T V Q np Sg ns := by
  unfold akO
  rw [fi0_c hT hW h hP hq, akS_c hT h 7 (by omega)]
theorem rgS_c {T W V P Q : Int → Int} {np s tw : Int} (hT : tOK T) (hW : wOK W) (h : Wq W V) (hP : pOK P np) (hq : Pq P Q np) (hn : 0 ≤ np) (ht : -1 ≤ tw ∧ tw ≤ 7) : ∀ k : Nat, rgS T W P np s tw k = rgS T V Q np s tw k
  | 0 => rfl
  | k + 1 => by
    have e : rgV T W P np s tw k = rgV T V Q np s tw k := by
      unfold rgV
      by_cases c : tw = -1
      · rw [if_pos c, if_pos c, wns_c (rgT_ok hT s k) hW h hP hq hn]
      · rw [if_neg c, if_neg c, noA_c (rgT_ok hT s k) h (t := tw) (by omega)]
    unfold rgS
    rw [rgS_c hT hW h hP hq hn ht k, e]
/-- two roads' tables that agree on their own places -/
abbrev Rq (R S : Int → Int) (nr : Int) : Prop := ∀ j, 0 ≤ j → j < 3 * nr → R j = S j
theorem rdOK_c {R S : Int → Int} {c : Int} (hR : rdOK R c) (h : Rq R S c) : rdOK S c := fun q a b => by
  rw [← h (3 * q) (by omega) (by omega), ← h (3 * q + 1) (by omega) (by omega), ← h (3 * q + 2) (by omega) (by omega)]
  exact hR q a b
theorem pOK_c {P Q : Int → Int} {np : Int} (hP : pOK P np) (h : Pq P Q np) : pOK Q np := fun q a b => by
  rw [← h (5 * q) (by omega) (by omega), ← h (5 * q + 1) (by omega) (by omega), ← h (5 * q + 2) (by omega) (by omega), ← h (5 * q + 3) (by omega) (by omega), ← h (5 * q + 4) (by omega) (by omega)]
  exact hP q a b
theorem fwR_c {R S : Int → Int} {op : Int} {A : Int → Int} {c : Int} (h : Rq R S c) : ∀ n : Nat, (n : Int) ≤ c → fwR R op A n = fwR S op A n
  | 0, _ => rfl
  | n + 1, hn => by
    unfold fwR stR stD
    rw [fwR_c h n (by omega), h (3 * (n : Int)) (by omega) (by omega), h (3 * (n : Int) + 1) (by omega) (by omega), h (3 * (n : Int) + 2) (by omega) (by omega)]
theorem fwA_c {R S : Int → Int} {op : Int} {A : Int → Int} {c : Int} (h : Rq R S c) (hc : 0 ≤ c) : fwA R op A c.toNat = fwA S op A c.toNat := by
  unfold fwA
  rw [fwR_c h _ (by omega)]
theorem otA_c {T R S : Int → Int} {nr c tw day : Int} (h : Rq R S nr) (hn : 0 ≤ nr) : ∀ n : Nat, otA T R nr.toNat c tw day n = otA T S nr.toNat c tw day n
  | 0 => rfl
  | n + 1 => by
    unfold otA
    rw [otA_c h hn n, fwA_c h hn]
theorem otV_c {T R S : Int → Int} {nr c tw day wh : Int} (h : Rq R S nr) (hn : 0 ≤ nr) : otV T R nr.toNat c tw day wh = otV T S nr.toNat c tw day wh := by
  unfold otV
  rw [otA_c h hn]
/-- the texts' own roads, persons and ways -/
def cRd (B : Int → Int) (j : Int) : Int := rV B (4 * (j / 3) + j % 3)
def cPs (B : Int → Int) (j : Int) : Int := pVl (fun i => B (48 + i)) (6 * (j / 5) + j % 5)
theorem rdF_one {B : Int → Int} {n x y : Int} (hx : rdF B n x) (hy : rdF B n y) : x = y := by
  rcases hx with ⟨a1, a2, a3, a4⟩ | ⟨a1, a2, a3, a4⟩ | ⟨a1, a2, a3⟩ <;> rcases hy with ⟨b1, b2, b3, b4⟩ | ⟨b1, b2, b3, b4⟩ | ⟨b1, b2, b3⟩
  · rcases Int.lt_trichotomy x y with h | h | h
    · exact absurd a3 (b4 x a1 h)
    · exact h
    · exact absurd b3 (a4 y b1 h)
  · exact absurd a3 (b4 x a1 a2)
  · exact absurd a3 (b3 x a1 a2)
  · exact absurd b3 (a4 y b1 b2)
  · omega
  · omega
  · exact absurd b3 (a3 y b1 b2)
  · omega
  · omega
theorem pdF_one {B : Int → Int} {n x y : Int} (hx : pdF B n x) (hy : pdF B n y) : x = y := by
  rcases hx with ⟨a1, a2, a3, a4⟩ | ⟨a1, a2, a3, a4⟩ | ⟨a1, a2, a3⟩ <;> rcases hy with ⟨b1, b2, b3, b4⟩ | ⟨b1, b2, b3, b4⟩ | ⟨b1, b2, b3⟩
  · rcases Int.lt_trichotomy x y with h | h | h
    · exact absurd a3 (b4 x a1 h)
    · exact h
    · exact absurd b3 (a4 y b1 h)
  · exact absurd a3 (b4 x a1 a2)
  · exact absurd a3 (b3 x a1 a2)
  · exact absurd b3 (a4 y b1 b2)
  · omega
  · omega
  · exact absurd b3 (a3 y b1 b2)
  · omega
  · omega
/-- Fnd, told by the texts alone -/
theorem Fnd.can {B Y Rd P Wy : Int → Int} {nr np : Int} (hY : ∀ j, 0 ≤ j → j < 2 → 0 ≤ Y j ∧ Y j ≤ 47) (h : Fnd B Y nr np Rd P Wy) : Rq Rd (cRd B) nr ∧ Pq P (cPs B) np ∧ Wq Wy (fwA (cRd B) 4095 (fun _ => 0) nr.toNat) := by
  have hg := Fnd.rg hY h
  obtain ⟨v1, v2, a1, rfl, a3, b1, rfl, b3, W0, rfl⟩ := h
  have y0 := hY 0 (by omega) (by omega)
  have y1 := hY 1 (by omega) (by omega)
  have hr : Rq Rd (cRd B) (rCnt (Y 0) v1) := by
    intro j h1 h2
    obtain ⟨c1, c2, c3⟩ := rd_cnt y0 a1
    obtain ⟨c4, c5⟩ := c3 (by omega)
    have e := a3 c4 (4 * (j / 3) + j % 3) (by omega) (by omega) (by omega)
    rw [show 3 * ((4 * (j / 3) + j % 3) / 4) + (4 * (j / 3) + j % 3) % 4 = j by omega] at e
    exact e
  refine ⟨hr, fun j h1 h2 => ?_, fun j h1 h2 => ?_⟩
  · obtain ⟨c1, c2, c3⟩ := pd_cnt y1 b1
    obtain ⟨c4, c5⟩ := c3 (by omega)
    have e := b3 c4 (6 * (j / 5) + j % 5) (by omega) (by omega) (by omega)
    rw [show 5 * ((6 * (j / 5) + j % 5) / 6) + (6 * (j / 5) + j % 5) % 6 = j by omega] at e
    exact e
  · rw [fwA_c hr hg.1.1]
    exact fwA_at (rdOK_c hg.2.2.1 hr) hg.1.1 j h1 h2
theorem Fnd.one {B Y Rd P Wy Rd2 P2 Wy2 : Int → Int} {nr np nr2 np2 : Int} (h : Fnd B Y nr np Rd P Wy) (h2 : Fnd B Y nr2 np2 Rd2 P2 Wy2) : nr = nr2 ∧ np = np2 := by
  obtain ⟨v1, v2, a1, rfl, a3, b1, rfl, b3, W0, e⟩ := h
  obtain ⟨v3, v4, c1, rfl, c3, d1, rfl, d3, W1, e1⟩ := h2
  rw [rdF_one a1 c1, pdF_one b1 d1]
  exact ⟨rfl, rfl⟩
