/-! the class's course, in the reference's words -/
def cW (c : Int → Int) (j : Int) : Int := if 1000 ≤ c j then 9999 else c j
theorem cW_rg {c : Int → Int} (h : wB c) {j : Int} (h1 : 0 ≤ j) (h2 : j < 64) : (0 ≤ cW c j ∧ cW c j < 1000) ∨ cW c j = 9999 := by
  have := h j h1 h2
  unfold cW; split <;> omega
theorem cW_ok {c : Int → Int} (h : wB c) : wOK (cW c) := fun j h1 h2 => by
  have := cW_rg h h1 h2
  omega
theorem cW_b {c : Int → Int} (h : wB c) {a b : Int} (ha : 0 ≤ a ∧ a ≤ 7) (hb : 0 ≤ b ∧ b ≤ 7) : (if 1000 ≤ c (a * 8 + b) then -1 else c (a * 8 + b)) = orN (cW c (8 * a + b)) := by
  have := h (8 * a + b) (by omega) (by omega)
  rw [show a * 8 + b = 8 * a + b by omega]
  unfold orN cW
  split <;> split <;> omega
/-- small, or never -/
abbrev sml (x m : Int) : Prop := (0 ≤ x ∧ x ≤ m) ∨ x = 9999
theorem lat_o {x y m k : Int} (hx : sml x m) (hy : sml y k) (hm : m + k < 9999) : lat (orN x) (orN y) = orN (min (x + y) 9999) := by
  have e1 : orN x = if 9999 ≤ x then -1 else x := rfl
  have e2 : orN y = if 9999 ≤ y then -1 else y := rfl
  have e3 : orN (min (x + y) 9999) = if 9999 ≤ min (x + y) 9999 then -1 else min (x + y) 9999 := rfl
  rw [e3, lat, e1, e2]
  repeat' split
  all_goals omega
theorem orN_id {x : Int} (h : x < 9999) : orN x = x := by unfold orN; rw [if_neg (by omega)]
theorem hA_s {T c : Int → Int} (hT : tOK T) (hc : wB c) {t : Int} (ht : 0 ≤ t ∧ t ≤ 7) : sml (hA T (cW c) t) 1017 := by
  have := cW_rg hc (j := 8 * T 0 + t) (by omega) (by omega)
  unfold hA; omega
theorem hA_l {T c : Int → Int} (hT : tOK T) (hc : wB c) {t : Int} (ht : 0 ≤ t ∧ t ≤ 7) : lat (T 1 + T 2) (if 1000 ≤ c (T 0 * 8 + t) then -1 else c (T 0 * 8 + t)) = orN (hA T (cW c) t) := by
  have h := cW_rg hc (j := 8 * T 0 + t) (by omega) (by omega)
  rw [cW_b hc (by omega) ht, ← orN_id (x := T 1 + T 2) (by omega), lat_o (m := 18) (k := 999) (by omega) (by omega) (by decide)]
  rfl
theorem cr_s {T c : Int → Int} (hT : tOK T) (hc : wB c) : sml (crO T (cW c)) 2017 := by
  have h1 := hA_s hT hc (t := T 3) (by omega)
  have := cW_rg hc (j := 8 * T 3 + T 4) (by omega) (by omega)
  unfold crO; omega
theorem cr_l {T c : Int → Int} (hT : tOK T) (hc : wB c) : lat (lat (orN (hA T (cW c) (T 3))) (if 1000 ≤ c (T 3 * 8 + T 4) then -1 else c (T 3 * 8 + T 4))) 1 = orN (crO T (cW c)) := by
  have h1 := hA_s hT hc (t := T 3) (by omega)
  have h2 := cW_rg hc (j := 8 * T 3 + T 4) (by omega) (by omega)
  rw [cW_b hc (by omega) (by omega), lat_o (m := 1017) (k := 999) h1 (by omega) (by decide)]
  have e1 := lat_o (x := min (hA T (cW c) (T 3) + cW c (8 * T 3 + T 4)) 9999) (y := 1) (m := 2016) (k := 1) (by omega) (by omega) (by decide)
  rw [show orN 1 = 1 from rfl] at e1
  rw [e1]
  congr 1
  unfold crO; omega
theorem lw_s {T c : Int → Int} (hT : tOK T) (hc : wB c) {t : Int} (ht : 0 ≤ t ∧ t ≤ 7) : sml (lwA T (cW c) t) 3017 := by
  have h1 := cr_s hT hc
  have := cW_rg hc (j := 8 * T 4 + t) (by omega) (by omega)
  unfold lwA; omega
theorem lw_l {T c : Int → Int} (hT : tOK T) (hc : wB c) {t : Int} (ht : 0 ≤ t ∧ t ≤ 7) : lat (orN (crO T (cW c))) (if 1000 ≤ c (T 4 * 8 + t) then -1 else c (T 4 * 8 + t)) = orN (lwA T (cW c) t) := by
  have h1 := cr_s hT hc
  have h2 := cW_rg hc (j := 8 * T 4 + t) (by omega) (by omega)
  rw [cW_b hc (by omega) ht, lat_o (m := 2017) (k := 999) h1 (by omega) (by decide)]
  rfl
def coX (T V P : Int → Int) (np p : Int) : Int := if p < np then orN (coO T V P np p) else -1
def enX (T V P : Int → Int) (np p : Int) : Int := if p < np then enO T V P np p else 0
def meX (lw hd cm sw tw gp kp gf : Int) : Int := if bitq sw tw ∨ (lw ≠ -1 ∧ lw ≤ cm) then 3 else if gf + (if hd ≠ -1 ∧ hd ≤ cm then 2 else 0) < gp + (if kp = 1 then 2 else 0) then 1 else 2
/-- wins and the last win, person by person -/
def rdW (E : Int → Int) : Nat → Int
  | 0 => 0
  | n + 1 => rdW E n + (if E n = 1 then 1 else 0)
def rdL (E C : Int → Int) : Nat → Int
  | 0 => -1
  | n + 1 => if E n = 1 then max (rdL E C n) (C n) else rdL E C n
theorem rdW_rg (E : Int → Int) : ∀ n : Nat, 0 ≤ rdW E n ∧ rdW E n ≤ n
  | 0 => by simp [rdW]
  | n + 1 => by
    have := rdW_rg E n
    rw [rdW]; split <;> omega
set_option maxRecDepth 100000 in
theorem ct_X1_meet (en : zE) (M : zW) (A : Int → Int) (G : Int → Int) (K : Int → Int) (Hd : Int → Int) (Lw : Int → Int) (Cm : Int → Int) (wA : M 24 = A) (wG : M 25 = G) (wK : M 26 = K) (wHd : M 30 = Hd) (wLw : M 31 = Lw) (wCm : M 32 = Cm) (p : Int) (f : Int) (sw : Int) (h0 : (0 ≤ p ∧ p ≤ 7) ∧ (0 ≤ f ∧ f ≤ 7) ∧ (0 ≤ sw ∧ sw ≤ 255)) (h1 : (0 ≤ A f ∧ A f ≤ 7) ∧ (0 ≤ G f ∧ G f ≤ 9) ∧ (0 ≤ G p ∧ G p ≤ 9) ∧ (0 ≤ K p ∧ K p ≤ 2)) (h2 : (-1 ≤ Hd (A f) ∧ Hd (A f) ≤ 9999) ∧ (-1 ≤ Lw (A f) ∧ Lw (A f) ≤ 9999) ∧ (-1 ≤ Cm p ∧ Cm p ≤ 9999)) : Ct en kA yX1_meet mX1_meet [rf en 5, vi p, vi f, vi sw] M (pI (meX (Lw (A f)) (Hd (A f)) (Cm p) sw (A f) (G p) (K p) (G f)) M) := by
  refine Ct.of (by decide +kernel) rfl [(0, rf en 5), (1, vi p), (2, vi f), (3, vi sw)] rfl (Nat.le_of_ble_eq_true rfl) (fun cx C => ?_)
  refine z_aload_n 0 dX1_meet_0 rfl ?_
  refine z_getR dX1_meet_1 fX1_35_1 i5_1 ka5 ?_
  refine z_getR dX1_meet_4 fX1_70_2 i2_5 ka2 ?_
  refine z_iload_n 2 dX1_meet_7 rfl ?_
  refine z_iald (r := A) dX1_meet_8 is24 ka24 (wA) (by omega) ?_
  refine z_istore (fun y => [(0, rf en 5), (1, vi p), (2, vi f), (3, vi sw), (4, vi y)]) [1, 2, 3, 4, 0] dX1_meet_9 (by decide) (fun _ => rfl) (fun x4_9 e4_9 => ?_)
  rw [← e4_9] at h1 h2
  refine z_iload_n 3 dX1_meet_11 rfl ?_
  refine z_iload 4 dX1_meet_12 rfl ?_
  refine z_nI dX1_meet_14 lX1_88 (by decide) (ct_X6_hasBit en M _ _ (by omega) (by omega)) rfl rfl (by exact Nat.le_of_ble_eq_true rfl) ?_
  refine z_ifne_b (tgt := 39) dX1_meet_17 rfl (fun uc17 => ?_) (fun uc17 => ?_)
  ·
    refine z_iconst dX1_meet_39 ?_
    exact z_iret C dX1_meet_40 rfl ⟨congrArg (fun z => some (vi z)) (by unfold meX; rw [← e4_9, if_pos (Or.inl uc17)]), rfl⟩
  ·
    refine z_aload_n 0 dX1_meet_20 rfl ?_
    refine z_getR dX1_meet_21 fX1_19_1 i5_4 ka5 ?_
    refine z_iload 4 dX1_meet_24 rfl ?_
    refine z_iald (r := Lw) dX1_meet_26 is31 ka31 (wLw) (by omega) ?_
    refine z_aload_n 0 dX1_meet_27 rfl ?_
    refine z_getR dX1_meet_28 fX1_22_1 i5_5 ka5 ?_
    refine z_iload_n 1 dX1_meet_31 rfl ?_
    refine z_iald (r := Cm) dX1_meet_32 is32 ka32 (wCm) (by omega) ?_
    refine z_nI dX1_meet_33 lX1_92 (by decide) (ct_X6_isBy en M _ _ (by omega)) rfl rfl (by exact Nat.le_of_ble_eq_true rfl) ?_
    refine z_ifeq_b (tgt := 41) dX1_meet_36 rfl (fun uc36 => ?_) (fun uc36 => ?_)
    ·
      refine z_aload_n 0 dX1_meet_41 rfl ?_
      refine z_getR dX1_meet_42 fX1_35_1 i5_1 ka5 ?_
      refine z_getR dX1_meet_45 fX1_95_2 i2_6 ka2 ?_
      refine z_iload_n 1 dX1_meet_48 rfl ?_
      refine z_iald (r := G) dX1_meet_49 is25 ka25 (wG) (by omega) ?_
      refine z_aload_n 0 dX1_meet_50 rfl ?_
      refine z_getR dX1_meet_51 fX1_35_1 i5_1 ka5 ?_
      refine z_getR dX1_meet_54 fX1_81_2 i2_7 ka2 ?_
      refine z_iload_n 1 dX1_meet_57 rfl ?_
      refine z_iald (r := K) dX1_meet_58 is26 ka26 (wK) (by omega) ?_
      refine z_iconst dX1_meet_59 ?_
      refine z_icmp_ne (tgt := 67) dX1_meet_60 rfl (by omega) (fun uc60 => ?_) (fun uc60 => ?_)
      ·
        refine z_iconst dX1_meet_67 ?_
        refine z_iadd dX1_meet_68 ?_
        refine z_istore (fun y => [(0, rf en 5), (1, vi p), (2, vi f), (3, vi sw), (4, vi x4_9), (5, vi y)]) [1, 2, 3, 4, 5, 0] dX1_meet_69 (by decide) (fun _ => rfl) (fun x5_69 e5_69 => ?_)
        refine z_aload_n 0 dX1_meet_71 rfl ?_
        refine z_getR dX1_meet_72 fX1_35_1 i5_1 ka5 ?_
        refine z_getR dX1_meet_75 fX1_95_2 i2_6 ka2 ?_
        refine z_iload_n 2 dX1_meet_78 rfl ?_
        refine z_iald (r := G) dX1_meet_79 is25 ka25 (wG) (by omega) ?_
        refine z_aload_n 0 dX1_meet_80 rfl ?_
        refine z_getR dX1_meet_81 fX1_15_1 i5_3 ka5 ?_
        refine z_iload 4 dX1_meet_84 rfl ?_
        refine z_iald (r := Hd) dX1_meet_86 is30 ka30 (wHd) (by omega) ?_
        refine z_aload_n 0 dX1_meet_87 rfl ?_
        refine z_getR dX1_meet_88 fX1_22_1 i5_5 ka5 ?_
        refine z_iload_n 1 dX1_meet_91 rfl ?_
        refine z_iald (r := Cm) dX1_meet_92 is32 ka32 (wCm) (by omega) ?_
        refine z_nI dX1_meet_93 lX1_92 (by decide) (ct_X6_isBy en M _ _ (by omega)) rfl rfl (by exact Nat.le_of_ble_eq_true rfl) ?_
        refine z_ifeq_b (tgt := 103) dX1_meet_96 rfl (fun uc96 => ?_) (fun uc96 => ?_)
        ·
          refine z_iconst dX1_meet_103 ?_
          refine z_iadd dX1_meet_104 ?_
          refine z_istore (fun y => [(0, rf en 5), (1, vi p), (2, vi f), (3, vi sw), (4, vi x4_9), (5, vi x5_69), (6, vi y)]) [1, 2, 3, 4, 5, 6, 0] dX1_meet_105 (by decide) (fun _ => rfl) (fun x6_105 e6_105 => ?_)
          refine z_iload 5 dX1_meet_107 rfl ?_
          refine z_iload 6 dX1_meet_109 rfl ?_
          refine z_icmp_le (tgt := 118) dX1_meet_111 rfl (by omega) (fun uc111 => ?_) (fun uc111 => ?_)
          ·
            refine z_iconst dX1_meet_118 ?_
            exact z_iret C dX1_meet_119 rfl ⟨congrArg (fun z => some (vi z)) (by unfold meX; rw [← e4_9, if_neg (by rintro (uz | uz); exact uc17 uz; exact uc36 uz), if_neg uc96, if_neg uc60]; exact (if_neg (by omega)).symm), rfl⟩
          ·
            refine z_iconst dX1_meet_114 ?_
            refine z_goto (tgt := 119) dX1_meet_115 rfl ?_
            exact z_iret C dX1_meet_119 rfl ⟨congrArg (fun z => some (vi z)) (by unfold meX; rw [← e4_9, if_neg (by rintro (uz | uz); exact uc17 uz; exact uc36 uz), if_neg uc96, if_neg uc60]; exact (if_pos (by omega)).symm), rfl⟩
        ·
          refine z_iconst dX1_meet_99 ?_
          refine z_goto (tgt := 104) dX1_meet_100 rfl ?_
          refine z_iadd dX1_meet_104 ?_
          refine z_istore (fun y => [(0, rf en 5), (1, vi p), (2, vi f), (3, vi sw), (4, vi x4_9), (5, vi x5_69), (6, vi y)]) [1, 2, 3, 4, 5, 6, 0] dX1_meet_105 (by decide) (fun _ => rfl) (fun x6_105 e6_105 => ?_)
          refine z_iload 5 dX1_meet_107 rfl ?_
          refine z_iload 6 dX1_meet_109 rfl ?_
          refine z_icmp_le (tgt := 118) dX1_meet_111 rfl (by omega) (fun uc111 => ?_) (fun uc111 => ?_)
          ·
            refine z_iconst dX1_meet_118 ?_
            exact z_iret C dX1_meet_119 rfl ⟨congrArg (fun z => some (vi z)) (by unfold meX; rw [← e4_9, if_neg (by rintro (uz | uz); exact uc17 uz; exact uc36 uz), if_pos uc96, if_neg uc60]; exact (if_neg (by omega)).symm), rfl⟩
          ·
            refine z_iconst dX1_meet_114 ?_
            refine z_goto (tgt := 119) dX1_meet_115 rfl ?_
            exact z_iret C dX1_meet_119 rfl ⟨congrArg (fun z => some (vi z)) (by unfold meX; rw [← e4_9, if_neg (by rintro (uz | uz); exact uc17 uz; exact uc36 uz), if_pos uc96, if_neg uc60]; exact (if_pos (by omega)).symm), rfl⟩
      ·
        refine z_iconst dX1_meet_63 ?_
        refine z_goto (tgt := 68) dX1_meet_64 rfl ?_
        refine z_iadd dX1_meet_68 ?_
        refine z_istore (fun y => [(0, rf en 5), (1, vi p), (2, vi f), (3, vi sw), (4, vi x4_9), (5, vi y)]) [1, 2, 3, 4, 5, 0] dX1_meet_69 (by decide) (fun _ => rfl) (fun x5_69 e5_69 => ?_)
        refine z_aload_n 0 dX1_meet_71 rfl ?_
        refine z_getR dX1_meet_72 fX1_35_1 i5_1 ka5 ?_
        refine z_getR dX1_meet_75 fX1_95_2 i2_6 ka2 ?_
        refine z_iload_n 2 dX1_meet_78 rfl ?_
        refine z_iald (r := G) dX1_meet_79 is25 ka25 (wG) (by omega) ?_
        refine z_aload_n 0 dX1_meet_80 rfl ?_
        refine z_getR dX1_meet_81 fX1_15_1 i5_3 ka5 ?_
        refine z_iload 4 dX1_meet_84 rfl ?_
        refine z_iald (r := Hd) dX1_meet_86 is30 ka30 (wHd) (by omega) ?_
        refine z_aload_n 0 dX1_meet_87 rfl ?_
        refine z_getR dX1_meet_88 fX1_22_1 i5_5 ka5 ?_
        refine z_iload_n 1 dX1_meet_91 rfl ?_
        refine z_iald (r := Cm) dX1_meet_92 is32 ka32 (wCm) (by omega) ?_
        refine z_nI dX1_meet_93 lX1_92 (by decide) (ct_X6_isBy en M _ _ (by omega)) rfl rfl (by exact Nat.le_of_ble_eq_true rfl) ?_
        refine z_ifeq_b (tgt := 103) dX1_meet_96 rfl (fun uc96 => ?_) (fun uc96 => ?_)
        ·
          refine z_iconst dX1_meet_103 ?_
          refine z_iadd dX1_meet_104 ?_
          refine z_istore (fun y => [(0, rf en 5), (1, vi p), (2, vi f), (3, vi sw), (4, vi x4_9), (5, vi x5_69), (6, vi y)]) [1, 2, 3, 4, 5, 6, 0] dX1_meet_105 (by decide) (fun _ => rfl) (fun x6_105 e6_105 => ?_)
          refine z_iload 5 dX1_meet_107 rfl ?_
          refine z_iload 6 dX1_meet_109 rfl ?_
          refine z_icmp_le (tgt := 118) dX1_meet_111 rfl (by omega) (fun uc111 => ?_) (fun uc111 => ?_)
          ·
            refine z_iconst dX1_meet_118 ?_
            exact z_iret C dX1_meet_119 rfl ⟨congrArg (fun z => some (vi z)) (by unfold meX; rw [← e4_9, if_neg (by rintro (uz | uz); exact uc17 uz; exact uc36 uz), if_neg uc96, if_pos uc60]; exact (if_neg (by omega)).symm), rfl⟩
          ·
            refine z_iconst dX1_meet_114 ?_
            refine z_goto (tgt := 119) dX1_meet_115 rfl ?_
            exact z_iret C dX1_meet_119 rfl ⟨congrArg (fun z => some (vi z)) (by unfold meX; rw [← e4_9, if_neg (by rintro (uz | uz); exact uc17 uz; exact uc36 uz), if_neg uc96, if_pos uc60]; exact (if_pos (by omega)).symm), rfl⟩
        ·
          refine z_iconst dX1_meet_99 ?_
          refine z_goto (tgt := 104) dX1_meet_100 rfl ?_
          refine z_iadd dX1_meet_104 ?_
          refine z_istore (fun y => [(0, rf en 5), (1, vi p), (2, vi f), (3, vi sw), (4, vi x4_9), (5, vi x5_69), (6, vi y)]) [1, 2, 3, 4, 5, 6, 0] dX1_meet_105 (by decide) (fun _ => rfl) (fun x6_105 e6_105 => ?_)
          refine z_iload 5 dX1_meet_107 rfl ?_
          refine z_iload 6 dX1_meet_109 rfl ?_
          refine z_icmp_le (tgt := 118) dX1_meet_111 rfl (by omega) (fun uc111 => ?_) (fun uc111 => ?_)
          ·
            refine z_iconst dX1_meet_118 ?_
            exact z_iret C dX1_meet_119 rfl ⟨congrArg (fun z => some (vi z)) (by unfold meX; rw [← e4_9, if_neg (by rintro (uz | uz); exact uc17 uz; exact uc36 uz), if_pos uc96, if_pos uc60]; exact (if_neg (by omega)).symm), rfl⟩
          ·
            refine z_iconst dX1_meet_114 ?_
            refine z_goto (tgt := 119) dX1_meet_115 rfl ?_
            exact z_iret C dX1_meet_119 rfl ⟨congrArg (fun z => some (vi z)) (by unfold meX; rw [← e4_9, if_neg (by rintro (uz | uz); exact uc17 uz; exact uc36 uz), if_pos uc96, if_pos uc60]; exact (if_pos (by omega)).symm), rfl⟩
    ·
      refine z_iconst dX1_meet_39 ?_
      exact z_iret C dX1_meet_40 rfl ⟨congrArg (fun z => some (vi z)) (by unfold meX; rw [← e4_9, if_pos (Or.inr uc36)]), rfl⟩
theorem up_at {r s : Int → Int} {p v : Int} (h : r = up s p v) : r = up s p (r p) := by
  subst h; rw [up_s]
theorem tP_np {A G K H S : Int → Int} {np : Int} (h : pOK (tP A G K H S) np) {q : Int} (h1 : 0 ≤ q) (h2 : q < np) : (0 ≤ A q ∧ A q ≤ 7) ∧ (0 ≤ G q ∧ G q ≤ 9) ∧ (0 ≤ K q ∧ K q ≤ 2) ∧ (0 ≤ H q ∧ H q ≤ 9) ∧ (-1 ≤ S q ∧ S q ≤ 7) := by
  have := h q h1 h2
  rw [tP_0, tP_1, tP_2, tP_3, tP_4] at this
  exact this
theorem co_no {T V A G K H S : Int → Int} {np p : Int} (hs : S p = -1 ∨ S p = p ∨ np ≤ S p) : coO T V (tP A G K H S) np p = 9999 := by
  unfold coO
  rw [tP_4, if_pos (by omega)]
theorem co_yes {T c A G K H S : Int → Int} (hT : tOK T) (hc : wB c) {np p : Int} (hP : pOK (tP A G K H S) np) (hp : 0 ≤ p ∧ p < np) (hs : ¬ (S p = -1 ∨ S p = p ∨ np ≤ S p)) : coO T (cW c) (tP A G K H S) np p = min (hA T (cW c) (A p) + cW c (8 * A p + A (S p)) + (if K p = 2 then 1 else 0)) 9999 ∧ lat (orN (hA T (cW c) (A p))) (if 1000 ≤ c (A p * 8 + A (S p)) then -1 else c (A p * 8 + A (S p))) = orN (min (hA T (cW c) (A p) + cW c (8 * A p + A (S p))) 9999) ∧ sml (min (hA T (cW c) (A p) + cW c (8 * A p + A (S p))) 9999) 2016 := by
  have a := tP_np hP hp.1 hp.2
  have b := tP_np hP (q := S p) (by omega) (by omega)
  have h1 := hA_s hT hc (t := A p) (by omega)
  have h2 := cW_rg hc (j := 8 * A p + A (S p)) (by omega) (by omega)
  refine ⟨?_, ?_, by omega⟩
  · unfold coO
    rw [tP_4, if_neg (by omega), tP_0, tP_0, tP_2]
  · rw [cW_b hc (by omega) (by omega), lat_o (m := 1017) (k := 999) h1 (by omega) (by decide)]
theorem me_en {T c A G K H S : Int → Int} (hT : tOK T) (hc : wB c) {np p x : Int} (hP : pOK (tP A G K H S) np) (hp : 0 ≤ p ∧ p < np) (hs : ¬ (S p = -1 ∨ S p = p ∨ np ≤ S p)) (hx : coO T (cW c) (tP A G K H S) np p = x) (hx2 : x < 9999) : meX (orN (lwA T (cW c) (A (S p)))) (orN (hA T (cW c) (A (S p)))) x (T 5) (A (S p)) (G p) (K p) (G (S p)) = enO T (cW c) (tP A G K H S) np p := by
  have a := tP_np hP hp.1 hp.2
  have b := tP_np hP (q := S p) (by omega) (by omega)
  have h1 := hA_s hT hc (t := A (S p)) (by omega)
  have h2 := lw_s hT hc (t := A (S p)) (by omega)
  have e : ∀ y : Int, sml y 3017 → ((orN y ≠ -1 ∧ orN y ≤ x) ↔ y ≤ x) := fun y hy => by unfold orN; split <;> omega
  unfold enO enC meX
  rw [hx, if_neg (show ¬ x = 9999 by omega), tP_4, tP_0, tP_1, tP_1, tP_2]
  have e1 := e _ (show sml (hA T (cW c) (A (S p))) 3017 by omega)
  have e2 := e _ h2
  have d1 : (bitq (T 5) (A (S p)) ∨ (orN (lwA T (cW c) (A (S p))) ≠ -1 ∧ orN (lwA T (cW c) (A (S p))) ≤ x)) ↔ (lwA T (cW c) (A (S p)) ≤ x ∨ bitq (T 5) (A (S p))) := by rw [e2]; exact Or.comm
  simp only [d1, e1]
set_option maxRecDepth 100000 in
theorem ct_X1_ride (en : zE) (M : zW) (T : Int → Int) (O2 : Int → Int) (O5 : Int → Int) (c : Int → Int) (A : Int → Int) (G : Int → Int) (K : Int → Int) (H : Int → Int) (S : Int → Int) (Hd : Int → Int) (Lw : Int → Int) (C0 : Int → Int) (E0 : Int → Int) (wO2 : M 2 = O2) (wO5 : M 5 = O5) (wc : M 22 = c) (wA : M 24 = A) (wG : M 25 = G) (wK : M 26 = K) (wH : M 27 = H) (wS : M 28 = S) (wHd : M 30 = Hd) (wLw : M 31 = Lw) (wC0 : M 32 = C0) (wE0 : M 33 = E0) (p : Int) (sw : Int) (h0 : 0 ≤ p ∧ p ≤ 7) (hT : tOK T) (hs : sw = T 5) (hc : wB c) (hP : (0 ≤ O2 4 ∧ O2 4 ≤ 8) ∧ pOK (tP A G K H S) (O2 4)) (hH : ∀ t, 0 ≤ t → t < 8 → Hd t = orN (hA T (cW c) t)) (hL : ∀ t, 0 ≤ t → t < 8 → Lw t = orN (lwA T (cW c) t)) (hO : (0 ≤ O5 9 ∧ O5 9 ≤ 8) ∧ (-1 ≤ O5 10 ∧ O5 10 ≤ 9999)) : Ct en kA yX1_ride mX1_ride [rf en 5, vi p, vi sw] M (pN (fun N => ∃ r5 r32 r33 : Int → Int, r32 = up C0 p (coX T (cW c) (tP A G K H S) (O2 4) p) ∧ r33 = up E0 p (enX T (cW c) (tP A G K H S) (O2 4) p) ∧ r5 9 = O5 9 + (if (enX T (cW c) (tP A G K H S) (O2 4) p) = 1 then 1 else 0) ∧ r5 10 = (if (enX T (cW c) (tP A G K H S) (O2 4) p) = 1 then max (O5 10) (coX T (cW c) (tP A G K H S) (O2 4) p) else O5 10) ∧ (∀ j, j ≠ 9 → j ≠ 10 → r5 j = O5 j) ∧ upR (upR (upR M 32 r32) 33 r33) 5 r5 = N)) := by
  refine Ct.of (by decide +kernel) rfl [(0, rf en 5), (1, vi p), (2, vi sw)] rfl (Nat.le_of_ble_eq_true rfl) (fun cx C => ?_)
  refine z_iload_n 1 dX1_ride_0 rfl ?_
  refine z_aload_n 0 dX1_ride_1 rfl ?_
  refine z_getR dX1_ride_2 fX1_35_1 i5_1 ka5 ?_
  refine z_getI (r := O2) 4 rfl dX1_ride_5 fX1_78_2 i2_4 ka2 (wO2) ?_
  refine z_icmp_ge (tgt := 23) dX1_ride_8 rfl (by omega) (fun uc8 => ?_) (fun uc8 => ?_)
  ·
    refine z_iconst dX1_ride_23 ?_
    refine z_istore_n (fun y => [(0, rf en 5), (1, vi p), (2, vi sw), (3, vi y)]) [1, 2, 3, 0] dX1_ride_24 (by decide) (fun _ => rfl) (fun uy uhy => ?_)
    subst uhy
    refine z_aload_n 0 dX1_ride_25 rfl ?_
    refine z_getR dX1_ride_26 fX1_22_1 i5_5 ka5 ?_
    refine z_iload_n 1 dX1_ride_29 rfl ?_
    refine z_iconst dX1_ride_30 ?_
    refine z_iast (r := C0) dX1_ride_31 is32 ka32 (wC0) (by omega) (fun r32_31 f32_31 => ?_)
    refine z_aload_n 0 dX1_ride_32 rfl ?_
    refine z_getR dX1_ride_33 fX1_25_1 i5_6 ka5 ?_
    refine z_iload_n 1 dX1_ride_36 rfl ?_
    refine z_iconst dX1_ride_37 ?_
    refine z_iast (r := E0) dX1_ride_38 is33 ka33 (wE0) (by omega) (fun r33_38 f33_38 => ?_)
    refine z_iload_n 3 dX1_ride_39 rfl ?_
    refine z_iconst dX1_ride_40 ?_
    refine z_icmp_eq (tgt := 60) dX1_ride_41 rfl (by omega) (fun _ => ?_) (fun z => absurd z (by decide))
    have ucX : (coX T (cW c) (tP A G K H S) (O2 4) p) = -1 := by unfold coX; by_cases uz : p < O2 4; (rw [if_pos uz, co_no (by omega)]; rfl); rw [if_neg uz]
    have ueX : (enX T (cW c) (tP A G K H S) (O2 4) p) = 0 := by unfold enX; by_cases uz : p < O2 4; (rw [if_pos uz]; unfold enO enC; rw [co_no (by omega), if_pos rfl]); rw [if_neg uz]
    exact z_vret C dX1_ride_60 rfl ⟨rfl, ⟨O5, _, _, by rw [ucX]; exact f32_31, by rw [ueX]; exact f33_38, by rw [ueX]; simp, by rw [ueX]; simp, fun _ _ _ => rfl, upR_id wO5⟩⟩
  ·
    have un := tP_np hP.2 (q := p) (by omega) (by omega)
    refine z_aload_n 0 dX1_ride_11 rfl ?_
    refine z_getR dX1_ride_12 fX1_35_1 i5_1 ka5 ?_
    refine z_getR dX1_ride_15 fX1_75_2 i2_9 ka2 ?_
    refine z_iload_n 1 dX1_ride_18 rfl ?_
    refine z_iald (r := S) dX1_ride_19 is28 ka28 (wS) (by omega) ?_
    refine z_goto (tgt := 24) dX1_ride_20 rfl ?_
    refine z_istore_n (fun y => [(0, rf en 5), (1, vi p), (2, vi sw), (3, vi y)]) [1, 2, 3, 0] dX1_ride_24 (by decide) (fun _ => rfl) (fun x3_24 e3_24 => ?_)
    refine z_aload_n 0 dX1_ride_25 rfl ?_
    refine z_getR dX1_ride_26 fX1_22_1 i5_5 ka5 ?_
    refine z_iload_n 1 dX1_ride_29 rfl ?_
    refine z_iconst dX1_ride_30 ?_
    refine z_iast (r := C0) dX1_ride_31 is32 ka32 (wC0) (by omega) (fun r32_31 f32_31 => ?_)
    refine z_aload_n 0 dX1_ride_32 rfl ?_
    refine z_getR dX1_ride_33 fX1_25_1 i5_6 ka5 ?_
    refine z_iload_n 1 dX1_ride_36 rfl ?_
    refine z_iconst dX1_ride_37 ?_
    refine z_iast (r := E0) dX1_ride_38 is33 ka33 (wE0) (by omega) (fun r33_38 f33_38 => ?_)
    refine z_iload_n 3 dX1_ride_39 rfl ?_
    refine z_iconst dX1_ride_40 ?_
    refine z_icmp_eq (tgt := 60) dX1_ride_41 rfl (by omega) (fun uc41 => ?_) (fun uc41 => ?_)
    ·
      have ucX : (coX T (cW c) (tP A G K H S) (O2 4) p) = -1 := by unfold coX; by_cases uz : p < O2 4; (rw [if_pos uz, co_no (by omega)]; rfl); rw [if_neg uz]
      have ueX : (enX T (cW c) (tP A G K H S) (O2 4) p) = 0 := by unfold enX; by_cases uz : p < O2 4; (rw [if_pos uz]; unfold enO enC; rw [co_no (by omega), if_pos rfl]); rw [if_neg uz]
      exact z_vret C dX1_ride_60 rfl ⟨rfl, ⟨O5, _, _, by rw [ucX]; exact f32_31, by rw [ueX]; exact f33_38, by rw [ueX]; simp, by rw [ueX]; simp, fun _ _ _ => rfl, upR_id wO5⟩⟩
    ·
      refine z_iload_n 3 dX1_ride_44 rfl ?_
      refine z_iload_n 1 dX1_ride_45 rfl ?_
      refine z_icmp_eq (tgt := 60) dX1_ride_46 rfl (by omega) (fun uc46 => ?_) (fun uc46 => ?_)
      ·
        have ucX : (coX T (cW c) (tP A G K H S) (O2 4) p) = -1 := by unfold coX; by_cases uz : p < O2 4; (rw [if_pos uz, co_no (by omega)]; rfl); rw [if_neg uz]
        have ueX : (enX T (cW c) (tP A G K H S) (O2 4) p) = 0 := by unfold enX; by_cases uz : p < O2 4; (rw [if_pos uz]; unfold enO enC; rw [co_no (by omega), if_pos rfl]); rw [if_neg uz]
        exact z_vret C dX1_ride_60 rfl ⟨rfl, ⟨O5, _, _, by rw [ucX]; exact f32_31, by rw [ueX]; exact f33_38, by rw [ueX]; simp, by rw [ueX]; simp, fun _ _ _ => rfl, upR_id wO5⟩⟩
      ·
        refine z_iload_n 3 dX1_ride_49 rfl ?_
        refine z_aload_n 0 dX1_ride_50 rfl ?_
        refine z_getR dX1_ride_51 fX1_35_1 i5_1 ka5 ?_
        refine z_getI (r := O2) 4 rfl dX1_ride_54 fX1_78_2 i2_4 ka2 (wO2) ?_
        refine z_icmp_lt (tgt := 61) dX1_ride_57 rfl (by omega) (fun uc57 => ?_) (fun uc57 => ?_)
        ·
          have un := tP_np hP.2 (q := p) (by omega) (by omega)
          have uf := tP_np hP.2 (q := x3_24) (by omega) (by omega)
          have ues : S p = x3_24 := e3_24.symm
          obtain ⟨uy1, uy2, uy3⟩ := co_yes hT hc hP.2 (p := p) (by omega) (by omega)
          rw [ues] at uy1 uy2 uy3
          have uhs := hA_s hT hc (t := A p) (by omega)
          have uwr := hc (A p * 8 + A x3_24) (by omega) (by omega)
          have uhd := hH (A p) (by omega) (by omega)
          have uor := orN_rg (v := hA T (cW c) (A p)) (by omega)
          refine z_aload_n 0 dX1_ride_61 rfl ?_
          refine z_getR dX1_ride_62 fX1_35_1 i5_1 ka5 ?_
          refine z_getR dX1_ride_65 fX1_70_2 i2_5 ka2 ?_
          refine z_iload_n 1 dX1_ride_68 rfl ?_
          refine z_iald (r := A) dX1_ride_69 is24 ka24 (wA) (by omega) ?_
          refine z_istore (fun y => [(0, rf en 5), (1, vi p), (2, vi sw), (3, vi x3_24), (4, vi y)]) [1, 2, 3, 4, 0] dX1_ride_70 (by decide) (fun _ => rfl) (fun x4_70 e4_70 => ?_)
          have uhd4 : Hd x4_70 = orN (hA T (cW c) (A p)) := by rw [e4_70]; exact uhd
          refine z_aload_n 0 dX1_ride_72 rfl ?_
          refine z_getR dX1_ride_73 fX1_22_1 i5_5 ka5 ?_
          refine z_iload_n 1 dX1_ride_76 rfl ?_
          refine z_aload_n 0 dX1_ride_77 rfl ?_
          refine z_getR dX1_ride_78 fX1_15_1 i5_3 ka5 ?_
          refine z_iload 4 dX1_ride_81 rfl ?_
          refine z_iald (r := Hd) dX1_ride_83 is30 ka30 (wHd) (by omega) ?_
          refine z_aload_n 0 dX1_ride_84 rfl ?_
          refine z_getR dX1_ride_85 fX1_31_1 i5_0 ka5 ?_
          refine z_iload 4 dX1_ride_88 rfl ?_
          refine z_aload_n 0 dX1_ride_90 rfl ?_
          refine z_getR dX1_ride_91 fX1_35_1 i5_1 ka5 ?_
          refine z_getR dX1_ride_94 fX1_70_2 i2_5 ka2 ?_
          refine z_iload_n 3 dX1_ride_97 rfl ?_
          refine z_iald (r := A) dX1_ride_98 is24 ka24 (wA) (by omega) ?_
          refine z_vI dX1_ride_99 lX1_39 (by decide) ka1 io1 rfl (ct_X3_between en (upR (upR M 32 r32_31) 33 r33_38) c wc _ _ (by omega) hc) rfl rfl (by exact Nat.le_of_ble_eq_true rfl) ?_
          have uw4 : -1 ≤ (if 1000 ≤ c (x4_70 * 8 + A x3_24) then -1 else c (x4_70 * 8 + A x3_24)) ∧ (if 1000 ≤ c (x4_70 * 8 + A x3_24) then -1 else c (x4_70 * 8 + A x3_24)) ≤ 1000 := by rw [e4_70]; split <;> omega
          refine z_nI dX1_ride_102 lX1_45 (by decide) (ct_X6_later en (upR (upR M 32 r32_31) 33 r33_38) _ _ (by omega)) rfl rfl (by exact Nat.le_of_ble_eq_true rfl) ?_
          refine z_iast' (r := r32_31) (fun r => (upR (upR M 32 r) 33 r33_38)) dX1_ride_105 is32 ka32 (rfl) (by omega) (fun _ => uu2 (by decide)) (fun r32_105 f32_105 => ?_)
          have uv5 : r32_105 p = orN (min (hA T (cW c) (A p) + cW c (8 * A p + A x3_24)) 9999) := by rw [f32_105, up_s, e4_70, uhd]; exact uy2
          have uv6 := orN_rg (v := min (hA T (cW c) (A p) + cW c (8 * A p + A x3_24)) 9999) (by omega)
          obtain ⟨uz9, uz9e⟩ : ∃ uz9, uz9 = min (hA T (cW c) (A p) + cW c (8 * A p + A x3_24)) 9999 := ⟨_, rfl⟩
          refine z_aload_n 0 dX1_ride_106 rfl ?_
          refine z_getR dX1_ride_107 fX1_22_1 i5_5 ka5 ?_
          refine z_iload_n 1 dX1_ride_110 rfl ?_
          refine z_iald (r := r32_105) dX1_ride_111 is32 ka32 (rfl) (by omega) ?_
          refine z_iconst dX1_ride_112 ?_
          refine z_icmp_ne (tgt := 117) dX1_ride_113 rfl (by omega) (fun uc113 => ?_) (fun uc113 => ?_)
          ·
            have uy9 : uz9 < 9999 ∧ r32_105 p = uz9 := by rw [uz9e]; unfold orN at uv5; split at uv5 <;> omega
            refine z_aload_n 0 dX1_ride_117 rfl ?_
            refine z_getR dX1_ride_118 fX1_22_1 i5_5 ka5 ?_
            refine z_iload_n 1 dX1_ride_121 rfl ?_
            refine z_dup2_ia dX1_ride_122 ?_
            refine z_iald (r := r32_105) dX1_ride_123 is32 ka32 (rfl) (by omega) ?_
            refine z_aload_n 0 dX1_ride_124 rfl ?_
            refine z_getR dX1_ride_125 fX1_35_1 i5_1 ka5 ?_
            refine z_getR dX1_ride_128 fX1_81_2 i2_7 ka2 ?_
            refine z_iload_n 1 dX1_ride_131 rfl ?_
            refine z_iald (r := K) dX1_ride_132 is26 ka26 (wK) (by omega) ?_
            refine z_iconst dX1_ride_133 ?_
            refine z_icmp_ne (tgt := 141) dX1_ride_134 rfl (by omega) (fun uc134 => ?_) (fun uc134 => ?_)
            ·
              refine z_iconst dX1_ride_141 ?_
              refine z_iadd dX1_ride_142 ?_
              refine z_iast' (r := r32_105) (fun r => (upR (upR M 32 r) 33 r33_38)) dX1_ride_143 is32 ka32 (rfl) (by omega) (fun _ => uu2 (by decide)) (fun r32_143 f32_143 => ?_)
              have uy7 : r32_143 p = uz9 + (if K p = 2 then 1 else 0) := by rw [f32_143, up_s, uy9.2]; (first | rw [if_pos uc134] | rw [if_neg uc134])
              have uy8 : coO T (cW c) (tP A G K H S) (O2 4) p = r32_143 p := by rw [uy7, uy1]; split <;> omega
              have uy6 : r32_143 p < 9999 ∧ 0 ≤ r32_143 p := by rw [uy7]; split <;> omega
              have uht := hH (A x3_24) (by omega) (by omega)
              have ult := hL (A x3_24) (by omega) (by omega)
              have uhs2 := hA_s hT hc (t := A x3_24) (by omega)
              have uls2 := lw_s hT hc (t := A x3_24) (by omega)
              have uor2 := orN_rg (v := hA T (cW c) (A x3_24)) (by omega)
              have uor3 := orN_rg (v := lwA T (cW c) (A x3_24)) (by omega)
              have ume := me_en hT hc hP.2 (p := p) (by omega) (by omega) uy8 uy6.1
              rw [ues] at ume
              refine z_aload_n 0 dX1_ride_144 rfl ?_
              refine z_getR dX1_ride_145 fX1_25_1 i5_6 ka5 ?_
              refine z_iload_n 1 dX1_ride_148 rfl ?_
              refine z_aload_n 0 dX1_ride_149 rfl ?_
              refine z_iload_n 1 dX1_ride_150 rfl ?_
              refine z_iload_n 3 dX1_ride_151 rfl ?_
              refine z_iload_n 2 dX1_ride_152 rfl ?_
              refine z_vI dX1_ride_153 lX1_84 (by decide) ka5 io5 rfl (ct_X1_meet en (upR (upR M 32 r32_143) 33 r33_38) A G K Hd Lw r32_143 wA wG wK wHd wLw rfl _ _ _ (by omega) (by omega) (by rw [uht, ult]; omega)) rfl rfl (by exact Nat.le_of_ble_eq_true rfl) ?_
              refine z_iast' (r := r33_38) (fun r => (upR (upR M 32 r32_143) 33 r)) dX1_ride_156 is33 ka33 (rfl) (by omega) (fun _ => uu1) (fun r33_156 f33_156 => ?_)
              have ucX : (coX T (cW c) (tP A G K H S) (O2 4) p) = r32_143 p := by unfold coX; rw [if_pos (by omega), uy8, orN_id uy6.1]
              have ueX : (enX T (cW c) (tP A G K H S) (O2 4) p) = r33_156 p := by unfold enX; rw [if_pos (by omega), ← ume, f33_156, up_s, uht, ult, hs]
              have uer := enO_rg T (cW c) (tP A G K H S) (O2 4) p
              have uer2 : 0 ≤ r33_156 p ∧ r33_156 p ≤ 3 := by rw [← ueX]; unfold enX; split <;> omega
              have uv32 : r32_143 = up C0 p (r32_143 p) := up_at (by rw [f32_143, f32_105, f32_31, up_up, up_up])
              have uv33 : r33_156 = up E0 p (r33_156 p) := up_at (by rw [f33_156, f33_38, up_up])
              refine z_aload_n 0 dX1_ride_157 rfl ?_
              refine z_getR dX1_ride_158 fX1_25_1 i5_6 ka5 ?_
              refine z_iload_n 1 dX1_ride_161 rfl ?_
              refine z_iald (r := r33_156) dX1_ride_162 is33 ka33 (rfl) (by omega) ?_
              refine z_iconst dX1_ride_163 ?_
              refine z_icmp_ne (tgt := 194) dX1_ride_164 rfl (by omega) (fun uc164 => ?_) (fun uc164 => ?_)
              ·
                exact z_vret C dX1_ride_194 rfl ⟨rfl, ⟨_, _, _, by rw [ucX]; exact uv32, by rw [ueX]; exact uv33, by rw [ueX, if_neg uc164]; simp, by rw [ueX, if_neg uc164], fun _ _ _ => rfl, upR_id wO5⟩⟩
              ·
                refine z_aload_n 0 dX1_ride_167 rfl ?_
                refine z_dup_a dX1_ride_168 ?_
                refine z_getI (r := O5) 9 rfl dX1_ride_169 fX1_52_1 i5_9 ka5 (wO5) ?_
                refine z_iconst dX1_ride_172 ?_
                refine z_iadd dX1_ride_173 ?_
                refine z_putI (r := O5) 9 rfl dX1_ride_174 pfX1_52_1 i5_9 ka5 (wO5) (fun r5_174 f5_174 => ?_)
                refine z_aload_n 0 dX1_ride_177 rfl ?_
                refine z_aload_n 0 dX1_ride_178 rfl ?_
                refine z_getI (r := r5_174) 10 rfl dX1_ride_179 fX1_55_1 i5_10 ka5 (rfl) ?_
                refine z_aload_n 0 dX1_ride_182 rfl ?_
                refine z_getR dX1_ride_183 fX1_22_1 i5_5 ka5 ?_
                refine z_iload_n 1 dX1_ride_186 rfl ?_
                refine z_iald (r := r32_143) dX1_ride_187 is32 ka32 (rfl) (by omega) ?_
                have uo10 : r5_174 10 = O5 10 := by rw [f5_174, up_n _ _ (by decide)]
                refine z_mmax dX1_ride_188 lX1_65 (by omega) (by decide) (Nat.le_of_ble_eq_true rfl) ?_
                refine z_putI' (r := r5_174) 10 rfl (fun r => (upR (upR (upR M 32 r32_143) 33 r33_156) 5 r)) dX1_ride_191 pfX1_55_1 i5_10 ka5 (rfl) (fun _ => uu1) (fun r5_191 f5_191 => ?_)
                exact z_vret C dX1_ride_194 rfl ⟨rfl, ⟨_, _, _, by rw [ucX]; exact uv32, by rw [ueX]; exact uv33, by rw [ueX, if_pos uc164, f5_191, up_n _ _ (by decide), f5_174, up_s], by rw [ueX, ucX, if_pos uc164, f5_191, up_s, f5_174, up_n _ _ (by decide)], fun uj ua ub => by rw [f5_191, up_n _ _ ub, f5_174, up_n _ _ ua], rfl⟩⟩
            ·
              refine z_iconst dX1_ride_137 ?_
              refine z_goto (tgt := 142) dX1_ride_138 rfl ?_
              refine z_iadd dX1_ride_142 ?_
              refine z_iast' (r := r32_105) (fun r => (upR (upR M 32 r) 33 r33_38)) dX1_ride_143 is32 ka32 (rfl) (by omega) (fun _ => uu2 (by decide)) (fun r32_143 f32_143 => ?_)
              have uy7 : r32_143 p = uz9 + (if K p = 2 then 1 else 0) := by rw [f32_143, up_s, uy9.2]; (first | rw [if_pos uc134] | rw [if_neg uc134])
              have uy8 : coO T (cW c) (tP A G K H S) (O2 4) p = r32_143 p := by rw [uy7, uy1]; split <;> omega
              have uy6 : r32_143 p < 9999 ∧ 0 ≤ r32_143 p := by rw [uy7]; split <;> omega
              have uht := hH (A x3_24) (by omega) (by omega)
              have ult := hL (A x3_24) (by omega) (by omega)
              have uhs2 := hA_s hT hc (t := A x3_24) (by omega)
              have uls2 := lw_s hT hc (t := A x3_24) (by omega)
              have uor2 := orN_rg (v := hA T (cW c) (A x3_24)) (by omega)
              have uor3 := orN_rg (v := lwA T (cW c) (A x3_24)) (by omega)
              have ume := me_en hT hc hP.2 (p := p) (by omega) (by omega) uy8 uy6.1
              rw [ues] at ume
              refine z_aload_n 0 dX1_ride_144 rfl ?_
              refine z_getR dX1_ride_145 fX1_25_1 i5_6 ka5 ?_
              refine z_iload_n 1 dX1_ride_148 rfl ?_
              refine z_aload_n 0 dX1_ride_149 rfl ?_
              refine z_iload_n 1 dX1_ride_150 rfl ?_
              refine z_iload_n 3 dX1_ride_151 rfl ?_
              refine z_iload_n 2 dX1_ride_152 rfl ?_
              refine z_vI dX1_ride_153 lX1_84 (by decide) ka5 io5 rfl (ct_X1_meet en (upR (upR M 32 r32_143) 33 r33_38) A G K Hd Lw r32_143 wA wG wK wHd wLw rfl _ _ _ (by omega) (by omega) (by rw [uht, ult]; omega)) rfl rfl (by exact Nat.le_of_ble_eq_true rfl) ?_
              refine z_iast' (r := r33_38) (fun r => (upR (upR M 32 r32_143) 33 r)) dX1_ride_156 is33 ka33 (rfl) (by omega) (fun _ => uu1) (fun r33_156 f33_156 => ?_)
              have ucX : (coX T (cW c) (tP A G K H S) (O2 4) p) = r32_143 p := by unfold coX; rw [if_pos (by omega), uy8, orN_id uy6.1]
              have ueX : (enX T (cW c) (tP A G K H S) (O2 4) p) = r33_156 p := by unfold enX; rw [if_pos (by omega), ← ume, f33_156, up_s, uht, ult, hs]
              have uer := enO_rg T (cW c) (tP A G K H S) (O2 4) p
              have uer2 : 0 ≤ r33_156 p ∧ r33_156 p ≤ 3 := by rw [← ueX]; unfold enX; split <;> omega
              have uv32 : r32_143 = up C0 p (r32_143 p) := up_at (by rw [f32_143, f32_105, f32_31, up_up, up_up])
              have uv33 : r33_156 = up E0 p (r33_156 p) := up_at (by rw [f33_156, f33_38, up_up])
              refine z_aload_n 0 dX1_ride_157 rfl ?_
              refine z_getR dX1_ride_158 fX1_25_1 i5_6 ka5 ?_
              refine z_iload_n 1 dX1_ride_161 rfl ?_
              refine z_iald (r := r33_156) dX1_ride_162 is33 ka33 (rfl) (by omega) ?_
              refine z_iconst dX1_ride_163 ?_
              refine z_icmp_ne (tgt := 194) dX1_ride_164 rfl (by omega) (fun uc164 => ?_) (fun uc164 => ?_)
              ·
                exact z_vret C dX1_ride_194 rfl ⟨rfl, ⟨_, _, _, by rw [ucX]; exact uv32, by rw [ueX]; exact uv33, by rw [ueX, if_neg uc164]; simp, by rw [ueX, if_neg uc164], fun _ _ _ => rfl, upR_id wO5⟩⟩
              ·
                refine z_aload_n 0 dX1_ride_167 rfl ?_
                refine z_dup_a dX1_ride_168 ?_
                refine z_getI (r := O5) 9 rfl dX1_ride_169 fX1_52_1 i5_9 ka5 (wO5) ?_
                refine z_iconst dX1_ride_172 ?_
                refine z_iadd dX1_ride_173 ?_
                refine z_putI (r := O5) 9 rfl dX1_ride_174 pfX1_52_1 i5_9 ka5 (wO5) (fun r5_174 f5_174 => ?_)
                refine z_aload_n 0 dX1_ride_177 rfl ?_
                refine z_aload_n 0 dX1_ride_178 rfl ?_
                refine z_getI (r := r5_174) 10 rfl dX1_ride_179 fX1_55_1 i5_10 ka5 (rfl) ?_
                refine z_aload_n 0 dX1_ride_182 rfl ?_
                refine z_getR dX1_ride_183 fX1_22_1 i5_5 ka5 ?_
                refine z_iload_n 1 dX1_ride_186 rfl ?_
                refine z_iald (r := r32_143) dX1_ride_187 is32 ka32 (rfl) (by omega) ?_
                have uo10 : r5_174 10 = O5 10 := by rw [f5_174, up_n _ _ (by decide)]
                refine z_mmax dX1_ride_188 lX1_65 (by omega) (by decide) (Nat.le_of_ble_eq_true rfl) ?_
                refine z_putI' (r := r5_174) 10 rfl (fun r => (upR (upR (upR M 32 r32_143) 33 r33_156) 5 r)) dX1_ride_191 pfX1_55_1 i5_10 ka5 (rfl) (fun _ => uu1) (fun r5_191 f5_191 => ?_)
                exact z_vret C dX1_ride_194 rfl ⟨rfl, ⟨_, _, _, by rw [ucX]; exact uv32, by rw [ueX]; exact uv33, by rw [ueX, if_pos uc164, f5_191, up_n _ _ (by decide), f5_174, up_s], by rw [ueX, ucX, if_pos uc164, f5_191, up_s, f5_174, up_n _ _ (by decide)], fun uj ua ub => by rw [f5_191, up_n _ _ ub, f5_174, up_n _ _ ua], rfl⟩⟩
          ·
            have uy9 : uz9 = 9999 := by rw [uz9e]; unfold orN at uv5; split at uv5 <;> omega
            have uy8 : coO T (cW c) (tP A G K H S) (O2 4) p = 9999 := by rw [uy1]; split <;> omega
            have ucX : (coX T (cW c) (tP A G K H S) (O2 4) p) = -1 := by unfold coX; rw [if_pos (by omega), uy8]; rfl
            have ueX : (enX T (cW c) (tP A G K H S) (O2 4) p) = 0 := by unfold enX; rw [if_pos (by omega)]; unfold enO enC; rw [uy8, if_pos rfl]
            have uv32 : r32_105 = up C0 p (-1) := by have uz := f32_105; rw [f32_31, up_up] at uz; rw [uz]; congr 1; have uz2 : r32_105 p = -1 := uc113; rw [f32_105, up_s] at uz2; exact uz2
            exact z_vret C dX1_ride_116 rfl ⟨rfl, ⟨O5, _, _, by rw [ucX]; exact uv32, by rw [ueX]; exact f33_38, by rw [ueX]; simp, by rw [ueX]; simp, fun _ _ _ => rfl, upR_id wO5⟩⟩
        ·
          have ucX : (coX T (cW c) (tP A G K H S) (O2 4) p) = -1 := by unfold coX; by_cases uz : p < O2 4; (rw [if_pos uz, co_no (by omega)]; rfl); rw [if_neg uz]
          have ueX : (enX T (cW c) (tP A G K H S) (O2 4) p) = 0 := by unfold enX; by_cases uz : p < O2 4; (rw [if_pos uz]; unfold enO enC; rw [co_no (by omega), if_pos rfl]); rw [if_neg uz]
          exact z_vret C dX1_ride_60 rfl ⟨rfl, ⟨O5, _, _, by rw [ucX]; exact f32_31, by rw [ueX]; exact f33_38, by rw [ueX]; simp, by rw [ueX]; simp, fun _ _ _ => rfl, upR_id wO5⟩⟩
