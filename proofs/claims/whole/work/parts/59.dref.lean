/-! the reference's digest -/
theorem it2 (A B b : Int) : itN (fun h k => 31 * h + w32 (if k = 0 then A else B)) b 2 = 31 * (31 * b + w32 A) + w32 B := by
  show 31 * (31 * b + w32 (if ((0 : Nat) : Int) = 0 then A else B)) + w32 (if ((1 : Nat) : Int) = 0 then A else B) = _
  rw [if_pos (by decide), if_neg (by decide)]
theorem cn_c {B Y T O O2 Rd P Wy Rd2 P2 Wy2 : Int → Int} {nr np nr2 np2 k : Int} (hT : tOK T) (hY : ∀ j, 0 ≤ j → j < 2 → 0 ≤ Y j ∧ Y j ≤ 47) (h : Fnd B Y nr np Rd P Wy) (h2 : Fnd B Y nr2 np2 Rd2 P2 Wy2) (e1 : O 16 = O2 16) (e2 : O 4 = O2 4) : cnO O Y T Wy P nr np k = cnO O2 Y T Wy2 P2 nr2 np2 k := by
  obtain ⟨rfl, rfl⟩ := Fnd.one h h2
  obtain ⟨g1, g2, g3, g4, g5⟩ := Fnd.rg hY h
  obtain ⟨f1, f2, f3, f4, f5⟩ := Fnd.rg hY h2
  obtain ⟨a1, a2, a3⟩ := Fnd.can hY h
  obtain ⟨b1, b2, b3⟩ := Fnd.can hY h2
  unfold cnO
  rw [e1, e2, rcS_c a2 np.toNat (by omega), rcS_c b2 np.toNat (by omega), rdn_c hT a3 g4 a2 np.toNat (by omega), rdn_c hT b3 f4 b2 np.toNat (by omega)]
theorem kp_t {M N L : zW} (h1 : kp M N) (h2 : kp N L) : kp M L := ⟨fun k a b => (h2.1 k a b).trans (h1.1 k a b), fun j a b c => (h2.2 j a b c).trans (h1.2 j a b c)⟩
set_option maxRecDepth 100000 in
theorem ct_X7_tellsTown (en : zE) (M : zW) (O : Int → Int) (P : Int → Int) (T : Int → Int) (W : Int → Int) (C0 : Int → Int) (E0 : Int → Int) (G0 : Int → Int) (wO : M 37 = O) (wP : M 45 = P) (wT : M 46 = T) (wW : M 47 = W) (wC0 : M 48 = C0) (wE0 : M 49 = E0) (wG0 : M 50 = G0) (h : Int) (t : Int) (hT : tOK T) (hW : wOK W) (hP : pOK P (O 9)) (hn : 0 ≤ O 9 ∧ O 9 ≤ 8) (ht : 0 ≤ t ∧ t ≤ 7) : Ct en kA yX7_tellsTown mX7_tellsTown [rf en 37, vl h, vi t] M (pY (fun x N => ∃ (d : Int) (r48 r49 r50 : Int → Int), x = dT T W P (O 9) h t ∧ upR (upR (upR (upR M 37 (up O 19 d)) 48 r48) 49 r49) 50 r50 = N)) := by
  refine Ct.of (by decide +kernel) rfl [(0, rf en 37), (1, vl h), (3, vi t)] rfl (Nat.le_of_ble_eq_true rfl) (fun cx C => ?_)
  refine z_ldc2 (n := 31) dX7_tellsTown_0 kX7_245 rfl ?_
  refine z_lload_n 1 dX7_tellsTown_3 rfl ?_
  refine z_lmul dX7_tellsTown_4 ?_
  refine z_aload_n 0 dX7_tellsTown_5 rfl ?_
  refine z_getR dX7_tellsTown_6 fX7_37_6 i37_12 ka37 ?_
  have uw := hW t (by omega) (by omega)
  refine z_iload_n 2 dX7_tellsTown_9 rfl ?_
  refine z_iald (r := W) dX7_tellsTown_10 is47 ka47 (wW) (by omega) ?_
  refine z_sI dX7_tellsTown_11 lX7_138 (by decide) (ct_X7_orNone en M _ (by omega)) rfl rfl (by exact Nat.le_of_ble_eq_true rfl) ?_
  refine z_i2lW dX7_tellsTown_14 ?_
  refine z_ladd dX7_tellsTown_15 ?_
  refine z_lstore (fun y => [(0, rf en 37), (1, vl h), (3, vi t), (4, vl y)]) [1, 2, 3, 0] dX7_tellsTown_16 (by decide) (fun _ => rfl) (fun x4_16 e4_16 => ?_)
  refine z_iconst dX7_tellsTown_18 ?_
  refine z_istore (fun y => [(0, rf en 37), (1, vl h), (3, vi t), (4, vl x4_16), (6, vi y)]) [1, 2, 3, 4, 0] dX7_tellsTown_19 (by decide) (fun _ => rfl) (fun x6_19 e6_19 => ?_)
  have uL21 : ∀ (fu : Nat) (x4 : Int) (x6 : Int), (3 - x6).toNat < fu → (0 ≤ x6 ∧ x6 ≤ 3 ∧ x4 = itN (fun h k => 31 * h + w32 (hBy T W t k)) (31 * h + w32 (orN (W t))) x6.toNat) → Z en kA cx mX7_tellsTown M 21 [(0, rf en 37), (1, vl h), (3, vi t), (4, vl x4), (6, vi x6)] [] := by
    intro fu
    induction fu with
    | zero => intro x4 x6 uhf; exact absurd uhf (Nat.not_lt_zero _)
    | succ fu uih21 =>
      intro x4 x6 uf21 uI21
      obtain ⟨uq1, uq2, uq3⟩ := uI21
      refine z_iload 4 dX7_tellsTown_21 rfl ?_
      refine z_iconst dX7_tellsTown_23 ?_
      refine z_icmp_ge (tgt := 50) dX7_tellsTown_24 rfl (by omega) (fun uc24 => ?_) (fun uc24 => ?_)
      ·
        refine z_ldc2 (n := 31) dX7_tellsTown_50 kX7_245 rfl ?_
        refine z_lload 3 dX7_tellsTown_53 rfl ?_
        refine z_lmul dX7_tellsTown_55 ?_
        refine z_aload_n 0 dX7_tellsTown_56 rfl ?_
        refine z_bipush dX7_tellsTown_57 rfl ?_
        refine z_iconst dX7_tellsTown_59 ?_
        refine z_iload_n 2 dX7_tellsTown_60 rfl ?_
        refine z_vX dX7_tellsTown_61 lX7_236 (by decide) ka37 io37 rfl (ct_X7_reignsOf en M O P T W C0 E0 G0 wO wP wT wW wC0 wE0 wG0 (7) (5) _ (by assumption) (by assumption) (by assumption) (by omega) (by omega)) rfl rfl (by exact Nat.le_of_ble_eq_true rfl) (fun uv61 uN61 uh61 => ?_)
        obtain ⟨ud61, r48_61, r49_61, r50_61, ue61, rfl⟩ := uh61
        refine z_i2lW dX7_tellsTown_64 ?_
        refine z_ladd dX7_tellsTown_65 ?_
        exact z_lret C dX7_tellsTown_66 rfl ⟨_, rfl, ⟨ud61, r48_61, r49_61, r50_61, by rw [ue61, uq3, show x6 = 3 by omega]; rfl, rfl⟩⟩
      ·
        refine z_ldc2 (n := 31) dX7_tellsTown_27 kX7_245 rfl ?_
        refine z_lload 3 dX7_tellsTown_30 rfl ?_
        refine z_lmul dX7_tellsTown_32 ?_
        refine z_aload_n 0 dX7_tellsTown_33 rfl ?_
        refine z_iload_n 2 dX7_tellsTown_34 rfl ?_
        refine z_iload 4 dX7_tellsTown_35 rfl ?_
        refine z_vI dX7_tellsTown_37 lX7_153 (by decide) ka37 io37 rfl (ct_X7_hearsBy en M T W wT wW _ _ (by assumption) (by assumption) (by omega) (by omega)) rfl rfl (by exact Nat.le_of_ble_eq_true rfl) ?_
        refine z_i2lW dX7_tellsTown_40 ?_
        refine z_ladd dX7_tellsTown_41 ?_
        refine z_lstore (fun y => [(0, rf en 37), (1, vl h), (3, vi t), (4, vl y), (6, vi x6)]) [1, 2, 3, 0, 4] dX7_tellsTown_42 (by decide) (fun _ => rfl) (fun x4_42 e4_42 => ?_)
        refine z_iinc (fun y => [(0, rf en 37), (1, vl h), (3, vi t), (4, vl x4_42), (6, vi y)]) [1, 2, 3, 4, 0] 4 dX7_tellsTown_44 rfl (by decide) (fun _ => rfl) (fun x6_44 e6_44 => ?_)
        refine z_goto (tgt := 21) dX7_tellsTown_47 rfl ?_
        exact uih21 x4_42 x6_44 (by omega) (⟨by omega, by omega, by rw [itN_s _ _ uq1 e6_44, ← uq3, e4_42]⟩)
  exact uL21 _ x4_16 x6_19 (Nat.lt_succ_self _) (⟨by omega, by omega, by rw [e4_16, e6_19]; rfl⟩)
set_option maxRecDepth 100000 in
set_option maxHeartbeats 2000000 in
theorem ct_X7_digest (en : zE) (M : zW) (O : Int → Int) (B : Int → Int) (Y : Int → Int) (R : Int → Int) (P : Int → Int) (T : Int → Int) (W : Int → Int) (C0 : Int → Int) (E0 : Int → Int) (G0 : Int → Int) (Sg : Int → Int) (V : Int → Int) (wO : M 37 = O) (wB : M 42 = B) (wY : M 43 = Y) (wR : M 44 = R) (wP : M 45 = P) (wT : M 46 = T) (wW : M 47 = W) (wC0 : M 48 = C0) (wE0 : M 49 = E0) (wG0 : M 50 = G0) (wSg : M 51 = Sg) (wV : M 52 = V) (hB : ∀ j, 0 ≤ j → j < 96 → 0 ≤ B j ∧ B j ≤ 255) (hY : ∀ j, 0 ≤ j → j < 2 → 0 ≤ Y j ∧ Y j ≤ 47) (hT : tOK T) (hG : ∀ j, 0 ≤ j → j < 16 → 0 ≤ Sg j ∧ Sg j ≤ 7) (ho : 0 ≤ O 16 ∧ O 16 ≤ 8) : Ct en kA yX7_digest mX7_digest [rf en 37] M (pY (fun x N => ∃ (nr np : Int) (Rd P2 Wy : Int → Int) (f0 f1 : Int), Fnd B Y nr np Rd P2 Wy ∧ rdF B (Y 0) f0 ∧ pdF (fun i => B (48 + i)) (Y 1) f1 ∧ x = dgV (cnO O Y T Wy P2 nr np) f0 f1 T Wy P2 np Rd nr [w32 (orN (crO T Wy)), w32 (knB T Wy 5 8 : Int), w32 (wns T Wy P2 np), w32 (lsO T Wy P2 np np.toNat), w32 (pcn (swS T Wy P2 np 255).toNat : Int), w32 (swS T Wy P2 np 255), w32 (plS T Wy P2 np 8).1, w32 (plS T Wy P2 np 8).2.1, w32 (ltS T Wy P2 np 10).1, w32 (ltS T Wy P2 np 10).2, w32 (fiS T Wy P2 np Sg (O 16).toNat 2 10 : Int), w32 (fiS T Wy P2 np Sg (O 16).toNat 0 8 : Int), w32 (akO T Wy P2 np Sg (O 16).toNat), otV T Rd nr.toNat 5 3 9 0, otV T Rd nr.toNat 5 3 9 1, w32 (rgS T Wy P2 np 7 (-1) 5)] ∧ kp M N)) := by
  refine Ct.of (by decide +kernel) rfl [(0, rf en 37)] rfl (Nat.le_of_ble_eq_true rfl) (fun cx C => ?_)
  refine z_ldc2 (n := 17) dX7_digest_0 kX7_247 rfl ?_
  refine z_lstore_n (fun y => [(0, rf en 37), (1, vl y)]) [1, 0] dX7_digest_3 (by decide) (fun _ => rfl) (fun x1_3 e1_3 => ?_)
  refine z_iconst dX7_digest_4 ?_
  refine z_istore_n (fun y => [(0, rf en 37), (1, vl x1_3), (3, vi y)]) [1, 2, 0] dX7_digest_5 (by decide) (fun _ => rfl) (fun x3_5 e3_5 => ?_)
  have uL6 : ∀ (fu : Nat) (x1 : Int) (x3 : Int) (N6 : zW), (8 - x3).toNat < fu → (0 ≤ x3 ∧ x3 ≤ 8 ∧ kp M N6 ∧ (∀ (nr np : Int) (Rd P2 Wy : Int → Int), Fnd B Y nr np Rd P2 Wy → x1 = itN (fun h k => 31 * h + w32 (cnO O Y T Wy P2 nr np k)) 17 x3.toNat)) → Z en kA cx mX7_digest N6 6 [(0, rf en 37), (1, vl x1), (3, vi x3)] [] := by
    intro fu
    induction fu with
    | zero => intro x1 x3 N6 uhf; exact absurd uhf (Nat.not_lt_zero _)
    | succ fu uih6 =>
      intro x1 x3 N6 uf6 uI6
      obtain ⟨uq1, uq2, ukN6, uq3⟩ := uI6
      refine z_iload_n 2 dX7_digest_6 rfl ?_
      refine z_bipush dX7_digest_7 rfl ?_
      refine z_icmp_ge (tgt := 31) dX7_digest_9 rfl (by omega) (fun uc9 => ?_) (fun uc9 => ?_)
      ·
        refine z_ldc2 (n := 31) dX7_digest_31 kX7_245 rfl ?_
        refine z_lload_n 1 dX7_digest_34 rfl ?_
        refine z_lmul dX7_digest_35 ?_
        refine z_aload_n 0 dX7_digest_36 rfl ?_
        refine z_vX dX7_digest_37 lX7_103 (by decide) ka37 io37 rfl (ct_X7_readsRoads en N6 (N6 37) B Y (N6 44) rfl (((ukN6.1 42 (by decide) (by decide)).trans wB)) (((ukN6.1 43 (by decide) (by decide)).trans wY)) rfl (hB) (hY)) rfl rfl (by exact Nat.le_of_ble_eq_true rfl) (fun uv37 uN37 uh37 => ?_)
        obtain ⟨r44_37, uff37, -, rfl⟩ := uh37
        refine z_i2lW dX7_digest_40 ?_
        refine z_ladd dX7_digest_41 ?_
        refine z_lstore_n (fun y => [(0, rf en 37), (1, vl y), (3, vi x3)]) [1, 0, 2] dX7_digest_42 (by decide) (fun _ => rfl) (fun x1_42 e1_42 => ?_)
        refine z_ldc2 (n := 31) dX7_digest_43 kX7_245 rfl ?_
        refine z_lload_n 1 dX7_digest_46 rfl ?_
        refine z_lmul dX7_digest_47 ?_
        refine z_aload_n 0 dX7_digest_48 rfl ?_
        refine z_vX dX7_digest_49 lX7_107 (by decide) ka37 io37 rfl (ct_X7_readsPersons en (upR (upR N6 37 (up (N6 37) 7 (rCnt (Y 0) uv37))) 44 r44_37) (up (N6 37) 7 (rCnt (Y 0) uv37)) B Y (N6 45) rfl (((ukN6.1 42 (by decide) (by decide)).trans wB)) (((ukN6.1 43 (by decide) (by decide)).trans wY)) rfl (hB) (hY)) rfl rfl (by exact Nat.le_of_ble_eq_true rfl) (fun uv49 uN49 uh49 => ?_)
        obtain ⟨r45_49, uff49, -, rfl⟩ := uh49
        rw [uu2 (a := 37) (b0 := 44) (by decide)]
        refine z_i2lW dX7_digest_52 ?_
        refine z_ladd dX7_digest_53 ?_
        refine z_lstore_n (fun y => [(0, rf en 37), (1, vl y), (3, vi x3)]) [1, 0, 2] dX7_digest_54 (by decide) (fun _ => rfl) (fun x1_54 e1_54 => ?_)
        refine z_aload_n 0 dX7_digest_55 rfl ?_
        refine z_vN dX7_digest_56 lX7_132 (by decide) ka37 io37 rfl (ct_X7_find en (upR (upR (upR N6 37 (up (up (N6 37) 7 (rCnt (Y 0) uv37)) 9 (pCnt (Y 1) uv49))) 44 r44_37) 45 r45_49) (up (up (N6 37) 7 (rCnt (Y 0) uv37)) 9 (pCnt (Y 1) uv49)) B Y r44_37 r45_49 (N6 47) rfl (((ukN6.1 42 (by decide) (by decide)).trans wB)) (((ukN6.1 43 (by decide) (by decide)).trans wY)) rfl rfl rfl (hB) (hY)) rfl rfl (by exact Nat.le_of_ble_eq_true rfl) (fun uN56 uh56 => ?_)
        obtain ⟨unr, unp, r44_56, r45_56, r47_56, uF, rfl⟩ := uh56
        obtain ⟨uF1, uF2, uF3, uF4, uF5⟩ := Fnd.rg hY uF
        obtain ⟨r37_56, uf37⟩ : ∃ ur : Int → Int, ur = up (up (up (up (N6 37) 7 (rCnt (Y 0) uv37)) 9 (pCnt (Y 1) uv49)) 7 unr) 9 unp := ⟨_, rfl⟩
        rw [uu3 (a := 37) (b0 := 44) (b1 := 45) (by decide) (by decide)]
        rw [uu2 (a := 44) (b0 := 45) (by decide)]
        rw [uu1 (a := 45)]
        rw [← uf37]
        have ua9 : r37_56 9 = unp := by rw [uf37, up_s]
        have ua7 : r37_56 7 = unr := by rw [uf37, up_n _ _ (by decide), up_s]
        have uak : ∀ uj, uj ≠ 7 → uj ≠ 9 → r37_56 uj = N6 37 uj := fun uj ua ub => by rw [uf37, up_n _ _ ub, up_n _ _ ua, up_n _ _ ub, up_n _ _ ua]
        have uF6 := Fnd.at uF
        refine z_iconst dX7_digest_59 ?_
        refine z_istore_n (fun y => [(0, rf en 37), (1, vl x1_54), (3, vi y)]) [1, 2, 0] dX7_digest_60 (by decide) (fun _ => rfl) (fun x3_60 e3_60 => ?_)
        have uL61 : ∀ (fu : Nat) (y1 : Int) (y3 : Int) (r37 : Int → Int) (q48 : Int → Int) (q49 : Int → Int) (q50 : Int → Int), (8 - y3).toNat < fu → (0 ≤ y3 ∧ y3 ≤ 8 ∧ (∀ j, j ≠ 19 → r37 j = r37_56 j) ∧ y1 = itN (dT T r47_56 r45_56 unp) x1_54 y3.toNat) → Z en kA cx mX7_digest (upR (upR (upR (upR (upR (upR (upR N6 37 r37) 44 r44_56) 45 r45_56) 47 r47_56) 48 q48) 49 q49) 50 q50) 61 [(0, rf en 37), (1, vl y1), (3, vi y3)] [] := by
          intro fu
          induction fu with
          | zero => intro y1 y3 r37 q48 q49 q50 uhf; exact absurd uhf (Nat.not_lt_zero _)
          | succ fu uih61 =>
            intro y1 y3 r37 q48 q49 q50 uf61 uI61
            obtain ⟨uq4, uq5, uq6, uq7⟩ := uI61
            have uo9 : r37 9 = unp := (uq6 9 (by decide)).trans ua9
            have uo7 : r37 7 = unr := (uq6 7 (by decide)).trans ua7
            have uo16 : r37 16 = O 16 := by rw [uq6 16 (by decide), uak 16 (by decide) (by decide), ukN6.2 16 (by decide) (by decide) (by decide), wO]
            have uF4b : pOK r45_56 (r37 9) := by rw [uo9]; exact uF4
            have uF2b : 0 ≤ r37 9 ∧ r37 9 ≤ 8 := by rw [uo9]; exact uF2
            refine z_iload_n 2 dX7_digest_61 rfl ?_
            refine z_bipush dX7_digest_62 rfl ?_
            refine z_icmp_ge (tgt := 80) dX7_digest_64 rfl (by omega) (fun uc64 => ?_) (fun uc64 => ?_)
            ·
              refine z_iconst dX7_digest_80 ?_
              refine z_istore_n (fun y => [(0, rf en 37), (1, vl y1), (3, vi y)]) [1, 2, 0] dX7_digest_81 (by decide) (fun _ => rfl) (fun x3_81 e3_81 => ?_)
              have uL82 : ∀ (fu : Nat) (z1 : Int) (z3 : Int), (12 - z3).toNat < fu → (0 ≤ z3 ∧ z3 ≤ unr ∧ z1 = itN (dR r44_56) y1 z3.toNat) → Z en kA cx mX7_digest (upR (upR (upR (upR (upR (upR (upR N6 37 r37) 44 r44_56) 45 r45_56) 47 r47_56) 48 q48) 49 q49) 50 q50) 82 [(0, rf en 37), (1, vl z1), (3, vi z3)] [] := by
                intro fu
                induction fu with
                | zero => intro z1 z3 uhf; exact absurd uhf (Nat.not_lt_zero _)
                | succ fu uih82 =>
                  intro z1 z3 uf82 uI82
                  obtain ⟨uq82a, uq82b, uq82c⟩ := uI82
                  refine z_iload_n 2 dX7_digest_82 rfl ?_
                  refine z_aload_n 0 dX7_digest_83 rfl ?_
                  refine z_getI (r := r37) 7 rfl dX7_digest_84 fX7_91_6 i37_7 ka37 (rfl) ?_
                  refine z_icmp_ge (tgt := 130) dX7_digest_87 rfl (by omega) (fun uc87 => ?_) (fun uc87 => ?_)
                  ·
                    refine z_iconst dX7_digest_130 ?_
                    refine z_istore_n (fun y => [(0, rf en 37), (1, vl z1), (3, vi y)]) [1, 2, 0] dX7_digest_131 (by decide) (fun _ => rfl) (fun x3_131 e3_131 => ?_)
                    have uL132 : ∀ (fu : Nat) (p1 : Int) (p3 : Int) (q48p : Int → Int) (q49p : Int → Int) (q50p : Int → Int), (8 - p3).toNat < fu → (0 ≤ p3 ∧ p3 ≤ unp ∧ p1 = itN (dP T r47_56 r45_56 unp) z1 p3.toNat) → Z en kA cx mX7_digest (upR (upR (upR (upR (upR (upR (upR N6 37 r37) 44 r44_56) 45 r45_56) 47 r47_56) 48 q48p) 49 q49p) 50 q50p) 132 [(0, rf en 37), (1, vl p1), (3, vi p3)] [] := by
                      intro fu
                      induction fu with
                      | zero => intro p1 p3 q48p q49p q50p uhf; exact absurd uhf (Nat.not_lt_zero _)
                      | succ fu uih132 =>
                        intro p1 p3 q48p q49p q50p uf132 uI132
                        obtain ⟨uq132a, uq132b, uq132c⟩ := uI132
                        refine z_iload_n 2 dX7_digest_132 rfl ?_
                        refine z_aload_n 0 dX7_digest_133 rfl ?_
                        refine z_getI (r := r37) 9 rfl dX7_digest_134 fX7_97_6 i37_9 ka37 (rfl) ?_
                        refine z_icmp_ge (tgt := 214) dX7_digest_137 rfl (by omega) (fun uc137 => ?_) (fun uc137 => ?_)
                        ·
                          refine z_ldc2 (n := 31) dX7_digest_214 kX7_245 rfl ?_
                          refine z_lload_n 1 dX7_digest_217 rfl ?_
                          refine z_lmul dX7_digest_218 ?_
                          refine z_aload_n 0 dX7_digest_219 rfl ?_
                          refine z_vI dX7_digest_220 lX7_144 (by decide) ka37 io37 rfl (ct_X7_crownedOn en (upR (upR (upR (upR (upR (upR (upR N6 37 r37) 44 r44_56) 45 r45_56) 47 r47_56) 48 q48p) 49 q49p) 50 q50p) T r47_56 (((ukN6.1 46 (by decide) (by decide)).trans wT)) rfl hT uF5) rfl rfl (by exact Nat.le_of_ble_eq_true rfl) ?_
                          have ucr := crO_rg hT uF5
                          refine z_sI dX7_digest_223 lX7_138 (by decide) (ct_X7_orNone en (upR (upR (upR (upR (upR (upR (upR N6 37 r37) 44 r44_56) 45 r45_56) 47 r47_56) 48 q48p) 49 q49p) 50 q50p) _ (by omega)) rfl rfl (by exact Nat.le_of_ble_eq_true rfl) ?_
                          refine z_i2lW dX7_digest_226 ?_
                          refine z_ladd dX7_digest_227 ?_
                          refine z_lstore_n (fun y => [(0, rf en 37), (1, vl y), (3, vi p3)]) [1, 0, 2] dX7_digest_228 (by decide) (fun _ => rfl) (fun x1_228 e1_228 => ?_)
                          refine z_ldc2 (n := 31) dX7_digest_229 kX7_245 rfl ?_
                          refine z_lload_n 1 dX7_digest_232 rfl ?_
                          refine z_lmul dX7_digest_233 ?_
                          refine z_aload_n 0 dX7_digest_234 rfl ?_
                          refine z_iconst dX7_digest_235 ?_
                          refine z_vI dX7_digest_236 lX7_158 (by decide) ka37 io37 rfl (ct_X7_knewBy en (upR (upR (upR (upR (upR (upR (upR N6 37 r37) 44 r44_56) 45 r45_56) 47 r47_56) 48 q48p) 49 q49p) 50 q50p) T r47_56 (((ukN6.1 46 (by decide) (by decide)).trans wT)) rfl (5) hT uF5 (by omega)) rfl rfl (by exact Nat.le_of_ble_eq_true rfl) ?_
                          refine z_i2lW dX7_digest_239 ?_
                          refine z_ladd dX7_digest_240 ?_
                          refine z_lstore_n (fun y => [(0, rf en 37), (1, vl y), (3, vi p3)]) [1, 0, 2] dX7_digest_241 (by decide) (fun _ => rfl) (fun x1_241 e1_241 => ?_)
                          refine z_iconst dX7_digest_242 ?_
                          refine z_istore_n (fun y => [(0, rf en 37), (1, vl x1_241), (3, vi y)]) [1, 2, 0] dX7_digest_243 (by decide) (fun _ => rfl) (fun x3_243 e3_243 => ?_)
                          have uL244 : ∀ (fu : Nat) (a244 : Int) (k244 : Int) (q48a : Int → Int) (q49a : Int → Int) (q50a : Int → Int), (2 - k244).toNat < fu → (0 ≤ k244 ∧ k244 ≤ 2 ∧ a244 = itN (fun h k => 31 * h + w32 (if k = 0 then wns T r47_56 r45_56 unp else lsO T r47_56 r45_56 unp unp.toNat)) x1_241 k244.toNat) → Z en kA cx mX7_digest (upR (upR (upR (upR (upR (upR (upR N6 37 r37) 44 r44_56) 45 r45_56) 47 r47_56) 48 q48a) 49 q49a) 50 q50a) 244 [(0, rf en 37), (1, vl a244), (3, vi k244)] [] := by
                            intro fu
                            induction fu with
                            | zero => intro a244 k244 q48a q49a q50a uhf; exact absurd uhf (Nat.not_lt_zero _)
                            | succ fu uih244 =>
                              intro a244 k244 q48a q49a q50a uf244 uI244
                              obtain ⟨uq244a, uq244b, uq244c⟩ := uI244
                              refine z_iload_n 2 dX7_digest_244 rfl ?_
                              refine z_iconst dX7_digest_245 ?_
                              refine z_icmp_ge (tgt := 268) dX7_digest_246 rfl (by omega) (fun uc246 => ?_) (fun uc246 => ?_)
                              ·
                                refine z_iconst dX7_digest_268 ?_
                                refine z_istore_n (fun y => [(0, rf en 37), (1, vl a244), (3, vi y)]) [1, 2, 0] dX7_digest_269 (by decide) (fun _ => rfl) (fun x3_269 e3_269 => ?_)
                                have uL270 : ∀ (fu : Nat) (a270 : Int) (k270 : Int) (q48b : Int → Int) (q49b : Int → Int) (q50b : Int → Int), (2 - k270).toNat < fu → (0 ≤ k270 ∧ k270 ≤ 2 ∧ a270 = itN (fun h k => 31 * h + w32 (if k = 0 then (pcn (swS T r47_56 r45_56 unp 255).toNat : Int) else swS T r47_56 r45_56 unp 255)) a244 k270.toNat) → Z en kA cx mX7_digest (upR (upR (upR (upR (upR (upR (upR N6 37 r37) 44 r44_56) 45 r45_56) 47 r47_56) 48 q48b) 49 q49b) 50 q50b) 270 [(0, rf en 37), (1, vl a270), (3, vi k270)] [] := by
                                  intro fu
                                  induction fu with
                                  | zero => intro a270 k270 q48b q49b q50b uhf; exact absurd uhf (Nat.not_lt_zero _)
                                  | succ fu uih270 =>
                                    intro a270 k270 q48b q49b q50b uf270 uI270
                                    obtain ⟨uq270a, uq270b, uq270c⟩ := uI270
                                    refine z_iload_n 2 dX7_digest_270 rfl ?_
                                    refine z_iconst dX7_digest_271 ?_
                                    refine z_icmp_ge (tgt := 294) dX7_digest_272 rfl (by omega) (fun uc272 => ?_) (fun uc272 => ?_)
                                    ·
                                      refine z_iconst dX7_digest_294 ?_
                                      refine z_istore_n (fun y => [(0, rf en 37), (1, vl a270), (3, vi y)]) [1, 2, 0] dX7_digest_295 (by decide) (fun _ => rfl) (fun x3_295 e3_295 => ?_)
                                      have uL296 : ∀ (fu : Nat) (a296 : Int) (k296 : Int) (q48c : Int → Int) (q49c : Int → Int) (q50c : Int → Int), (2 - k296).toNat < fu → (0 ≤ k296 ∧ k296 ≤ 2 ∧ a296 = itN (fun h k => 31 * h + w32 (if k = 0 then (plS T r47_56 r45_56 unp 8).1 else (plS T r47_56 r45_56 unp 8).2.1)) a270 k296.toNat) → Z en kA cx mX7_digest (upR (upR (upR (upR (upR (upR (upR N6 37 r37) 44 r44_56) 45 r45_56) 47 r47_56) 48 q48c) 49 q49c) 50 q50c) 296 [(0, rf en 37), (1, vl a296), (3, vi k296)] [] := by
                                        intro fu
                                        induction fu with
                                        | zero => intro a296 k296 q48c q49c q50c uhf; exact absurd uhf (Nat.not_lt_zero _)
                                        | succ fu uih296 =>
                                          intro a296 k296 q48c q49c q50c uf296 uI296
                                          obtain ⟨uq296a, uq296b, uq296c⟩ := uI296
                                          refine z_iload_n 2 dX7_digest_296 rfl ?_
                                          refine z_iconst dX7_digest_297 ?_
                                          refine z_icmp_ge (tgt := 320) dX7_digest_298 rfl (by omega) (fun uc298 => ?_) (fun uc298 => ?_)
                                          ·
                                            refine z_iconst dX7_digest_320 ?_
                                            refine z_istore_n (fun y => [(0, rf en 37), (1, vl a296), (3, vi y)]) [1, 2, 0] dX7_digest_321 (by decide) (fun _ => rfl) (fun x3_321 e3_321 => ?_)
                                            have uL322 : ∀ (fu : Nat) (a322 : Int) (k322 : Int) (q48d : Int → Int) (q49d : Int → Int) (q50d : Int → Int), (2 - k322).toNat < fu → (0 ≤ k322 ∧ k322 ≤ 2 ∧ a322 = itN (fun h k => 31 * h + w32 (if k = 0 then (ltS T r47_56 r45_56 unp 10).1 else (ltS T r47_56 r45_56 unp 10).2)) a296 k322.toNat) → Z en kA cx mX7_digest (upR (upR (upR (upR (upR (upR (upR N6 37 r37) 44 r44_56) 45 r45_56) 47 r47_56) 48 q48d) 49 q49d) 50 q50d) 322 [(0, rf en 37), (1, vl a322), (3, vi k322)] [] := by
                                              intro fu
                                              induction fu with
                                              | zero => intro a322 k322 q48d q49d q50d uhf; exact absurd uhf (Nat.not_lt_zero _)
                                              | succ fu uih322 =>
                                                intro a322 k322 q48d q49d q50d uf322 uI322
                                                obtain ⟨uq322a, uq322b, uq322c⟩ := uI322
                                                refine z_iload_n 2 dX7_digest_322 rfl ?_
                                                refine z_iconst dX7_digest_323 ?_
                                                refine z_icmp_ge (tgt := 346) dX7_digest_324 rfl (by omega) (fun uc324 => ?_) (fun uc324 => ?_)
                                                ·
                                                  refine z_iconst dX7_digest_346 ?_
                                                  refine z_istore_n (fun y => [(0, rf en 37), (1, vl a322), (3, vi y)]) [1, 2, 0] dX7_digest_347 (by decide) (fun _ => rfl) (fun x3_347 e3_347 => ?_)
                                                  have uL348 : ∀ (fu : Nat) (a348 : Int) (k348 : Int) (q48e : Int → Int) (q49e : Int → Int) (q50e : Int → Int), (2 - k348).toNat < fu → (0 ≤ k348 ∧ k348 ≤ 2 ∧ a348 = itN (fun h k => 31 * h + w32 (if k = 0 then (fiS T r47_56 r45_56 unp Sg (O 16).toNat 2 10 : Int) else (fiS T r47_56 r45_56 unp Sg (O 16).toNat 0 8 : Int))) a322 k348.toNat) → Z en kA cx mX7_digest (upR (upR (upR (upR (upR (upR (upR N6 37 r37) 44 r44_56) 45 r45_56) 47 r47_56) 48 q48e) 49 q49e) 50 q50e) 348 [(0, rf en 37), (1, vl a348), (3, vi k348)] [] := by
                                                    intro fu
                                                    induction fu with
                                                    | zero => intro a348 k348 q48e q49e q50e uhf; exact absurd uhf (Nat.not_lt_zero _)
                                                    | succ fu uih348 =>
                                                      intro a348 k348 q48e q49e q50e uf348 uI348
                                                      obtain ⟨uq348a, uq348b, uq348c⟩ := uI348
                                                      refine z_iload_n 2 dX7_digest_348 rfl ?_
                                                      refine z_iconst dX7_digest_349 ?_
                                                      refine z_icmp_ge (tgt := 372) dX7_digest_350 rfl (by omega) (fun uc350 => ?_) (fun uc350 => ?_)
                                                      ·
                                                        refine z_ldc2 (n := 31) dX7_digest_372 kX7_245 rfl ?_
                                                        refine z_lload_n 1 dX7_digest_375 rfl ?_
                                                        refine z_lmul dX7_digest_376 ?_
                                                        refine z_aload_n 0 dX7_digest_377 rfl ?_
                                                        refine z_vX dX7_digest_378 lX7_210 (by decide) ka37 io37 rfl (ct_X7_askNow en (upR (upR (upR (upR (upR (upR (upR N6 37 r37) 44 r44_56) 45 r45_56) 47 r47_56) 48 q48e) 49 q49e) 50 q50e) r37 r45_56 T r47_56 q48e q49e q50e Sg (N6 52) rfl rfl (((ukN6.1 46 (by decide) (by decide)).trans wT)) rfl rfl rfl rfl (((ukN6.1 51 (by decide) (by decide)).trans wSg)) rfl hT uF5 uF4b uF2b hG (by omega)) rfl rfl (by exact Nat.le_of_ble_eq_true rfl) (fun uv378 uN378 uh378 => ?_)
                                                        obtain ⟨r48_378, r49_378, r50_378, r52_378, uw_378, rfl⟩ := uh378
                                                        have ue378 : uv378 = akO T r47_56 r45_56 unp Sg (O 16).toNat := by rw [uo9, uo16] at uw_378; exact uw_378
                                                        subst ue378
                                                        rw [uu3 (a := 48) (b0 := 49) (b1 := 50) (by decide) (by decide)]
                                                        rw [uu2 (a := 49) (b0 := 50) (by decide)]
                                                        rw [uu1 (a := 50)]
                                                        refine z_i2lW dX7_digest_381 ?_
                                                        refine z_ladd dX7_digest_382 ?_
                                                        refine z_lstore_n (fun y => [(0, rf en 37), (1, vl y), (3, vi k348)]) [1, 0, 2] dX7_digest_383 (by decide) (fun _ => rfl) (fun x1_383 e1_383 => ?_)
                                                        refine z_ldc2 (n := 31) dX7_digest_384 kX7_245 rfl ?_
                                                        refine z_lload_n 1 dX7_digest_387 rfl ?_
                                                        refine z_lmul dX7_digest_388 ?_
                                                        refine z_aload_n 0 dX7_digest_389 rfl ?_
                                                        refine z_iconst dX7_digest_390 ?_
                                                        refine z_iconst dX7_digest_391 ?_
                                                        refine z_bipush dX7_digest_392 rfl ?_
                                                        refine z_iconst dX7_digest_394 ?_
                                                        refine z_vJ dX7_digest_395 lX7_219 (by decide) ka37 io37 rfl (ct_X7_outOf en (upR (upR (upR (upR (upR (upR (upR (upR N6 37 r37) 44 r44_56) 45 r45_56) 47 r47_56) 48 r48_378) 49 r49_378) 50 r50_378) 52 r52_378) r37 r44_56 T r47_56 rfl rfl (((ukN6.1 46 (by decide) (by decide)).trans wT)) rfl (5) (3) (9) (0) hT (by rw [uo7]; exact uF3) (by omega) (by rw [uo7]; exact uF6) (by decide)) rfl rfl (by exact Nat.le_of_ble_eq_true rfl) ?_
                                                        refine z_ladd dX7_digest_398 ?_
                                                        refine z_lstore_n (fun y => [(0, rf en 37), (1, vl y), (3, vi k348)]) [1, 0, 2] dX7_digest_399 (by decide) (fun _ => rfl) (fun x1_399 e1_399 => ?_)
                                                        refine z_ldc2 (n := 31) dX7_digest_400 kX7_245 rfl ?_
                                                        refine z_lload_n 1 dX7_digest_403 rfl ?_
                                                        refine z_lmul dX7_digest_404 ?_
                                                        refine z_aload_n 0 dX7_digest_405 rfl ?_
                                                        refine z_iconst dX7_digest_406 ?_
                                                        refine z_iconst dX7_digest_407 ?_
                                                        refine z_bipush dX7_digest_408 rfl ?_
                                                        refine z_iconst dX7_digest_410 ?_
                                                        refine z_vJ dX7_digest_411 lX7_219 (by decide) ka37 io37 rfl (ct_X7_outOf en (upR (upR (upR (upR (upR (upR (upR (upR N6 37 r37) 44 r44_56) 45 r45_56) 47 r47_56) 48 r48_378) 49 r49_378) 50 r50_378) 52 r52_378) r37 r44_56 T r47_56 rfl rfl (((ukN6.1 46 (by decide) (by decide)).trans wT)) rfl (5) (3) (9) (1) hT (by rw [uo7]; exact uF3) (by omega) (by rw [uo7]; exact uF6) (by decide)) rfl rfl (by exact Nat.le_of_ble_eq_true rfl) ?_
                                                        refine z_ladd dX7_digest_414 ?_
                                                        refine z_lstore_n (fun y => [(0, rf en 37), (1, vl y), (3, vi k348)]) [1, 0, 2] dX7_digest_415 (by decide) (fun _ => rfl) (fun x1_415 e1_415 => ?_)
                                                        refine z_ldc2 (n := 31) dX7_digest_416 kX7_245 rfl ?_
                                                        refine z_lload_n 1 dX7_digest_419 rfl ?_
                                                        refine z_lmul dX7_digest_420 ?_
                                                        refine z_aload_n 0 dX7_digest_421 rfl ?_
                                                        refine z_bipush dX7_digest_422 rfl ?_
                                                        refine z_iconst dX7_digest_424 ?_
                                                        refine z_iconst dX7_digest_425 ?_
                                                        refine z_vX dX7_digest_426 lX7_236 (by decide) ka37 io37 rfl (ct_X7_reignsOf en (upR (upR (upR (upR (upR (upR (upR (upR N6 37 r37) 44 r44_56) 45 r45_56) 47 r47_56) 48 r48_378) 49 r49_378) 50 r50_378) 52 r52_378) r37 r45_56 T r47_56 r48_378 r49_378 r50_378 rfl rfl (((ukN6.1 46 (by decide) (by decide)).trans wT)) rfl rfl rfl rfl (7) (5) (-1) hT uF5 uF4b uF2b (by decide)) rfl rfl (by exact Nat.le_of_ble_eq_true rfl) (fun uv426 uN426 uh426 => ?_)
                                                        obtain ⟨ud426, r48_426, r49_426, r50_426, ue426, rfl⟩ := uh426
                                                        rw [uu8 (a := 37) (b0 := 44) (b1 := 45) (b2 := 47) (b3 := 48) (b4 := 49) (b5 := 50) (b6 := 52) (by decide) (by decide) (by decide) (by decide) (by decide) (by decide) (by decide)]
                                                        rw [uu4 (a := 48) (b0 := 49) (b1 := 50) (b2 := 52) (by decide) (by decide) (by decide)]
                                                        rw [uu3 (a := 49) (b0 := 50) (b1 := 52) (by decide) (by decide)]
                                                        rw [uu2 (a := 50) (b0 := 52) (by decide)]
                                                        have uk37 : ∀ uj, uj ≠ 7 → uj ≠ 9 → uj ≠ 19 → (up r37 19 ud426) uj = M 37 uj := fun uj ua ub uc => by rw [up_n _ _ uc, uq6 uj uc, uak uj ua ub]; exact ukN6.2 uj ua ub uc
                                                        have ufin : 31 * x1_415 + w32 uv426 = dgV (cnO O Y T r47_56 r45_56 unr unp) uv37 uv49 T r47_56 r45_56 unp r44_56 unr [w32 (orN (crO T r47_56)), w32 (knB T r47_56 5 8 : Int), w32 (wns T r47_56 r45_56 unp), w32 (lsO T r47_56 r45_56 unp unp.toNat), w32 (pcn (swS T r47_56 r45_56 unp 255).toNat : Int), w32 (swS T r47_56 r45_56 unp 255), w32 (plS T r47_56 r45_56 unp 8).1, w32 (plS T r47_56 r45_56 unp 8).2.1, w32 (ltS T r47_56 r45_56 unp 10).1, w32 (ltS T r47_56 r45_56 unp 10).2, w32 (fiS T r47_56 r45_56 unp Sg (O 16).toNat 2 10 : Int), w32 (fiS T r47_56 r45_56 unp Sg (O 16).toNat 0 8 : Int), w32 (akO T r47_56 r45_56 unp Sg (O 16).toNat), otV T r44_56 unr.toNat 5 3 9 0, otV T r44_56 unr.toNat 5 3 9 1, w32 (rgS T r47_56 r45_56 unp 7 (-1) 5)] := by rw [ue426, e1_415, e1_399, e1_383, uq348c, show k348.toNat = 2 by omega, it2, uq322c, show k322.toNat = 2 by omega, it2, uq296c, show k296.toNat = 2 by omega, it2, uq270c, show k270.toNat = 2 by omega, it2, uq244c, show k244.toNat = 2 by omega, it2, e1_241, e1_228, uq132c, show p3 = unp by omega, uq82c, show z3 = unr by omega, uq7, show y3.toNat = 8 by omega, e1_54, e1_42, uq3 _ _ _ _ _ uF, show x3.toNat = 8 by omega, uo9, uo7]; rfl
                                                        refine z_i2lW dX7_digest_429 ?_
                                                        refine z_ladd dX7_digest_430 ?_
                                                        exact z_lret C dX7_digest_431 rfl ⟨_, rfl, ⟨unr, unp, r44_56, r45_56, r47_56, uv37, uv49, uF, uff37, uff49, ufin, (kp_u (by decide) (kp_u (by decide) (kp_u (by decide) (kp_u (by decide) (kp_u (by decide) (kp_u (by decide) (kp_u (by decide) (kp_37 uk37 ukN6))))))))⟩⟩
                                                      ·
                                                        refine z_ldc2 (n := 31) dX7_digest_353 kX7_245 rfl ?_
                                                        refine z_lload_n 1 dX7_digest_356 rfl ?_
                                                        refine z_lmul dX7_digest_357 ?_
                                                        refine z_aload_n 0 dX7_digest_358 rfl ?_
                                                        refine z_iload_n 2 dX7_digest_359 rfl ?_
                                                        refine z_vX dX7_digest_360 lX7_204 (by decide) ka37 io37 rfl (ct_X7_fitsBy en (upR (upR (upR (upR (upR (upR (upR N6 37 r37) 44 r44_56) 45 r45_56) 47 r47_56) 48 q48e) 49 q49e) 50 q50e) r37 r45_56 T r47_56 q48e q49e q50e Sg rfl rfl (((ukN6.1 46 (by decide) (by decide)).trans wT)) rfl rfl rfl rfl (((ukN6.1 51 (by decide) (by decide)).trans wSg)) _ hT uF5 uF4b uF2b hG (by omega) (by omega)) rfl rfl (by exact Nat.le_of_ble_eq_true rfl) (fun uv360 uN360 uh360 => ?_)
                                                        obtain ⟨r48_360, r49_360, r50_360, uw_360, rfl⟩ := uh360
                                                        have ue360 : uv360 = (if k348 = 0 then (fiS T r47_56 r45_56 unp Sg (O 16).toNat 2 10 : Int) else (fiS T r47_56 r45_56 unp Sg (O 16).toNat 0 8 : Int)) := by rw [uo9, uo16] at uw_360; exact uw_360
                                                        subst ue360
                                                        rw [uu3 (a := 48) (b0 := 49) (b1 := 50) (by decide) (by decide)]
                                                        rw [uu2 (a := 49) (b0 := 50) (by decide)]
                                                        rw [uu1 (a := 50)]
                                                        refine z_i2lW dX7_digest_363 ?_
                                                        refine z_ladd dX7_digest_364 ?_
                                                        refine z_lstore_n (fun y => [(0, rf en 37), (1, vl y), (3, vi k348)]) [1, 0, 2] dX7_digest_365 (by decide) (fun _ => rfl) (fun x1_365 e1_365 => ?_)
                                                        refine z_iinc (fun y => [(0, rf en 37), (1, vl x1_365), (3, vi y)]) [1, 2, 0] 2 dX7_digest_366 rfl (by decide) (fun _ => rfl) (fun x3_366 e3_366 => ?_)
                                                        refine z_goto (tgt := 348) dX7_digest_369 rfl ?_
                                                        exact uih348 x1_365 x3_366 r48_360 r49_360 r50_360 (by omega) (⟨by omega, by omega, by rw [itN_s _ _ uq348a e3_366, ← uq348c, e1_365]⟩)
                                                  exact uL348 _ a322 x3_347 q48d q49d q50d (Nat.lt_succ_self _) (⟨by omega, by omega, by rw [e3_347]; rfl⟩)
                                                ·
                                                  refine z_ldc2 (n := 31) dX7_digest_327 kX7_245 rfl ?_
                                                  refine z_lload_n 1 dX7_digest_330 rfl ?_
                                                  refine z_lmul dX7_digest_331 ?_
                                                  refine z_aload_n 0 dX7_digest_332 rfl ?_
                                                  refine z_iload_n 2 dX7_digest_333 rfl ?_
                                                  refine z_vX dX7_digest_334 lX7_191 (by decide) ka37 io37 rfl (ct_X7_litterBy en (upR (upR (upR (upR (upR (upR (upR N6 37 r37) 44 r44_56) 45 r45_56) 47 r47_56) 48 q48d) 49 q49d) 50 q50d) r37 r45_56 T r47_56 q48d q49d q50d rfl rfl (((ukN6.1 46 (by decide) (by decide)).trans wT)) rfl rfl rfl rfl _ hT uF5 uF4b uF2b (by omega)) rfl rfl (by exact Nat.le_of_ble_eq_true rfl) (fun uv334 uN334 uh334 => ?_)
                                                  obtain ⟨r48_334, r49_334, r50_334, uw_334, rfl⟩ := uh334
                                                  have ue334 : uv334 = (if k322 = 0 then (ltS T r47_56 r45_56 unp 10).1 else (ltS T r47_56 r45_56 unp 10).2) := by rw [uo9] at uw_334; exact uw_334
                                                  subst ue334
                                                  rw [uu3 (a := 48) (b0 := 49) (b1 := 50) (by decide) (by decide)]
                                                  rw [uu2 (a := 49) (b0 := 50) (by decide)]
                                                  rw [uu1 (a := 50)]
                                                  refine z_i2lW dX7_digest_337 ?_
                                                  refine z_ladd dX7_digest_338 ?_
                                                  refine z_lstore_n (fun y => [(0, rf en 37), (1, vl y), (3, vi k322)]) [1, 0, 2] dX7_digest_339 (by decide) (fun _ => rfl) (fun x1_339 e1_339 => ?_)
                                                  refine z_iinc (fun y => [(0, rf en 37), (1, vl x1_339), (3, vi y)]) [1, 2, 0] 2 dX7_digest_340 rfl (by decide) (fun _ => rfl) (fun x3_340 e3_340 => ?_)
                                                  refine z_goto (tgt := 322) dX7_digest_343 rfl ?_
                                                  exact uih322 x1_339 x3_340 r48_334 r49_334 r50_334 (by omega) (⟨by omega, by omega, by rw [itN_s _ _ uq322a e3_340, ← uq322c, e1_339]⟩)
                                            exact uL322 _ a296 x3_321 q48c q49c q50c (Nat.lt_succ_self _) (⟨by omega, by omega, by rw [e3_321]; rfl⟩)
                                          ·
                                            refine z_ldc2 (n := 31) dX7_digest_301 kX7_245 rfl ?_
                                            refine z_lload_n 1 dX7_digest_304 rfl ?_
                                            refine z_lmul dX7_digest_305 ?_
                                            refine z_aload_n 0 dX7_digest_306 rfl ?_
                                            refine z_iload_n 2 dX7_digest_307 rfl ?_
                                            refine z_vX dX7_digest_308 lX7_188 (by decide) ka37 io37 rfl (ct_X7_placeBy en (upR (upR (upR (upR (upR (upR (upR N6 37 r37) 44 r44_56) 45 r45_56) 47 r47_56) 48 q48c) 49 q49c) 50 q50c) r37 r45_56 T r47_56 q48c q49c q50c rfl rfl (((ukN6.1 46 (by decide) (by decide)).trans wT)) rfl rfl rfl rfl _ hT uF5 uF4b uF2b (by omega)) rfl rfl (by exact Nat.le_of_ble_eq_true rfl) (fun uv308 uN308 uh308 => ?_)
                                            obtain ⟨r48_308, r49_308, r50_308, uw_308, rfl⟩ := uh308
                                            have ue308 : uv308 = (if k296 = 0 then (plS T r47_56 r45_56 unp 8).1 else (plS T r47_56 r45_56 unp 8).2.1) := by rw [uo9] at uw_308; exact uw_308
                                            subst ue308
                                            rw [uu3 (a := 48) (b0 := 49) (b1 := 50) (by decide) (by decide)]
                                            rw [uu2 (a := 49) (b0 := 50) (by decide)]
                                            rw [uu1 (a := 50)]
                                            refine z_i2lW dX7_digest_311 ?_
                                            refine z_ladd dX7_digest_312 ?_
                                            refine z_lstore_n (fun y => [(0, rf en 37), (1, vl y), (3, vi k296)]) [1, 0, 2] dX7_digest_313 (by decide) (fun _ => rfl) (fun x1_313 e1_313 => ?_)
                                            refine z_iinc (fun y => [(0, rf en 37), (1, vl x1_313), (3, vi y)]) [1, 2, 0] 2 dX7_digest_314 rfl (by decide) (fun _ => rfl) (fun x3_314 e3_314 => ?_)
                                            refine z_goto (tgt := 296) dX7_digest_317 rfl ?_
                                            exact uih296 x1_313 x3_314 r48_308 r49_308 r50_308 (by omega) (⟨by omega, by omega, by rw [itN_s _ _ uq296a e3_314, ← uq296c, e1_313]⟩)
                                      exact uL296 _ a270 x3_295 q48b q49b q50b (Nat.lt_succ_self _) (⟨by omega, by omega, by rw [e3_295]; rfl⟩)
                                    ·
                                      refine z_ldc2 (n := 31) dX7_digest_275 kX7_245 rfl ?_
                                      refine z_lload_n 1 dX7_digest_278 rfl ?_
                                      refine z_lmul dX7_digest_279 ?_
                                      refine z_aload_n 0 dX7_digest_280 rfl ?_
                                      refine z_iload_n 2 dX7_digest_281 rfl ?_
                                      refine z_vX dX7_digest_282 lX7_185 (by decide) ka37 io37 rfl (ct_X7_swearBy en (upR (upR (upR (upR (upR (upR (upR N6 37 r37) 44 r44_56) 45 r45_56) 47 r47_56) 48 q48b) 49 q49b) 50 q50b) r37 r45_56 T r47_56 q48b q49b q50b rfl rfl (((ukN6.1 46 (by decide) (by decide)).trans wT)) rfl rfl rfl rfl _ hT uF5 uF4b uF2b (by omega)) rfl rfl (by exact Nat.le_of_ble_eq_true rfl) (fun uv282 uN282 uh282 => ?_)
                                      obtain ⟨r48_282, r49_282, r50_282, uw_282, rfl⟩ := uh282
                                      have ue282 : uv282 = (if k270 = 0 then (pcn (swS T r47_56 r45_56 unp 255).toNat : Int) else swS T r47_56 r45_56 unp 255) := by rw [uo9] at uw_282; exact uw_282
                                      subst ue282
                                      rw [uu3 (a := 48) (b0 := 49) (b1 := 50) (by decide) (by decide)]
                                      rw [uu2 (a := 49) (b0 := 50) (by decide)]
                                      rw [uu1 (a := 50)]
                                      refine z_i2lW dX7_digest_285 ?_
                                      refine z_ladd dX7_digest_286 ?_
                                      refine z_lstore_n (fun y => [(0, rf en 37), (1, vl y), (3, vi k270)]) [1, 0, 2] dX7_digest_287 (by decide) (fun _ => rfl) (fun x1_287 e1_287 => ?_)
                                      refine z_iinc (fun y => [(0, rf en 37), (1, vl x1_287), (3, vi y)]) [1, 2, 0] 2 dX7_digest_288 rfl (by decide) (fun _ => rfl) (fun x3_288 e3_288 => ?_)
                                      refine z_goto (tgt := 270) dX7_digest_291 rfl ?_
                                      exact uih270 x1_287 x3_288 r48_282 r49_282 r50_282 (by omega) (⟨by omega, by omega, by rw [itN_s _ _ uq270a e3_288, ← uq270c, e1_287]⟩)
                                exact uL270 _ a244 x3_269 q48a q49a q50a (Nat.lt_succ_self _) (⟨by omega, by omega, by rw [e3_269]; rfl⟩)
                              ·
                                refine z_ldc2 (n := 31) dX7_digest_249 kX7_245 rfl ?_
                                refine z_lload_n 1 dX7_digest_252 rfl ?_
                                refine z_lmul dX7_digest_253 ?_
                                refine z_aload_n 0 dX7_digest_254 rfl ?_
                                refine z_iload_n 2 dX7_digest_255 rfl ?_
                                refine z_vX dX7_digest_256 lX7_179 (by decide) ka37 io37 rfl (ct_X7_lostBy en (upR (upR (upR (upR (upR (upR (upR N6 37 r37) 44 r44_56) 45 r45_56) 47 r47_56) 48 q48a) 49 q49a) 50 q50a) r37 r45_56 T r47_56 q48a q49a q50a rfl rfl (((ukN6.1 46 (by decide) (by decide)).trans wT)) rfl rfl rfl rfl _ hT uF5 uF4b uF2b (by omega)) rfl rfl (by exact Nat.le_of_ble_eq_true rfl) (fun uv256 uN256 uh256 => ?_)
                                obtain ⟨r48_256, r49_256, r50_256, -, -, -, uw_256, rfl⟩ := uh256
                                have ue256 : uv256 = (if k244 = 0 then wns T r47_56 r45_56 unp else lsO T r47_56 r45_56 unp unp.toNat) := by rw [uo9] at uw_256; exact uw_256
                                subst ue256
                                rw [uu3 (a := 48) (b0 := 49) (b1 := 50) (by decide) (by decide)]
                                rw [uu2 (a := 49) (b0 := 50) (by decide)]
                                rw [uu1 (a := 50)]
                                refine z_i2lW dX7_digest_259 ?_
                                refine z_ladd dX7_digest_260 ?_
                                refine z_lstore_n (fun y => [(0, rf en 37), (1, vl y), (3, vi k244)]) [1, 0, 2] dX7_digest_261 (by decide) (fun _ => rfl) (fun x1_261 e1_261 => ?_)
                                refine z_iinc (fun y => [(0, rf en 37), (1, vl x1_261), (3, vi y)]) [1, 2, 0] 2 dX7_digest_262 rfl (by decide) (fun _ => rfl) (fun x3_262 e3_262 => ?_)
                                refine z_goto (tgt := 244) dX7_digest_265 rfl ?_
                                exact uih244 x1_261 x3_262 r48_256 r49_256 r50_256 (by omega) (⟨by omega, by omega, by rw [itN_s _ _ uq244a e3_262, ← uq244c, e1_261]⟩)
                          exact uL244 _ x1_241 x3_243 q48p q49p q50p (Nat.lt_succ_self _) (⟨by omega, by omega, by rw [e3_243]; rfl⟩)
                        ·
                          refine z_iconst dX7_digest_140 ?_
                          refine z_istore (fun y => [(0, rf en 37), (1, vl p1), (3, vi p3), (4, vi y)]) [1, 2, 3, 0] dX7_digest_141 (by decide) (fun _ => rfl) (fun x4_141 e4_141 => ?_)
                          have uL143 : ∀ (fu : Nat) (t1 : Int) (t4 : Int), (5 - t4).toNat < fu → (0 ≤ t4 ∧ t4 ≤ 5 ∧ t1 = itN (fun h k => 31 * h + w32 (r45_56 (5 * p3 + k))) p1 t4.toNat) → Z en kA cx mX7_digest (upR (upR (upR (upR (upR (upR (upR N6 37 r37) 44 r44_56) 45 r45_56) 47 r47_56) 48 q48p) 49 q49p) 50 q50p) 143 [(0, rf en 37), (1, vl t1), (3, vi p3), (4, vi t4)] [] := by
                            intro fu
                            induction fu with
                            | zero => intro t1 t4 uhf; exact absurd uhf (Nat.not_lt_zero _)
                            | succ fu uih143 =>
                              intro t1 t4 uf143 uI143
                              obtain ⟨uq143a, uq143b, uq143c⟩ := uI143
                              refine z_iload 3 dX7_digest_143 rfl ?_
                              refine z_iconst dX7_digest_145 ?_
                              refine z_icmp_ge (tgt := 174) dX7_digest_146 rfl (by omega) (fun uc146 => ?_) (fun uc146 => ?_)
                              ·
                                refine z_aload_n 0 dX7_digest_174 rfl ?_
                                refine z_vN dX7_digest_175 lX7_170 (by decide) ka37 io37 rfl (ct_X7_lives en (upR (upR (upR (upR (upR (upR (upR N6 37 r37) 44 r44_56) 45 r45_56) 47 r47_56) 48 q48p) 49 q49p) 50 q50p) r37 r45_56 T r47_56 q48p q49p q50p rfl rfl (((ukN6.1 46 (by decide) (by decide)).trans wT)) rfl rfl rfl rfl hT uF5 uF4b uF2b) rfl rfl (by exact Nat.le_of_ble_eq_true rfl) (fun uN175 uh175 => ?_)
                                obtain ⟨r48_175, r49_175, r50_175, ul1_175, ul2_175, ul3_175, rfl⟩ := uh175
                                rw [uu3 (a := 48) (b0 := 49) (b1 := 50) (by decide) (by decide)]
                                rw [uu2 (a := 49) (b0 := 50) (by decide)]
                                rw [uu1 (a := 50)]
                                have ul0 := ul1_175 p3 uq132a (by omega)
                                have ul00 := coO_rg hT uF5 uF4b (p := p3) (by omega)
                                refine z_iconst dX7_digest_178 ?_
                                refine z_istore (fun y => [(0, rf en 37), (1, vl t1), (3, vi p3), (4, vi y)]) [1, 2, 3, 0] dX7_digest_179 (by decide) (fun _ => rfl) (fun x4_179 e4_179 => ?_)
                                have uL181 : ∀ (fu : Nat) (s1 : Int) (s4 : Int), (3 - s4).toNat < fu → (0 ≤ s4 ∧ s4 ≤ 3 ∧ s1 = itN (fun h k => 31 * h + w32 (riV T r47_56 r45_56 unp p3 k)) t1 s4.toNat) → Z en kA cx mX7_digest (upR (upR (upR (upR (upR (upR (upR N6 37 r37) 44 r44_56) 45 r45_56) 47 r47_56) 48 r48_175) 49 r49_175) 50 r50_175) 181 [(0, rf en 37), (1, vl s1), (3, vi p3), (4, vi s4)] [] := by
                                  intro fu
                                  induction fu with
                                  | zero => intro s1 s4 uhf; exact absurd uhf (Nat.not_lt_zero _)
                                  | succ fu uih181 =>
                                    intro s1 s4 uf181 uI181
                                    obtain ⟨uq181a, uq181b, uq181c⟩ := uI181
                                    refine z_iload 3 dX7_digest_181 rfl ?_
                                    refine z_iconst dX7_digest_183 ?_
                                    refine z_icmp_ge (tgt := 208) dX7_digest_184 rfl (by omega) (fun uc184 => ?_) (fun uc184 => ?_)
                                    ·
                                      refine z_iinc (fun y => [(0, rf en 37), (1, vl s1), (3, vi y), (4, vi s4)]) [1, 2, 0, 3] 2 dX7_digest_208 rfl (by decide) (fun _ => rfl) (fun x3_208 e3_208 => ?_)
                                      refine z_goto (tgt := 132) dX7_digest_211 rfl ?_
                                      refine z_lv [0, 1, 2] [(0, rf en 37), (1, vl s1), (3, vi x3_208)] rfl ?_
                                      exact uih132 s1 x3_208 r48_175 r49_175 r50_175 (by omega) (⟨by omega, by omega, by rw [itN_s _ _ uq132a e3_208, ← uq132c, uq181c, show s4 = 3 by omega, uq143c, show t4 = 5 by omega]; rfl⟩)
                                    ·
                                      refine z_ldc2 (n := 31) dX7_digest_187 kX7_245 rfl ?_
                                      refine z_lload_n 1 dX7_digest_190 rfl ?_
                                      refine z_lmul dX7_digest_191 ?_
                                      refine z_aload_n 0 dX7_digest_192 rfl ?_
                                      refine z_iload_n 2 dX7_digest_193 rfl ?_
                                      refine z_iload 3 dX7_digest_194 rfl ?_
                                      refine z_vI dX7_digest_196 lX7_173 (by decide) ka37 io37 rfl (ct_X7_ridesOf en (upR (upR (upR (upR (upR (upR (upR N6 37 r37) 44 r44_56) 45 r45_56) 47 r47_56) 48 r48_175) 49 r49_175) 50 r50_175) r48_175 r49_175 r50_175 rfl rfl rfl _ _ (by omega)) rfl rfl (by exact Nat.le_of_ble_eq_true rfl) ?_
                                      have uri : (if s4 = 0 then orN (r48_175 p3) else if s4 = 1 then r49_175 p3 else r50_175 p3) = riV T r47_56 r45_56 unp p3 s4 := by rw [ul0, ul2_175 p3 uq132a (by omega), ul3_175 p3 uq132a (by omega), uo9]; rfl
                                      refine z_i2lW dX7_digest_199 ?_
                                      refine z_ladd dX7_digest_200 ?_
                                      refine z_lstore_n (fun y => [(0, rf en 37), (1, vl y), (3, vi p3), (4, vi s4)]) [1, 0, 2, 3] dX7_digest_201 (by decide) (fun _ => rfl) (fun x1_201 e1_201 => ?_)
                                      refine z_iinc (fun y => [(0, rf en 37), (1, vl x1_201), (3, vi p3), (4, vi y)]) [1, 2, 3, 0] 3 dX7_digest_202 rfl (by decide) (fun _ => rfl) (fun x4_202 e4_202 => ?_)
                                      refine z_goto (tgt := 181) dX7_digest_205 rfl ?_
                                      exact uih181 x1_201 x4_202 (by omega) (⟨by omega, by omega, by rw [itN_s _ _ uq181a e4_202, ← uq181c, e1_201, uri]⟩)
                                exact uL181 _ t1 x4_179 (Nat.lt_succ_self _) (⟨by omega, by omega, by rw [e4_179]; rfl⟩)
                              ·
                                refine z_ldc2 (n := 31) dX7_digest_149 kX7_245 rfl ?_
                                refine z_lload_n 1 dX7_digest_152 rfl ?_
                                refine z_lmul dX7_digest_153 ?_
                                refine z_aload_n 0 dX7_digest_154 rfl ?_
                                refine z_getR dX7_digest_155 fX7_31_6 i37_10 ka37 ?_
                                refine z_iconst dX7_digest_158 ?_
                                refine z_iload_n 2 dX7_digest_159 rfl ?_
                                refine z_imul dX7_digest_160 ?_
                                refine z_iload 3 dX7_digest_161 rfl ?_
                                refine z_iadd dX7_digest_163 ?_
                                refine z_iald (r := r45_56) dX7_digest_164 is45 ka45 (rfl) (by omega) ?_
                                refine z_i2lW dX7_digest_165 ?_
                                refine z_ladd dX7_digest_166 ?_
                                refine z_lstore_n (fun y => [(0, rf en 37), (1, vl y), (3, vi p3), (4, vi t4)]) [1, 0, 2, 3] dX7_digest_167 (by decide) (fun _ => rfl) (fun x1_167 e1_167 => ?_)
                                refine z_iinc (fun y => [(0, rf en 37), (1, vl x1_167), (3, vi p3), (4, vi y)]) [1, 2, 3, 0] 3 dX7_digest_168 rfl (by decide) (fun _ => rfl) (fun x4_168 e4_168 => ?_)
                                refine z_goto (tgt := 143) dX7_digest_171 rfl ?_
                                exact uih143 x1_167 x4_168 (by omega) (⟨by omega, by omega, by rw [itN_s _ _ uq143a e4_168, ← uq143c, e1_167]⟩)
                          exact uL143 _ p1 x4_141 (Nat.lt_succ_self _) (⟨by omega, by omega, by rw [e4_141]; rfl⟩)
                    exact uL132 _ z1 x3_131 q48 q49 q50 (Nat.lt_succ_self _) (⟨by omega, by omega, by rw [e3_131]; rfl⟩)
                  ·
                    refine z_iconst dX7_digest_90 ?_
                    refine z_istore (fun y => [(0, rf en 37), (1, vl z1), (3, vi z3), (4, vi y)]) [1, 2, 3, 0] dX7_digest_91 (by decide) (fun _ => rfl) (fun x4_91 e4_91 => ?_)
                    have uL93 : ∀ (fu : Nat) (v1 : Int) (x4 : Int), (3 - x4).toNat < fu → (0 ≤ x4 ∧ x4 ≤ 3 ∧ v1 = itN (fun h k => 31 * h + w32 (r44_56 (3 * z3 + k))) z1 x4.toNat) → Z en kA cx mX7_digest (upR (upR (upR (upR (upR (upR (upR N6 37 r37) 44 r44_56) 45 r45_56) 47 r47_56) 48 q48) 49 q49) 50 q50) 93 [(0, rf en 37), (1, vl v1), (3, vi z3), (4, vi x4)] [] := by
                      intro fu
                      induction fu with
                      | zero => intro v1 x4 uhf; exact absurd uhf (Nat.not_lt_zero _)
                      | succ fu uih93 =>
                        intro v1 x4 uf93 uI93
                        obtain ⟨uq93a, uq93b, uq93c⟩ := uI93
                        refine z_iload 3 dX7_digest_93 rfl ?_
                        refine z_iconst dX7_digest_95 ?_
                        refine z_icmp_ge (tgt := 124) dX7_digest_96 rfl (by omega) (fun uc96 => ?_) (fun uc96 => ?_)
                        ·
                          refine z_iinc (fun y => [(0, rf en 37), (1, vl v1), (3, vi y), (4, vi x4)]) [1, 2, 0, 3] 2 dX7_digest_124 rfl (by decide) (fun _ => rfl) (fun x3_124 e3_124 => ?_)
                          refine z_goto (tgt := 82) dX7_digest_127 rfl ?_
                          refine z_lv [0, 1, 2] [(0, rf en 37), (1, vl v1), (3, vi x3_124)] rfl ?_
                          exact uih82 v1 x3_124 (by omega) (⟨by omega, by omega, by rw [itN_s _ _ uq82a e3_124, ← uq82c, uq93c, show x4 = 3 by omega]; rfl⟩)
                        ·
                          refine z_ldc2 (n := 31) dX7_digest_99 kX7_245 rfl ?_
                          refine z_lload_n 1 dX7_digest_102 rfl ?_
                          refine z_lmul dX7_digest_103 ?_
                          refine z_aload_n 0 dX7_digest_104 rfl ?_
                          refine z_getR dX7_digest_105 fX7_28_6 i37_8 ka37 ?_
                          refine z_iconst dX7_digest_108 ?_
                          refine z_iload_n 2 dX7_digest_109 rfl ?_
                          refine z_imul dX7_digest_110 ?_
                          refine z_iload 3 dX7_digest_111 rfl ?_
                          refine z_iadd dX7_digest_113 ?_
                          refine z_iald (r := r44_56) dX7_digest_114 is44 ka44 (rfl) (by omega) ?_
                          refine z_i2lW dX7_digest_115 ?_
                          refine z_ladd dX7_digest_116 ?_
                          refine z_lstore_n (fun y => [(0, rf en 37), (1, vl y), (3, vi z3), (4, vi x4)]) [1, 0, 2, 3] dX7_digest_117 (by decide) (fun _ => rfl) (fun x1_117 e1_117 => ?_)
                          refine z_iinc (fun y => [(0, rf en 37), (1, vl x1_117), (3, vi z3), (4, vi y)]) [1, 2, 3, 0] 3 dX7_digest_118 rfl (by decide) (fun _ => rfl) (fun x4_118 e4_118 => ?_)
                          refine z_goto (tgt := 93) dX7_digest_121 rfl ?_
                          exact uih93 x1_117 x4_118 (by omega) (⟨by omega, by omega, by rw [itN_s _ _ uq93a e4_118, ← uq93c, e1_117]⟩)
                    exact uL93 _ z1 x4_91 (Nat.lt_succ_self _) (⟨by omega, by omega, by rw [e4_91]; rfl⟩)
              exact uL82 _ y1 x3_81 (Nat.lt_succ_self _) (⟨by omega, by omega, by rw [e3_81]; rfl⟩)
            ·
              refine z_aload_n 0 dX7_digest_67 rfl ?_
              refine z_lload_n 1 dX7_digest_68 rfl ?_
              refine z_iload_n 2 dX7_digest_69 rfl ?_
              refine z_vY dX7_digest_70 lX7_252 (by decide) ka37 io37 rfl (ct_X7_tellsTown en (upR (upR (upR (upR (upR (upR (upR N6 37 r37) 44 r44_56) 45 r45_56) 47 r47_56) 48 q48) 49 q49) 50 q50) r37 r45_56 T r47_56 q48 q49 q50 rfl rfl (((ukN6.1 46 (by decide) (by decide)).trans wT)) rfl rfl rfl rfl _ _ hT uF5 uF4b uF2b (by omega)) rfl rfl (by exact Nat.le_of_ble_eq_true rfl) (fun uv70 uN70 uh70 => ?_)
              obtain ⟨ud70, r48_70, r49_70, r50_70, ue70, rfl⟩ := uh70
              rw [uu7 (a := 37) (b0 := 44) (b1 := 45) (b2 := 47) (b3 := 48) (b4 := 49) (b5 := 50) (by decide) (by decide) (by decide) (by decide) (by decide) (by decide)]
              rw [uu3 (a := 48) (b0 := 49) (b1 := 50) (by decide) (by decide)]
              rw [uu2 (a := 49) (b0 := 50) (by decide)]
              rw [uu1 (a := 50)]
              refine z_lstore_n (fun y => [(0, rf en 37), (1, vl y), (3, vi y3)]) [1, 0, 2] dX7_digest_73 (by decide) (fun _ => rfl) (fun x1_73 e1_73 => ?_)
              refine z_iinc (fun y => [(0, rf en 37), (1, vl x1_73), (3, vi y)]) [1, 2, 0] 2 dX7_digest_74 rfl (by decide) (fun _ => rfl) (fun x3_74 e3_74 => ?_)
              refine z_goto (tgt := 61) dX7_digest_77 rfl ?_
              exact uih61 x1_73 x3_74 (up r37 19 ud70) r48_70 r49_70 r50_70 (by omega) (⟨by omega, by omega, fun uj ua => by rw [up_n _ _ ua]; exact uq6 uj ua, by rw [itN_s _ _ uq4 e3_74, ← uq7, e1_73, ue70, uo9]⟩)
        refine Z.eqM (upR_id (k := 48) rfl) ?_
        refine Z.eqM (upR_id (k := 49) rfl) ?_
        refine Z.eqM (upR_id (k := 50) rfl) ?_
        exact uL61 _ x1_54 x3_60 r37_56 (N6 48) (N6 49) (N6 50) (Nat.lt_succ_self _) (⟨by omega, by omega, fun _ _ => rfl, by rw [e3_60]; rfl⟩)
      ·
        refine z_ldc2 (n := 31) dX7_digest_12 kX7_245 rfl ?_
        refine z_lload_n 1 dX7_digest_15 rfl ?_
        refine z_lmul dX7_digest_16 ?_
        refine z_aload_n 0 dX7_digest_17 rfl ?_
        refine z_iload_n 2 dX7_digest_18 rfl ?_
        refine z_vX dX7_digest_19 lX7_249 (by decide) ka37 io37 rfl (ct_X7_count en N6 (N6 37) B Y (N6 44) (N6 45) T (N6 47) (N6 48) (N6 49) (N6 50) rfl (((ukN6.1 42 (by decide) (by decide)).trans wB)) (((ukN6.1 43 (by decide) (by decide)).trans wY)) rfl rfl (((ukN6.1 46 (by decide) (by decide)).trans wT)) rfl rfl rfl rfl _ (by omega) (hB) (hY) (hT)) rfl rfl (by exact Nat.le_of_ble_eq_true rfl) (fun uv19 uN19 uh19 => ?_)
        obtain ⟨unr19, unp19, uRd19, uP19, uWy19, uFc, ue19, uk19⟩ := uh19
        have ukM19 := kp_t ukN6 uk19
        refine z_i2lW dX7_digest_22 ?_
        refine z_ladd dX7_digest_23 ?_
        refine z_lstore_n (fun y => [(0, rf en 37), (1, vl y), (3, vi x3)]) [1, 0, 2] dX7_digest_24 (by decide) (fun _ => rfl) (fun x1_24 e1_24 => ?_)
        refine z_iinc (fun y => [(0, rf en 37), (1, vl x1_24), (3, vi y)]) [1, 2, 0] 2 dX7_digest_25 rfl (by decide) (fun _ => rfl) (fun x3_25 e3_25 => ?_)
        refine z_goto (tgt := 6) dX7_digest_28 rfl ?_
        exact uih6 x1_24 x3_25 uN19 (by omega) (⟨by omega, by omega, ukM19, fun ua ub ux uy uz uf => by rw [itN_s _ _ uq1 e3_25, ← uq3 ua ub ux uy uz uf, e1_24, ue19, cn_c hT hY uFc uf (by rw [ukN6.2 16 (by decide) (by decide) (by decide), wO]) (by rw [ukN6.2 4 (by decide) (by decide) (by decide), wO])]⟩)
  exact uL6 _ x1_3 x3_5 M (Nat.lt_succ_self _) (⟨by omega, by omega, kp_r M, fun _ _ _ _ _ _ => by rw [e1_3, e3_5]; rfl⟩)
