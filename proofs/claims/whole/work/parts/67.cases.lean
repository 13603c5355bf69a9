/-! each call of the law: the class first, then the reference; both answer alike, and both tell the same afterwards -/
theorem lo_type {M N : zW} {ia ib : Int} {x : Int} (h : ((¬ ((ia = 0 ∨ ia = 1) ∧ (0 ≤ ib ∧ ib ≤ 255))) ∧ x = -2 ∧ M = N) ∨ (ia = 0 ∧ (0 ≤ ib ∧ ib ≤ 255) ∧ 47 ≤ (M 1) 2 ∧ x = -4 ∧ M = N) ∨ (ia = 1 ∧ (0 ≤ ib ∧ ib ≤ 255) ∧ 47 ≤ (M 2) 2 ∧ x = -4 ∧ M = N) ∨ (ia = 0 ∧ (0 ≤ ib ∧ ib ≤ 255) ∧ (M 1) 2 < 47 ∧ x = (M 1) 2 + 1 ∧ rdN (upR (upR M 18 (up (M 18) ((M 1) 2) ib)) 1 (up (M 1) 2 ((M 1) 2 + 1))) (up (M 1) 2 ((M 1) 2 + 1)) (up (M 18) ((M 1) 2) ib) (M 22) N) ∨ (ia = 1 ∧ (0 ≤ ib ∧ ib ≤ 255) ∧ (M 2) 2 < 47 ∧ x = (M 2) 2 + 1 ∧ pdN (upR (upR M 23 (up (M 23) ((M 2) 2) ib)) 2 (up (M 2) 2 ((M 2) 2 + 1))) (up (M 2) 2 ((M 2) 2 + 1)) (up (M 23) ((M 2) 2) ib) N)) : lo M N := by
  rcases h with ⟨-, -, rfl⟩ | ⟨-, -, -, -, rfl⟩ | ⟨-, -, -, -, rfl⟩ | ⟨-, -, -, -, u⟩ | ⟨-, -, -, -, u⟩
  · exact lo_r M
  · exact lo_r M
  · exact lo_r M
  · exact lo_rd (lo_u (by decide) (lo_u (by decide) (lo_r M))) u
  · exact lo_pd (lo_u (by decide) (lo_u (by decide) (lo_r M))) u
theorem lo_wipe {M N : zW} {ia : Int} {x : Int} (h : ((¬ (ia = 0 ∨ ia = 1)) ∧ x = -2 ∧ M = N) ∨ (ia = 0 ∧ x = (M 1) 2 ∧ rdN (upR M 1 (up (M 1) 2 (max 0 (min 0 ((M 1) 2))))) (up (M 1) 2 (max 0 (min 0 ((M 1) 2)))) (M 18) (M 22) N) ∨ (ia = 1 ∧ x = (M 2) 2 ∧ pdN (upR M 2 (up (M 2) 2 (max 0 (min 0 ((M 2) 2))))) (up (M 2) 2 (max 0 (min 0 ((M 2) 2)))) (M 23) N)) : lo M N := by
  rcases h with ⟨-, -, rfl⟩ | ⟨-, -, u⟩ | ⟨-, -, u⟩
  · exact lo_r M
  · exact lo_rd (lo_u (by decide) (lo_r M)) u
  · exact lo_pd (lo_u (by decide) (lo_r M)) u
theorem lo_undo {M N : zW} {ia : Int} {x : Int} (h : ((¬ (ia = 0 ∨ ia = 1)) ∧ x = -2 ∧ M = N) ∨ (ia = 0 ∧ (M 1) 2 = 0 ∧ x = -3 ∧ M = N) ∨ (ia = 1 ∧ (M 2) 2 = 0 ∧ x = -3 ∧ M = N) ∨ (ia = 0 ∧ (M 1) 2 ≠ 0 ∧ x = (M 1) 2 - 1 ∧ rdN (upR M 1 (up (M 1) 2 (max 0 (min ((M 1) 2 - 1) ((M 1) 2))))) (up (M 1) 2 (max 0 (min ((M 1) 2 - 1) ((M 1) 2)))) (M 18) (M 22) N) ∨ (ia = 1 ∧ (M 2) 2 ≠ 0 ∧ x = (M 2) 2 - 1 ∧ pdN (upR M 2 (up (M 2) 2 (max 0 (min ((M 2) 2 - 1) ((M 2) 2))))) (up (M 2) 2 (max 0 (min ((M 2) 2 - 1) ((M 2) 2)))) (M 23) N)) : lo M N := by
  rcases h with ⟨-, -, rfl⟩ | ⟨-, -, -, rfl⟩ | ⟨-, -, -, rfl⟩ | ⟨-, -, -, u⟩ | ⟨-, -, -, u⟩
  · exact lo_r M
  · exact lo_r M
  · exact lo_r M
  · exact lo_rd (lo_u (by decide) (lo_r M)) u
  · exact lo_pd (lo_u (by decide) (lo_r M)) u
theorem lo_set {M N : zW} {ia ib : Int} {x : Int} (h : ((¬ ((0 ≤ ia ∧ ia ≤ 5) ∧ (0 ≤ ib ∧ ib ≤ tMost ia))) ∧ x = -2 ∧ M = N) ∨ (((0 ≤ ia ∧ ia ≤ 5) ∧ (0 ≤ ib ∧ ib ≤ tMost ia)) ∧ x = (M 3) ia ∧ upR M 3 (up (M 3) ia ib) = N)) : lo M N := by
  rcases h with ⟨-, -, rfl⟩ | ⟨-, -, rfl⟩
  · exact lo_r M
  · exact (lo_u (by decide) (lo_r M))
theorem lo_way {M N : zW} {ia ib : Int} {x : Int} (h : x = (if (0 ≤ ia ∧ ia ≤ 7) ∧ (0 ≤ ib ∧ ib ≤ 7) then orN (cW (M 22) (8 * ia + ib)) else -2) ∧ kc M N) : lo M N := by
  exact lo_kc (lo_r M) h.2
theorem lo_hears {M N : zW} {ia ib : Int} {x : Int} (h : x = (if (0 ≤ ia ∧ ia ≤ 7) ∧ (0 ≤ ib ∧ ib ≤ 2) then hBy (M 3) (cW (M 22)) ia ib else -2) ∧ kc M N) : lo M N := by
  exact lo_kc (lo_r M) h.2
theorem lo_crowned {M N : zW} {x : Int} (h : x = orN (crO (M 3) (cW (M 22))) ∧ kc M N) : lo M N := by
  exact lo_kc (lo_r M) h.2
theorem lo_knew {M N : zW} {ia : Int} {x : Int} (h : x = (if 0 ≤ ia ∧ ia ≤ 99 then (knB (M 3) (cW (M 22)) ia 8 : Int) else -2) ∧ kc M N) : lo M N := by
  exact lo_kc (lo_r M) h.2
theorem lo_rides {M N : zW} {ia ib : Int} {x : Int} (h : x = (if (0 ≤ ia ∧ ia ≤ (M 2) 4 - 1) ∧ (0 ≤ ib ∧ ib ≤ 2) then (if ib = 0 then orN (coO (M 3) (cW (M 22)) (tP (M 24) (M 25) (M 26) (M 27) (M 28)) ((M 2) 4) ia) else if ib = 1 then enO (M 3) (cW (M 22)) (tP (M 24) (M 25) (M 26) (M 27) (M 28)) ((M 2) 4) ia else riO (M 3) (cW (M 22)) (tP (M 24) (M 25) (M 26) (M 27) (M 28)) ((M 2) 4) ia) else -2) ∧ kc M N) : lo M N := by
  exact lo_kc (lo_r M) h.2
theorem lo_lost {M N : zW} {ia : Int} {x : Int} (h : x = (if 0 ≤ ia ∧ ia ≤ 1 then (if ia = 0 then wns (M 3) (cW (M 22)) (tP (M 24) (M 25) (M 26) (M 27) (M 28)) ((M 2) 4) else lsO (M 3) (cW (M 22)) (tP (M 24) (M 25) (M 26) (M 27) (M 28)) ((M 2) 4) ((M 2) 4).toNat) else -2) ∧ kc M N) : lo M N := by
  exact lo_kc (lo_r M) h.2
theorem lo_swear {M N : zW} {ia : Int} {x : Int} (h : x = (if 0 ≤ ia ∧ ia ≤ 1 then (if ia = 0 then (pcw (twS (enX (up (M 3) 5 0) (cW (M 22)) (tP (M 24) (M 25) (M 26) (M 27) (M 28)) ((M 2) 4)) (M 24) (M 28) 8) : Int) else (twS (enX (up (M 3) 5 0) (cW (M 22)) (tP (M 24) (M 25) (M 26) (M 27) (M 28)) ((M 2) 4)) (M 24) (M 28) 8 : Int)) else -2) ∧ kc M N) : lo M N := by
  exact lo_kc (lo_r M) h.2
theorem lo_place {M N : zW} {ia : Int} {x : Int} (h : x = (if 0 ≤ ia ∧ ia ≤ 1 then (if ia = 0 then (plS (M 3) (cW (M 22)) (tP (M 24) (M 25) (M 26) (M 27) (M 28)) ((M 2) 4) 8).1 else (plS (M 3) (cW (M 22)) (tP (M 24) (M 25) (M 26) (M 27) (M 28)) ((M 2) 4) 8).2.1) else -2) ∧ kc M N) : lo M N := by
  exact lo_kc (lo_r M) h.2
theorem lo_litter {M N : zW} {ia : Int} {x : Int} (h : x = (if 0 ≤ ia ∧ ia ≤ 1 then (if ia = 0 then (ltS (M 3) (cW (M 22)) (tP (M 24) (M 25) (M 26) (M 27) (M 28)) ((M 2) 4) 10).1 else (ltS (M 3) (cW (M 22)) (tP (M 24) (M 25) (M 26) (M 27) (M 28)) ((M 2) 4) 10).2) else -2) ∧ kc M N) : lo M N := by
  exact lo_kc (lo_r M) h.2
theorem lo_seen {M N : zW} {ia ib : Int} {x : Int} (h : (¬ okS ia ib ∧ x = -2 ∧ M = N) ∨ (okS ia ib ∧ 8 ≤ (M 0) 8 ∧ x = -4 ∧ M = N) ∨ (okS ia ib ∧ (M 0) 8 < 8 ∧ x = (M 0) 8 + 1 ∧ upR (upR (upR M 7 (up (M 7) ((M 0) 8) ia)) 8 (up (M 8) ((M 0) 8) ib)) 0 (up (M 0) 8 ((M 0) 8 + 1)) = N)) : lo M N := by
  rcases h with ⟨-, -, rfl⟩ | ⟨-, -, -, rfl⟩ | ⟨-, -, -, rfl⟩
  · exact lo_r M
  · exact lo_r M
  · exact lo_u (by decide) (lo_u (by decide) (lo_u (by decide) (lo_r M)))
theorem lo_fits {M N : zW} {ia : Int} {x : Int} (h : x = (if 0 ≤ ia ∧ ia ≤ 1 then (if ia = 0 then (fiS (M 3) (cW (M 22)) (tP (M 24) (M 25) (M 26) (M 27) (M 28)) ((M 2) 4) (sgC (M 7) (M 8)) ((M 0) 8).toNat 2 10 : Int) else (fiS (M 3) (cW (M 22)) (tP (M 24) (M 25) (M 26) (M 27) (M 28)) ((M 2) 4) (sgC (M 7) (M 8)) ((M 0) 8).toNat 0 8 : Int)) else -2) ∧ kc M N) : lo M N := by
  exact lo_kc (lo_r M) h.2
theorem lo_ask {M N : zW} {x : Int} (h : x = (akM (fun t => mCx (kyC (M 22) t) (fiS (M 3) (cW (M 22)) (tP (M 24) (M 25) (M 26) (M 27) (M 28)) ((M 2) 4) (sgC (M 7) (M 8)) ((M 0) 8).toNat 0 8 : Int) 8) 7).1 ∧ kc M N) : lo M N := by
  exact lo_kc (lo_r M) h.2
theorem lo_out {M N : zW} {ia ib ic id : Int} {x : Int} (h : x = (if (0 ≤ ia ∧ ia ≤ 16) ∧ (0 ≤ ib ∧ ib ≤ 7) ∧ (0 ≤ ic ∧ ic ≤ 99) ∧ (0 ≤ id ∧ id ≤ 1) then otV (M 3) (tR (M 19) (M 20) (M 21)) ((M 1) 4).toNat ia ib ic id else -9223372036854775806) ∧ kc M N) : lo M N := by
  exact lo_kc (lo_r M) h.2
theorem lo_reigns {M N : zW} {ia ib ic : Int} {x : Int} (h : x = (if (1 ≤ ib ∧ ib ≤ 20) ∧ (ic = -1 ∨ (0 ≤ ic ∧ ic ≤ 7)) then rgS (M 3) (cW (M 22)) (tP (M 24) (M 25) (M 26) (M 27) (M 28)) ((M 2) 4) ia ic ib.toNat else -2) ∧ kc M N) : lo M N := by
  exact lo_kc (lo_r M) h.2
theorem lo_sheet {M N : zW} {ia ib ic : Int} {x : Int} (h : (¬ (((0 ≤ ia ∧ ia ≤ 3) ∧ (0 ≤ ib ∧ ib ≤ 2)) ∧ ic ≤ 60) ∧ x = -2 ∧ M = N) ∨ ((((0 ≤ ia ∧ ia ≤ 3) ∧ (0 ≤ ib ∧ ib ≤ 2)) ∧ ic < 0) ∧ x = -15 ∧ upR M 0 (up (M 0) 10 5) = N) ∨ ((((0 ≤ ia ∧ ia ≤ 3) ∧ (0 ≤ ib ∧ ib ≤ 2)) ∧ 0 ≤ ic ∧ ic ≤ 60) ∧ x = ic ∧ upR (upR M (10 + ia.toNat) (up (up (M (10 + ia.toNat)) 0 ib) 1 ic)) (14 + ia.toNat) (fil (fun _ => 0) (M (14 + ia.toNat)) 0 60) = N)) : lo M N := by
  rcases h with ⟨-, -, rfl⟩ | ⟨-, -, rfl⟩ | ⟨c, -, rfl⟩
  · exact lo_r M
  · exact (lo_u (by decide) (lo_r M))
  · exact lo_u (by omega) (lo_u (by omega) (lo_r M))
theorem lo_lose {M N : zW} {ia : Int} {x : Int} (h : (¬ (0 ≤ ia ∧ ia ≤ 3) ∧ x = -2 ∧ M = N) ∨ (((0 ≤ ia ∧ ia ≤ 3) ∧ M (10 + ia.toNat) 0 = -1) ∧ x = -11 ∧ upR M 0 (up (M 0) 10 1) = N) ∨ (((0 ≤ ia ∧ ia ≤ 3) ∧ M (10 + ia.toNat) 0 ≠ -1) ∧ x = M (10 + ia.toNat) 1 ∧ upR (upR M (10 + ia.toNat) (up (up (M (10 + ia.toNat)) 0 (-1)) 1 0)) (14 + ia.toNat) (fil (fun _ => 0) (M (14 + ia.toNat)) 0 60) = N)) : lo M N := by
  rcases h with ⟨-, -, rfl⟩ | ⟨-, -, rfl⟩ | ⟨c, -, rfl⟩
  · exact lo_r M
  · exact (lo_u (by decide) (lo_r M))
  · exact lo_u (by omega) (lo_u (by omega) (lo_r M))
theorem lo_lay {M N : zW} {ia ib ic id : Int} {x : Int} (h : (¬ ((0 ≤ ia ∧ ia ≤ 3) ∧ (0 ≤ ib ∧ ib ≤ 2)) ∧ x = -2 ∧ M = N) ∨ ((((0 ≤ ia ∧ ia ≤ 3) ∧ (0 ≤ ib ∧ ib ≤ 2)) ∧ M (10 + ia.toNat) 0 = -1) ∧ x = -11 ∧ upR M 0 (up (M 0) 10 1) = N) ∨ ((((0 ≤ ia ∧ ia ≤ 3) ∧ (0 ≤ ib ∧ ib ≤ 2)) ∧ M (10 + ia.toNat) 0 ≠ -1 ∧ M (10 + ia.toNat) 0 ≠ ib) ∧ x = -13 ∧ upR M 0 (up (M 0) 10 3) = N) ∨ ((((0 ≤ ia ∧ ia ≤ 3) ∧ (0 ≤ ib ∧ ib ≤ 2)) ∧ M (10 + ia.toNat) 0 = ib ∧ ¬ (0 ≤ ic ∧ ic + 1 ≤ M (10 + ia.toNat) 1)) ∧ x = -12 ∧ upR M 0 (up (M 0) 10 2) = N) ∨ ((((0 ≤ ia ∧ ia ≤ 3) ∧ (0 ≤ ib ∧ ib ≤ 2)) ∧ M (10 + ia.toNat) 0 = ib ∧ (0 ≤ ic ∧ ic + 1 ≤ M (10 + ia.toNat) 1)) ∧ x = 1 ∧ upR M (14 + ia.toNat) (up (M (14 + ia.toNat)) ic (cutv (M (10 + ia.toNat) 0) id)) = N)) : lo M N := by
  rcases h with ⟨-, -, rfl⟩ | ⟨-, -, rfl⟩ | ⟨-, -, rfl⟩ | ⟨-, -, rfl⟩ | ⟨c, -, rfl⟩
  · exact lo_r M
  · exact (lo_u (by decide) (lo_r M))
  · exact (lo_u (by decide) (lo_r M))
  · exact (lo_u (by decide) (lo_r M))
  · exact lo_u (by omega) (lo_r M)
theorem lo_get {M N : zW} {ia ib ic : Int} {x : Int} (h : (¬ ((0 ≤ ia ∧ ia ≤ 3) ∧ (0 ≤ ib ∧ ib ≤ 2)) ∧ x = -2147483648 ∧ M = N) ∨ ((((0 ≤ ia ∧ ia ≤ 3) ∧ (0 ≤ ib ∧ ib ≤ 2)) ∧ M (10 + ia.toNat) 0 = -1) ∧ x = -2147483648 ∧ upR M 0 (up (M 0) 10 1) = N) ∨ ((((0 ≤ ia ∧ ia ≤ 3) ∧ (0 ≤ ib ∧ ib ≤ 2)) ∧ M (10 + ia.toNat) 0 ≠ -1 ∧ M (10 + ia.toNat) 0 ≠ ib) ∧ x = -2147483648 ∧ upR M 0 (up (M 0) 10 3) = N) ∨ ((((0 ≤ ia ∧ ia ≤ 3) ∧ (0 ≤ ib ∧ ib ≤ 2)) ∧ M (10 + ia.toNat) 0 = ib ∧ ¬ (0 ≤ ic ∧ ic + 1 ≤ M (10 + ia.toNat) 1)) ∧ x = -2147483648 ∧ upR M 0 (up (M 0) 10 2) = N) ∨ ((((0 ≤ ia ∧ ia ≤ 3) ∧ (0 ≤ ib ∧ ib ≤ 2)) ∧ M (10 + ia.toNat) 0 = ib ∧ (0 ≤ ic ∧ ic + 1 ≤ M (10 + ia.toNat) 1)) ∧ x = M (14 + ia.toNat) ic ∧ M = N)) : lo M N := by
  rcases h with ⟨-, -, rfl⟩ | ⟨-, -, rfl⟩ | ⟨-, -, rfl⟩ | ⟨-, -, rfl⟩ | ⟨-, -, rfl⟩
  · exact lo_r M
  · exact (lo_u (by decide) (lo_r M))
  · exact (lo_u (by decide) (lo_r M))
  · exact (lo_u (by decide) (lo_r M))
  · exact lo_r M
theorem lo_copy {M N : zW} {ia ib ic id ie : Int} {x : Int} (h : (¬ ((0 ≤ ia ∧ ia ≤ 3) ∧ (0 ≤ ic ∧ ic ≤ 3)) ∧ x = -2 ∧ M = N) ∨ ((((0 ≤ ia ∧ ia ≤ 3) ∧ (0 ≤ ic ∧ ic ≤ 3)) ∧ (M (10 + ia.toNat) 0 = -1 ∨ M (10 + ic.toNat) 0 = -1)) ∧ x = -11 ∧ upR M 0 (up (M 0) 10 1) = N) ∨ ((((0 ≤ ia ∧ ia ≤ 3) ∧ (0 ≤ ic ∧ ic ≤ 3)) ∧ ¬ (M (10 + ia.toNat) 0 = -1 ∨ M (10 + ic.toNat) 0 = -1) ∧ M (10 + ia.toNat) 0 ≠ M (10 + ic.toNat) 0) ∧ x = -14 ∧ upR M 0 (up (M 0) 10 4) = N) ∨ ((((0 ≤ ia ∧ ia ≤ 3) ∧ (0 ≤ ic ∧ ic ≤ 3)) ∧ ¬ (M (10 + ia.toNat) 0 = -1 ∨ M (10 + ic.toNat) 0 = -1) ∧ M (10 + ia.toNat) 0 = M (10 + ic.toNat) 0 ∧ ¬ ((0 ≤ ib ∧ 0 ≤ ie ∧ ib + ie ≤ M (10 + ia.toNat) 1) ∧ (0 ≤ id ∧ 0 ≤ ie ∧ id + ie ≤ M (10 + ic.toNat) 1))) ∧ x = -12 ∧ upR M 0 (up (M 0) 10 2) = N) ∨ ((((0 ≤ ia ∧ ia ≤ 3) ∧ (0 ≤ ic ∧ ic ≤ 3)) ∧ ¬ (M (10 + ia.toNat) 0 = -1 ∨ M (10 + ic.toNat) 0 = -1) ∧ M (10 + ia.toNat) 0 = M (10 + ic.toNat) 0 ∧ ((0 ≤ ib ∧ 0 ≤ ie ∧ ib + ie ≤ M (10 + ia.toNat) 1) ∧ (0 ≤ id ∧ 0 ≤ ie ∧ id + ie ≤ M (10 + ic.toNat) 1))) ∧ x = 1 ∧ upR M (14 + ic.toNat) (cpy (M (14 + ia.toNat)) (M (14 + ic.toNat)) ib id ie) = N)) : lo M N := by
  rcases h with ⟨-, -, rfl⟩ | ⟨-, -, rfl⟩ | ⟨-, -, rfl⟩ | ⟨-, -, rfl⟩ | ⟨c, -, rfl⟩
  · exact lo_r M
  · exact (lo_u (by decide) (lo_r M))
  · exact (lo_u (by decide) (lo_r M))
  · exact (lo_u (by decide) (lo_r M))
  · exact lo_u (by omega) (lo_r M)
theorem lo_write {M N : zW} {ia ib : Int} {x : Int} (h : (¬ ((0 ≤ ia ∧ ia ≤ 1) ∧ (0 ≤ ib ∧ ib ≤ 3)) ∧ x = -2 ∧ M = N) ∨ ((((0 ≤ ia ∧ ia ≤ 1) ∧ (0 ≤ ib ∧ ib ≤ 3)) ∧ M (10 + ib.toNat) 0 = -1) ∧ x = -11 ∧ upR M 0 (up (M 0) 10 1) = N) ∨ ((((0 ≤ ia ∧ ia ≤ 1) ∧ (0 ≤ ib ∧ ib ≤ 3)) ∧ M (10 + ib.toNat) 0 ≠ -1) ∧ x = min 8 (M (10 + ib.toNat) 1) ∧ kc (upR M (14 + ib.toNat) (fil (fun t => cutv (M (10 + ib.toNat) 0) (hBy (M 3) (cW (M 22)) t ia)) (M (14 + ib.toNat)) 0 (min 8 (M (10 + ib.toNat) 1)))) N)) : lo M N := by
  rcases h with ⟨-, -, rfl⟩ | ⟨-, -, rfl⟩ | ⟨c, -, k⟩
  · exact lo_r M
  · exact (lo_u (by decide) (lo_r M))
  · exact lo_kc (lo_u (by omega) (lo_r M)) k
theorem lo_count {M N : zW} {ia : Int} {x : Int} (h : x = (if ia = 0 then (M 1) 4 else if ia = 1 then (M 2) 4 else if ia = 2 then (M 1) 2 else if ia = 3 then (M 2) 2 else if ia = 4 then rcS (tP (M 24) (M 25) (M 26) (M 27) (M 28)) ((M 2) 4).toNat else if ia = 5 then rdn (M 3) (cW (M 22)) (tP (M 24) (M 25) (M 26) (M 27) (M 28)) ((M 2) 4) ((M 2) 4).toNat else if ia = 6 then (M 3) 5 else if ia = 7 then (M 0) 8 else if ia = 8 then (M 0) 10 else -2) ∧ kc M N) : lo M N := by
  exact lo_kc (lo_r M) h.2
theorem lo_digest {M N : zW} {x : Int} (h : x = dgV (cnC (M 0) (M 1) (M 2) (M 3) (cW (M 22)) (tP (M 24) (M 25) (M 26) (M 27) (M 28))) ((M 1) 3) ((M 2) 3) (M 3) (cW (M 22)) (tP (M 24) (M 25) (M 26) (M 27) (M 28)) ((M 2) 4) (tR (M 19) (M 20) (M 21)) ((M 1) 4) [w32 (orN (crO (M 3) (cW (M 22)))), w32 ((knB (M 3) (cW (M 22)) 5 8 : Int)), w32 (wns (M 3) (cW (M 22)) (tP (M 24) (M 25) (M 26) (M 27) (M 28)) ((M 2) 4)), w32 (lsO (M 3) (cW (M 22)) (tP (M 24) (M 25) (M 26) (M 27) (M 28)) ((M 2) 4) ((M 2) 4).toNat), w32 ((pcw (twS (enX (up (M 3) 5 0) (cW (M 22)) (tP (M 24) (M 25) (M 26) (M 27) (M 28)) ((M 2) 4)) (M 24) (M 28) 8) : Int)), w32 ((twS (enX (up (M 3) 5 0) (cW (M 22)) (tP (M 24) (M 25) (M 26) (M 27) (M 28)) ((M 2) 4)) (M 24) (M 28) 8 : Int)), w32 ((plS (M 3) (cW (M 22)) (tP (M 24) (M 25) (M 26) (M 27) (M 28)) ((M 2) 4) 8).1), w32 ((plS (M 3) (cW (M 22)) (tP (M 24) (M 25) (M 26) (M 27) (M 28)) ((M 2) 4) 8).2.1), w32 ((ltS (M 3) (cW (M 22)) (tP (M 24) (M 25) (M 26) (M 27) (M 28)) ((M 2) 4) 10).1), w32 ((ltS (M 3) (cW (M 22)) (tP (M 24) (M 25) (M 26) (M 27) (M 28)) ((M 2) 4) 10).2), w32 ((fiS (M 3) (cW (M 22)) (tP (M 24) (M 25) (M 26) (M 27) (M 28)) ((M 2) 4) (sgC (M 7) (M 8)) ((M 0) 8).toNat 2 10 : Int)), w32 ((fiS (M 3) (cW (M 22)) (tP (M 24) (M 25) (M 26) (M 27) (M 28)) ((M 2) 4) (sgC (M 7) (M 8)) ((M 0) 8).toNat 0 8 : Int)), w32 ((akM (fun t => mCx (kyC (M 22) t) (fiS (M 3) (cW (M 22)) (tP (M 24) (M 25) (M 26) (M 27) (M 28)) ((M 2) 4) (sgC (M 7) (M 8)) ((M 0) 8).toNat 0 8 : Int) 8) 7).1), otV (M 3) (tR (M 19) (M 20) (M 21)) ((M 1) 4).toNat 5 3 9 0, otV (M 3) (tR (M 19) (M 20) (M 21)) ((M 1) 4).toNat 5 3 9 1, w32 (rgS (M 3) (cW (M 22)) (tP (M 24) (M 25) (M 26) (M 27) (M 28)) ((M 2) 4) 7 (-1) 5)] ∧ kc M N) : lo M N := by
  exact lo_kc (lo_r M) h.2
theorem lo_read {M N : zW} {ia : Int} {x : Int} (h : (¬ (0 ≤ ia ∧ ia ≤ 3) ∧ x = -2 ∧ M = N) ∨ (((0 ≤ ia ∧ ia ≤ 3) ∧ M (10 + ia.toNat) 0 = -1) ∧ x = -11 ∧ upR M 0 (up (M 0) 10 1) = N) ∨ (((0 ≤ ia ∧ ia ≤ 3) ∧ M (10 + ia.toNat) 0 ≠ -1) ∧ ∃ r7 r8 : Int → Int, rdQ (M (14 + ia.toNat)) 0 (M (10 + ia.toNat) 1) (sgC (M 7) (M 8)) ((M 0) 8) x (sgC r7 r8) ∧ upR (upR (upR M 7 r7) 8 r8) 0 (up (M 0) 8 ((M 0) 8 + x)) = N)) : lo M N := by
  rcases h with ⟨-, -, rfl⟩ | ⟨-, -, rfl⟩ | ⟨-, r7, r8, -, rfl⟩
  · exact lo_r M
  · exact (lo_u (by decide) (lo_r M))
  · exact lo_u (by decide) (lo_u (by decide) (lo_u (by decide) (lo_r M)))
set_option maxRecDepth 100000 in
theorem law_0 (en : zE) (cx : zX) {b L : Nat} {xs : Nat → Int32} (hL : L ≤ 384) (hX : lwX cx b L xs) (x3 : Int) (hx : 0 ≤ x3 ∧ x3 + 6 ≤ L) (Mx : zW) (uR : Rel Mx) (uk : ∀ M : zW, Rel M → Z en kA cx mL_law M 1097 [(0, .ref b), (1, rf en 0), (2, rf en 37), (3, vi x3)] []) : Z en kA cx mL_law Mx 172 [(0, .ref b), (1, rf en 0), (2, rf en 37), (3, vi x3)] [] := by
  have us1 := sc_rg xs (x3 + 1)
  have us2 := sc_rg xs (x3 + 2)
  have us3 := sc_rg xs (x3 + 3)
  have us4 := sc_rg xs (x3 + 4)
  have us5 := sc_rg xs (x3 + 5)
  have us6 := uR.hs.1
  have us7 := uR.gO
  refine z_aload_n 1 dL_law_172 rfl ?_
  refine z_aload_b 0 dL_law_173 rfl ?_
  refine z_iload_n 3 dL_law_174 rfl ?_
  refine z_iconst dL_law_175 ?_
  refine z_iadd dL_law_176 ?_
  refine z_sld dL_law_177 hX (by omega) (by omega) ?_
  refine z_aload_b 0 dL_law_178 rfl ?_
  refine z_iload_n 3 dL_law_179 rfl ?_
  refine z_iconst dL_law_180 ?_
  refine z_iadd dL_law_181 ?_
  refine z_sld dL_law_182 hX (by omega) (by omega) ?_
  refine z_vX dL_law_183 lL_13 (by decide) ka0 io0 rfl (ct_X6_type en Mx (Mx 1) (Mx 18) (Mx 19) (Mx 20) (Mx 21) (Mx 22) (Mx 2) (Mx 23) (Mx 24) (Mx 25) (Mx 26) (Mx 27) (Mx 28) rfl rfl rfl rfl rfl rfl rfl rfl rfl rfl rfl rfl rfl _ _ (by omega) (uR.hX)) rfl rfl (by exact Nat.le_of_ble_eq_true rfl) (fun uv183 uN183 uh183 => ?_)
  have ulo := lo_type uh183
  have uh1 := uh183
  refine z_aload_n 2 dL_law_186 rfl ?_
  refine z_aload_b 0 dL_law_187 rfl ?_
  refine z_iload_n 3 dL_law_188 rfl ?_
  refine z_iconst dL_law_189 ?_
  refine z_iadd dL_law_190 ?_
  refine z_sld dL_law_191 hX (by omega) (by omega) ?_
  refine z_aload_b 0 dL_law_192 rfl ?_
  refine z_iload_n 3 dL_law_193 rfl ?_
  refine z_iconst dL_law_194 ?_
  refine z_iadd dL_law_195 ?_
  refine z_sld dL_law_196 hX (by omega) (by omega) ?_
  refine z_vX dL_law_197 lL_17 (by decide) ka37 io37 rfl (ct_X7_type en uN183 (Mx 42) (Mx 43) ((ulo 42 (by decide))) ((ulo 43 (by decide))) _ _ (by omega) (uR.gY)) rfl rfl (by exact Nat.le_of_ble_eq_true rfl) (fun uv197 uN197 uh197 => ?_)
  obtain ⟨rfl, uRn⟩ := fin_type uR (by omega) uh1 uh197
  refine z_cmpE (tgt := 1097) dL_law_200 rfl ?_
  exact uk _ uRn
set_option maxRecDepth 100000 in
theorem law_1 (en : zE) (cx : zX) {b L : Nat} {xs : Nat → Int32} (hL : L ≤ 384) (hX : lwX cx b L xs) (x3 : Int) (hx : 0 ≤ x3 ∧ x3 + 6 ≤ L) (Mx : zW) (uR : Rel Mx) (uk : ∀ M : zW, Rel M → Z en kA cx mL_law M 1097 [(0, .ref b), (1, rf en 0), (2, rf en 37), (3, vi x3)] []) : Z en kA cx mL_law Mx 205 [(0, .ref b), (1, rf en 0), (2, rf en 37), (3, vi x3)] [] := by
  have us1 := sc_rg xs (x3 + 1)
  have us2 := sc_rg xs (x3 + 2)
  have us3 := sc_rg xs (x3 + 3)
  have us4 := sc_rg xs (x3 + 4)
  have us5 := sc_rg xs (x3 + 5)
  have us6 := uR.hs.1
  have us7 := uR.gO
  refine z_aload_n 1 dL_law_205 rfl ?_
  refine z_aload_b 0 dL_law_206 rfl ?_
  refine z_iload_n 3 dL_law_207 rfl ?_
  refine z_iconst dL_law_208 ?_
  refine z_iadd dL_law_209 ?_
  refine z_sld dL_law_210 hX (by omega) (by omega) ?_
  refine z_vX dL_law_211 lL_18 (by decide) ka0 io0 rfl (ct_X6_wipe en Mx (Mx 1) (Mx 18) (Mx 19) (Mx 20) (Mx 21) (Mx 22) (Mx 2) (Mx 23) (Mx 24) (Mx 25) (Mx 26) (Mx 27) (Mx 28) rfl rfl rfl rfl rfl rfl rfl rfl rfl rfl rfl rfl rfl _ (by omega) (uR.hX)) rfl rfl (by exact Nat.le_of_ble_eq_true rfl) (fun uv211 uN211 uh211 => ?_)
  have ulo := lo_wipe uh211
  have uh1 := uh211
  refine z_aload_n 2 dL_law_214 rfl ?_
  refine z_aload_b 0 dL_law_215 rfl ?_
  refine z_iload_n 3 dL_law_216 rfl ?_
  refine z_iconst dL_law_217 ?_
  refine z_iadd dL_law_218 ?_
  refine z_sld dL_law_219 hX (by omega) (by omega) ?_
  refine z_vX dL_law_220 lL_22 (by decide) ka37 io37 rfl (ct_X7_wipe en uN211 (Mx 43) ((ulo 43 (by decide))) _ (by omega) (uR.gY)) rfl rfl (by exact Nat.le_of_ble_eq_true rfl) (fun uv220 uN220 uh220 => ?_)
  obtain ⟨rfl, uRn⟩ := fin_wipe uR (by omega) uh1 uh220
  refine z_cmpE (tgt := 1097) dL_law_223 rfl ?_
  exact uk _ uRn
set_option maxRecDepth 100000 in
theorem law_2 (en : zE) (cx : zX) {b L : Nat} {xs : Nat → Int32} (hL : L ≤ 384) (hX : lwX cx b L xs) (x3 : Int) (hx : 0 ≤ x3 ∧ x3 + 6 ≤ L) (Mx : zW) (uR : Rel Mx) (uk : ∀ M : zW, Rel M → Z en kA cx mL_law M 1097 [(0, .ref b), (1, rf en 0), (2, rf en 37), (3, vi x3)] []) : Z en kA cx mL_law Mx 228 [(0, .ref b), (1, rf en 0), (2, rf en 37), (3, vi x3)] [] := by
  have us1 := sc_rg xs (x3 + 1)
  have us2 := sc_rg xs (x3 + 2)
  have us3 := sc_rg xs (x3 + 3)
  have us4 := sc_rg xs (x3 + 4)
  have us5 := sc_rg xs (x3 + 5)
  have us6 := uR.hs.1
  have us7 := uR.gO
  refine z_aload_n 1 dL_law_228 rfl ?_
  refine z_aload_b 0 dL_law_229 rfl ?_
  refine z_iload_n 3 dL_law_230 rfl ?_
  refine z_iconst dL_law_231 ?_
  refine z_iadd dL_law_232 ?_
  refine z_sld dL_law_233 hX (by omega) (by omega) ?_
  refine z_vX dL_law_234 lL_23 (by decide) ka0 io0 rfl (ct_X6_undo en Mx (Mx 1) (Mx 18) (Mx 19) (Mx 20) (Mx 21) (Mx 22) (Mx 2) (Mx 23) (Mx 24) (Mx 25) (Mx 26) (Mx 27) (Mx 28) rfl rfl rfl rfl rfl rfl rfl rfl rfl rfl rfl rfl rfl _ (by omega) (uR.hX)) rfl rfl (by exact Nat.le_of_ble_eq_true rfl) (fun uv234 uN234 uh234 => ?_)
  have ulo := lo_undo uh234
  have uh1 := uh234
  refine z_aload_n 2 dL_law_237 rfl ?_
  refine z_aload_b 0 dL_law_238 rfl ?_
  refine z_iload_n 3 dL_law_239 rfl ?_
  refine z_iconst dL_law_240 ?_
  refine z_iadd dL_law_241 ?_
  refine z_sld dL_law_242 hX (by omega) (by omega) ?_
  refine z_vX dL_law_243 lL_26 (by decide) ka37 io37 rfl (ct_X7_undo en uN234 (Mx 43) ((ulo 43 (by decide))) _ (by omega) (uR.gY)) rfl rfl (by exact Nat.le_of_ble_eq_true rfl) (fun uv243 uN243 uh243 => ?_)
  obtain ⟨rfl, uRn⟩ := fin_undo uR (by omega) uh1 uh243
  refine z_cmpE (tgt := 1097) dL_law_246 rfl ?_
  exact uk _ uRn
set_option maxRecDepth 100000 in
theorem law_3 (en : zE) (cx : zX) {b L : Nat} {xs : Nat → Int32} (hL : L ≤ 384) (hX : lwX cx b L xs) (x3 : Int) (hx : 0 ≤ x3 ∧ x3 + 6 ≤ L) (Mx : zW) (uR : Rel Mx) (uk : ∀ M : zW, Rel M → Z en kA cx mL_law M 1097 [(0, .ref b), (1, rf en 0), (2, rf en 37), (3, vi x3)] []) : Z en kA cx mL_law Mx 251 [(0, .ref b), (1, rf en 0), (2, rf en 37), (3, vi x3)] [] := by
  have us1 := sc_rg xs (x3 + 1)
  have us2 := sc_rg xs (x3 + 2)
  have us3 := sc_rg xs (x3 + 3)
  have us4 := sc_rg xs (x3 + 4)
  have us5 := sc_rg xs (x3 + 5)
  have us6 := uR.hs.1
  have us7 := uR.gO
  refine z_aload_n 1 dL_law_251 rfl ?_
  refine z_aload_b 0 dL_law_252 rfl ?_
  refine z_iload_n 3 dL_law_253 rfl ?_
  refine z_iconst dL_law_254 ?_
  refine z_iadd dL_law_255 ?_
  refine z_sld dL_law_256 hX (by omega) (by omega) ?_
  refine z_vI dL_law_257 lL_27 (by decide) ka0 io0 rfl (ct_X6_fault en Mx (Mx 1) (Mx 2) rfl rfl _ (by omega)) rfl rfl (by exact Nat.le_of_ble_eq_true rfl) ?_
  refine z_aload_n 2 dL_law_260 rfl ?_
  refine z_aload_b 0 dL_law_261 rfl ?_
  refine z_iload_n 3 dL_law_262 rfl ?_
  refine z_iconst dL_law_263 ?_
  refine z_iadd dL_law_264 ?_
  refine z_sld dL_law_265 hX (by omega) (by omega) ?_
  refine z_vX dL_law_266 lL_30 (by decide) ka37 io37 rfl (ct_X7_fault en Mx (Mx 37) (Mx 42) (Mx 43) (Mx 44) (Mx 45) rfl rfl rfl rfl rfl _ (by omega) (uR.gB) (uR.gY)) rfl rfl (by exact Nat.le_of_ble_eq_true rfl) (fun uv266 uN266 uh266 => ?_)
  obtain ⟨rfl, uRn⟩ := fin_fault uR (by omega) rfl uh266
  refine z_cmpE (tgt := 1097) dL_law_269 rfl ?_
  exact uk _ uRn
set_option maxRecDepth 100000 in
theorem law_4 (en : zE) (cx : zX) {b L : Nat} {xs : Nat → Int32} (hL : L ≤ 384) (hX : lwX cx b L xs) (x3 : Int) (hx : 0 ≤ x3 ∧ x3 + 6 ≤ L) (Mx : zW) (uR : Rel Mx) (uk : ∀ M : zW, Rel M → Z en kA cx mL_law M 1097 [(0, .ref b), (1, rf en 0), (2, rf en 37), (3, vi x3)] []) : Z en kA cx mL_law Mx 274 [(0, .ref b), (1, rf en 0), (2, rf en 37), (3, vi x3)] [] := by
  have us1 := sc_rg xs (x3 + 1)
  have us2 := sc_rg xs (x3 + 2)
  have us3 := sc_rg xs (x3 + 3)
  have us4 := sc_rg xs (x3 + 4)
  have us5 := sc_rg xs (x3 + 5)
  have us6 := uR.hs.1
  have us7 := uR.gO
  refine z_aload_n 1 dL_law_274 rfl ?_
  refine z_aload_b 0 dL_law_275 rfl ?_
  refine z_iload_n 3 dL_law_276 rfl ?_
  refine z_iconst dL_law_277 ?_
  refine z_iadd dL_law_278 ?_
  refine z_sld dL_law_279 hX (by omega) (by omega) ?_
  refine z_aload_b 0 dL_law_280 rfl ?_
  refine z_iload_n 3 dL_law_281 rfl ?_
  refine z_iconst dL_law_282 ?_
  refine z_iadd dL_law_283 ?_
  refine z_sld dL_law_284 hX (by omega) (by omega) ?_
  refine z_vI dL_law_285 lL_31 (by decide) ka0 io0 rfl (ct_X6_road en Mx (Mx 1) (Mx 19) (Mx 20) (Mx 21) rfl rfl rfl rfl _ _ (by omega) (uR.hO)) rfl rfl (by exact Nat.le_of_ble_eq_true rfl) ?_
  refine z_aload_n 2 dL_law_288 rfl ?_
  refine z_aload_b 0 dL_law_289 rfl ?_
  refine z_iload_n 3 dL_law_290 rfl ?_
  refine z_iconst dL_law_291 ?_
  refine z_iadd dL_law_292 ?_
  refine z_sld dL_law_293 hX (by omega) (by omega) ?_
  refine z_aload_b 0 dL_law_294 rfl ?_
  refine z_iload_n 3 dL_law_295 rfl ?_
  refine z_iconst dL_law_296 ?_
  refine z_iadd dL_law_297 ?_
  refine z_sld dL_law_298 hX (by omega) (by omega) ?_
  refine z_vX dL_law_299 lL_34 (by decide) ka37 io37 rfl (ct_X7_road en Mx (Mx 37) (Mx 42) (Mx 43) (Mx 44) rfl rfl rfl rfl _ _ (by omega) (uR.gB) (uR.gY)) rfl rfl (by exact Nat.le_of_ble_eq_true rfl) (fun uv299 uN299 uh299 => ?_)
  obtain ⟨rfl, uRn⟩ := fin_road uR (by omega) rfl uh299
  refine z_cmpE (tgt := 1097) dL_law_302 rfl ?_
  exact uk _ uRn
set_option maxRecDepth 100000 in
theorem law_5 (en : zE) (cx : zX) {b L : Nat} {xs : Nat → Int32} (hL : L ≤ 384) (hX : lwX cx b L xs) (x3 : Int) (hx : 0 ≤ x3 ∧ x3 + 6 ≤ L) (Mx : zW) (uR : Rel Mx) (uk : ∀ M : zW, Rel M → Z en kA cx mL_law M 1097 [(0, .ref b), (1, rf en 0), (2, rf en 37), (3, vi x3)] []) : Z en kA cx mL_law Mx 307 [(0, .ref b), (1, rf en 0), (2, rf en 37), (3, vi x3)] [] := by
  have us1 := sc_rg xs (x3 + 1)
  have us2 := sc_rg xs (x3 + 2)
  have us3 := sc_rg xs (x3 + 3)
  have us4 := sc_rg xs (x3 + 4)
  have us5 := sc_rg xs (x3 + 5)
  have us6 := uR.hs.1
  have us7 := uR.gO
  refine z_aload_n 1 dL_law_307 rfl ?_
  refine z_aload_b 0 dL_law_308 rfl ?_
  refine z_iload_n 3 dL_law_309 rfl ?_
  refine z_iconst dL_law_310 ?_
  refine z_iadd dL_law_311 ?_
  refine z_sld dL_law_312 hX (by omega) (by omega) ?_
  refine z_aload_b 0 dL_law_313 rfl ?_
  refine z_iload_n 3 dL_law_314 rfl ?_
  refine z_iconst dL_law_315 ?_
  refine z_iadd dL_law_316 ?_
  refine z_sld dL_law_317 hX (by omega) (by omega) ?_
  refine z_vI dL_law_318 lL_35 (by decide) ka0 io0 rfl (ct_X6_person en Mx (Mx 2) (Mx 24) (Mx 25) (Mx 26) (Mx 27) (Mx 28) rfl rfl rfl rfl rfl rfl _ _ (by omega) (uR.hP.1)) rfl rfl (by exact Nat.le_of_ble_eq_true rfl) ?_
  refine z_aload_n 2 dL_law_321 rfl ?_
  refine z_aload_b 0 dL_law_322 rfl ?_
  refine z_iload_n 3 dL_law_323 rfl ?_
  refine z_iconst dL_law_324 ?_
  refine z_iadd dL_law_325 ?_
  refine z_sld dL_law_326 hX (by omega) (by omega) ?_
  refine z_aload_b 0 dL_law_327 rfl ?_
  refine z_iload_n 3 dL_law_328 rfl ?_
  refine z_iconst dL_law_329 ?_
  refine z_iadd dL_law_330 ?_
  refine z_sld dL_law_331 hX (by omega) (by omega) ?_
  refine z_vX dL_law_332 lL_38 (by decide) ka37 io37 rfl (ct_X7_person en Mx (Mx 37) (Mx 42) (Mx 43) (Mx 45) rfl rfl rfl rfl _ _ (by omega) (uR.gB) (uR.gY)) rfl rfl (by exact Nat.le_of_ble_eq_true rfl) (fun uv332 uN332 uh332 => ?_)
  obtain ⟨rfl, uRn⟩ := fin_person uR (by omega) rfl uh332
  refine z_cmpE (tgt := 1097) dL_law_335 rfl ?_
  exact uk _ uRn
set_option maxRecDepth 100000 in
theorem law_6 (en : zE) (cx : zX) {b L : Nat} {xs : Nat → Int32} (hL : L ≤ 384) (hX : lwX cx b L xs) (x3 : Int) (hx : 0 ≤ x3 ∧ x3 + 6 ≤ L) (Mx : zW) (uR : Rel Mx) (uk : ∀ M : zW, Rel M → Z en kA cx mL_law M 1097 [(0, .ref b), (1, rf en 0), (2, rf en 37), (3, vi x3)] []) : Z en kA cx mL_law Mx 340 [(0, .ref b), (1, rf en 0), (2, rf en 37), (3, vi x3)] [] := by
  have us1 := sc_rg xs (x3 + 1)
  have us2 := sc_rg xs (x3 + 2)
  have us3 := sc_rg xs (x3 + 3)
  have us4 := sc_rg xs (x3 + 4)
  have us5 := sc_rg xs (x3 + 5)
  have us6 := uR.hs.1
  have us7 := uR.gO
  refine z_aload_n 1 dL_law_340 rfl ?_
  refine z_aload_b 0 dL_law_341 rfl ?_
  refine z_iload_n 3 dL_law_342 rfl ?_
  refine z_iconst dL_law_343 ?_
  refine z_iadd dL_law_344 ?_
  refine z_sld dL_law_345 hX (by omega) (by omega) ?_
  refine z_aload_b 0 dL_law_346 rfl ?_
  refine z_iload_n 3 dL_law_347 rfl ?_
  refine z_iconst dL_law_348 ?_
  refine z_iadd dL_law_349 ?_
  refine z_sld dL_law_350 hX (by omega) (by omega) ?_
  refine z_vX dL_law_351 lL_39 (by decide) ka0 io0 rfl (ct_X6_set en Mx (Mx 3) rfl _ _ (by omega)) rfl rfl (by exact Nat.le_of_ble_eq_true rfl) (fun uv351 uN351 uh351 => ?_)
  have ulo := lo_set uh351
  have uh1 := uh351
  refine z_aload_n 2 dL_law_354 rfl ?_
  refine z_aload_b 0 dL_law_355 rfl ?_
  refine z_iload_n 3 dL_law_356 rfl ?_
  refine z_iconst dL_law_357 ?_
  refine z_iadd dL_law_358 ?_
  refine z_sld dL_law_359 hX (by omega) (by omega) ?_
  refine z_aload_b 0 dL_law_360 rfl ?_
  refine z_iload_n 3 dL_law_361 rfl ?_
  refine z_iconst dL_law_362 ?_
  refine z_iadd dL_law_363 ?_
  refine z_sld dL_law_364 hX (by omega) (by omega) ?_
  refine z_vX dL_law_365 lL_42 (by decide) ka37 io37 rfl (ct_X7_set en uN351 (Mx 46) ((ulo 46 (by decide))) _ _ (by omega)) rfl rfl (by exact Nat.le_of_ble_eq_true rfl) (fun uv365 uN365 uh365 => ?_)
  obtain ⟨rfl, uRn⟩ := fin_set uR (by omega) uh1 uh365
  refine z_cmpE (tgt := 1097) dL_law_368 rfl ?_
  exact uk _ uRn
set_option maxRecDepth 100000 in
theorem law_7 (en : zE) (cx : zX) {b L : Nat} {xs : Nat → Int32} (hL : L ≤ 384) (hX : lwX cx b L xs) (x3 : Int) (hx : 0 ≤ x3 ∧ x3 + 6 ≤ L) (Mx : zW) (uR : Rel Mx) (uk : ∀ M : zW, Rel M → Z en kA cx mL_law M 1097 [(0, .ref b), (1, rf en 0), (2, rf en 37), (3, vi x3)] []) : Z en kA cx mL_law Mx 373 [(0, .ref b), (1, rf en 0), (2, rf en 37), (3, vi x3)] [] := by
  have us1 := sc_rg xs (x3 + 1)
  have us2 := sc_rg xs (x3 + 2)
  have us3 := sc_rg xs (x3 + 3)
  have us4 := sc_rg xs (x3 + 4)
  have us5 := sc_rg xs (x3 + 5)
  have us6 := uR.hs.1
  have us7 := uR.gO
  refine z_aload_n 1 dL_law_373 rfl ?_
  refine z_aload_b 0 dL_law_374 rfl ?_
  refine z_iload_n 3 dL_law_375 rfl ?_
  refine z_iconst dL_law_376 ?_
  refine z_iadd dL_law_377 ?_
  refine z_sld dL_law_378 hX (by omega) (by omega) ?_
  refine z_aload_b 0 dL_law_379 rfl ?_
  refine z_iload_n 3 dL_law_380 rfl ?_
  refine z_iconst dL_law_381 ?_
  refine z_iadd dL_law_382 ?_
  refine z_sld dL_law_383 hX (by omega) (by omega) ?_
  refine z_vX dL_law_384 lL_43 (by decide) ka0 io0 rfl (ct_X6_way en Mx (Mx 22) rfl _ _ (by omega) (uR.hc)) rfl rfl (by exact Nat.le_of_ble_eq_true rfl) (fun uv384 uN384 uh384 => ?_)
  have ulo := lo_way uh384
  have uh1 := uh384
  refine z_aload_n 2 dL_law_387 rfl ?_
  refine z_aload_b 0 dL_law_388 rfl ?_
  refine z_iload_n 3 dL_law_389 rfl ?_
  refine z_iconst dL_law_390 ?_
  refine z_iadd dL_law_391 ?_
  refine z_sld dL_law_392 hX (by omega) (by omega) ?_
  refine z_aload_b 0 dL_law_393 rfl ?_
  refine z_iload_n 3 dL_law_394 rfl ?_
  refine z_iconst dL_law_395 ?_
  refine z_iadd dL_law_396 ?_
  refine z_sld dL_law_397 hX (by omega) (by omega) ?_
  refine z_vX dL_law_398 lL_46 (by decide) ka37 io37 rfl (ct_X7_way en uN384 (Mx 37) (Mx 42) (Mx 43) (uN384 44) (uN384 45) (Mx 46) (uN384 47) ((ulo 37 (by decide))) ((ulo 42 (by decide))) ((ulo 43 (by decide))) rfl rfl ((ulo 46 (by decide))) rfl _ _ (by omega) (uR.gB) (uR.gY)) rfl rfl (by exact Nat.le_of_ble_eq_true rfl) (fun uv398 uN398 uh398 => ?_)
  obtain ⟨rfl, uRn⟩ := fin_way uR (by omega) uh1 uh398
  refine z_cmpE (tgt := 1097) dL_law_401 rfl ?_
  exact uk _ uRn
set_option maxRecDepth 100000 in
theorem law_8 (en : zE) (cx : zX) {b L : Nat} {xs : Nat → Int32} (hL : L ≤ 384) (hX : lwX cx b L xs) (x3 : Int) (hx : 0 ≤ x3 ∧ x3 + 6 ≤ L) (Mx : zW) (uR : Rel Mx) (uk : ∀ M : zW, Rel M → Z en kA cx mL_law M 1097 [(0, .ref b), (1, rf en 0), (2, rf en 37), (3, vi x3)] []) : Z en kA cx mL_law Mx 406 [(0, .ref b), (1, rf en 0), (2, rf en 37), (3, vi x3)] [] := by
  have us1 := sc_rg xs (x3 + 1)
  have us2 := sc_rg xs (x3 + 2)
  have us3 := sc_rg xs (x3 + 3)
  have us4 := sc_rg xs (x3 + 4)
  have us5 := sc_rg xs (x3 + 5)
  have us6 := uR.hs.1
  have us7 := uR.gO
  refine z_aload_n 1 dL_law_406 rfl ?_
  refine z_aload_b 0 dL_law_407 rfl ?_
  refine z_iload_n 3 dL_law_408 rfl ?_
  refine z_iconst dL_law_409 ?_
  refine z_iadd dL_law_410 ?_
  refine z_sld dL_law_411 hX (by omega) (by omega) ?_
  refine z_aload_b 0 dL_law_412 rfl ?_
  refine z_iload_n 3 dL_law_413 rfl ?_
  refine z_iconst dL_law_414 ?_
  refine z_iadd dL_law_415 ?_
  refine z_sld dL_law_416 hX (by omega) (by omega) ?_
  refine z_vX dL_law_417 lL_47 (by decide) ka0 io0 rfl (ct_X6_hears en Mx (Mx 2) (Mx 3) (Mx 5) (Mx 22) (Mx 24) (Mx 25) (Mx 26) (Mx 27) (Mx 28) (Mx 29) (Mx 30) (Mx 31) (Mx 32) (Mx 33) (Mx 34) rfl rfl rfl rfl rfl rfl rfl rfl rfl rfl rfl rfl rfl rfl rfl _ _ (by omega) (uR.hT) (uR.hc) (uR.hP)) rfl rfl (by exact Nat.le_of_ble_eq_true rfl) (fun uv417 uN417 uh417 => ?_)
  have ulo := lo_hears uh417
  have uh1 := uh417
  refine z_aload_n 2 dL_law_420 rfl ?_
  refine z_aload_b 0 dL_law_421 rfl ?_
  refine z_iload_n 3 dL_law_422 rfl ?_
  refine z_iconst dL_law_423 ?_
  refine z_iadd dL_law_424 ?_
  refine z_sld dL_law_425 hX (by omega) (by omega) ?_
  refine z_aload_b 0 dL_law_426 rfl ?_
  refine z_iload_n 3 dL_law_427 rfl ?_
  refine z_iconst dL_law_428 ?_
  refine z_iadd dL_law_429 ?_
  refine z_sld dL_law_430 hX (by omega) (by omega) ?_
  refine z_vX dL_law_431 lL_50 (by decide) ka37 io37 rfl (ct_X7_hears en uN417 (Mx 37) (Mx 42) (Mx 43) (uN417 44) (uN417 45) (Mx 46) (uN417 47) ((ulo 37 (by decide))) ((ulo 42 (by decide))) ((ulo 43 (by decide))) rfl rfl ((ulo 46 (by decide))) rfl _ _ (by omega) (uR.gB) (uR.gY) (uR.gT)) rfl rfl (by exact Nat.le_of_ble_eq_true rfl) (fun uv431 uN431 uh431 => ?_)
  obtain ⟨rfl, uRn⟩ := fin_hears uR (by omega) uh1 uh431
  refine z_cmpE (tgt := 1097) dL_law_434 rfl ?_
  exact uk _ uRn
set_option maxRecDepth 100000 in
theorem law_9 (en : zE) (cx : zX) {b L : Nat} {xs : Nat → Int32} (hL : L ≤ 384) (hX : lwX cx b L xs) (x3 : Int) (hx : 0 ≤ x3 ∧ x3 + 6 ≤ L) (Mx : zW) (uR : Rel Mx) (uk : ∀ M : zW, Rel M → Z en kA cx mL_law M 1097 [(0, .ref b), (1, rf en 0), (2, rf en 37), (3, vi x3)] []) : Z en kA cx mL_law Mx 439 [(0, .ref b), (1, rf en 0), (2, rf en 37), (3, vi x3)] [] := by
  have us1 := sc_rg xs (x3 + 1)
  have us2 := sc_rg xs (x3 + 2)
  have us3 := sc_rg xs (x3 + 3)
  have us4 := sc_rg xs (x3 + 4)
  have us5 := sc_rg xs (x3 + 5)
  have us6 := uR.hs.1
  have us7 := uR.gO
  refine z_aload_n 1 dL_law_439 rfl ?_
  refine z_vX dL_law_440 lL_51 (by decide) ka0 io0 rfl (ct_X6_crowned en Mx (Mx 2) (Mx 3) (Mx 5) (Mx 22) (Mx 24) (Mx 25) (Mx 26) (Mx 27) (Mx 28) (Mx 29) (Mx 30) (Mx 31) (Mx 32) (Mx 33) (Mx 34) rfl rfl rfl rfl rfl rfl rfl rfl rfl rfl rfl rfl rfl rfl rfl (uR.hT) (uR.hc) (uR.hP)) rfl rfl (by exact Nat.le_of_ble_eq_true rfl) (fun uv440 uN440 uh440 => ?_)
  have ulo := lo_crowned uh440
  have uh1 := uh440
  refine z_aload_n 2 dL_law_443 rfl ?_
  refine z_vX dL_law_444 lL_55 (by decide) ka37 io37 rfl (ct_X7_crowned en uN440 (Mx 37) (Mx 42) (Mx 43) (uN440 44) (uN440 45) (Mx 46) (uN440 47) ((ulo 37 (by decide))) ((ulo 42 (by decide))) ((ulo 43 (by decide))) rfl rfl ((ulo 46 (by decide))) rfl (uR.gB) (uR.gY) (uR.gT)) rfl rfl (by exact Nat.le_of_ble_eq_true rfl) (fun uv444 uN444 uh444 => ?_)
  obtain ⟨rfl, uRn⟩ := fin_crowned uR uh1 uh444
  refine z_cmpE (tgt := 1097) dL_law_447 rfl ?_
  exact uk _ uRn
set_option maxRecDepth 100000 in
theorem law_10 (en : zE) (cx : zX) {b L : Nat} {xs : Nat → Int32} (hL : L ≤ 384) (hX : lwX cx b L xs) (x3 : Int) (hx : 0 ≤ x3 ∧ x3 + 6 ≤ L) (Mx : zW) (uR : Rel Mx) (uk : ∀ M : zW, Rel M → Z en kA cx mL_law M 1097 [(0, .ref b), (1, rf en 0), (2, rf en 37), (3, vi x3)] []) : Z en kA cx mL_law Mx 452 [(0, .ref b), (1, rf en 0), (2, rf en 37), (3, vi x3)] [] := by
  have us1 := sc_rg xs (x3 + 1)
  have us2 := sc_rg xs (x3 + 2)
  have us3 := sc_rg xs (x3 + 3)
  have us4 := sc_rg xs (x3 + 4)
  have us5 := sc_rg xs (x3 + 5)
  have us6 := uR.hs.1
  have us7 := uR.gO
  refine z_aload_n 1 dL_law_452 rfl ?_
  refine z_aload_b 0 dL_law_453 rfl ?_
  refine z_iload_n 3 dL_law_454 rfl ?_
  refine z_iconst dL_law_455 ?_
  refine z_iadd dL_law_456 ?_
  refine z_sld dL_law_457 hX (by omega) (by omega) ?_
  refine z_vX dL_law_458 lL_56 (by decide) ka0 io0 rfl (ct_X6_knew en Mx (Mx 2) (Mx 3) (Mx 5) (Mx 22) (Mx 24) (Mx 25) (Mx 26) (Mx 27) (Mx 28) (Mx 29) (Mx 30) (Mx 31) (Mx 32) (Mx 33) (Mx 34) rfl rfl rfl rfl rfl rfl rfl rfl rfl rfl rfl rfl rfl rfl rfl _ (by omega) (uR.hT) (uR.hc) (uR.hP)) rfl rfl (by exact Nat.le_of_ble_eq_true rfl) (fun uv458 uN458 uh458 => ?_)
  have ulo := lo_knew uh458
  have uh1 := uh458
  refine z_aload_n 2 dL_law_461 rfl ?_
  refine z_aload_b 0 dL_law_462 rfl ?_
  refine z_iload_n 3 dL_law_463 rfl ?_
  refine z_iconst dL_law_464 ?_
  refine z_iadd dL_law_465 ?_
  refine z_sld dL_law_466 hX (by omega) (by omega) ?_
  refine z_vX dL_law_467 lL_59 (by decide) ka37 io37 rfl (ct_X7_knew en uN458 (Mx 37) (Mx 42) (Mx 43) (uN458 44) (uN458 45) (Mx 46) (uN458 47) ((ulo 37 (by decide))) ((ulo 42 (by decide))) ((ulo 43 (by decide))) rfl rfl ((ulo 46 (by decide))) rfl _ (by omega) (uR.gB) (uR.gY) (uR.gT)) rfl rfl (by exact Nat.le_of_ble_eq_true rfl) (fun uv467 uN467 uh467 => ?_)
  obtain ⟨rfl, uRn⟩ := fin_knew uR (by omega) uh1 uh467
  refine z_cmpE (tgt := 1097) dL_law_470 rfl ?_
  exact uk _ uRn
set_option maxRecDepth 100000 in
theorem law_11 (en : zE) (cx : zX) {b L : Nat} {xs : Nat → Int32} (hL : L ≤ 384) (hX : lwX cx b L xs) (x3 : Int) (hx : 0 ≤ x3 ∧ x3 + 6 ≤ L) (Mx : zW) (uR : Rel Mx) (uk : ∀ M : zW, Rel M → Z en kA cx mL_law M 1097 [(0, .ref b), (1, rf en 0), (2, rf en 37), (3, vi x3)] []) : Z en kA cx mL_law Mx 475 [(0, .ref b), (1, rf en 0), (2, rf en 37), (3, vi x3)] [] := by
  have us1 := sc_rg xs (x3 + 1)
  have us2 := sc_rg xs (x3 + 2)
  have us3 := sc_rg xs (x3 + 3)
  have us4 := sc_rg xs (x3 + 4)
  have us5 := sc_rg xs (x3 + 5)
  have us6 := uR.hs.1
  have us7 := uR.gO
  refine z_aload_n 1 dL_law_475 rfl ?_
  refine z_aload_b 0 dL_law_476 rfl ?_
  refine z_iload_n 3 dL_law_477 rfl ?_
  refine z_iconst dL_law_478 ?_
  refine z_iadd dL_law_479 ?_
  refine z_sld dL_law_480 hX (by omega) (by omega) ?_
  refine z_aload_b 0 dL_law_481 rfl ?_
  refine z_iload_n 3 dL_law_482 rfl ?_
  refine z_iconst dL_law_483 ?_
  refine z_iadd dL_law_484 ?_
  refine z_sld dL_law_485 hX (by omega) (by omega) ?_
  refine z_vX dL_law_486 lL_60 (by decide) ka0 io0 rfl (ct_X6_rides en Mx (Mx 2) (Mx 3) (Mx 5) (Mx 22) (Mx 24) (Mx 25) (Mx 26) (Mx 27) (Mx 28) (Mx 29) (Mx 30) (Mx 31) (Mx 32) (Mx 33) (Mx 34) rfl rfl rfl rfl rfl rfl rfl rfl rfl rfl rfl rfl rfl rfl rfl _ _ (by omega) (uR.hT) (uR.hc) (uR.hP)) rfl rfl (by exact Nat.le_of_ble_eq_true rfl) (fun uv486 uN486 uh486 => ?_)
  have ulo := lo_rides uh486
  have uh1 := uh486
  refine z_aload_n 2 dL_law_489 rfl ?_
  refine z_aload_b 0 dL_law_490 rfl ?_
  refine z_iload_n 3 dL_law_491 rfl ?_
  refine z_iconst dL_law_492 ?_
  refine z_iadd dL_law_493 ?_
  refine z_sld dL_law_494 hX (by omega) (by omega) ?_
  refine z_aload_b 0 dL_law_495 rfl ?_
  refine z_iload_n 3 dL_law_496 rfl ?_
  refine z_iconst dL_law_497 ?_
  refine z_iadd dL_law_498 ?_
  refine z_sld dL_law_499 hX (by omega) (by omega) ?_
  refine z_vX dL_law_500 lL_63 (by decide) ka37 io37 rfl (ct_X7_rides en uN486 (Mx 37) (Mx 42) (Mx 43) (uN486 44) (uN486 45) (Mx 46) (uN486 47) (uN486 48) (uN486 49) (uN486 50) ((ulo 37 (by decide))) ((ulo 42 (by decide))) ((ulo 43 (by decide))) rfl rfl ((ulo 46 (by decide))) rfl rfl rfl rfl _ _ (by omega) (uR.gB) (uR.gY) (uR.gT)) rfl rfl (by exact Nat.le_of_ble_eq_true rfl) (fun uv500 uN500 uh500 => ?_)
  obtain ⟨rfl, uRn⟩ := fin_rides uR (by omega) uh1 uh500
  refine z_cmpE (tgt := 1097) dL_law_503 rfl ?_
  exact uk _ uRn
set_option maxRecDepth 100000 in
theorem law_12 (en : zE) (cx : zX) {b L : Nat} {xs : Nat → Int32} (hL : L ≤ 384) (hX : lwX cx b L xs) (x3 : Int) (hx : 0 ≤ x3 ∧ x3 + 6 ≤ L) (Mx : zW) (uR : Rel Mx) (uk : ∀ M : zW, Rel M → Z en kA cx mL_law M 1097 [(0, .ref b), (1, rf en 0), (2, rf en 37), (3, vi x3)] []) : Z en kA cx mL_law Mx 508 [(0, .ref b), (1, rf en 0), (2, rf en 37), (3, vi x3)] [] := by
  have us1 := sc_rg xs (x3 + 1)
  have us2 := sc_rg xs (x3 + 2)
  have us3 := sc_rg xs (x3 + 3)
  have us4 := sc_rg xs (x3 + 4)
  have us5 := sc_rg xs (x3 + 5)
  have us6 := uR.hs.1
  have us7 := uR.gO
  refine z_aload_n 1 dL_law_508 rfl ?_
  refine z_aload_b 0 dL_law_509 rfl ?_
  refine z_iload_n 3 dL_law_510 rfl ?_
  refine z_iconst dL_law_511 ?_
  refine z_iadd dL_law_512 ?_
  refine z_sld dL_law_513 hX (by omega) (by omega) ?_
  refine z_vX dL_law_514 lL_64 (by decide) ka0 io0 rfl (ct_X6_lost en Mx (Mx 2) (Mx 3) (Mx 5) (Mx 22) (Mx 24) (Mx 25) (Mx 26) (Mx 27) (Mx 28) (Mx 29) (Mx 30) (Mx 31) (Mx 32) (Mx 33) (Mx 34) rfl rfl rfl rfl rfl rfl rfl rfl rfl rfl rfl rfl rfl rfl rfl _ (by omega) (uR.hT) (uR.hc) (uR.hP)) rfl rfl (by exact Nat.le_of_ble_eq_true rfl) (fun uv514 uN514 uh514 => ?_)
  have ulo := lo_lost uh514
  have uh1 := uh514
  refine z_aload_n 2 dL_law_517 rfl ?_
  refine z_aload_b 0 dL_law_518 rfl ?_
  refine z_iload_n 3 dL_law_519 rfl ?_
  refine z_iconst dL_law_520 ?_
  refine z_iadd dL_law_521 ?_
  refine z_sld dL_law_522 hX (by omega) (by omega) ?_
  refine z_vX dL_law_523 lL_67 (by decide) ka37 io37 rfl (ct_X7_lost en uN514 (Mx 37) (Mx 42) (Mx 43) (uN514 44) (uN514 45) (Mx 46) (uN514 47) (uN514 48) (uN514 49) (uN514 50) ((ulo 37 (by decide))) ((ulo 42 (by decide))) ((ulo 43 (by decide))) rfl rfl ((ulo 46 (by decide))) rfl rfl rfl rfl _ (by omega) (uR.gB) (uR.gY) (uR.gT)) rfl rfl (by exact Nat.le_of_ble_eq_true rfl) (fun uv523 uN523 uh523 => ?_)
  obtain ⟨rfl, uRn⟩ := fin_lost uR (by omega) uh1 uh523
  refine z_cmpE (tgt := 1097) dL_law_526 rfl ?_
  exact uk _ uRn
set_option maxRecDepth 100000 in
theorem law_13 (en : zE) (cx : zX) {b L : Nat} {xs : Nat → Int32} (hL : L ≤ 384) (hX : lwX cx b L xs) (x3 : Int) (hx : 0 ≤ x3 ∧ x3 + 6 ≤ L) (Mx : zW) (uR : Rel Mx) (uk : ∀ M : zW, Rel M → Z en kA cx mL_law M 1097 [(0, .ref b), (1, rf en 0), (2, rf en 37), (3, vi x3)] []) : Z en kA cx mL_law Mx 531 [(0, .ref b), (1, rf en 0), (2, rf en 37), (3, vi x3)] [] := by
  have us1 := sc_rg xs (x3 + 1)
  have us2 := sc_rg xs (x3 + 2)
  have us3 := sc_rg xs (x3 + 3)
  have us4 := sc_rg xs (x3 + 4)
  have us5 := sc_rg xs (x3 + 5)
  have us6 := uR.hs.1
  have us7 := uR.gO
  refine z_aload_n 1 dL_law_531 rfl ?_
  refine z_aload_b 0 dL_law_532 rfl ?_
  refine z_iload_n 3 dL_law_533 rfl ?_
  refine z_iconst dL_law_534 ?_
  refine z_iadd dL_law_535 ?_
  refine z_sld dL_law_536 hX (by omega) (by omega) ?_
  refine z_vX dL_law_537 lL_68 (by decide) ka0 io0 rfl (ct_X6_swear en Mx (Mx 2) (Mx 3) (Mx 4) (Mx 5) (Mx 22) (Mx 24) (Mx 25) (Mx 26) (Mx 27) (Mx 28) (Mx 29) (Mx 30) (Mx 31) (Mx 32) (Mx 33) (Mx 34) rfl rfl rfl rfl rfl rfl rfl rfl rfl rfl rfl rfl rfl rfl rfl rfl _ (by omega) (uR.hT) (uR.hc) (uR.hP)) rfl rfl (by exact Nat.le_of_ble_eq_true rfl) (fun uv537 uN537 uh537 => ?_)
  have ulo := lo_swear uh537
  have uh1 := uh537
  refine z_aload_n 2 dL_law_540 rfl ?_
  refine z_aload_b 0 dL_law_541 rfl ?_
  refine z_iload_n 3 dL_law_542 rfl ?_
  refine z_iconst dL_law_543 ?_
  refine z_iadd dL_law_544 ?_
  refine z_sld dL_law_545 hX (by omega) (by omega) ?_
  refine z_vX dL_law_546 lL_71 (by decide) ka37 io37 rfl (ct_X7_swear en uN537 (Mx 37) (Mx 42) (Mx 43) (uN537 44) (uN537 45) (Mx 46) (uN537 47) (uN537 48) (uN537 49) (uN537 50) ((ulo 37 (by decide))) ((ulo 42 (by decide))) ((ulo 43 (by decide))) rfl rfl ((ulo 46 (by decide))) rfl rfl rfl rfl _ (by omega) (uR.gB) (uR.gY) (uR.gT)) rfl rfl (by exact Nat.le_of_ble_eq_true rfl) (fun uv546 uN546 uh546 => ?_)
  obtain ⟨rfl, uRn⟩ := fin_swear uR (by omega) uh1 uh546
  refine z_cmpE (tgt := 1097) dL_law_549 rfl ?_
  exact uk _ uRn
set_option maxRecDepth 100000 in
theorem law_14 (en : zE) (cx : zX) {b L : Nat} {xs : Nat → Int32} (hL : L ≤ 384) (hX : lwX cx b L xs) (x3 : Int) (hx : 0 ≤ x3 ∧ x3 + 6 ≤ L) (Mx : zW) (uR : Rel Mx) (uk : ∀ M : zW, Rel M → Z en kA cx mL_law M 1097 [(0, .ref b), (1, rf en 0), (2, rf en 37), (3, vi x3)] []) : Z en kA cx mL_law Mx 554 [(0, .ref b), (1, rf en 0), (2, rf en 37), (3, vi x3)] [] := by
  have us1 := sc_rg xs (x3 + 1)
  have us2 := sc_rg xs (x3 + 2)
  have us3 := sc_rg xs (x3 + 3)
  have us4 := sc_rg xs (x3 + 4)
  have us5 := sc_rg xs (x3 + 5)
  have us6 := uR.hs.1
  have us7 := uR.gO
  refine z_aload_n 1 dL_law_554 rfl ?_
  refine z_aload_b 0 dL_law_555 rfl ?_
  refine z_iload_n 3 dL_law_556 rfl ?_
  refine z_iconst dL_law_557 ?_
  refine z_iadd dL_law_558 ?_
  refine z_sld dL_law_559 hX (by omega) (by omega) ?_
  refine z_vX dL_law_560 lL_72 (by decide) ka0 io0 rfl (ct_X6_place en Mx (Mx 2) (Mx 3) (Mx 4) (Mx 5) (Mx 22) (Mx 24) (Mx 25) (Mx 26) (Mx 27) (Mx 28) (Mx 29) (Mx 30) (Mx 31) (Mx 32) (Mx 33) (Mx 34) rfl rfl rfl rfl rfl rfl rfl rfl rfl rfl rfl rfl rfl rfl rfl rfl _ (by omega) (uR.hT) (uR.hc) (uR.hP) (uR.h6)) rfl rfl (by exact Nat.le_of_ble_eq_true rfl) (fun uv560 uN560 uh560 => ?_)
  have ulo := lo_place uh560
  have uh1 := uh560
  refine z_aload_n 2 dL_law_563 rfl ?_
  refine z_aload_b 0 dL_law_564 rfl ?_
  refine z_iload_n 3 dL_law_565 rfl ?_
  refine z_iconst dL_law_566 ?_
  refine z_iadd dL_law_567 ?_
  refine z_sld dL_law_568 hX (by omega) (by omega) ?_
  refine z_vX dL_law_569 lL_75 (by decide) ka37 io37 rfl (ct_X7_place en uN560 (Mx 37) (Mx 42) (Mx 43) (uN560 44) (uN560 45) (Mx 46) (uN560 47) (uN560 48) (uN560 49) (uN560 50) ((ulo 37 (by decide))) ((ulo 42 (by decide))) ((ulo 43 (by decide))) rfl rfl ((ulo 46 (by decide))) rfl rfl rfl rfl _ (by omega) (uR.gB) (uR.gY) (uR.gT)) rfl rfl (by exact Nat.le_of_ble_eq_true rfl) (fun uv569 uN569 uh569 => ?_)
  obtain ⟨rfl, uRn⟩ := fin_place uR (by omega) uh1 uh569
  refine z_cmpE (tgt := 1097) dL_law_572 rfl ?_
  exact uk _ uRn
set_option maxRecDepth 100000 in
theorem law_15 (en : zE) (cx : zX) {b L : Nat} {xs : Nat → Int32} (hL : L ≤ 384) (hX : lwX cx b L xs) (x3 : Int) (hx : 0 ≤ x3 ∧ x3 + 6 ≤ L) (Mx : zW) (uR : Rel Mx) (uk : ∀ M : zW, Rel M → Z en kA cx mL_law M 1097 [(0, .ref b), (1, rf en 0), (2, rf en 37), (3, vi x3)] []) : Z en kA cx mL_law Mx 577 [(0, .ref b), (1, rf en 0), (2, rf en 37), (3, vi x3)] [] := by
  have us1 := sc_rg xs (x3 + 1)
  have us2 := sc_rg xs (x3 + 2)
  have us3 := sc_rg xs (x3 + 3)
  have us4 := sc_rg xs (x3 + 4)
  have us5 := sc_rg xs (x3 + 5)
  have us6 := uR.hs.1
  have us7 := uR.gO
  refine z_aload_n 1 dL_law_577 rfl ?_
  refine z_aload_b 0 dL_law_578 rfl ?_
  refine z_iload_n 3 dL_law_579 rfl ?_
  refine z_iconst dL_law_580 ?_
  refine z_iadd dL_law_581 ?_
  refine z_sld dL_law_582 hX (by omega) (by omega) ?_
  refine z_vX dL_law_583 lL_76 (by decide) ka0 io0 rfl (ct_X6_litter en Mx (Mx 2) (Mx 3) (Mx 4) (Mx 5) (Mx 22) (Mx 24) (Mx 25) (Mx 26) (Mx 27) (Mx 28) (Mx 29) (Mx 30) (Mx 31) (Mx 32) (Mx 33) (Mx 34) rfl rfl rfl rfl rfl rfl rfl rfl rfl rfl rfl rfl rfl rfl rfl rfl _ (by omega) (uR.hT) (uR.hc) (uR.hP)) rfl rfl (by exact Nat.le_of_ble_eq_true rfl) (fun uv583 uN583 uh583 => ?_)
  have ulo := lo_litter uh583
  have uh1 := uh583
  refine z_aload_n 2 dL_law_586 rfl ?_
  refine z_aload_b 0 dL_law_587 rfl ?_
  refine z_iload_n 3 dL_law_588 rfl ?_
  refine z_iconst dL_law_589 ?_
  refine z_iadd dL_law_590 ?_
  refine z_sld dL_law_591 hX (by omega) (by omega) ?_
  refine z_vX dL_law_592 lL_79 (by decide) ka37 io37 rfl (ct_X7_litter en uN583 (Mx 37) (Mx 42) (Mx 43) (uN583 44) (uN583 45) (Mx 46) (uN583 47) (uN583 48) (uN583 49) (uN583 50) ((ulo 37 (by decide))) ((ulo 42 (by decide))) ((ulo 43 (by decide))) rfl rfl ((ulo 46 (by decide))) rfl rfl rfl rfl _ (by omega) (uR.gB) (uR.gY) (uR.gT)) rfl rfl (by exact Nat.le_of_ble_eq_true rfl) (fun uv592 uN592 uh592 => ?_)
  obtain ⟨rfl, uRn⟩ := fin_litter uR (by omega) uh1 uh592
  refine z_cmpE (tgt := 1097) dL_law_595 rfl ?_
  exact uk _ uRn
set_option maxRecDepth 100000 in
theorem law_16 (en : zE) (cx : zX) {b L : Nat} {xs : Nat → Int32} (hL : L ≤ 384) (hX : lwX cx b L xs) (x3 : Int) (hx : 0 ≤ x3 ∧ x3 + 6 ≤ L) (Mx : zW) (uR : Rel Mx) (uk : ∀ M : zW, Rel M → Z en kA cx mL_law M 1097 [(0, .ref b), (1, rf en 0), (2, rf en 37), (3, vi x3)] []) : Z en kA cx mL_law Mx 600 [(0, .ref b), (1, rf en 0), (2, rf en 37), (3, vi x3)] [] := by
  have us1 := sc_rg xs (x3 + 1)
  have us2 := sc_rg xs (x3 + 2)
  have us3 := sc_rg xs (x3 + 3)
  have us4 := sc_rg xs (x3 + 4)
  have us5 := sc_rg xs (x3 + 5)
  have us6 := uR.hs.1
  have us7 := uR.gO
  refine z_aload_n 1 dL_law_600 rfl ?_
  refine z_aload_b 0 dL_law_601 rfl ?_
  refine z_iload_n 3 dL_law_602 rfl ?_
  refine z_iconst dL_law_603 ?_
  refine z_iadd dL_law_604 ?_
  refine z_sld dL_law_605 hX (by omega) (by omega) ?_
  refine z_aload_b 0 dL_law_606 rfl ?_
  refine z_iload_n 3 dL_law_607 rfl ?_
  refine z_iconst dL_law_608 ?_
  refine z_iadd dL_law_609 ?_
  refine z_sld dL_law_610 hX (by omega) (by omega) ?_
  refine z_vX dL_law_611 lL_80 (by decide) ka0 io0 rfl (ct_X6_seen en Mx (Mx 0) (Mx 7) (Mx 8) rfl rfl rfl _ _ (by omega)) rfl rfl (by exact Nat.le_of_ble_eq_true rfl) (fun uv611 uN611 uh611 => ?_)
  have ulo := lo_seen uh611
  have uh1 := uh611
  refine z_aload_n 2 dL_law_614 rfl ?_
  refine z_aload_b 0 dL_law_615 rfl ?_
  refine z_iload_n 3 dL_law_616 rfl ?_
  refine z_iconst dL_law_617 ?_
  refine z_iadd dL_law_618 ?_
  refine z_sld dL_law_619 hX (by omega) (by omega) ?_
  refine z_aload_b 0 dL_law_620 rfl ?_
  refine z_iload_n 3 dL_law_621 rfl ?_
  refine z_iconst dL_law_622 ?_
  refine z_iadd dL_law_623 ?_
  refine z_sld dL_law_624 hX (by omega) (by omega) ?_
  refine z_vX dL_law_625 lL_83 (by decide) ka37 io37 rfl (ct_X7_seen en uN611 (Mx 37) (Mx 51) ((ulo 37 (by decide))) ((ulo 51 (by decide))) _ _ (by omega)) rfl rfl (by exact Nat.le_of_ble_eq_true rfl) (fun uv625 uN625 uh625 => ?_)
  obtain ⟨rfl, uRn⟩ := fin_seen uR (by omega) uh1 uh625
  refine z_cmpE (tgt := 1097) dL_law_628 rfl ?_
  exact uk _ uRn
set_option maxRecDepth 100000 in
theorem law_17 (en : zE) (cx : zX) {b L : Nat} {xs : Nat → Int32} (hL : L ≤ 384) (hX : lwX cx b L xs) (x3 : Int) (hx : 0 ≤ x3 ∧ x3 + 6 ≤ L) (Mx : zW) (uR : Rel Mx) (uk : ∀ M : zW, Rel M → Z en kA cx mL_law M 1097 [(0, .ref b), (1, rf en 0), (2, rf en 37), (3, vi x3)] []) : Z en kA cx mL_law Mx 633 [(0, .ref b), (1, rf en 0), (2, rf en 37), (3, vi x3)] [] := by
  have us1 := sc_rg xs (x3 + 1)
  have us2 := sc_rg xs (x3 + 2)
  have us3 := sc_rg xs (x3 + 3)
  have us4 := sc_rg xs (x3 + 4)
  have us5 := sc_rg xs (x3 + 5)
  have us6 := uR.hs.1
  have us7 := uR.gO
  refine z_aload_n 1 dL_law_633 rfl ?_
  refine z_vI dL_law_634 lL_84 (by decide) ka0 io0 rfl (ct_X6_forget en Mx (Mx 0) rfl) rfl rfl (by exact Nat.le_of_ble_eq_true rfl) ?_
  refine z_aload_n 2 dL_law_637 rfl ?_
  refine z_vI dL_law_638 lL_87 (by decide) ka37 io37 rfl (ct_X7_forget en (upR Mx 0 (up (Mx 0) 8 0)) (Mx 37) rfl) rfl rfl (by exact Nat.le_of_ble_eq_true rfl) ?_
  obtain ⟨uef, uRn⟩ := fin_forget uR
  rw [uef]
  refine z_cmpE (tgt := 1097) dL_law_641 rfl ?_
  exact uk _ uRn
set_option maxRecDepth 100000 in
theorem law_18 (en : zE) (cx : zX) {b L : Nat} {xs : Nat → Int32} (hL : L ≤ 384) (hX : lwX cx b L xs) (x3 : Int) (hx : 0 ≤ x3 ∧ x3 + 6 ≤ L) (Mx : zW) (uR : Rel Mx) (uk : ∀ M : zW, Rel M → Z en kA cx mL_law M 1097 [(0, .ref b), (1, rf en 0), (2, rf en 37), (3, vi x3)] []) : Z en kA cx mL_law Mx 646 [(0, .ref b), (1, rf en 0), (2, rf en 37), (3, vi x3)] [] := by
  have us1 := sc_rg xs (x3 + 1)
  have us2 := sc_rg xs (x3 + 2)
  have us3 := sc_rg xs (x3 + 3)
  have us4 := sc_rg xs (x3 + 4)
  have us5 := sc_rg xs (x3 + 5)
  have us6 := uR.hs.1
  have us7 := uR.gO
  refine z_aload_n 1 dL_law_646 rfl ?_
  refine z_aload_b 0 dL_law_647 rfl ?_
  refine z_iload_n 3 dL_law_648 rfl ?_
  refine z_iconst dL_law_649 ?_
  refine z_iadd dL_law_650 ?_
  refine z_sld dL_law_651 hX (by omega) (by omega) ?_
  refine z_vX dL_law_652 lL_88 (by decide) ka0 io0 rfl (ct_X6_read_q en Mx (Mx 0) (Mx 7) (Mx 8) (Mx 10) (Mx 11) (Mx 12) (Mx 13) (Mx 14) (Mx 15) (Mx 16) (Mx 17) rfl rfl rfl rfl rfl rfl rfl rfl rfl rfl rfl _ (by omega) (uR.hS) (uR.hI)) rfl rfl (by exact Nat.le_of_ble_eq_true rfl) (fun uv652 uN652 uh652 => ?_)
  have ulo := lo_read uh652
  have uh1 := uh652
  refine z_aload_n 2 dL_law_655 rfl ?_
  refine z_aload_b 0 dL_law_656 rfl ?_
  refine z_iload_n 3 dL_law_657 rfl ?_
  refine z_iconst dL_law_658 ?_
  refine z_iadd dL_law_659 ?_
  refine z_sld dL_law_660 hX (by omega) (by omega) ?_
  refine z_vX dL_law_661 lL_91 (by decide) ka37 io37 rfl (ct_X7_read_q en uN652 (Mx 37) (Mx 38) (Mx 39) (Mx 40) (Mx 51) ((ulo 37 (by decide))) ((ulo 38 (by decide))) ((ulo 39 (by decide))) ((ulo 40 (by decide))) ((ulo 51 (by decide))) _ (by omega) (uR.gF) (uR.gS) (uR.gI)) rfl rfl (by exact Nat.le_of_ble_eq_true rfl) (fun uv661 uN661 uh661 => ?_)
  obtain ⟨rfl, uRn⟩ := fin_read uR (by omega) uh1 uh661
  refine z_cmpE (tgt := 1097) dL_law_664 rfl ?_
  exact uk _ uRn
set_option maxRecDepth 100000 in
theorem law_19 (en : zE) (cx : zX) {b L : Nat} {xs : Nat → Int32} (hL : L ≤ 384) (hX : lwX cx b L xs) (x3 : Int) (hx : 0 ≤ x3 ∧ x3 + 6 ≤ L) (Mx : zW) (uR : Rel Mx) (uk : ∀ M : zW, Rel M → Z en kA cx mL_law M 1097 [(0, .ref b), (1, rf en 0), (2, rf en 37), (3, vi x3)] []) : Z en kA cx mL_law Mx 669 [(0, .ref b), (1, rf en 0), (2, rf en 37), (3, vi x3)] [] := by
  have us1 := sc_rg xs (x3 + 1)
  have us2 := sc_rg xs (x3 + 2)
  have us3 := sc_rg xs (x3 + 3)
  have us4 := sc_rg xs (x3 + 4)
  have us5 := sc_rg xs (x3 + 5)
  have us6 := uR.hs.1
  have us7 := uR.gO
  refine z_aload_n 1 dL_law_669 rfl ?_
  refine z_aload_b 0 dL_law_670 rfl ?_
  refine z_iload_n 3 dL_law_671 rfl ?_
  refine z_iconst dL_law_672 ?_
  refine z_iadd dL_law_673 ?_
  refine z_sld dL_law_674 hX (by omega) (by omega) ?_
  refine z_vX dL_law_675 lL_92 (by decide) ka0 io0 rfl (ct_X6_fits en Mx (Mx 0) (Mx 2) (Mx 3) (Mx 4) (Mx 5) (Mx 7) (Mx 8) (Mx 22) (Mx 24) (Mx 25) (Mx 26) (Mx 27) (Mx 28) (Mx 29) (Mx 30) (Mx 31) (Mx 32) (Mx 33) (Mx 34) rfl rfl rfl rfl rfl rfl rfl rfl rfl rfl rfl rfl rfl rfl rfl rfl rfl rfl rfl _ (by omega) (uR.hT) (uR.hc) (uR.hP) (uR.hs)) rfl rfl (by exact Nat.le_of_ble_eq_true rfl) (fun uv675 uN675 uh675 => ?_)
  have ulo := lo_fits uh675
  have uh1 := uh675
  refine z_aload_n 2 dL_law_678 rfl ?_
  refine z_aload_b 0 dL_law_679 rfl ?_
  refine z_iload_n 3 dL_law_680 rfl ?_
  refine z_iconst dL_law_681 ?_
  refine z_iadd dL_law_682 ?_
  refine z_sld dL_law_683 hX (by omega) (by omega) ?_
  refine z_vX dL_law_684 lL_95 (by decide) ka37 io37 rfl (ct_X7_fits en uN675 (Mx 37) (Mx 42) (Mx 43) (uN675 44) (uN675 45) (Mx 46) (uN675 47) (uN675 48) (uN675 49) (uN675 50) (Mx 51) ((ulo 37 (by decide))) ((ulo 42 (by decide))) ((ulo 43 (by decide))) rfl rfl ((ulo 46 (by decide))) rfl rfl rfl rfl ((ulo 51 (by decide))) _ (by omega) (uR.gB) (uR.gY) (uR.gT) (uR.gG) (uR.gO)) rfl rfl (by exact Nat.le_of_ble_eq_true rfl) (fun uv684 uN684 uh684 => ?_)
  obtain ⟨rfl, uRn⟩ := fin_fits uR (by omega) uh1 uh684
  refine z_cmpE (tgt := 1097) dL_law_687 rfl ?_
  exact uk _ uRn
set_option maxRecDepth 100000 in
theorem law_20 (en : zE) (cx : zX) {b L : Nat} {xs : Nat → Int32} (hL : L ≤ 384) (hX : lwX cx b L xs) (x3 : Int) (hx : 0 ≤ x3 ∧ x3 + 6 ≤ L) (Mx : zW) (uR : Rel Mx) (uk : ∀ M : zW, Rel M → Z en kA cx mL_law M 1097 [(0, .ref b), (1, rf en 0), (2, rf en 37), (3, vi x3)] []) : Z en kA cx mL_law Mx 692 [(0, .ref b), (1, rf en 0), (2, rf en 37), (3, vi x3)] [] := by
  have us1 := sc_rg xs (x3 + 1)
  have us2 := sc_rg xs (x3 + 2)
  have us3 := sc_rg xs (x3 + 3)
  have us4 := sc_rg xs (x3 + 4)
  have us5 := sc_rg xs (x3 + 5)
  have us6 := uR.hs.1
  have us7 := uR.gO
  refine z_aload_n 1 dL_law_692 rfl ?_
  refine z_vX dL_law_693 lL_96 (by decide) ka0 io0 rfl (ct_X6_ask en Mx (Mx 0) (Mx 2) (Mx 3) (Mx 4) (Mx 5) (Mx 7) (Mx 8) (Mx 22) (Mx 24) (Mx 25) (Mx 26) (Mx 27) (Mx 28) (Mx 29) (Mx 30) (Mx 31) (Mx 32) (Mx 33) (Mx 34) rfl rfl rfl rfl rfl rfl rfl rfl rfl rfl rfl rfl rfl rfl rfl rfl rfl rfl rfl (uR.hT) (uR.hc) (uR.hP) (uR.hs)) rfl rfl (by exact Nat.le_of_ble_eq_true rfl) (fun uv693 uN693 uh693 => ?_)
  have ulo := lo_ask uh693
  have uh1 := uh693
  refine z_aload_n 2 dL_law_696 rfl ?_
  refine z_vX dL_law_697 lL_99 (by decide) ka37 io37 rfl (ct_X7_ask en uN693 (Mx 37) (Mx 42) (Mx 43) (uN693 44) (uN693 45) (Mx 46) (uN693 47) (uN693 48) (uN693 49) (uN693 50) (Mx 51) (uN693 52) ((ulo 37 (by decide))) ((ulo 42 (by decide))) ((ulo 43 (by decide))) rfl rfl ((ulo 46 (by decide))) rfl rfl rfl rfl ((ulo 51 (by decide))) rfl (uR.gB) (uR.gY) (uR.gT) (uR.gG) (uR.gO)) rfl rfl (by exact Nat.le_of_ble_eq_true rfl) (fun uv697 uN697 uh697 => ?_)
  obtain ⟨rfl, uRn⟩ := fin_ask uR uh1 uh697
  refine z_cmpE (tgt := 1097) dL_law_700 rfl ?_
  exact uk _ uRn
set_option maxRecDepth 100000 in
theorem law_21 (en : zE) (cx : zX) {b L : Nat} {xs : Nat → Int32} (hL : L ≤ 384) (hX : lwX cx b L xs) (x3 : Int) (hx : 0 ≤ x3 ∧ x3 + 6 ≤ L) (Mx : zW) (uR : Rel Mx) (uk : ∀ M : zW, Rel M → Z en kA cx mL_law M 1097 [(0, .ref b), (1, rf en 0), (2, rf en 37), (3, vi x3)] []) : Z en kA cx mL_law Mx 705 [(0, .ref b), (1, rf en 0), (2, rf en 37), (3, vi x3)] [] := by
  have us1 := sc_rg xs (x3 + 1)
  have us2 := sc_rg xs (x3 + 2)
  have us3 := sc_rg xs (x3 + 3)
  have us4 := sc_rg xs (x3 + 4)
  have us5 := sc_rg xs (x3 + 5)
  have us6 := uR.hs.1
  have us7 := uR.gO
  refine z_aload_n 1 dL_law_705 rfl ?_
  refine z_aload_b 0 dL_law_706 rfl ?_
  refine z_iload_n 3 dL_law_707 rfl ?_
  refine z_iconst dL_law_708 ?_
  refine z_iadd dL_law_709 ?_
  refine z_sld dL_law_710 hX (by omega) (by omega) ?_
  refine z_aload_b 0 dL_law_711 rfl ?_
  refine z_iload_n 3 dL_law_712 rfl ?_
  refine z_iconst dL_law_713 ?_
  refine z_iadd dL_law_714 ?_
  refine z_sld dL_law_715 hX (by omega) (by omega) ?_
  refine z_aload_b 0 dL_law_716 rfl ?_
  refine z_iload_n 3 dL_law_717 rfl ?_
  refine z_iconst dL_law_718 ?_
  refine z_iadd dL_law_719 ?_
  refine z_sld dL_law_720 hX (by omega) (by omega) ?_
  refine z_aload_b 0 dL_law_721 rfl ?_
  refine z_iload_n 3 dL_law_722 rfl ?_
  refine z_iconst dL_law_723 ?_
  refine z_iadd dL_law_724 ?_
  refine z_sld dL_law_725 hX (by omega) (by omega) ?_
  refine z_vY dL_law_726 lL_100 (by decide) ka0 io0 rfl (ct_X6_out en Mx (Mx 1) (Mx 3) (Mx 6) (Mx 19) (Mx 20) (Mx 21) (Mx 35) (Mx 36) rfl rfl rfl rfl rfl rfl rfl rfl _ _ _ _ (by omega) (uR.hO) (uR.hR) (uR.hT)) rfl rfl (by exact Nat.le_of_ble_eq_true rfl) (fun uv726 uN726 uh726 => ?_)
  have ulo := lo_out uh726
  have uh1 := uh726
  refine z_aload_n 2 dL_law_729 rfl ?_
  refine z_aload_b 0 dL_law_730 rfl ?_
  refine z_iload_n 3 dL_law_731 rfl ?_
  refine z_iconst dL_law_732 ?_
  refine z_iadd dL_law_733 ?_
  refine z_sld dL_law_734 hX (by omega) (by omega) ?_
  refine z_aload_b 0 dL_law_735 rfl ?_
  refine z_iload_n 3 dL_law_736 rfl ?_
  refine z_iconst dL_law_737 ?_
  refine z_iadd dL_law_738 ?_
  refine z_sld dL_law_739 hX (by omega) (by omega) ?_
  refine z_aload_b 0 dL_law_740 rfl ?_
  refine z_iload_n 3 dL_law_741 rfl ?_
  refine z_iconst dL_law_742 ?_
  refine z_iadd dL_law_743 ?_
  refine z_sld dL_law_744 hX (by omega) (by omega) ?_
  refine z_aload_b 0 dL_law_745 rfl ?_
  refine z_iload_n 3 dL_law_746 rfl ?_
  refine z_iconst dL_law_747 ?_
  refine z_iadd dL_law_748 ?_
  refine z_sld dL_law_749 hX (by omega) (by omega) ?_
  refine z_vY dL_law_750 lL_104 (by decide) ka37 io37 rfl (ct_X7_out en uN726 (Mx 37) (Mx 42) (Mx 43) (uN726 44) (uN726 45) (Mx 46) (uN726 47) ((ulo 37 (by decide))) ((ulo 42 (by decide))) ((ulo 43 (by decide))) rfl rfl ((ulo 46 (by decide))) rfl _ _ _ _ (by omega) (uR.gB) (uR.gY) (uR.gT)) rfl rfl (by exact Nat.le_of_ble_eq_true rfl) (fun uv750 uN750 uh750 => ?_)
  obtain ⟨rfl, uRn⟩ := fin_out uR (by omega) uh1 uh750
  refine z_lcmpE dL_law_753 ?_
  refine z_if_eq (tgt := 1097) dL_law_754 rfl (by omega) (fun _ => ?_) (fun z => absurd z (by decide))
  exact uk _ uRn
set_option maxRecDepth 100000 in
theorem law_22 (en : zE) (cx : zX) {b L : Nat} {xs : Nat → Int32} (hL : L ≤ 384) (hX : lwX cx b L xs) (x3 : Int) (hx : 0 ≤ x3 ∧ x3 + 6 ≤ L) (Mx : zW) (uR : Rel Mx) (uk : ∀ M : zW, Rel M → Z en kA cx mL_law M 1097 [(0, .ref b), (1, rf en 0), (2, rf en 37), (3, vi x3)] []) : Z en kA cx mL_law Mx 759 [(0, .ref b), (1, rf en 0), (2, rf en 37), (3, vi x3)] [] := by
  have us1 := sc_rg xs (x3 + 1)
  have us2 := sc_rg xs (x3 + 2)
  have us3 := sc_rg xs (x3 + 3)
  have us4 := sc_rg xs (x3 + 4)
  have us5 := sc_rg xs (x3 + 5)
  have us6 := uR.hs.1
  have us7 := uR.gO
  refine z_aload_n 1 dL_law_759 rfl ?_
  refine z_aload_b 0 dL_law_760 rfl ?_
  refine z_iload_n 3 dL_law_761 rfl ?_
  refine z_iconst dL_law_762 ?_
  refine z_iadd dL_law_763 ?_
  refine z_sld dL_law_764 hX (by omega) (by omega) ?_
  refine z_aload_b 0 dL_law_765 rfl ?_
  refine z_iload_n 3 dL_law_766 rfl ?_
  refine z_iconst dL_law_767 ?_
  refine z_iadd dL_law_768 ?_
  refine z_sld dL_law_769 hX (by omega) (by omega) ?_
  refine z_aload_b 0 dL_law_770 rfl ?_
  refine z_iload_n 3 dL_law_771 rfl ?_
  refine z_iconst dL_law_772 ?_
  refine z_iadd dL_law_773 ?_
  refine z_sld dL_law_774 hX (by omega) (by omega) ?_
  refine z_vX dL_law_775 lL_105 (by decide) ka0 io0 rfl (ct_X6_reigns en Mx (Mx 2) (Mx 3) (Mx 4) (Mx 5) (Mx 22) (Mx 24) (Mx 25) (Mx 26) (Mx 27) (Mx 28) (Mx 29) (Mx 30) (Mx 31) (Mx 32) (Mx 33) (Mx 34) rfl rfl rfl rfl rfl rfl rfl rfl rfl rfl rfl rfl rfl rfl rfl rfl _ _ _ (by omega) (uR.hT) (uR.hc) (uR.hP)) rfl rfl (by exact Nat.le_of_ble_eq_true rfl) (fun uv775 uN775 uh775 => ?_)
  have ulo := lo_reigns uh775
  have uh1 := uh775
  refine z_aload_n 2 dL_law_778 rfl ?_
  refine z_aload_b 0 dL_law_779 rfl ?_
  refine z_iload_n 3 dL_law_780 rfl ?_
  refine z_iconst dL_law_781 ?_
  refine z_iadd dL_law_782 ?_
  refine z_sld dL_law_783 hX (by omega) (by omega) ?_
  refine z_aload_b 0 dL_law_784 rfl ?_
  refine z_iload_n 3 dL_law_785 rfl ?_
  refine z_iconst dL_law_786 ?_
  refine z_iadd dL_law_787 ?_
  refine z_sld dL_law_788 hX (by omega) (by omega) ?_
  refine z_aload_b 0 dL_law_789 rfl ?_
  refine z_iload_n 3 dL_law_790 rfl ?_
  refine z_iconst dL_law_791 ?_
  refine z_iadd dL_law_792 ?_
  refine z_sld dL_law_793 hX (by omega) (by omega) ?_
  refine z_vX dL_law_794 lL_109 (by decide) ka37 io37 rfl (ct_X7_reigns en uN775 (Mx 37) (Mx 42) (Mx 43) (uN775 44) (uN775 45) (Mx 46) (uN775 47) (uN775 48) (uN775 49) (uN775 50) ((ulo 37 (by decide))) ((ulo 42 (by decide))) ((ulo 43 (by decide))) rfl rfl ((ulo 46 (by decide))) rfl rfl rfl rfl _ _ _ (by omega) (uR.gB) (uR.gY) (uR.gT)) rfl rfl (by exact Nat.le_of_ble_eq_true rfl) (fun uv794 uN794 uh794 => ?_)
  obtain ⟨rfl, uRn⟩ := fin_reigns uR (by omega) uh1 uh794
  refine z_cmpE (tgt := 1097) dL_law_797 rfl ?_
  exact uk _ uRn
set_option maxRecDepth 100000 in
theorem law_23 (en : zE) (cx : zX) {b L : Nat} {xs : Nat → Int32} (hL : L ≤ 384) (hX : lwX cx b L xs) (x3 : Int) (hx : 0 ≤ x3 ∧ x3 + 6 ≤ L) (Mx : zW) (uR : Rel Mx) (uk : ∀ M : zW, Rel M → Z en kA cx mL_law M 1097 [(0, .ref b), (1, rf en 0), (2, rf en 37), (3, vi x3)] []) : Z en kA cx mL_law Mx 802 [(0, .ref b), (1, rf en 0), (2, rf en 37), (3, vi x3)] [] := by
  have us1 := sc_rg xs (x3 + 1)
  have us2 := sc_rg xs (x3 + 2)
  have us3 := sc_rg xs (x3 + 3)
  have us4 := sc_rg xs (x3 + 4)
  have us5 := sc_rg xs (x3 + 5)
  have us6 := uR.hs.1
  have us7 := uR.gO
  refine z_aload_n 1 dL_law_802 rfl ?_
  refine z_aload_b 0 dL_law_803 rfl ?_
  refine z_iload_n 3 dL_law_804 rfl ?_
  refine z_iconst dL_law_805 ?_
  refine z_iadd dL_law_806 ?_
  refine z_sld dL_law_807 hX (by omega) (by omega) ?_
  refine z_aload_b 0 dL_law_808 rfl ?_
  refine z_iload_n 3 dL_law_809 rfl ?_
  refine z_iconst dL_law_810 ?_
  refine z_iadd dL_law_811 ?_
  refine z_sld dL_law_812 hX (by omega) (by omega) ?_
  refine z_aload_b 0 dL_law_813 rfl ?_
  refine z_iload_n 3 dL_law_814 rfl ?_
  refine z_iconst dL_law_815 ?_
  refine z_iadd dL_law_816 ?_
  refine z_sld dL_law_817 hX (by omega) (by omega) ?_
  refine z_vX dL_law_818 lL_110 (by decide) ka0 io0 rfl (ct_X6_sheet en Mx (Mx 0) (Mx 10) (Mx 11) (Mx 12) (Mx 13) (Mx 14) (Mx 15) (Mx 16) (Mx 17) rfl rfl rfl rfl rfl rfl rfl rfl rfl _ _ _ (by omega) (uR.hS)) rfl rfl (by exact Nat.le_of_ble_eq_true rfl) (fun uv818 uN818 uh818 => ?_)
  have ulo := lo_sheet uh818
  have uh1 := uh818
  refine z_aload_n 2 dL_law_821 rfl ?_
  refine z_aload_b 0 dL_law_822 rfl ?_
  refine z_iload_n 3 dL_law_823 rfl ?_
  refine z_iconst dL_law_824 ?_
  refine z_iadd dL_law_825 ?_
  refine z_sld dL_law_826 hX (by omega) (by omega) ?_
  refine z_aload_b 0 dL_law_827 rfl ?_
  refine z_iload_n 3 dL_law_828 rfl ?_
  refine z_iconst dL_law_829 ?_
  refine z_iadd dL_law_830 ?_
  refine z_sld dL_law_831 hX (by omega) (by omega) ?_
  refine z_aload_b 0 dL_law_832 rfl ?_
  refine z_iload_n 3 dL_law_833 rfl ?_
  refine z_iconst dL_law_834 ?_
  refine z_iadd dL_law_835 ?_
  refine z_sld dL_law_836 hX (by omega) (by omega) ?_
  refine z_vX dL_law_837 lL_113 (by decide) ka37 io37 rfl (ct_X7_sheet en uN818 (Mx 37) (Mx 38) (Mx 39) (Mx 40) ((ulo 37 (by decide))) ((ulo 38 (by decide))) ((ulo 39 (by decide))) ((ulo 40 (by decide))) _ _ _ (by omega)) rfl rfl (by exact Nat.le_of_ble_eq_true rfl) (fun uv837 uN837 uh837 => ?_)
  obtain ⟨rfl, uRn⟩ := fin_sheet uR (by omega) uh1 uh837
  refine z_cmpE (tgt := 1097) dL_law_840 rfl ?_
  exact uk _ uRn
set_option maxRecDepth 100000 in
theorem law_24 (en : zE) (cx : zX) {b L : Nat} {xs : Nat → Int32} (hL : L ≤ 384) (hX : lwX cx b L xs) (x3 : Int) (hx : 0 ≤ x3 ∧ x3 + 6 ≤ L) (Mx : zW) (uR : Rel Mx) (uk : ∀ M : zW, Rel M → Z en kA cx mL_law M 1097 [(0, .ref b), (1, rf en 0), (2, rf en 37), (3, vi x3)] []) : Z en kA cx mL_law Mx 845 [(0, .ref b), (1, rf en 0), (2, rf en 37), (3, vi x3)] [] := by
  have us1 := sc_rg xs (x3 + 1)
  have us2 := sc_rg xs (x3 + 2)
  have us3 := sc_rg xs (x3 + 3)
  have us4 := sc_rg xs (x3 + 4)
  have us5 := sc_rg xs (x3 + 5)
  have us6 := uR.hs.1
  have us7 := uR.gO
  refine z_aload_n 1 dL_law_845 rfl ?_
  refine z_aload_b 0 dL_law_846 rfl ?_
  refine z_iload_n 3 dL_law_847 rfl ?_
  refine z_iconst dL_law_848 ?_
  refine z_iadd dL_law_849 ?_
  refine z_sld dL_law_850 hX (by omega) (by omega) ?_
  refine z_vX dL_law_851 lL_114 (by decide) ka0 io0 rfl (ct_X6_lose en Mx (Mx 0) (Mx 10) (Mx 11) (Mx 12) (Mx 13) (Mx 14) (Mx 15) (Mx 16) (Mx 17) rfl rfl rfl rfl rfl rfl rfl rfl rfl _ (by omega) (uR.hS)) rfl rfl (by exact Nat.le_of_ble_eq_true rfl) (fun uv851 uN851 uh851 => ?_)
  have ulo := lo_lose uh851
  have uh1 := uh851
  refine z_aload_n 2 dL_law_854 rfl ?_
  refine z_aload_b 0 dL_law_855 rfl ?_
  refine z_iload_n 3 dL_law_856 rfl ?_
  refine z_iconst dL_law_857 ?_
  refine z_iadd dL_law_858 ?_
  refine z_sld dL_law_859 hX (by omega) (by omega) ?_
  refine z_vX dL_law_860 lL_117 (by decide) ka37 io37 rfl (ct_X7_lose en uN851 (Mx 37) (Mx 38) (Mx 39) ((ulo 37 (by decide))) ((ulo 38 (by decide))) ((ulo 39 (by decide))) _ (by omega) (uR.gF)) rfl rfl (by exact Nat.le_of_ble_eq_true rfl) (fun uv860 uN860 uh860 => ?_)
  obtain ⟨rfl, uRn⟩ := fin_lose uR (by omega) uh1 uh860
  refine z_cmpE (tgt := 1097) dL_law_863 rfl ?_
  exact uk _ uRn
set_option maxRecDepth 100000 in
theorem law_25 (en : zE) (cx : zX) {b L : Nat} {xs : Nat → Int32} (hL : L ≤ 384) (hX : lwX cx b L xs) (x3 : Int) (hx : 0 ≤ x3 ∧ x3 + 6 ≤ L) (Mx : zW) (uR : Rel Mx) (uk : ∀ M : zW, Rel M → Z en kA cx mL_law M 1097 [(0, .ref b), (1, rf en 0), (2, rf en 37), (3, vi x3)] []) : Z en kA cx mL_law Mx 868 [(0, .ref b), (1, rf en 0), (2, rf en 37), (3, vi x3)] [] := by
  have us1 := sc_rg xs (x3 + 1)
  have us2 := sc_rg xs (x3 + 2)
  have us3 := sc_rg xs (x3 + 3)
  have us4 := sc_rg xs (x3 + 4)
  have us5 := sc_rg xs (x3 + 5)
  have us6 := uR.hs.1
  have us7 := uR.gO
  refine z_aload_n 1 dL_law_868 rfl ?_
  refine z_aload_b 0 dL_law_869 rfl ?_
  refine z_iload_n 3 dL_law_870 rfl ?_
  refine z_iconst dL_law_871 ?_
  refine z_iadd dL_law_872 ?_
  refine z_sld dL_law_873 hX (by omega) (by omega) ?_
  refine z_aload_b 0 dL_law_874 rfl ?_
  refine z_iload_n 3 dL_law_875 rfl ?_
  refine z_iconst dL_law_876 ?_
  refine z_iadd dL_law_877 ?_
  refine z_sld dL_law_878 hX (by omega) (by omega) ?_
  refine z_aload_b 0 dL_law_879 rfl ?_
  refine z_iload_n 3 dL_law_880 rfl ?_
  refine z_iconst dL_law_881 ?_
  refine z_iadd dL_law_882 ?_
  refine z_sld dL_law_883 hX (by omega) (by omega) ?_
  refine z_aload_b 0 dL_law_884 rfl ?_
  refine z_iload_n 3 dL_law_885 rfl ?_
  refine z_iconst dL_law_886 ?_
  refine z_iadd dL_law_887 ?_
  refine z_sld dL_law_888 hX (by omega) (by omega) ?_
  refine z_vX dL_law_889 lL_118 (by decide) ka0 io0 rfl (ct_X6_lay en Mx (Mx 0) (Mx 10) (Mx 11) (Mx 12) (Mx 13) (Mx 14) (Mx 15) (Mx 16) (Mx 17) rfl rfl rfl rfl rfl rfl rfl rfl rfl _ _ _ _ (by omega) (uR.hS)) rfl rfl (by exact Nat.le_of_ble_eq_true rfl) (fun uv889 uN889 uh889 => ?_)
  have ulo := lo_lay uh889
  have uh1 := uh889
  refine z_aload_n 2 dL_law_892 rfl ?_
  refine z_aload_b 0 dL_law_893 rfl ?_
  refine z_iload_n 3 dL_law_894 rfl ?_
  refine z_iconst dL_law_895 ?_
  refine z_iadd dL_law_896 ?_
  refine z_sld dL_law_897 hX (by omega) (by omega) ?_
  refine z_aload_b 0 dL_law_898 rfl ?_
  refine z_iload_n 3 dL_law_899 rfl ?_
  refine z_iconst dL_law_900 ?_
  refine z_iadd dL_law_901 ?_
  refine z_sld dL_law_902 hX (by omega) (by omega) ?_
  refine z_aload_b 0 dL_law_903 rfl ?_
  refine z_iload_n 3 dL_law_904 rfl ?_
  refine z_iconst dL_law_905 ?_
  refine z_iadd dL_law_906 ?_
  refine z_sld dL_law_907 hX (by omega) (by omega) ?_
  refine z_aload_b 0 dL_law_908 rfl ?_
  refine z_iload_n 3 dL_law_909 rfl ?_
  refine z_iconst dL_law_910 ?_
  refine z_iadd dL_law_911 ?_
  refine z_sld dL_law_912 hX (by omega) (by omega) ?_
  refine z_vX dL_law_913 lL_122 (by decide) ka37 io37 rfl (ct_X7_lay en uN889 (Mx 37) (Mx 38) (Mx 39) (Mx 40) ((ulo 37 (by decide))) ((ulo 38 (by decide))) ((ulo 39 (by decide))) ((ulo 40 (by decide))) _ _ _ _ (by omega) (uR.gF) (uR.gS)) rfl rfl (by exact Nat.le_of_ble_eq_true rfl) (fun uv913 uN913 uh913 => ?_)
  obtain ⟨rfl, uRn⟩ := fin_lay uR (by omega) uh1 uh913
  refine z_cmpE (tgt := 1097) dL_law_916 rfl ?_
  exact uk _ uRn
set_option maxRecDepth 100000 in
theorem law_26 (en : zE) (cx : zX) {b L : Nat} {xs : Nat → Int32} (hL : L ≤ 384) (hX : lwX cx b L xs) (x3 : Int) (hx : 0 ≤ x3 ∧ x3 + 6 ≤ L) (Mx : zW) (uR : Rel Mx) (uk : ∀ M : zW, Rel M → Z en kA cx mL_law M 1097 [(0, .ref b), (1, rf en 0), (2, rf en 37), (3, vi x3)] []) : Z en kA cx mL_law Mx 921 [(0, .ref b), (1, rf en 0), (2, rf en 37), (3, vi x3)] [] := by
  have us1 := sc_rg xs (x3 + 1)
  have us2 := sc_rg xs (x3 + 2)
  have us3 := sc_rg xs (x3 + 3)
  have us4 := sc_rg xs (x3 + 4)
  have us5 := sc_rg xs (x3 + 5)
  have us6 := uR.hs.1
  have us7 := uR.gO
  refine z_aload_n 1 dL_law_921 rfl ?_
  refine z_aload_b 0 dL_law_922 rfl ?_
  refine z_iload_n 3 dL_law_923 rfl ?_
  refine z_iconst dL_law_924 ?_
  refine z_iadd dL_law_925 ?_
  refine z_sld dL_law_926 hX (by omega) (by omega) ?_
  refine z_aload_b 0 dL_law_927 rfl ?_
  refine z_iload_n 3 dL_law_928 rfl ?_
  refine z_iconst dL_law_929 ?_
  refine z_iadd dL_law_930 ?_
  refine z_sld dL_law_931 hX (by omega) (by omega) ?_
  refine z_aload_b 0 dL_law_932 rfl ?_
  refine z_iload_n 3 dL_law_933 rfl ?_
  refine z_iconst dL_law_934 ?_
  refine z_iadd dL_law_935 ?_
  refine z_sld dL_law_936 hX (by omega) (by omega) ?_
  refine z_vX dL_law_937 lL_123 (by decide) ka0 io0 rfl (ct_X6_get en Mx (Mx 0) (Mx 10) (Mx 11) (Mx 12) (Mx 13) (Mx 14) (Mx 15) (Mx 16) (Mx 17) rfl rfl rfl rfl rfl rfl rfl rfl rfl _ _ _ (by omega) (uR.hS)) rfl rfl (by exact Nat.le_of_ble_eq_true rfl) (fun uv937 uN937 uh937 => ?_)
  have ulo := lo_get uh937
  have uh1 := uh937
  refine z_aload_n 2 dL_law_940 rfl ?_
  refine z_aload_b 0 dL_law_941 rfl ?_
  refine z_iload_n 3 dL_law_942 rfl ?_
  refine z_iconst dL_law_943 ?_
  refine z_iadd dL_law_944 ?_
  refine z_sld dL_law_945 hX (by omega) (by omega) ?_
  refine z_aload_b 0 dL_law_946 rfl ?_
  refine z_iload_n 3 dL_law_947 rfl ?_
  refine z_iconst dL_law_948 ?_
  refine z_iadd dL_law_949 ?_
  refine z_sld dL_law_950 hX (by omega) (by omega) ?_
  refine z_aload_b 0 dL_law_951 rfl ?_
  refine z_iload_n 3 dL_law_952 rfl ?_
  refine z_iconst dL_law_953 ?_
  refine z_iadd dL_law_954 ?_
  refine z_sld dL_law_955 hX (by omega) (by omega) ?_
  refine z_vX dL_law_956 lL_126 (by decide) ka37 io37 rfl (ct_X7_get en uN937 (Mx 37) (Mx 38) (Mx 39) (Mx 40) ((ulo 37 (by decide))) ((ulo 38 (by decide))) ((ulo 39 (by decide))) ((ulo 40 (by decide))) _ _ _ (by omega) (uR.gF) (uR.gS)) rfl rfl (by exact Nat.le_of_ble_eq_true rfl) (fun uv956 uN956 uh956 => ?_)
  obtain ⟨rfl, uRn⟩ := fin_get uR (by omega) uh1 uh956
  refine z_cmpE (tgt := 1097) dL_law_959 rfl ?_
  exact uk _ uRn
set_option maxRecDepth 100000 in
theorem law_27 (en : zE) (cx : zX) {b L : Nat} {xs : Nat → Int32} (hL : L ≤ 384) (hX : lwX cx b L xs) (x3 : Int) (hx : 0 ≤ x3 ∧ x3 + 6 ≤ L) (Mx : zW) (uR : Rel Mx) (uk : ∀ M : zW, Rel M → Z en kA cx mL_law M 1097 [(0, .ref b), (1, rf en 0), (2, rf en 37), (3, vi x3)] []) : Z en kA cx mL_law Mx 964 [(0, .ref b), (1, rf en 0), (2, rf en 37), (3, vi x3)] [] := by
  have us1 := sc_rg xs (x3 + 1)
  have us2 := sc_rg xs (x3 + 2)
  have us3 := sc_rg xs (x3 + 3)
  have us4 := sc_rg xs (x3 + 4)
  have us5 := sc_rg xs (x3 + 5)
  have us6 := uR.hs.1
  have us7 := uR.gO
  refine z_aload_n 1 dL_law_964 rfl ?_
  refine z_aload_b 0 dL_law_965 rfl ?_
  refine z_iload_n 3 dL_law_966 rfl ?_
  refine z_iconst dL_law_967 ?_
  refine z_iadd dL_law_968 ?_
  refine z_sld dL_law_969 hX (by omega) (by omega) ?_
  refine z_aload_b 0 dL_law_970 rfl ?_
  refine z_iload_n 3 dL_law_971 rfl ?_
  refine z_iconst dL_law_972 ?_
  refine z_iadd dL_law_973 ?_
  refine z_sld dL_law_974 hX (by omega) (by omega) ?_
  refine z_aload_b 0 dL_law_975 rfl ?_
  refine z_iload_n 3 dL_law_976 rfl ?_
  refine z_iconst dL_law_977 ?_
  refine z_iadd dL_law_978 ?_
  refine z_sld dL_law_979 hX (by omega) (by omega) ?_
  refine z_aload_b 0 dL_law_980 rfl ?_
  refine z_iload_n 3 dL_law_981 rfl ?_
  refine z_iconst dL_law_982 ?_
  refine z_iadd dL_law_983 ?_
  refine z_sld dL_law_984 hX (by omega) (by omega) ?_
  refine z_aload_b 0 dL_law_985 rfl ?_
  refine z_iload_n 3 dL_law_986 rfl ?_
  refine z_iconst dL_law_987 ?_
  refine z_iadd dL_law_988 ?_
  refine z_sld dL_law_989 hX (by omega) (by omega) ?_
  refine z_vX dL_law_990 lL_127 (by decide) ka0 io0 rfl (ct_X6_copy en Mx (Mx 0) (Mx 10) (Mx 11) (Mx 12) (Mx 13) (Mx 14) (Mx 15) (Mx 16) (Mx 17) rfl rfl rfl rfl rfl rfl rfl rfl rfl _ _ _ _ _ (by omega) (uR.hS)) rfl rfl (by exact Nat.le_of_ble_eq_true rfl) (fun uv990 uN990 uh990 => ?_)
  have ulo := lo_copy uh990
  have uh1 := uh990
  refine z_aload_n 2 dL_law_993 rfl ?_
  refine z_aload_b 0 dL_law_994 rfl ?_
  refine z_iload_n 3 dL_law_995 rfl ?_
  refine z_iconst dL_law_996 ?_
  refine z_iadd dL_law_997 ?_
  refine z_sld dL_law_998 hX (by omega) (by omega) ?_
  refine z_aload_b 0 dL_law_999 rfl ?_
  refine z_iload_n 3 dL_law_1000 rfl ?_
  refine z_iconst dL_law_1001 ?_
  refine z_iadd dL_law_1002 ?_
  refine z_sld dL_law_1003 hX (by omega) (by omega) ?_
  refine z_aload_b 0 dL_law_1004 rfl ?_
  refine z_iload_n 3 dL_law_1005 rfl ?_
  refine z_iconst dL_law_1006 ?_
  refine z_iadd dL_law_1007 ?_
  refine z_sld dL_law_1008 hX (by omega) (by omega) ?_
  refine z_aload_b 0 dL_law_1009 rfl ?_
  refine z_iload_n 3 dL_law_1010 rfl ?_
  refine z_iconst dL_law_1011 ?_
  refine z_iadd dL_law_1012 ?_
  refine z_sld dL_law_1013 hX (by omega) (by omega) ?_
  refine z_aload_b 0 dL_law_1014 rfl ?_
  refine z_iload_n 3 dL_law_1015 rfl ?_
  refine z_iconst dL_law_1016 ?_
  refine z_iadd dL_law_1017 ?_
  refine z_sld dL_law_1018 hX (by omega) (by omega) ?_
  refine z_vX dL_law_1019 lL_131 (by decide) ka37 io37 rfl (ct_X7_copy en uN990 (Mx 37) (Mx 38) (Mx 39) (Mx 40) (uN990 41) ((ulo 37 (by decide))) ((ulo 38 (by decide))) ((ulo 39 (by decide))) ((ulo 40 (by decide))) rfl _ _ _ _ _ (by omega) (uR.gF) (uR.gS)) rfl rfl (by exact Nat.le_of_ble_eq_true rfl) (fun uv1019 uN1019 uh1019 => ?_)
  obtain ⟨rfl, uRn⟩ := fin_copy uR (by omega) uh1 uh1019
  refine z_cmpE (tgt := 1097) dL_law_1022 rfl ?_
  exact uk _ uRn
set_option maxRecDepth 100000 in
theorem law_28 (en : zE) (cx : zX) {b L : Nat} {xs : Nat → Int32} (hL : L ≤ 384) (hX : lwX cx b L xs) (x3 : Int) (hx : 0 ≤ x3 ∧ x3 + 6 ≤ L) (Mx : zW) (uR : Rel Mx) (uk : ∀ M : zW, Rel M → Z en kA cx mL_law M 1097 [(0, .ref b), (1, rf en 0), (2, rf en 37), (3, vi x3)] []) : Z en kA cx mL_law Mx 1027 [(0, .ref b), (1, rf en 0), (2, rf en 37), (3, vi x3)] [] := by
  have us1 := sc_rg xs (x3 + 1)
  have us2 := sc_rg xs (x3 + 2)
  have us3 := sc_rg xs (x3 + 3)
  have us4 := sc_rg xs (x3 + 4)
  have us5 := sc_rg xs (x3 + 5)
  have us6 := uR.hs.1
  have us7 := uR.gO
  refine z_aload_n 1 dL_law_1027 rfl ?_
  refine z_aload_b 0 dL_law_1028 rfl ?_
  refine z_iload_n 3 dL_law_1029 rfl ?_
  refine z_iconst dL_law_1030 ?_
  refine z_iadd dL_law_1031 ?_
  refine z_sld dL_law_1032 hX (by omega) (by omega) ?_
  refine z_aload_b 0 dL_law_1033 rfl ?_
  refine z_iload_n 3 dL_law_1034 rfl ?_
  refine z_iconst dL_law_1035 ?_
  refine z_iadd dL_law_1036 ?_
  refine z_sld dL_law_1037 hX (by omega) (by omega) ?_
  refine z_vX dL_law_1038 lL_132 (by decide) ka0 io0 rfl (ct_X6_write en Mx (Mx 0) (Mx 10) (Mx 11) (Mx 12) (Mx 13) (Mx 14) (Mx 15) (Mx 16) (Mx 17) (Mx 2) (Mx 3) (Mx 5) (Mx 22) (Mx 24) (Mx 25) (Mx 26) (Mx 27) (Mx 28) (Mx 29) (Mx 30) (Mx 31) (Mx 32) (Mx 33) (Mx 34) rfl rfl rfl rfl rfl rfl rfl rfl rfl rfl rfl rfl rfl rfl rfl rfl rfl rfl rfl rfl rfl rfl rfl rfl _ _ (by omega) (uR.hS) (uR.hT) (uR.hc) (uR.hP)) rfl rfl (by exact Nat.le_of_ble_eq_true rfl) (fun uv1038 uN1038 uh1038 => ?_)
  have ulo := lo_write uh1038
  have uh1 := uh1038
  refine z_aload_n 2 dL_law_1041 rfl ?_
  refine z_aload_b 0 dL_law_1042 rfl ?_
  refine z_iload_n 3 dL_law_1043 rfl ?_
  refine z_iconst dL_law_1044 ?_
  refine z_iadd dL_law_1045 ?_
  refine z_sld dL_law_1046 hX (by omega) (by omega) ?_
  refine z_aload_b 0 dL_law_1047 rfl ?_
  refine z_iload_n 3 dL_law_1048 rfl ?_
  refine z_iconst dL_law_1049 ?_
  refine z_iadd dL_law_1050 ?_
  refine z_sld dL_law_1051 hX (by omega) (by omega) ?_
  refine z_vX dL_law_1052 lL_135 (by decide) ka37 io37 rfl (ct_X7_write en uN1038 (Mx 37) (Mx 38) (Mx 39) (Mx 40) (Mx 42) (Mx 43) (uN1038 44) (uN1038 45) (Mx 46) (uN1038 47) ((ulo 37 (by decide))) ((ulo 38 (by decide))) ((ulo 39 (by decide))) ((ulo 40 (by decide))) ((ulo 42 (by decide))) ((ulo 43 (by decide))) rfl rfl ((ulo 46 (by decide))) rfl _ _ (by omega) (uR.gF) (uR.gS) (uR.gB) (uR.gY) (uR.gT)) rfl rfl (by exact Nat.le_of_ble_eq_true rfl) (fun uv1052 uN1052 uh1052 => ?_)
  obtain ⟨rfl, uRn⟩ := fin_write uR (by omega) uh1 uh1052
  refine z_cmpE (tgt := 1097) dL_law_1055 rfl ?_
  exact uk _ uRn
set_option maxRecDepth 100000 in
theorem law_29 (en : zE) (cx : zX) {b L : Nat} {xs : Nat → Int32} (hL : L ≤ 384) (hX : lwX cx b L xs) (x3 : Int) (hx : 0 ≤ x3 ∧ x3 + 6 ≤ L) (Mx : zW) (uR : Rel Mx) (uk : ∀ M : zW, Rel M → Z en kA cx mL_law M 1097 [(0, .ref b), (1, rf en 0), (2, rf en 37), (3, vi x3)] []) : Z en kA cx mL_law Mx 1060 [(0, .ref b), (1, rf en 0), (2, rf en 37), (3, vi x3)] [] := by
  have us1 := sc_rg xs (x3 + 1)
  have us2 := sc_rg xs (x3 + 2)
  have us3 := sc_rg xs (x3 + 3)
  have us4 := sc_rg xs (x3 + 4)
  have us5 := sc_rg xs (x3 + 5)
  have us6 := uR.hs.1
  have us7 := uR.gO
  refine z_aload_n 1 dL_law_1060 rfl ?_
  refine z_aload_b 0 dL_law_1061 rfl ?_
  refine z_iload_n 3 dL_law_1062 rfl ?_
  refine z_iconst dL_law_1063 ?_
  refine z_iadd dL_law_1064 ?_
  refine z_sld dL_law_1065 hX (by omega) (by omega) ?_
  refine z_vX dL_law_1066 lL_136 (by decide) ka0 io0 rfl (ct_X6_count en Mx (Mx 0) (Mx 1) (Mx 2) (Mx 3) (Mx 5) (Mx 22) (Mx 24) (Mx 25) (Mx 26) (Mx 27) (Mx 28) (Mx 29) (Mx 30) (Mx 31) (Mx 32) (Mx 33) (Mx 34) rfl rfl rfl rfl rfl rfl rfl rfl rfl rfl rfl rfl rfl rfl rfl rfl rfl _ (by omega) (uR.hT) (uR.hc) (uR.hP)) rfl rfl (by exact Nat.le_of_ble_eq_true rfl) (fun uv1066 uN1066 uh1066 => ?_)
  have ulo := lo_count uh1066
  have uh1 := uh1066
  refine z_aload_n 2 dL_law_1069 rfl ?_
  refine z_aload_b 0 dL_law_1070 rfl ?_
  refine z_iload_n 3 dL_law_1071 rfl ?_
  refine z_iconst dL_law_1072 ?_
  refine z_iadd dL_law_1073 ?_
  refine z_sld dL_law_1074 hX (by omega) (by omega) ?_
  refine z_vX dL_law_1075 lL_139 (by decide) ka37 io37 rfl (ct_X7_count en uN1066 (Mx 37) (Mx 42) (Mx 43) (uN1066 44) (uN1066 45) (Mx 46) (uN1066 47) (uN1066 48) (uN1066 49) (uN1066 50) ((ulo 37 (by decide))) ((ulo 42 (by decide))) ((ulo 43 (by decide))) rfl rfl ((ulo 46 (by decide))) rfl rfl rfl rfl _ (by omega) (uR.gB) (uR.gY) (uR.gT)) rfl rfl (by exact Nat.le_of_ble_eq_true rfl) (fun uv1075 uN1075 uh1075 => ?_)
  obtain ⟨rfl, uRn⟩ := fin_count uR (by omega) uh1 uh1075
  refine z_cmpE (tgt := 1097) dL_law_1078 rfl ?_
  exact uk _ uRn
set_option maxRecDepth 100000 in
theorem law_30 (en : zE) (cx : zX) {b L : Nat} {xs : Nat → Int32} (hL : L ≤ 384) (hX : lwX cx b L xs) (x3 : Int) (hx : 0 ≤ x3 ∧ x3 + 6 ≤ L) (Mx : zW) (uR : Rel Mx) (uk : ∀ M : zW, Rel M → Z en kA cx mL_law M 1097 [(0, .ref b), (1, rf en 0), (2, rf en 37), (3, vi x3)] []) : Z en kA cx mL_law Mx 1083 [(0, .ref b), (1, rf en 0), (2, rf en 37), (3, vi x3)] [] := by
  have us1 := sc_rg xs (x3 + 1)
  have us2 := sc_rg xs (x3 + 2)
  have us3 := sc_rg xs (x3 + 3)
  have us4 := sc_rg xs (x3 + 4)
  have us5 := sc_rg xs (x3 + 5)
  have us6 := uR.hs.1
  have us7 := uR.gO
  refine z_aload_n 1 dL_law_1083 rfl ?_
  refine z_vY dL_law_1084 lL_140 (by decide) ka0 io0 rfl (ct_X6_digest en Mx (Mx 0) (Mx 1) (Mx 2) (Mx 3) (Mx 4) (Mx 5) (Mx 6) (Mx 7) (Mx 8) (Mx 19) (Mx 20) (Mx 21) (Mx 22) (Mx 24) (Mx 25) (Mx 26) (Mx 27) (Mx 28) (Mx 29) (Mx 30) (Mx 31) (Mx 32) (Mx 33) (Mx 34) (Mx 35) (Mx 36) rfl rfl rfl rfl rfl rfl rfl rfl rfl rfl rfl rfl rfl rfl rfl rfl rfl rfl rfl rfl rfl rfl rfl rfl rfl rfl (uR.hT) (uR.hc) (uR.hP) (uR.hs) (uR.hO) (uR.hR) (uR.h6)) rfl rfl (by exact Nat.le_of_ble_eq_true rfl) (fun uv1084 uN1084 uh1084 => ?_)
  have ulo := lo_digest uh1084
  have uh1 := uh1084
  refine z_aload_n 2 dL_law_1087 rfl ?_
  refine z_vY dL_law_1088 lL_144 (by decide) ka37 io37 rfl (ct_X7_digest en uN1084 (Mx 37) (Mx 42) (Mx 43) (uN1084 44) (uN1084 45) (Mx 46) (uN1084 47) (uN1084 48) (uN1084 49) (uN1084 50) (Mx 51) (uN1084 52) ((ulo 37 (by decide))) ((ulo 42 (by decide))) ((ulo 43 (by decide))) rfl rfl ((ulo 46 (by decide))) rfl rfl rfl rfl ((ulo 51 (by decide))) rfl (uR.gB) (uR.gY) (uR.gT) (uR.gG) (uR.gO)) rfl rfl (by exact Nat.le_of_ble_eq_true rfl) (fun uv1088 uN1088 uh1088 => ?_)
  obtain ⟨rfl, uRn⟩ := fin_digest uR uh1 uh1088
  refine z_lcmpE dL_law_1091 ?_
  refine z_if_eq (tgt := 1097) dL_law_1092 rfl (by omega) (fun _ => ?_) (fun z => absurd z (by decide))
  exact uk _ uRn
