/-! the constructors; written by program -/
theorem tob_RX5 : Cond.methodLink RX5 3 Lib.objectInit ∈ lw_g := tin 29 (by decide +kernel) rfl
theorem tfl_RX5_9 : Cond.fieldLink RX5 9 "CrownlessDays$Text" "bytes" "[I" ∈ lw_g := tin 59 (by decide +kernel) rfl
theorem ffX5_9_3 : FFk RX5 9 3 1 (.array .int) := ⟨RX3, TX3, 9, tyX3, rfl, by decide, uw_3, tfl_RX5_9, tyX3_ok, nmX3, rfl, rfl, rfl⟩
theorem tfl_RX5_19 : Cond.fieldLink RX5 19 "CrownlessDays$Text" "width" "I" ∈ lw_g := tin 58 (by decide +kernel) rfl
theorem ffX5_19_3 : FFk RX5 19 3 0 .int := ⟨RX3, TX3, 9, tyX3, rfl, by decide, uw_3, tfl_RX5_19, tyX3_ok, nmX3, rfl, rfl, rfl⟩
set_option maxRecDepth 100000 in
set_option maxHeartbeats 2000000 in
theorem kt_X5_init_3 (en : zE) (h0 : Nat) (w : Int) : Kt en yX5_init (mX5_init, 1, 47) [.ref h0, vi w] [(h0, .inr (3, [vi 0, .null, vi 0, vi 0, vi 0, .null, .null, .null, .null]))] (fun wz => ∃ q18 : Nat, wz = [(h0, .inr (3, [vi w, .ref q18, vi 0, vi (-1), vi 0, .null, .null, .null, .null])), (q18, aI en 47 (fun _ => 0))]) := by
  refine Kt.of (by decide +kernel) rfl rfl rfl [(0, .ref h0), (1, vi w)] rfl (Nat.le_of_ble_eq_true rfl) (fun cx C => ?_)
  refine y_aload_n 0 dX5_init_0 rfl ?_
  refine y_obj dX5_init_1 tob_RX5 (by decide) (by decide) ?_
  refine y_aload_n 0 dX5_init_4 rfl ?_
  refine y_bipush dX5_init_5 rfl ?_
  refine y_newI (n := 47) dX5_init_7 rfl (by decide) (by decide) (by decide) (fun q18 => ?_)
  refine Y.eqw (ws2 := [(h0, .inr (3, [vi 0, .null, vi 0, vi 0, vi 0, .null, .null, .null, .null])), (q18, aI en 47 (fun _ => 0))]) rfl ?_
  refine Y.eqc (a := 1) (b := 47) rfl rfl ?_
  refine y_putF (ws2 := [(h0, .inr (3, [vi 0, .ref q18, vi 0, vi 0, vi 0, .null, .null, .null, .null])), (q18, aI en 47 (fun _ => 0))]) 0 C dX5_init_9 ffX5_9_3 rfl rfl rfl (Nat.le_of_ble_eq_true rfl) rfl ?_
  refine y_aload_n 0 dX5_init_12 rfl ?_
  refine y_iconst dX5_init_13 ?_
  refine y_put (ws2 := [(h0, .inr (3, [vi 0, .ref q18, vi 0, vi (-1), vi 0, .null, .null, .null, .null])), (q18, aI en 47 (fun _ => 0))]) 0 dX5_init_14 pfX5_15_3 rfl rfl rfl (Nat.le_of_ble_eq_true rfl) rfl ?_
  refine y_aload_n 0 dX5_init_17 rfl ?_
  refine y_iload_n 1 dX5_init_18 rfl ?_
  refine y_putF (ws2 := [(h0, .inr (3, [vi w, .ref q18, vi 0, vi (-1), vi 0, .null, .null, .null, .null])), (q18, aI en 47 (fun _ => 0))]) 0 C dX5_init_19 ffX5_19_3 rfl rfl rfl (Nat.le_of_ble_eq_true rfl) rfl ?_
  exact y_vret C dX5_init_22 (by decide) (by decide) ⟨q18, rfl⟩
theorem ffX5_9_2 : FFk RX5 9 2 1 (.array .int) := ⟨RX2, TX2, 10, tyX2, rfl, by decide, uw_2, tfl_RX5_9, tyX2_ok, nmX2, rfl, rfl, rfl⟩
theorem ffX5_19_2 : FFk RX5 19 2 0 .int := ⟨RX2, TX2, 10, tyX2, rfl, by decide, uw_2, tfl_RX5_19, tyX2_ok, nmX2, rfl, rfl, rfl⟩
set_option maxRecDepth 100000 in
set_option maxHeartbeats 2000000 in
theorem kt_X5_init_2 (en : zE) (h0 : Nat) (w : Int) : Kt en yX5_init (mX5_init, 1, 47) [.ref h0, vi w] [(h0, .inr (2, [vi 0, .null, vi 0, vi 0, vi 0, .null, .null, .null, .null, .null]))] (fun wz => ∃ q18 : Nat, wz = [(h0, .inr (2, [vi w, .ref q18, vi 0, vi (-1), vi 0, .null, .null, .null, .null, .null])), (q18, aI en 47 (fun _ => 0))]) := by
  refine Kt.of (by decide +kernel) rfl rfl rfl [(0, .ref h0), (1, vi w)] rfl (Nat.le_of_ble_eq_true rfl) (fun cx C => ?_)
  refine y_aload_n 0 dX5_init_0 rfl ?_
  refine y_obj dX5_init_1 tob_RX5 (by decide) (by decide) ?_
  refine y_aload_n 0 dX5_init_4 rfl ?_
  refine y_bipush dX5_init_5 rfl ?_
  refine y_newI (n := 47) dX5_init_7 rfl (by decide) (by decide) (by decide) (fun q18 => ?_)
  refine Y.eqw (ws2 := [(h0, .inr (2, [vi 0, .null, vi 0, vi 0, vi 0, .null, .null, .null, .null, .null])), (q18, aI en 47 (fun _ => 0))]) rfl ?_
  refine Y.eqc (a := 1) (b := 47) rfl rfl ?_
  refine y_putF (ws2 := [(h0, .inr (2, [vi 0, .ref q18, vi 0, vi 0, vi 0, .null, .null, .null, .null, .null])), (q18, aI en 47 (fun _ => 0))]) 0 C dX5_init_9 ffX5_9_2 rfl rfl rfl (Nat.le_of_ble_eq_true rfl) rfl ?_
  refine y_aload_n 0 dX5_init_12 rfl ?_
  refine y_iconst dX5_init_13 ?_
  refine y_put (ws2 := [(h0, .inr (2, [vi 0, .ref q18, vi 0, vi (-1), vi 0, .null, .null, .null, .null, .null])), (q18, aI en 47 (fun _ => 0))]) 0 dX5_init_14 pfX5_15_2 rfl rfl rfl (Nat.le_of_ble_eq_true rfl) rfl ?_
  refine y_aload_n 0 dX5_init_17 rfl ?_
  refine y_iload_n 1 dX5_init_18 rfl ?_
  refine y_putF (ws2 := [(h0, .inr (2, [vi w, .ref q18, vi 0, vi (-1), vi 0, .null, .null, .null, .null, .null])), (q18, aI en 47 (fun _ => 0))]) 0 C dX5_init_19 ffX5_19_2 rfl rfl rfl (Nat.le_of_ble_eq_true rfl) rfl ?_
  exact y_vret C dX5_init_22 (by decide) (by decide) ⟨q18, rfl⟩
theorem tim_X5_init : Cond.instanceMethod yX5_init ∈ lw_g := tin 27 (by decide +kernel) rfl
theorem tini_RX5 : Cond.initialized RX5 ∈ lw_g := tin 2 (by decide +kernel) rfl
theorem tcd_X5_init : Cond.code yX5_init mX5_init.2.1 mX5_init.2.2.1 mX5_init.2.2.2.1 ∈ lw_g := tin 28 (by decide +kernel) rfl
theorem tml_RX3_3 : Cond.methodLink RX3 3 yX5_init ∈ lw_g := tin 26 (by decide +kernel) rfl
theorem ilX3_3 : ILk RX3 3 yX5_init mX5_init 1 := ⟨tml_RX3_3, tim_X5_init, tini_RX5, tcd_X5_init, rfl, rfl, yoX5_init⟩
theorem tfl_RX3_9 : Cond.fieldLink RX3 9 "CrownlessDays$Roads" "from" "[I" ∈ lw_g := tin 48 (by decide +kernel) rfl
theorem ffX3_9_3 : FFk RX3 9 3 5 (.array .int) := ⟨RX3, TX3, 9, tyX3, rfl, by decide, uw_3, tfl_RX3_9, tyX3_ok, nmX3, rfl, rfl, rfl⟩
theorem tfl_RX3_15 : Cond.fieldLink RX3 15 "CrownlessDays$Roads" "to" "[I" ∈ lw_g := tin 51 (by decide +kernel) rfl
theorem ffX3_15_3 : FFk RX3 15 3 6 (.array .int) := ⟨RX3, TX3, 9, tyX3, rfl, by decide, uw_3, tfl_RX3_15, tyX3_ok, nmX3, rfl, rfl, rfl⟩
theorem tfl_RX3_18 : Cond.fieldLink RX3 18 "CrownlessDays$Roads" "days" "[I" ∈ lw_g := tin 54 (by decide +kernel) rfl
theorem ffX3_18_3 : FFk RX3 18 3 7 (.array .int) := ⟨RX3, TX3, 9, tyX3, rfl, by decide, uw_3, tfl_RX3_18, tyX3_ok, nmX3, rfl, rfl, rfl⟩
theorem tfl_RX3_21 : Cond.fieldLink RX3 21 "CrownlessDays$Roads" "ways" "[I" ∈ lw_g := tin 57 (by decide +kernel) rfl
theorem ffX3_21_3 : FFk RX3 21 3 8 (.array .int) := ⟨RX3, TX3, 9, tyX3, rfl, by decide, uw_3, tfl_RX3_21, tyX3_ok, nmX3, rfl, rfl, rfl⟩
set_option maxRecDepth 100000 in
set_option maxHeartbeats 2000000 in
theorem kt_X3_init (en : zE) (h0 : Nat) : Kt en yX3_init (mX3_init, 5, 147) [.ref h0] [(h0, .inr (3, [vi 0, .null, vi 0, vi 0, vi 0, .null, .null, .null, .null]))] (fun wz => ∃ q18 q19 q20 q21 q22 : Nat, wz = [(h0, .inr (3, [vi 3, .ref q18, vi 0, vi (-1), vi 0, .ref q19, .ref q20, .ref q21, .ref q22])), (q18, aI en 47 (fun _ => 0)), (q19, aI en 12 (fun _ => 0)), (q20, aI en 12 (fun _ => 0)), (q21, aI en 12 (fun _ => 0)), (q22, aI en 64 (gA (fun _ => 0) (fun _ => 0) (fun _ => 0) (fun _ => 0) 0))]) := by
  refine Kt.of (by decide +kernel) rfl rfl rfl [(0, .ref h0)] rfl (Nat.le_of_ble_eq_true rfl) (fun cx C => ?_)
  refine y_aload_n 0 dX3_init_0 rfl ?_
  refine y_iconst dX3_init_1 ?_
  refine y_call (kd' := (mX5_init, 1, 47)) (wc := [(h0, .inr (3, [vi 0, .null, vi 0, vi 0, vi 0, .null, .null, .null, .null]))]) (wr := []) [0] [] dX3_init_2 ilX3_3 (by decide) rfl rfl (by decide) (by decide) (by decide) (kt_X5_init_3 en h0 (3)) rfl rfl (by exact Nat.le_of_ble_eq_true rfl) (by decide) (by decide) (fun w2_3 hw2_3 => ?_)
  obtain ⟨q18, rfl⟩ := hw2_3
  refine Y.eqw (ws2 := [(h0, .inr (3, [vi 3, .ref q18, vi 0, vi (-1), vi 0, .null, .null, .null, .null])), (q18, aI en 47 (fun _ => 0))]) rfl ?_
  refine Y.eqc (a := 1) (b := 47) rfl rfl ?_
  refine y_aload_n 0 dX3_init_5 rfl ?_
  refine y_bipush dX3_init_6 rfl ?_
  refine y_newI (n := 12) dX3_init_8 rfl (by decide) (by decide) (by decide) (fun q19 => ?_)
  refine Y.eqw (ws2 := [(h0, .inr (3, [vi 3, .ref q18, vi 0, vi (-1), vi 0, .null, .null, .null, .null])), (q18, aI en 47 (fun _ => 0)), (q19, aI en 12 (fun _ => 0))]) rfl ?_
  refine Y.eqc (a := 2) (b := 59) rfl rfl ?_
  refine y_putF (ws2 := [(h0, .inr (3, [vi 3, .ref q18, vi 0, vi (-1), vi 0, .ref q19, .null, .null, .null])), (q18, aI en 47 (fun _ => 0)), (q19, aI en 12 (fun _ => 0))]) 0 C dX3_init_10 ffX3_9_3 rfl rfl rfl (Nat.le_of_ble_eq_true rfl) rfl ?_
  refine y_aload_n 0 dX3_init_13 rfl ?_
  refine y_bipush dX3_init_14 rfl ?_
  refine y_newI (n := 12) dX3_init_16 rfl (by decide) (by decide) (by decide) (fun q20 => ?_)
  refine Y.eqw (ws2 := [(h0, .inr (3, [vi 3, .ref q18, vi 0, vi (-1), vi 0, .ref q19, .null, .null, .null])), (q18, aI en 47 (fun _ => 0)), (q19, aI en 12 (fun _ => 0)), (q20, aI en 12 (fun _ => 0))]) rfl ?_
  refine Y.eqc (a := 3) (b := 71) rfl rfl ?_
  refine y_putF (ws2 := [(h0, .inr (3, [vi 3, .ref q18, vi 0, vi (-1), vi 0, .ref q19, .ref q20, .null, .null])), (q18, aI en 47 (fun _ => 0)), (q19, aI en 12 (fun _ => 0)), (q20, aI en 12 (fun _ => 0))]) 0 C dX3_init_18 ffX3_15_3 rfl rfl rfl (Nat.le_of_ble_eq_true rfl) rfl ?_
  refine y_aload_n 0 dX3_init_21 rfl ?_
  refine y_bipush dX3_init_22 rfl ?_
  refine y_newI (n := 12) dX3_init_24 rfl (by decide) (by decide) (by decide) (fun q21 => ?_)
  refine Y.eqw (ws2 := [(h0, .inr (3, [vi 3, .ref q18, vi 0, vi (-1), vi 0, .ref q19, .ref q20, .null, .null])), (q18, aI en 47 (fun _ => 0)), (q19, aI en 12 (fun _ => 0)), (q20, aI en 12 (fun _ => 0)), (q21, aI en 12 (fun _ => 0))]) rfl ?_
  refine Y.eqc (a := 4) (b := 83) rfl rfl ?_
  refine y_putF (ws2 := [(h0, .inr (3, [vi 3, .ref q18, vi 0, vi (-1), vi 0, .ref q19, .ref q20, .ref q21, .null])), (q18, aI en 47 (fun _ => 0)), (q19, aI en 12 (fun _ => 0)), (q20, aI en 12 (fun _ => 0)), (q21, aI en 12 (fun _ => 0))]) 0 C dX3_init_26 ffX3_18_3 rfl rfl rfl (Nat.le_of_ble_eq_true rfl) rfl ?_
  refine y_aload_n 0 dX3_init_29 rfl ?_
  refine y_bipush dX3_init_30 rfl ?_
  refine y_newI (n := 64) dX3_init_32 rfl (by decide) (by decide) (by decide) (fun q22 => ?_)
  refine Y.eqw (ws2 := [(h0, .inr (3, [vi 3, .ref q18, vi 0, vi (-1), vi 0, .ref q19, .ref q20, .ref q21, .null])), (q18, aI en 47 (fun _ => 0)), (q19, aI en 12 (fun _ => 0)), (q20, aI en 12 (fun _ => 0)), (q21, aI en 12 (fun _ => 0)), (q22, aI en 64 (fun _ => 0))]) rfl ?_
  refine Y.eqc (a := 5) (b := 147) rfl rfl ?_
  refine y_putF (ws2 := [(h0, .inr (3, [vi 3, .ref q18, vi 0, vi (-1), vi 0, .ref q19, .ref q20, .ref q21, .ref q22])), (q18, aI en 47 (fun _ => 0)), (q19, aI en 12 (fun _ => 0)), (q20, aI en 12 (fun _ => 0)), (q21, aI en 12 (fun _ => 0)), (q22, aI en 64 (fun _ => 0))]) 0 C dX3_init_34 ffX3_21_3 rfl rfl rfl (Nat.le_of_ble_eq_true rfl) rfl ?_
  refine y_aload_n 0 dX3_init_37 rfl ?_
  refine y_meth (M := (fun k => if k = 1 then (up (up (fun _ => 0) 0 3) 3 (-1)) else fun _ => 0)) (ks := [1, 18, 19, 20, 21, 22]) (fun k => if k = 1 then h0 else if k = 18 then q18 else if k = 19 then q19 else if k = 20 then q20 else if k = 21 then q21 else q22) (by decide) dX3_init_38 lX3_24 (by decide) rfl (List.mem_cons_self) io1 rfl (ct_X3_measure (enA en (fun k => if k = 1 then h0 else if k = 18 then q18 else if k = 19 then q19 else if k = 20 then q20 else if k = 21 then q21 else q22)) (fun k => if k = 1 then (up (up (fun _ => 0) 0 3) 3 (-1)) else fun _ => 0) [1, 18, 19, 20, 21, 22] (by decide) (by decide) (by decide) (by decide) (by decide) _ _ _ _ _ rfl rfl rfl rfl rfl (by decide) (fun _ a b => absurd b (by show ¬ _ < (0 : Int); omega))) rfl rfl (by exact Nat.le_of_ble_eq_true rfl) (by decide) (by decide) ?_
  refine Y.eqw (ws2 := [(h0, .inr (3, [vi 3, .ref q18, vi 0, vi (-1), vi 0, .ref q19, .ref q20, .ref q21, .ref q22])), (q18, aI en 47 (fun _ => 0)), (q19, aI en 12 (fun _ => 0)), (q20, aI en 12 (fun _ => 0)), (q21, aI en 12 (fun _ => 0)), (q22, aI en 64 (gA (fun _ => 0) (fun _ => 0) (fun _ => 0) (fun _ => 0) 0))]) rfl ?_
  refine Y.eqc (a := 5) (b := 147) rfl rfl ?_
  exact y_vret C dX3_init_41 (by decide) (by decide) ⟨q18, q19, q20, q21, q22, rfl⟩
theorem tml_RX2_3 : Cond.methodLink RX2 3 yX5_init ∈ lw_g := tin 102 (by decide +kernel) rfl
theorem ilX2_3 : ILk RX2 3 yX5_init mX5_init 1 := ⟨tml_RX2_3, tim_X5_init, tini_RX5, tcd_X5_init, rfl, rfl, yoX5_init⟩
theorem tfl_RX2_9 : Cond.fieldLink RX2 9 "CrownlessDays$Persons" "town" "[I" ∈ lw_g := tin 103 (by decide +kernel) rfl
theorem ffX2_9_2 : FFk RX2 9 2 5 (.array .int) := ⟨RX2, TX2, 10, tyX2, rfl, by decide, uw_2, tfl_RX2_9, tyX2_ok, nmX2, rfl, rfl, rfl⟩
theorem tfl_RX2_15 : Cond.fieldLink RX2 15 "CrownlessDays$Persons" "guard" "[I" ∈ lw_g := tin 106 (by decide +kernel) rfl
theorem ffX2_15_2 : FFk RX2 15 2 6 (.array .int) := ⟨RX2, TX2, 10, tyX2, rfl, by decide, uw_2, tfl_RX2_15, tyX2_ok, nmX2, rfl, rfl, rfl⟩
theorem tfl_RX2_18 : Cond.fieldLink RX2 18 "CrownlessDays$Persons" "kind" "[I" ∈ lw_g := tin 109 (by decide +kernel) rfl
theorem ffX2_18_2 : FFk RX2 18 2 7 (.array .int) := ⟨RX2, TX2, 10, tyX2, rfl, by decide, uw_2, tfl_RX2_18, tyX2_ok, nmX2, rfl, rfl, rfl⟩
theorem tfl_RX2_21 : Cond.fieldLink RX2 21 "CrownlessDays$Persons" "rich" "[I" ∈ lw_g := tin 112 (by decide +kernel) rfl
theorem ffX2_21_2 : FFk RX2 21 2 8 (.array .int) := ⟨RX2, TX2, 10, tyX2, rfl, by decide, uw_2, tfl_RX2_21, tyX2_ok, nmX2, rfl, rfl, rfl⟩
theorem tfl_RX2_24 : Cond.fieldLink RX2 24 "CrownlessDays$Persons" "score" "[I" ∈ lw_g := tin 115 (by decide +kernel) rfl
theorem ffX2_24_2 : FFk RX2 24 2 9 (.array .int) := ⟨RX2, TX2, 10, tyX2, rfl, by decide, uw_2, tfl_RX2_24, tyX2_ok, nmX2, rfl, rfl, rfl⟩
set_option maxRecDepth 100000 in
set_option maxHeartbeats 2000000 in
theorem kt_X2_init (en : zE) (h0 : Nat) : Kt en yX2_init (mX2_init, 6, 87) [.ref h0] [(h0, .inr (2, [vi 0, .null, vi 0, vi 0, vi 0, .null, .null, .null, .null, .null]))] (fun wz => ∃ q23 q24 q25 q26 q27 q28 : Nat, wz = [(h0, .inr (2, [vi 5, .ref q23, vi 0, vi (-1), vi 0, .ref q24, .ref q25, .ref q26, .ref q27, .ref q28])), (q23, aI en 47 (fun _ => 0)), (q24, aI en 8 (fun _ => 0)), (q25, aI en 8 (fun _ => 0)), (q26, aI en 8 (fun _ => 0)), (q27, aI en 8 (fun _ => 0)), (q28, aI en 8 (fun _ => 0))]) := by
  refine Kt.of (by decide +kernel) rfl rfl rfl [(0, .ref h0)] rfl (Nat.le_of_ble_eq_true rfl) (fun cx C => ?_)
  refine y_aload_n 0 dX2_init_0 rfl ?_
  refine y_iconst dX2_init_1 ?_
  refine y_call (kd' := (mX5_init, 1, 47)) (wc := [(h0, .inr (2, [vi 0, .null, vi 0, vi 0, vi 0, .null, .null, .null, .null, .null]))]) (wr := []) [0] [] dX2_init_2 ilX2_3 (by decide) rfl rfl (by decide) (by decide) (by decide) (kt_X5_init_2 en h0 (5)) rfl rfl (by exact Nat.le_of_ble_eq_true rfl) (by decide) (by decide) (fun w2_3 hw2_3 => ?_)
  obtain ⟨q23, rfl⟩ := hw2_3
  refine Y.eqw (ws2 := [(h0, .inr (2, [vi 5, .ref q23, vi 0, vi (-1), vi 0, .null, .null, .null, .null, .null])), (q23, aI en 47 (fun _ => 0))]) rfl ?_
  refine Y.eqc (a := 1) (b := 47) rfl rfl ?_
  refine y_aload_n 0 dX2_init_5 rfl ?_
  refine y_bipush dX2_init_6 rfl ?_
  refine y_newI (n := 8) dX2_init_8 rfl (by decide) (by decide) (by decide) (fun q24 => ?_)
  refine Y.eqw (ws2 := [(h0, .inr (2, [vi 5, .ref q23, vi 0, vi (-1), vi 0, .null, .null, .null, .null, .null])), (q23, aI en 47 (fun _ => 0)), (q24, aI en 8 (fun _ => 0))]) rfl ?_
  refine Y.eqc (a := 2) (b := 55) rfl rfl ?_
  refine y_putF (ws2 := [(h0, .inr (2, [vi 5, .ref q23, vi 0, vi (-1), vi 0, .ref q24, .null, .null, .null, .null])), (q23, aI en 47 (fun _ => 0)), (q24, aI en 8 (fun _ => 0))]) 0 C dX2_init_10 ffX2_9_2 rfl rfl rfl (Nat.le_of_ble_eq_true rfl) rfl ?_
  refine y_aload_n 0 dX2_init_13 rfl ?_
  refine y_bipush dX2_init_14 rfl ?_
  refine y_newI (n := 8) dX2_init_16 rfl (by decide) (by decide) (by decide) (fun q25 => ?_)
  refine Y.eqw (ws2 := [(h0, .inr (2, [vi 5, .ref q23, vi 0, vi (-1), vi 0, .ref q24, .null, .null, .null, .null])), (q23, aI en 47 (fun _ => 0)), (q24, aI en 8 (fun _ => 0)), (q25, aI en 8 (fun _ => 0))]) rfl ?_
  refine Y.eqc (a := 3) (b := 63) rfl rfl ?_
  refine y_putF (ws2 := [(h0, .inr (2, [vi 5, .ref q23, vi 0, vi (-1), vi 0, .ref q24, .ref q25, .null, .null, .null])), (q23, aI en 47 (fun _ => 0)), (q24, aI en 8 (fun _ => 0)), (q25, aI en 8 (fun _ => 0))]) 0 C dX2_init_18 ffX2_15_2 rfl rfl rfl (Nat.le_of_ble_eq_true rfl) rfl ?_
  refine y_aload_n 0 dX2_init_21 rfl ?_
  refine y_bipush dX2_init_22 rfl ?_
  refine y_newI (n := 8) dX2_init_24 rfl (by decide) (by decide) (by decide) (fun q26 => ?_)
  refine Y.eqw (ws2 := [(h0, .inr (2, [vi 5, .ref q23, vi 0, vi (-1), vi 0, .ref q24, .ref q25, .null, .null, .null])), (q23, aI en 47 (fun _ => 0)), (q24, aI en 8 (fun _ => 0)), (q25, aI en 8 (fun _ => 0)), (q26, aI en 8 (fun _ => 0))]) rfl ?_
  refine Y.eqc (a := 4) (b := 71) rfl rfl ?_
  refine y_putF (ws2 := [(h0, .inr (2, [vi 5, .ref q23, vi 0, vi (-1), vi 0, .ref q24, .ref q25, .ref q26, .null, .null])), (q23, aI en 47 (fun _ => 0)), (q24, aI en 8 (fun _ => 0)), (q25, aI en 8 (fun _ => 0)), (q26, aI en 8 (fun _ => 0))]) 0 C dX2_init_26 ffX2_18_2 rfl rfl rfl (Nat.le_of_ble_eq_true rfl) rfl ?_
  refine y_aload_n 0 dX2_init_29 rfl ?_
  refine y_bipush dX2_init_30 rfl ?_
  refine y_newI (n := 8) dX2_init_32 rfl (by decide) (by decide) (by decide) (fun q27 => ?_)
  refine Y.eqw (ws2 := [(h0, .inr (2, [vi 5, .ref q23, vi 0, vi (-1), vi 0, .ref q24, .ref q25, .ref q26, .null, .null])), (q23, aI en 47 (fun _ => 0)), (q24, aI en 8 (fun _ => 0)), (q25, aI en 8 (fun _ => 0)), (q26, aI en 8 (fun _ => 0)), (q27, aI en 8 (fun _ => 0))]) rfl ?_
  refine Y.eqc (a := 5) (b := 79) rfl rfl ?_
  refine y_putF (ws2 := [(h0, .inr (2, [vi 5, .ref q23, vi 0, vi (-1), vi 0, .ref q24, .ref q25, .ref q26, .ref q27, .null])), (q23, aI en 47 (fun _ => 0)), (q24, aI en 8 (fun _ => 0)), (q25, aI en 8 (fun _ => 0)), (q26, aI en 8 (fun _ => 0)), (q27, aI en 8 (fun _ => 0))]) 0 C dX2_init_34 ffX2_21_2 rfl rfl rfl (Nat.le_of_ble_eq_true rfl) rfl ?_
  refine y_aload_n 0 dX2_init_37 rfl ?_
  refine y_bipush dX2_init_38 rfl ?_
  refine y_newI (n := 8) dX2_init_40 rfl (by decide) (by decide) (by decide) (fun q28 => ?_)
  refine Y.eqw (ws2 := [(h0, .inr (2, [vi 5, .ref q23, vi 0, vi (-1), vi 0, .ref q24, .ref q25, .ref q26, .ref q27, .null])), (q23, aI en 47 (fun _ => 0)), (q24, aI en 8 (fun _ => 0)), (q25, aI en 8 (fun _ => 0)), (q26, aI en 8 (fun _ => 0)), (q27, aI en 8 (fun _ => 0)), (q28, aI en 8 (fun _ => 0))]) rfl ?_
  refine Y.eqc (a := 6) (b := 87) rfl rfl ?_
  refine y_putF (ws2 := [(h0, .inr (2, [vi 5, .ref q23, vi 0, vi (-1), vi 0, .ref q24, .ref q25, .ref q26, .ref q27, .ref q28])), (q23, aI en 47 (fun _ => 0)), (q24, aI en 8 (fun _ => 0)), (q25, aI en 8 (fun _ => 0)), (q26, aI en 8 (fun _ => 0)), (q27, aI en 8 (fun _ => 0)), (q28, aI en 8 (fun _ => 0))]) 0 C dX2_init_42 ffX2_24_2 rfl rfl rfl (Nat.le_of_ble_eq_true rfl) rfl ?_
  exact y_vret C dX2_init_45 (by decide) (by decide) ⟨q23, q24, q25, q26, q27, q28, rfl⟩
theorem tob_RX1 : Cond.methodLink RX1 3 Lib.objectInit ∈ lw_g := tin 141 (by decide +kernel) rfl
theorem tfl_RX1_9 : Cond.fieldLink RX1 9 "CrownlessDays$Course" "paid" "[Z" ∈ lw_g := tin 144 (by decide +kernel) rfl
theorem ffX1_9_1 : FFk RX1 9 1 2 (.array .boolean) := ⟨RX1, TX1, 11, tyX1, rfl, by decide, uw_1, tfl_RX1_9, tyX1_ok, nmX1, rfl, rfl, rfl⟩
theorem tfl_RX1_15 : Cond.fieldLink RX1 15 "CrownlessDays$Course" "heard" "[I" ∈ lw_g := tin 145 (by decide +kernel) rfl
theorem ffX1_15_1 : FFk RX1 15 1 3 (.array .int) := ⟨RX1, TX1, 11, tyX1, rfl, by decide, uw_1, tfl_RX1_15, tyX1_ok, nmX1, rfl, rfl, rfl⟩
theorem tfl_RX1_19 : Cond.fieldLink RX1 19 "CrownlessDays$Course" "law" "[I" ∈ lw_g := tin 147 (by decide +kernel) rfl
theorem ffX1_19_1 : FFk RX1 19 1 4 (.array .int) := ⟨RX1, TX1, 11, tyX1, rfl, by decide, uw_1, tfl_RX1_19, tyX1_ok, nmX1, rfl, rfl, rfl⟩
theorem tfl_RX1_22 : Cond.fieldLink RX1 22 "CrownlessDays$Course" "comes" "[I" ∈ lw_g := tin 149 (by decide +kernel) rfl
theorem ffX1_22_1 : FFk RX1 22 1 5 (.array .int) := ⟨RX1, TX1, 11, tyX1, rfl, by decide, uw_1, tfl_RX1_22, tyX1_ok, nmX1, rfl, rfl, rfl⟩
theorem tfl_RX1_25 : Cond.fieldLink RX1 25 "CrownlessDays$Course" "fate" "[I" ∈ lw_g := tin 151 (by decide +kernel) rfl
theorem ffX1_25_1 : FFk RX1 25 1 6 (.array .int) := ⟨RX1, TX1, 11, tyX1, rfl, by decide, uw_1, tfl_RX1_25, tyX1_ok, nmX1, rfl, rfl, rfl⟩
theorem tfl_RX1_28 : Cond.fieldLink RX1 28 "CrownlessDays$Course" "wealth" "[I" ∈ lw_g := tin 153 (by decide +kernel) rfl
theorem ffX1_28_1 : FFk RX1 28 1 7 (.array .int) := ⟨RX1, TX1, 11, tyX1, rfl, by decide, uw_1, tfl_RX1_28, tyX1_ok, nmX1, rfl, rfl, rfl⟩
theorem tfl_RX1_31 : Cond.fieldLink RX1 31 "CrownlessDays$Course" "roads" "LCrownlessDays$Roads;" ∈ lw_g := tin 142 (by decide +kernel) rfl
theorem ffX1_31_1 : FFk RX1 31 1 0 (.object "CrownlessDays$Roads") := ⟨RX1, TX1, 11, tyX1, rfl, by decide, uw_1, tfl_RX1_31, tyX1_ok, nmX1, rfl, rfl, rfl⟩
theorem tfl_RX1_35 : Cond.fieldLink RX1 35 "CrownlessDays$Course" "persons" "LCrownlessDays$Persons;" ∈ lw_g := tin 143 (by decide +kernel) rfl
theorem ffX1_35_1 : FFk RX1 35 1 1 (.object "CrownlessDays$Persons") := ⟨RX1, TX1, 11, tyX1, rfl, by decide, uw_1, tfl_RX1_35, tyX1_ok, nmX1, rfl, rfl, rfl⟩
set_option maxRecDepth 100000 in
set_option maxHeartbeats 2000000 in
theorem kt_X1_init (en : zE) (h0 a b : Nat) : Kt en yX1_init (mX1_init, 6, 48) [.ref h0, .ref a, .ref b] [(h0, .inr (1, [.null, .null, .null, .null, .null, .null, .null, .null, vi 0, vi 0, vi 0]))] (fun wz => ∃ q29 q30 q31 q32 q33 q34 : Nat, wz = [(h0, .inr (1, [.ref a, .ref b, .ref q29, .ref q30, .ref q31, .ref q32, .ref q33, .ref q34, vi 0, vi 0, vi 0])), (q29, aZ en 8 (fun _ => 0)), (q30, aI en 8 (fun _ => 0)), (q31, aI en 8 (fun _ => 0)), (q32, aI en 8 (fun _ => 0)), (q33, aI en 8 (fun _ => 0)), (q34, aI en 8 (fun _ => 0))]) := by
  refine Kt.of (by decide +kernel) rfl rfl rfl [(0, .ref h0), (1, .ref a), (2, .ref b)] rfl (Nat.le_of_ble_eq_true rfl) (fun cx C => ?_)
  refine y_aload_n 0 dX1_init_0 rfl ?_
  refine y_obj dX1_init_1 tob_RX1 (by decide) (by decide) ?_
  refine y_aload_n 0 dX1_init_4 rfl ?_
  refine y_bipush dX1_init_5 rfl ?_
  refine y_newZ (n := 8) dX1_init_7 rfl (by decide) (by decide) (by decide) (fun q29 => ?_)
  refine Y.eqw (ws2 := [(h0, .inr (1, [.null, .null, .null, .null, .null, .null, .null, .null, vi 0, vi 0, vi 0])), (q29, aZ en 8 (fun _ => 0))]) rfl ?_
  refine Y.eqc (a := 1) (b := 8) rfl rfl ?_
  refine y_putF (ws2 := [(h0, .inr (1, [.null, .null, .ref q29, .null, .null, .null, .null, .null, vi 0, vi 0, vi 0])), (q29, aZ en 8 (fun _ => 0))]) 0 C dX1_init_9 ffX1_9_1 rfl rfl rfl (Nat.le_of_ble_eq_true rfl) rfl ?_
  refine y_aload_n 0 dX1_init_12 rfl ?_
  refine y_bipush dX1_init_13 rfl ?_
  refine y_newI (n := 8) dX1_init_15 rfl (by decide) (by decide) (by decide) (fun q30 => ?_)
  refine Y.eqw (ws2 := [(h0, .inr (1, [.null, .null, .ref q29, .null, .null, .null, .null, .null, vi 0, vi 0, vi 0])), (q29, aZ en 8 (fun _ => 0)), (q30, aI en 8 (fun _ => 0))]) rfl ?_
  refine Y.eqc (a := 2) (b := 16) rfl rfl ?_
  refine y_putF (ws2 := [(h0, .inr (1, [.null, .null, .ref q29, .ref q30, .null, .null, .null, .null, vi 0, vi 0, vi 0])), (q29, aZ en 8 (fun _ => 0)), (q30, aI en 8 (fun _ => 0))]) 0 C dX1_init_17 ffX1_15_1 rfl rfl rfl (Nat.le_of_ble_eq_true rfl) rfl ?_
  refine y_aload_n 0 dX1_init_20 rfl ?_
  refine y_bipush dX1_init_21 rfl ?_
  refine y_newI (n := 8) dX1_init_23 rfl (by decide) (by decide) (by decide) (fun q31 => ?_)
  refine Y.eqw (ws2 := [(h0, .inr (1, [.null, .null, .ref q29, .ref q30, .null, .null, .null, .null, vi 0, vi 0, vi 0])), (q29, aZ en 8 (fun _ => 0)), (q30, aI en 8 (fun _ => 0)), (q31, aI en 8 (fun _ => 0))]) rfl ?_
  refine Y.eqc (a := 3) (b := 24) rfl rfl ?_
  refine y_putF (ws2 := [(h0, .inr (1, [.null, .null, .ref q29, .ref q30, .ref q31, .null, .null, .null, vi 0, vi 0, vi 0])), (q29, aZ en 8 (fun _ => 0)), (q30, aI en 8 (fun _ => 0)), (q31, aI en 8 (fun _ => 0))]) 0 C dX1_init_25 ffX1_19_1 rfl rfl rfl (Nat.le_of_ble_eq_true rfl) rfl ?_
  refine y_aload_n 0 dX1_init_28 rfl ?_
  refine y_bipush dX1_init_29 rfl ?_
  refine y_newI (n := 8) dX1_init_31 rfl (by decide) (by decide) (by decide) (fun q32 => ?_)
  refine Y.eqw (ws2 := [(h0, .inr (1, [.null, .null, .ref q29, .ref q30, .ref q31, .null, .null, .null, vi 0, vi 0, vi 0])), (q29, aZ en 8 (fun _ => 0)), (q30, aI en 8 (fun _ => 0)), (q31, aI en 8 (fun _ => 0)), (q32, aI en 8 (fun _ => 0))]) rfl ?_
  refine Y.eqc (a := 4) (b := 32) rfl rfl ?_
  refine y_putF (ws2 := [(h0, .inr (1, [.null, .null, .ref q29, .ref q30, .ref q31, .ref q32, .null, .null, vi 0, vi 0, vi 0])), (q29, aZ en 8 (fun _ => 0)), (q30, aI en 8 (fun _ => 0)), (q31, aI en 8 (fun _ => 0)), (q32, aI en 8 (fun _ => 0))]) 0 C dX1_init_33 ffX1_22_1 rfl rfl rfl (Nat.le_of_ble_eq_true rfl) rfl ?_
  refine y_aload_n 0 dX1_init_36 rfl ?_
  refine y_bipush dX1_init_37 rfl ?_
  refine y_newI (n := 8) dX1_init_39 rfl (by decide) (by decide) (by decide) (fun q33 => ?_)
  refine Y.eqw (ws2 := [(h0, .inr (1, [.null, .null, .ref q29, .ref q30, .ref q31, .ref q32, .null, .null, vi 0, vi 0, vi 0])), (q29, aZ en 8 (fun _ => 0)), (q30, aI en 8 (fun _ => 0)), (q31, aI en 8 (fun _ => 0)), (q32, aI en 8 (fun _ => 0)), (q33, aI en 8 (fun _ => 0))]) rfl ?_
  refine Y.eqc (a := 5) (b := 40) rfl rfl ?_
  refine y_putF (ws2 := [(h0, .inr (1, [.null, .null, .ref q29, .ref q30, .ref q31, .ref q32, .ref q33, .null, vi 0, vi 0, vi 0])), (q29, aZ en 8 (fun _ => 0)), (q30, aI en 8 (fun _ => 0)), (q31, aI en 8 (fun _ => 0)), (q32, aI en 8 (fun _ => 0)), (q33, aI en 8 (fun _ => 0))]) 0 C dX1_init_41 ffX1_25_1 rfl rfl rfl (Nat.le_of_ble_eq_true rfl) rfl ?_
  refine y_aload_n 0 dX1_init_44 rfl ?_
  refine y_bipush dX1_init_45 rfl ?_
  refine y_newI (n := 8) dX1_init_47 rfl (by decide) (by decide) (by decide) (fun q34 => ?_)
  refine Y.eqw (ws2 := [(h0, .inr (1, [.null, .null, .ref q29, .ref q30, .ref q31, .ref q32, .ref q33, .null, vi 0, vi 0, vi 0])), (q29, aZ en 8 (fun _ => 0)), (q30, aI en 8 (fun _ => 0)), (q31, aI en 8 (fun _ => 0)), (q32, aI en 8 (fun _ => 0)), (q33, aI en 8 (fun _ => 0)), (q34, aI en 8 (fun _ => 0))]) rfl ?_
  refine Y.eqc (a := 6) (b := 48) rfl rfl ?_
  refine y_putF (ws2 := [(h0, .inr (1, [.null, .null, .ref q29, .ref q30, .ref q31, .ref q32, .ref q33, .ref q34, vi 0, vi 0, vi 0])), (q29, aZ en 8 (fun _ => 0)), (q30, aI en 8 (fun _ => 0)), (q31, aI en 8 (fun _ => 0)), (q32, aI en 8 (fun _ => 0)), (q33, aI en 8 (fun _ => 0)), (q34, aI en 8 (fun _ => 0))]) 0 C dX1_init_49 ffX1_28_1 rfl rfl rfl (Nat.le_of_ble_eq_true rfl) rfl ?_
  refine y_aload_n 0 dX1_init_52 rfl ?_
  refine y_aload_n 1 dX1_init_53 rfl ?_
  refine y_putF (ws2 := [(h0, .inr (1, [.ref a, .null, .ref q29, .ref q30, .ref q31, .ref q32, .ref q33, .ref q34, vi 0, vi 0, vi 0])), (q29, aZ en 8 (fun _ => 0)), (q30, aI en 8 (fun _ => 0)), (q31, aI en 8 (fun _ => 0)), (q32, aI en 8 (fun _ => 0)), (q33, aI en 8 (fun _ => 0)), (q34, aI en 8 (fun _ => 0))]) 0 C dX1_init_54 ffX1_31_1 rfl rfl rfl (Nat.le_of_ble_eq_true rfl) rfl ?_
  refine y_aload_n 0 dX1_init_57 rfl ?_
  refine y_aload_n 2 dX1_init_58 rfl ?_
  refine y_putF (ws2 := [(h0, .inr (1, [.ref a, .ref b, .ref q29, .ref q30, .ref q31, .ref q32, .ref q33, .ref q34, vi 0, vi 0, vi 0])), (q29, aZ en 8 (fun _ => 0)), (q30, aI en 8 (fun _ => 0)), (q31, aI en 8 (fun _ => 0)), (q32, aI en 8 (fun _ => 0)), (q33, aI en 8 (fun _ => 0)), (q34, aI en 8 (fun _ => 0))]) 0 C dX1_init_59 ffX1_35_1 rfl rfl rfl (Nat.le_of_ble_eq_true rfl) rfl ?_
  exact y_vret C dX1_init_62 (by decide) (by decide) ⟨q29, q30, q31, q32, q33, q34, rfl⟩
theorem tob_RX0 : Cond.methodLink RX0 3 Lib.objectInit ∈ lw_g := tin 190 (by decide +kernel) rfl
theorem tfl_RX0_11 : Cond.fieldLink RX0 11 "CrownlessDays$Chance" "good" "[J" ∈ lw_g := tin 192 (by decide +kernel) rfl
theorem ffX0_11_0 : FFk RX0 11 0 1 (.array .long) := ⟨RX0, TX0, 6, tyX0, rfl, by decide, uw_0, tfl_RX0_11, tyX0_ok, nmX0, rfl, rfl, rfl⟩
theorem tfl_RX0_15 : Cond.fieldLink RX0 15 "CrownlessDays$Chance" "weights" "[J" ∈ lw_g := tin 193 (by decide +kernel) rfl
theorem ffX0_15_0 : FFk RX0 15 0 2 (.array .long) := ⟨RX0, TX0, 6, tyX0, rfl, by decide, uw_0, tfl_RX0_15, tyX0_ok, nmX0, rfl, rfl, rfl⟩
theorem tfl_RX0_18 : Cond.fieldLink RX0 18 "CrownlessDays$Chance" "roads" "LCrownlessDays$Roads;" ∈ lw_g := tin 191 (by decide +kernel) rfl
theorem ffX0_18_0 : FFk RX0 18 0 0 (.object "CrownlessDays$Roads") := ⟨RX0, TX0, 6, tyX0, rfl, by decide, uw_0, tfl_RX0_18, tyX0_ok, nmX0, rfl, rfl, rfl⟩
set_option maxRecDepth 100000 in
set_option maxHeartbeats 2000000 in
theorem kt_X0_init (en : zE) (h0 a : Nat) : Kt en yX0_init (mX0_init, 2, 77) [.ref h0, .ref a] [(h0, .inr (0, [.null, .null, .null, vi 0, vl 0, vl 0]))] (fun wz => ∃ q35 q36 : Nat, wz = [(h0, .inr (0, [.ref a, .ref q35, .ref q36, vi 0, vl 0, vl 0])), (q35, aJ en 64 (fun _ => 0)), (q36, aJ en 13 (fun _ => 0))]) := by
  refine Kt.of (by decide +kernel) rfl rfl rfl [(0, .ref h0), (1, .ref a)] rfl (Nat.le_of_ble_eq_true rfl) (fun cx C => ?_)
  refine y_aload_n 0 dX0_init_0 rfl ?_
  refine y_obj dX0_init_1 tob_RX0 (by decide) (by decide) ?_
  refine y_aload_n 0 dX0_init_4 rfl ?_
  refine y_bipush dX0_init_5 rfl ?_
  refine y_newJ (n := 64) dX0_init_7 rfl (by decide) (by decide) (by decide) (fun q35 => ?_)
  refine Y.eqw (ws2 := [(h0, .inr (0, [.null, .null, .null, vi 0, vl 0, vl 0])), (q35, aJ en 64 (fun _ => 0))]) rfl ?_
  refine Y.eqc (a := 1) (b := 64) rfl rfl ?_
  refine y_putF (ws2 := [(h0, .inr (0, [.null, .ref q35, .null, vi 0, vl 0, vl 0])), (q35, aJ en 64 (fun _ => 0))]) 0 C dX0_init_9 ffX0_11_0 rfl rfl rfl (Nat.le_of_ble_eq_true rfl) rfl ?_
  refine y_aload_n 0 dX0_init_12 rfl ?_
  refine y_bipush dX0_init_13 rfl ?_
  refine y_newJ (n := 13) dX0_init_15 rfl (by decide) (by decide) (by decide) (fun q36 => ?_)
  refine Y.eqw (ws2 := [(h0, .inr (0, [.null, .ref q35, .null, vi 0, vl 0, vl 0])), (q35, aJ en 64 (fun _ => 0)), (q36, aJ en 13 (fun _ => 0))]) rfl ?_
  refine Y.eqc (a := 2) (b := 77) rfl rfl ?_
  refine y_putF (ws2 := [(h0, .inr (0, [.null, .ref q35, .ref q36, vi 0, vl 0, vl 0])), (q35, aJ en 64 (fun _ => 0)), (q36, aJ en 13 (fun _ => 0))]) 0 C dX0_init_17 ffX0_15_0 rfl rfl rfl (Nat.le_of_ble_eq_true rfl) rfl ?_
  refine y_aload_n 0 dX0_init_20 rfl ?_
  refine y_aload_n 1 dX0_init_21 rfl ?_
  refine y_putF (ws2 := [(h0, .inr (0, [.ref a, .ref q35, .ref q36, vi 0, vl 0, vl 0])), (q35, aJ en 64 (fun _ => 0)), (q36, aJ en 13 (fun _ => 0))]) 0 C dX0_init_22 ffX0_18_0 rfl rfl rfl (Nat.le_of_ble_eq_true rfl) rfl ?_
  exact y_vret C dX0_init_25 (by decide) (by decide) ⟨q35, q36, rfl⟩
theorem tob_RX4 : Cond.methodLink RX4 3 Lib.objectInit ∈ lw_g := tin 219 (by decide +kernel) rfl
theorem tfl_RX4_15 : Cond.fieldLink RX4 15 "CrownlessDays$Sheet" "items" "[I" ∈ lw_g := tin 224 (by decide +kernel) rfl
theorem ffX4_15_4 : FFk RX4 15 4 2 (.array .int) := ⟨RX4, TX4, 3, tyX4, rfl, by decide, uw_4, tfl_RX4_15, tyX4_ok, nmX4, rfl, rfl, rfl⟩
set_option maxRecDepth 100000 in
set_option maxHeartbeats 2000000 in
theorem kt_X4_init (en : zE) (h0 : Nat) : Kt en yX4_init (mX4_init, 1, 60) [.ref h0] [(h0, .inr (4, [vi 0, vi 0, .null]))] (fun wz => ∃ q14 : Nat, wz = [(h0, .inr (4, [vi (-1), vi 0, .ref q14])), (q14, aI en 60 (fun _ => 0))]) := by
  refine Kt.of (by decide +kernel) rfl rfl rfl [(0, .ref h0)] rfl (Nat.le_of_ble_eq_true rfl) (fun cx C => ?_)
  refine y_aload_n 0 dX4_init_0 rfl ?_
  refine y_obj dX4_init_1 tob_RX4 (by decide) (by decide) ?_
  refine y_aload_n 0 dX4_init_4 rfl ?_
  refine y_iconst dX4_init_5 ?_
  refine y_put (ws2 := [(h0, .inr (4, [vi (-1), vi 0, .null]))]) 0 dX4_init_6 pfX4_9_4 rfl rfl rfl (Nat.le_of_ble_eq_true rfl) rfl ?_
  refine y_aload_n 0 dX4_init_9 rfl ?_
  refine y_bipush dX4_init_10 rfl ?_
  refine y_newI (n := 60) dX4_init_12 rfl (by decide) (by decide) (by decide) (fun q14 => ?_)
  refine Y.eqw (ws2 := [(h0, .inr (4, [vi (-1), vi 0, .null])), (q14, aI en 60 (fun _ => 0))]) rfl ?_
  refine Y.eqc (a := 1) (b := 60) rfl rfl ?_
  refine y_putF (ws2 := [(h0, .inr (4, [vi (-1), vi 0, .ref q14])), (q14, aI en 60 (fun _ => 0))]) 0 C dX4_init_14 ffX4_15_4 rfl rfl rfl (Nat.le_of_ble_eq_true rfl) rfl ?_
  exact y_vret C dX4_init_17 (by decide) (by decide) ⟨q14, rfl⟩
theorem tob_RX6 : Cond.methodLink RX6 1 Lib.objectInit ∈ lw_g := tin 18 (by decide +kernel) rfl
theorem tcl_RX6_7 : Cond.classLink RX6 7 RX3 ∈ lw_g := tin 21 (by decide +kernel) rfl
theorem tin_RX3 : Cond.instantiable RX3 9 ∈ lw_g := tin 22 (by decide +kernel) rfl
theorem tini_RX3 : Cond.initialized RX3 ∈ lw_g := tin 3 (by decide +kernel) rfl
theorem clX6_7 : CLk RX6 7 3 9 [vi 0, .null, vi 0, vi 0, vi 0, .null, .null, .null, .null] := ⟨RX3, TX3, tyX3, rfl, uw_3, tyX3_ok, tcl_RX6_7, tin_RX3, tini_RX3, fun j hj => by
  match j, hj with
  | 0, _ => rfl
  | 1, _ => rfl
  | 2, _ => rfl
  | 3, _ => rfl
  | 4, _ => rfl
  | 5, _ => rfl
  | 6, _ => rfl
  | 7, _ => rfl
  | 8, _ => rfl
  | j + 9, hj => exact absurd hj (by omega)⟩
theorem tim_X3_init : Cond.instanceMethod yX3_init ∈ lw_g := tin 24 (by decide +kernel) rfl
theorem tcd_X3_init : Cond.code yX3_init mX3_init.2.1 mX3_init.2.2.1 mX3_init.2.2.2.1 ∈ lw_g := tin 25 (by decide +kernel) rfl
theorem tml_RX6_9 : Cond.methodLink RX6 9 yX3_init ∈ lw_g := tin 23 (by decide +kernel) rfl
theorem ilX6_9 : ILk RX6 9 yX3_init mX3_init 0 := ⟨tml_RX6_9, tim_X3_init, tini_RX3, tcd_X3_init, rfl, rfl, yoX3_init⟩
theorem tfl_RX6_10 : Cond.fieldLink RX6 10 "CrownlessDays" "roads" "LCrownlessDays$Roads;" ∈ lw_g := tin 233 (by decide +kernel) rfl
theorem ffX6_10_5 : FFk RX6 10 5 0 (.object "CrownlessDays$Roads") := ⟨RX6, TX6, 11, tyX6, rfl, by decide, uw_6, tfl_RX6_10, tyX6_ok, nmX6, rfl, rfl, rfl⟩
theorem tcl_RX6_16 : Cond.classLink RX6 16 RX2 ∈ lw_g := tin 97 (by decide +kernel) rfl
theorem tin_RX2 : Cond.instantiable RX2 10 ∈ lw_g := tin 98 (by decide +kernel) rfl
theorem tini_RX2 : Cond.initialized RX2 ∈ lw_g := tin 6 (by decide +kernel) rfl
theorem clX6_16 : CLk RX6 16 2 10 [vi 0, .null, vi 0, vi 0, vi 0, .null, .null, .null, .null, .null] := ⟨RX2, TX2, tyX2, rfl, uw_2, tyX2_ok, tcl_RX6_16, tin_RX2, tini_RX2, fun j hj => by
  match j, hj with
  | 0, _ => rfl
  | 1, _ => rfl
  | 2, _ => rfl
  | 3, _ => rfl
  | 4, _ => rfl
  | 5, _ => rfl
  | 6, _ => rfl
  | 7, _ => rfl
  | 8, _ => rfl
  | 9, _ => rfl
  | j + 10, hj => exact absurd hj (by omega)⟩
theorem tim_X2_init : Cond.instanceMethod yX2_init ∈ lw_g := tin 100 (by decide +kernel) rfl
theorem tcd_X2_init : Cond.code yX2_init mX2_init.2.1 mX2_init.2.2.1 mX2_init.2.2.2.1 ∈ lw_g := tin 101 (by decide +kernel) rfl
theorem tml_RX6_18 : Cond.methodLink RX6 18 yX2_init ∈ lw_g := tin 99 (by decide +kernel) rfl
theorem ilX6_18 : ILk RX6 18 yX2_init mX2_init 0 := ⟨tml_RX6_18, tim_X2_init, tini_RX2, tcd_X2_init, rfl, rfl, yoX2_init⟩
theorem tfl_RX6_19 : Cond.fieldLink RX6 19 "CrownlessDays" "persons" "LCrownlessDays$Persons;" ∈ lw_g := tin 234 (by decide +kernel) rfl
theorem ffX6_19_5 : FFk RX6 19 5 1 (.object "CrownlessDays$Persons") := ⟨RX6, TX6, 11, tyX6, rfl, by decide, uw_6, tfl_RX6_19, tyX6_ok, nmX6, rfl, rfl, rfl⟩
theorem tfl_RX6_27 : Cond.fieldLink RX6 27 "CrownlessDays" "told" "[I" ∈ lw_g := tin 235 (by decide +kernel) rfl
theorem ffX6_27_5 : FFk RX6 27 5 2 (.array .int) := ⟨RX6, TX6, 11, tyX6, rfl, by decide, uw_6, tfl_RX6_27, tyX6_ok, nmX6, rfl, rfl, rfl⟩
theorem tfl_RX6_30 : Cond.fieldLink RX6 30 "CrownlessDays" "trial" "[I" ∈ lw_g := tin 236 (by decide +kernel) rfl
theorem ffX6_30_5 : FFk RX6 30 5 3 (.array .int) := ⟨RX6, TX6, 11, tyX6, rfl, by decide, uw_6, tfl_RX6_30, tyX6_ok, nmX6, rfl, rfl, rfl⟩
theorem tcl_RX6_33 : Cond.classLink RX6 33 RX1 ∈ lw_g := tin 136 (by decide +kernel) rfl
theorem tin_RX1 : Cond.instantiable RX1 11 ∈ lw_g := tin 137 (by decide +kernel) rfl
theorem tini_RX1 : Cond.initialized RX1 ∈ lw_g := tin 7 (by decide +kernel) rfl
theorem clX6_33 : CLk RX6 33 1 11 [.null, .null, .null, .null, .null, .null, .null, .null, vi 0, vi 0, vi 0] := ⟨RX1, TX1, tyX1, rfl, uw_1, tyX1_ok, tcl_RX6_33, tin_RX1, tini_RX1, fun j hj => by
  match j, hj with
  | 0, _ => rfl
  | 1, _ => rfl
  | 2, _ => rfl
  | 3, _ => rfl
  | 4, _ => rfl
  | 5, _ => rfl
  | 6, _ => rfl
  | 7, _ => rfl
  | 8, _ => rfl
  | 9, _ => rfl
  | 10, _ => rfl
  | j + 11, hj => exact absurd hj (by omega)⟩
theorem tim_X1_init : Cond.instanceMethod yX1_init ∈ lw_g := tin 139 (by decide +kernel) rfl
theorem tcd_X1_init : Cond.code yX1_init mX1_init.2.1 mX1_init.2.2.1 mX1_init.2.2.2.1 ∈ lw_g := tin 140 (by decide +kernel) rfl
theorem tml_RX6_35 : Cond.methodLink RX6 35 yX1_init ∈ lw_g := tin 138 (by decide +kernel) rfl
theorem ilX6_35 : ILk RX6 35 yX1_init mX1_init 2 := ⟨tml_RX6_35, tim_X1_init, tini_RX1, tcd_X1_init, rfl, rfl, yoX1_init⟩
theorem tfl_RX6_38 : Cond.fieldLink RX6 38 "CrownlessDays" "course" "LCrownlessDays$Course;" ∈ lw_g := tin 237 (by decide +kernel) rfl
theorem ffX6_38_5 : FFk RX6 38 5 4 (.object "CrownlessDays$Course") := ⟨RX6, TX6, 11, tyX6, rfl, by decide, uw_6, tfl_RX6_38, tyX6_ok, nmX6, rfl, rfl, rfl⟩
theorem tcl_RX6_42 : Cond.classLink RX6 42 RX0 ∈ lw_g := tin 185 (by decide +kernel) rfl
theorem tin_RX0 : Cond.instantiable RX0 6 ∈ lw_g := tin 186 (by decide +kernel) rfl
theorem tini_RX0 : Cond.initialized RX0 ∈ lw_g := tin 8 (by decide +kernel) rfl
theorem clX6_42 : CLk RX6 42 0 6 [.null, .null, .null, vi 0, vl 0, vl 0] := ⟨RX0, TX0, tyX0, rfl, uw_0, tyX0_ok, tcl_RX6_42, tin_RX0, tini_RX0, fun j hj => by
  match j, hj with
  | 0, _ => rfl
  | 1, _ => rfl
  | 2, _ => rfl
  | 3, _ => rfl
  | 4, _ => rfl
  | 5, _ => rfl
  | j + 6, hj => exact absurd hj (by omega)⟩
theorem tim_X0_init : Cond.instanceMethod yX0_init ∈ lw_g := tin 188 (by decide +kernel) rfl
theorem tcd_X0_init : Cond.code yX0_init mX0_init.2.1 mX0_init.2.2.1 mX0_init.2.2.2.1 ∈ lw_g := tin 189 (by decide +kernel) rfl
theorem tml_RX6_44 : Cond.methodLink RX6 44 yX0_init ∈ lw_g := tin 187 (by decide +kernel) rfl
theorem ilX6_44 : ILk RX6 44 yX0_init mX0_init 1 := ⟨tml_RX6_44, tim_X0_init, tini_RX0, tcd_X0_init, rfl, rfl, yoX0_init⟩
theorem tfl_RX6_47 : Cond.fieldLink RX6 47 "CrownlessDays" "chance" "LCrownlessDays$Chance;" ∈ lw_g := tin 238 (by decide +kernel) rfl
theorem ffX6_47_5 : FFk RX6 47 5 5 (.object "CrownlessDays$Chance") := ⟨RX6, TX6, 11, tyX6, rfl, by decide, uw_6, tfl_RX6_47, tyX6_ok, nmX6, rfl, rfl, rfl⟩
theorem tfl_RX6_51 : Cond.fieldLink RX6 51 "CrownlessDays" "seenWho" "[I" ∈ lw_g := tin 239 (by decide +kernel) rfl
theorem ffX6_51_5 : FFk RX6 51 5 6 (.array .int) := ⟨RX6, TX6, 11, tyX6, rfl, by decide, uw_6, tfl_RX6_51, tyX6_ok, nmX6, rfl, rfl, rfl⟩
theorem tfl_RX6_54 : Cond.fieldLink RX6 54 "CrownlessDays" "seenWon" "[I" ∈ lw_g := tin 240 (by decide +kernel) rfl
theorem ffX6_54_5 : FFk RX6 54 5 7 (.array .int) := ⟨RX6, TX6, 11, tyX6, rfl, by decide, uw_6, tfl_RX6_54, tyX6_ok, nmX6, rfl, rfl, rfl⟩
theorem tfl_RX6_59 : Cond.fieldLink RX6 59 "CrownlessDays" "sheets" "[LCrownlessDays$Sheet;" ∈ lw_g := tin 242 (by decide +kernel) rfl
theorem ffX6_59_5 : FFk RX6 59 5 9 (.array (.object "CrownlessDays$Sheet")) := ⟨RX6, TX6, 11, tyX6, rfl, by decide, uw_6, tfl_RX6_59, tyX6_ok, nmX6, rfl, rfl, rfl⟩
theorem tcl_RX6_57 : Cond.classLink RX6 57 RX4 ∈ lw_g := tin 213 (by decide +kernel) rfl
theorem tin_RX4 : Cond.instantiable RX4 3 ∈ lw_g := tin 215 (by decide +kernel) rfl
theorem tini_RX4 : Cond.initialized RX4 ∈ lw_g := tin 9 (by decide +kernel) rfl
theorem clX6_57 : CLk RX6 57 4 3 [vi 0, vi 0, .null] := ⟨RX4, TX4, tyX4, rfl, uw_4, tyX4_ok, tcl_RX6_57, tin_RX4, tini_RX4, fun j hj => by
  match j, hj with
  | 0, _ => rfl
  | 1, _ => rfl
  | 2, _ => rfl
  | j + 3, hj => exact absurd hj (by omega)⟩
theorem tim_X4_init : Cond.instanceMethod yX4_init ∈ lw_g := tin 217 (by decide +kernel) rfl
theorem tcd_X4_init : Cond.code yX4_init mX4_init.2.1 mX4_init.2.2.1 mX4_init.2.2.2.1 ∈ lw_g := tin 218 (by decide +kernel) rfl
theorem ilX6_63 : Cond.instanceMethod yX4_init ∈ lw_g ∧ Cond.initialized yX4_init.cls ∈ lw_g ∧ Cond.code yX4_init mX4_init.2.1 mX4_init.2.2.1 mX4_init.2.2.2.1 ∈ lw_g ∧ yX4_init.name = "<init>" ∧ mX4_init.2.2.2.1 = none ∧ yOk yX4_init 0 := ⟨tim_X4_init, tini_RX4, tcd_X4_init, rfl, rfl, yoX4_init⟩
set_option maxRecDepth 100000 in
set_option maxHeartbeats 2000000 in
theorem kt_X6_init (en : zE) (h0 : Nat) : Kt en yX6_init (mX6_init, 36, 679) [.ref h0] [(h0, .inr (5, [.null, .null, .null, .null, .null, .null, .null, .null, vi 0, .null, vi 0]))] (fun wz => ∃ q1 q2 q3 q4 q5 q6 q7 q8 q9 q10 q11 q12 q13 q14 q15 q16 q17 q18 q19 q20 q21 q22 q23 q24 q25 q26 q27 q28 q29 q30 q31 q32 q33 q34 q35 q36 : Nat, wz = [(h0, .inr (5, [.ref q1, .ref q2, .ref q3, .ref q4, .ref q5, .ref q6, .ref q7, .ref q8, vi 0, .ref q9, vi 0])), (q1, .inr (3, [vi 3, .ref q18, vi 0, vi (-1), vi 0, .ref q19, .ref q20, .ref q21, .ref q22])), (q18, aI en 47 (fun _ => 0)), (q19, aI en 12 (fun _ => 0)), (q20, aI en 12 (fun _ => 0)), (q21, aI en 12 (fun _ => 0)), (q22, aI en 64 (gA (fun _ => 0) (fun _ => 0) (fun _ => 0) (fun _ => 0) 0)), (q2, .inr (2, [vi 5, .ref q23, vi 0, vi (-1), vi 0, .ref q24, .ref q25, .ref q26, .ref q27, .ref q28])), (q23, aI en 47 (fun _ => 0)), (q24, aI en 8 (fun _ => 0)), (q25, aI en 8 (fun _ => 0)), (q26, aI en 8 (fun _ => 0)), (q27, aI en 8 (fun _ => 0)), (q28, aI en 8 (fun _ => 0)), (q3, aI en 6 (fun _ => 0)), (q4, aI en 6 (fun _ => 0)), (q5, .inr (1, [.ref q1, .ref q2, .ref q29, .ref q30, .ref q31, .ref q32, .ref q33, .ref q34, vi 0, vi 0, vi 0])), (q29, aZ en 8 (fun _ => 0)), (q30, aI en 8 (fun _ => 0)), (q31, aI en 8 (fun _ => 0)), (q32, aI en 8 (fun _ => 0)), (q33, aI en 8 (fun _ => 0)), (q34, aI en 8 (fun _ => 0)), (q6, .inr (0, [.ref q1, .ref q35, .ref q36, vi 0, vl 0, vl 0])), (q35, aJ en 64 (fun _ => 0)), (q36, aJ en 13 (fun _ => 0)), (q7, aI en 8 (fun _ => 0)), (q8, aI en 8 (fun _ => 0)), (q9, .inl (en.2.2.1.2.2.2, 4, .inr (.inr (.inr (.inr (va_up (va_up (va_up (va_up (fun _ => none) 0 (some q10)) 1 (some q11)) 2 (some q12)) 3 (some q13))))))), (q10, .inr (4, [vi (-1), vi 0, .ref q14])), (q14, aI en 60 (fun _ => 0)), (q11, .inr (4, [vi (-1), vi 0, .ref q15])), (q15, aI en 60 (fun _ => 0)), (q12, .inr (4, [vi (-1), vi 0, .ref q16])), (q16, aI en 60 (fun _ => 0)), (q13, .inr (4, [vi (-1), vi 0, .ref q17])), (q17, aI en 60 (fun _ => 0))]) := by
  refine Kt.of (by decide +kernel) rfl rfl rfl [(0, .ref h0)] rfl (Nat.le_of_ble_eq_true rfl) (fun cx C => ?_)
  refine y_aload_n 0 dX6_init_0 rfl ?_
  refine y_obj dX6_init_1 tob_RX6 (by decide) (by decide) ?_
  refine y_aload_n 0 dX6_init_4 rfl ?_
  refine y_new dX6_init_5 clX6_7 (by decide) (by decide) (fun q1 => ?_)
  refine Y.eqw (ws2 := [(h0, .inr (5, [.null, .null, .null, .null, .null, .null, .null, .null, vi 0, .null, vi 0])), (q1, .inr (3, [vi 0, .null, vi 0, vi 0, vi 0, .null, .null, .null, .null]))]) rfl ?_
  refine Y.eqc (a := 1) (b := 9) rfl rfl ?_
  refine y_dup dX6_init_8 ?_
  refine y_call (kd' := (mX3_init, 5, 147)) (wc := [(q1, .inr (3, [vi 0, .null, vi 0, vi 0, vi 0, .null, .null, .null, .null]))]) (wr := [(h0, .inr (5, [.null, .null, .null, .null, .null, .null, .null, .null, vi 0, .null, vi 0]))]) [1] [0] dX6_init_9 ilX6_9 (by decide) rfl rfl (by decide) (by decide) (by decide) (kt_X3_init en q1) rfl rfl (by exact Nat.le_of_ble_eq_true rfl) (by decide) (by decide) (fun w9_6 hw9_6 => ?_)
  obtain ⟨q18, q19, q20, q21, q22, rfl⟩ := hw9_6
  refine Y.eqw (ws2 := [(h0, .inr (5, [.null, .null, .null, .null, .null, .null, .null, .null, vi 0, .null, vi 0])), (q1, .inr (3, [vi 3, .ref q18, vi 0, vi (-1), vi 0, .ref q19, .ref q20, .ref q21, .ref q22])), (q18, aI en 47 (fun _ => 0)), (q19, aI en 12 (fun _ => 0)), (q20, aI en 12 (fun _ => 0)), (q21, aI en 12 (fun _ => 0)), (q22, aI en 64 (gA (fun _ => 0) (fun _ => 0) (fun _ => 0) (fun _ => 0) 0))]) rfl ?_
  refine Y.eqc (a := 6) (b := 156) rfl rfl ?_
  refine y_putF (ws2 := [(h0, .inr (5, [.ref q1, .null, .null, .null, .null, .null, .null, .null, vi 0, .null, vi 0])), (q1, .inr (3, [vi 3, .ref q18, vi 0, vi (-1), vi 0, .ref q19, .ref q20, .ref q21, .ref q22])), (q18, aI en 47 (fun _ => 0)), (q19, aI en 12 (fun _ => 0)), (q20, aI en 12 (fun _ => 0)), (q21, aI en 12 (fun _ => 0)), (q22, aI en 64 (gA (fun _ => 0) (fun _ => 0) (fun _ => 0) (fun _ => 0) 0))]) 0 C dX6_init_12 ffX6_10_5 rfl rfl rfl (Nat.le_of_ble_eq_true rfl) rfl ?_
  refine y_aload_n 0 dX6_init_15 rfl ?_
  refine y_new dX6_init_16 clX6_16 (by decide) (by decide) (fun q2 => ?_)
  refine Y.eqw (ws2 := [(h0, .inr (5, [.ref q1, .null, .null, .null, .null, .null, .null, .null, vi 0, .null, vi 0])), (q1, .inr (3, [vi 3, .ref q18, vi 0, vi (-1), vi 0, .ref q19, .ref q20, .ref q21, .ref q22])), (q18, aI en 47 (fun _ => 0)), (q19, aI en 12 (fun _ => 0)), (q20, aI en 12 (fun _ => 0)), (q21, aI en 12 (fun _ => 0)), (q22, aI en 64 (gA (fun _ => 0) (fun _ => 0) (fun _ => 0) (fun _ => 0) 0)), (q2, .inr (2, [vi 0, .null, vi 0, vi 0, vi 0, .null, .null, .null, .null, .null]))]) rfl ?_
  refine Y.eqc (a := 7) (b := 166) rfl rfl ?_
  refine y_dup dX6_init_19 ?_
  refine y_call (kd' := (mX2_init, 6, 87)) (wc := [(q2, .inr (2, [vi 0, .null, vi 0, vi 0, vi 0, .null, .null, .null, .null, .null]))]) (wr := [(h0, .inr (5, [.ref q1, .null, .null, .null, .null, .null, .null, .null, vi 0, .null, vi 0])), (q1, .inr (3, [vi 3, .ref q18, vi 0, vi (-1), vi 0, .ref q19, .ref q20, .ref q21, .ref q22])), (q18, aI en 47 (fun _ => 0)), (q19, aI en 12 (fun _ => 0)), (q20, aI en 12 (fun _ => 0)), (q21, aI en 12 (fun _ => 0)), (q22, aI en 64 (gA (fun _ => 0) (fun _ => 0) (fun _ => 0) (fun _ => 0) 0))]) [7] [0, 1, 2, 3, 4, 5, 6] dX6_init_20 ilX6_18 (by decide) rfl rfl (by decide) (by decide) (by decide) (kt_X2_init en q2) rfl rfl (by exact Nat.le_of_ble_eq_true rfl) (by decide) (by decide) (fun w20_11 hw20_11 => ?_)
  obtain ⟨q23, q24, q25, q26, q27, q28, rfl⟩ := hw20_11
  refine Y.eqw (ws2 := [(h0, .inr (5, [.ref q1, .null, .null, .null, .null, .null, .null, .null, vi 0, .null, vi 0])), (q1, .inr (3, [vi 3, .ref q18, vi 0, vi (-1), vi 0, .ref q19, .ref q20, .ref q21, .ref q22])), (q18, aI en 47 (fun _ => 0)), (q19, aI en 12 (fun _ => 0)), (q20, aI en 12 (fun _ => 0)), (q21, aI en 12 (fun _ => 0)), (q22, aI en 64 (gA (fun _ => 0) (fun _ => 0) (fun _ => 0) (fun _ => 0) 0)), (q2, .inr (2, [vi 5, .ref q23, vi 0, vi (-1), vi 0, .ref q24, .ref q25, .ref q26, .ref q27, .ref q28])), (q23, aI en 47 (fun _ => 0)), (q24, aI en 8 (fun _ => 0)), (q25, aI en 8 (fun _ => 0)), (q26, aI en 8 (fun _ => 0)), (q27, aI en 8 (fun _ => 0)), (q28, aI en 8 (fun _ => 0))]) rfl ?_
  refine Y.eqc (a := 13) (b := 253) rfl rfl ?_
  refine y_putF (ws2 := [(h0, .inr (5, [.ref q1, .ref q2, .null, .null, .null, .null, .null, .null, vi 0, .null, vi 0])), (q1, .inr (3, [vi 3, .ref q18, vi 0, vi (-1), vi 0, .ref q19, .ref q20, .ref q21, .ref q22])), (q18, aI en 47 (fun _ => 0)), (q19, aI en 12 (fun _ => 0)), (q20, aI en 12 (fun _ => 0)), (q21, aI en 12 (fun _ => 0)), (q22, aI en 64 (gA (fun _ => 0) (fun _ => 0) (fun _ => 0) (fun _ => 0) 0)), (q2, .inr (2, [vi 5, .ref q23, vi 0, vi (-1), vi 0, .ref q24, .ref q25, .ref q26, .ref q27, .ref q28])), (q23, aI en 47 (fun _ => 0)), (q24, aI en 8 (fun _ => 0)), (q25, aI en 8 (fun _ => 0)), (q26, aI en 8 (fun _ => 0)), (q27, aI en 8 (fun _ => 0)), (q28, aI en 8 (fun _ => 0))]) 0 C dX6_init_23 ffX6_19_5 rfl rfl rfl (Nat.le_of_ble_eq_true rfl) rfl ?_
  refine y_aload_n 0 dX6_init_26 rfl ?_
  refine y_tab (P := fun _ => True) dX6_init_27 rfl ?_
  refine y_tabLen dX6_init_30 ?_
  refine y_newI (n := 6) dX6_init_31 rfl (by decide) (by decide) (by decide) (fun q3 => ?_)
  refine Y.eqw (ws2 := [(h0, .inr (5, [.ref q1, .ref q2, .null, .null, .null, .null, .null, .null, vi 0, .null, vi 0])), (q1, .inr (3, [vi 3, .ref q18, vi 0, vi (-1), vi 0, .ref q19, .ref q20, .ref q21, .ref q22])), (q18, aI en 47 (fun _ => 0)), (q19, aI en 12 (fun _ => 0)), (q20, aI en 12 (fun _ => 0)), (q21, aI en 12 (fun _ => 0)), (q22, aI en 64 (gA (fun _ => 0) (fun _ => 0) (fun _ => 0) (fun _ => 0) 0)), (q2, .inr (2, [vi 5, .ref q23, vi 0, vi (-1), vi 0, .ref q24, .ref q25, .ref q26, .ref q27, .ref q28])), (q23, aI en 47 (fun _ => 0)), (q24, aI en 8 (fun _ => 0)), (q25, aI en 8 (fun _ => 0)), (q26, aI en 8 (fun _ => 0)), (q27, aI en 8 (fun _ => 0)), (q28, aI en 8 (fun _ => 0)), (q3, aI en 6 (fun _ => 0))]) rfl ?_
  refine Y.eqc (a := 14) (b := 259) rfl rfl ?_
  refine y_putF (ws2 := [(h0, .inr (5, [.ref q1, .ref q2, .ref q3, .null, .null, .null, .null, .null, vi 0, .null, vi 0])), (q1, .inr (3, [vi 3, .ref q18, vi 0, vi (-1), vi 0, .ref q19, .ref q20, .ref q21, .ref q22])), (q18, aI en 47 (fun _ => 0)), (q19, aI en 12 (fun _ => 0)), (q20, aI en 12 (fun _ => 0)), (q21, aI en 12 (fun _ => 0)), (q22, aI en 64 (gA (fun _ => 0) (fun _ => 0) (fun _ => 0) (fun _ => 0) 0)), (q2, .inr (2, [vi 5, .ref q23, vi 0, vi (-1), vi 0, .ref q24, .ref q25, .ref q26, .ref q27, .ref q28])), (q23, aI en 47 (fun _ => 0)), (q24, aI en 8 (fun _ => 0)), (q25, aI en 8 (fun _ => 0)), (q26, aI en 8 (fun _ => 0)), (q27, aI en 8 (fun _ => 0)), (q28, aI en 8 (fun _ => 0)), (q3, aI en 6 (fun _ => 0))]) 0 C dX6_init_33 ffX6_27_5 rfl rfl rfl (Nat.le_of_ble_eq_true rfl) rfl ?_
  refine y_aload_n 0 dX6_init_36 rfl ?_
  refine y_tab (P := fun _ => True) dX6_init_37 rfl ?_
  refine y_tabLen dX6_init_40 ?_
  refine y_newI (n := 6) dX6_init_41 rfl (by decide) (by decide) (by decide) (fun q4 => ?_)
  refine Y.eqw (ws2 := [(h0, .inr (5, [.ref q1, .ref q2, .ref q3, .null, .null, .null, .null, .null, vi 0, .null, vi 0])), (q1, .inr (3, [vi 3, .ref q18, vi 0, vi (-1), vi 0, .ref q19, .ref q20, .ref q21, .ref q22])), (q18, aI en 47 (fun _ => 0)), (q19, aI en 12 (fun _ => 0)), (q20, aI en 12 (fun _ => 0)), (q21, aI en 12 (fun _ => 0)), (q22, aI en 64 (gA (fun _ => 0) (fun _ => 0) (fun _ => 0) (fun _ => 0) 0)), (q2, .inr (2, [vi 5, .ref q23, vi 0, vi (-1), vi 0, .ref q24, .ref q25, .ref q26, .ref q27, .ref q28])), (q23, aI en 47 (fun _ => 0)), (q24, aI en 8 (fun _ => 0)), (q25, aI en 8 (fun _ => 0)), (q26, aI en 8 (fun _ => 0)), (q27, aI en 8 (fun _ => 0)), (q28, aI en 8 (fun _ => 0)), (q3, aI en 6 (fun _ => 0)), (q4, aI en 6 (fun _ => 0))]) rfl ?_
  refine Y.eqc (a := 15) (b := 265) rfl rfl ?_
  refine y_putF (ws2 := [(h0, .inr (5, [.ref q1, .ref q2, .ref q3, .ref q4, .null, .null, .null, .null, vi 0, .null, vi 0])), (q1, .inr (3, [vi 3, .ref q18, vi 0, vi (-1), vi 0, .ref q19, .ref q20, .ref q21, .ref q22])), (q18, aI en 47 (fun _ => 0)), (q19, aI en 12 (fun _ => 0)), (q20, aI en 12 (fun _ => 0)), (q21, aI en 12 (fun _ => 0)), (q22, aI en 64 (gA (fun _ => 0) (fun _ => 0) (fun _ => 0) (fun _ => 0) 0)), (q2, .inr (2, [vi 5, .ref q23, vi 0, vi (-1), vi 0, .ref q24, .ref q25, .ref q26, .ref q27, .ref q28])), (q23, aI en 47 (fun _ => 0)), (q24, aI en 8 (fun _ => 0)), (q25, aI en 8 (fun _ => 0)), (q26, aI en 8 (fun _ => 0)), (q27, aI en 8 (fun _ => 0)), (q28, aI en 8 (fun _ => 0)), (q3, aI en 6 (fun _ => 0)), (q4, aI en 6 (fun _ => 0))]) 0 C dX6_init_43 ffX6_30_5 rfl rfl rfl (Nat.le_of_ble_eq_true rfl) rfl ?_
  refine y_aload_n 0 dX6_init_46 rfl ?_
  refine y_new dX6_init_47 clX6_33 (by decide) (by decide) (fun q5 => ?_)
  refine Y.eqw (ws2 := [(h0, .inr (5, [.ref q1, .ref q2, .ref q3, .ref q4, .null, .null, .null, .null, vi 0, .null, vi 0])), (q1, .inr (3, [vi 3, .ref q18, vi 0, vi (-1), vi 0, .ref q19, .ref q20, .ref q21, .ref q22])), (q18, aI en 47 (fun _ => 0)), (q19, aI en 12 (fun _ => 0)), (q20, aI en 12 (fun _ => 0)), (q21, aI en 12 (fun _ => 0)), (q22, aI en 64 (gA (fun _ => 0) (fun _ => 0) (fun _ => 0) (fun _ => 0) 0)), (q2, .inr (2, [vi 5, .ref q23, vi 0, vi (-1), vi 0, .ref q24, .ref q25, .ref q26, .ref q27, .ref q28])), (q23, aI en 47 (fun _ => 0)), (q24, aI en 8 (fun _ => 0)), (q25, aI en 8 (fun _ => 0)), (q26, aI en 8 (fun _ => 0)), (q27, aI en 8 (fun _ => 0)), (q28, aI en 8 (fun _ => 0)), (q3, aI en 6 (fun _ => 0)), (q4, aI en 6 (fun _ => 0)), (q5, .inr (1, [.null, .null, .null, .null, .null, .null, .null, .null, vi 0, vi 0, vi 0]))]) rfl ?_
  refine Y.eqc (a := 16) (b := 276) rfl rfl ?_
  refine y_dup dX6_init_50 ?_
  refine y_aload_n 0 dX6_init_51 rfl ?_
  refine y_get 0 dX6_init_52 fX6_10_5 rfl rfl ?_
  refine y_aload_n 0 dX6_init_55 rfl ?_
  refine y_get 0 dX6_init_56 fX6_19_5 rfl rfl ?_
  refine y_call (kd' := (mX1_init, 6, 48)) (wc := [(q5, .inr (1, [.null, .null, .null, .null, .null, .null, .null, .null, vi 0, vi 0, vi 0]))]) (wr := [(h0, .inr (5, [.ref q1, .ref q2, .ref q3, .ref q4, .null, .null, .null, .null, vi 0, .null, vi 0])), (q1, .inr (3, [vi 3, .ref q18, vi 0, vi (-1), vi 0, .ref q19, .ref q20, .ref q21, .ref q22])), (q18, aI en 47 (fun _ => 0)), (q19, aI en 12 (fun _ => 0)), (q20, aI en 12 (fun _ => 0)), (q21, aI en 12 (fun _ => 0)), (q22, aI en 64 (gA (fun _ => 0) (fun _ => 0) (fun _ => 0) (fun _ => 0) 0)), (q2, .inr (2, [vi 5, .ref q23, vi 0, vi (-1), vi 0, .ref q24, .ref q25, .ref q26, .ref q27, .ref q28])), (q23, aI en 47 (fun _ => 0)), (q24, aI en 8 (fun _ => 0)), (q25, aI en 8 (fun _ => 0)), (q26, aI en 8 (fun _ => 0)), (q27, aI en 8 (fun _ => 0)), (q28, aI en 8 (fun _ => 0)), (q3, aI en 6 (fun _ => 0)), (q4, aI en 6 (fun _ => 0))]) [16] [0, 1, 2, 3, 4, 5, 6, 7, 8, 9, 10, 11, 12, 13, 14, 15] dX6_init_59 ilX6_35 (by decide) rfl rfl (by decide) (by decide) (by decide) (kt_X1_init en q5 q1 q2) rfl rfl (by exact Nat.le_of_ble_eq_true rfl) (by decide) (by decide) (fun w59_30 hw59_30 => ?_)
  obtain ⟨q29, q30, q31, q32, q33, q34, rfl⟩ := hw59_30
  refine Y.eqw (ws2 := [(h0, .inr (5, [.ref q1, .ref q2, .ref q3, .ref q4, .null, .null, .null, .null, vi 0, .null, vi 0])), (q1, .inr (3, [vi 3, .ref q18, vi 0, vi (-1), vi 0, .ref q19, .ref q20, .ref q21, .ref q22])), (q18, aI en 47 (fun _ => 0)), (q19, aI en 12 (fun _ => 0)), (q20, aI en 12 (fun _ => 0)), (q21, aI en 12 (fun _ => 0)), (q22, aI en 64 (gA (fun _ => 0) (fun _ => 0) (fun _ => 0) (fun _ => 0) 0)), (q2, .inr (2, [vi 5, .ref q23, vi 0, vi (-1), vi 0, .ref q24, .ref q25, .ref q26, .ref q27, .ref q28])), (q23, aI en 47 (fun _ => 0)), (q24, aI en 8 (fun _ => 0)), (q25, aI en 8 (fun _ => 0)), (q26, aI en 8 (fun _ => 0)), (q27, aI en 8 (fun _ => 0)), (q28, aI en 8 (fun _ => 0)), (q3, aI en 6 (fun _ => 0)), (q4, aI en 6 (fun _ => 0)), (q5, .inr (1, [.ref q1, .ref q2, .ref q29, .ref q30, .ref q31, .ref q32, .ref q33, .ref q34, vi 0, vi 0, vi 0])), (q29, aZ en 8 (fun _ => 0)), (q30, aI en 8 (fun _ => 0)), (q31, aI en 8 (fun _ => 0)), (q32, aI en 8 (fun _ => 0)), (q33, aI en 8 (fun _ => 0)), (q34, aI en 8 (fun _ => 0))]) rfl ?_
  refine Y.eqc (a := 22) (b := 324) rfl rfl ?_
  refine y_putF (ws2 := [(h0, .inr (5, [.ref q1, .ref q2, .ref q3, .ref q4, .ref q5, .null, .null, .null, vi 0, .null, vi 0])), (q1, .inr (3, [vi 3, .ref q18, vi 0, vi (-1), vi 0, .ref q19, .ref q20, .ref q21, .ref q22])), (q18, aI en 47 (fun _ => 0)), (q19, aI en 12 (fun _ => 0)), (q20, aI en 12 (fun _ => 0)), (q21, aI en 12 (fun _ => 0)), (q22, aI en 64 (gA (fun _ => 0) (fun _ => 0) (fun _ => 0) (fun _ => 0) 0)), (q2, .inr (2, [vi 5, .ref q23, vi 0, vi (-1), vi 0, .ref q24, .ref q25, .ref q26, .ref q27, .ref q28])), (q23, aI en 47 (fun _ => 0)), (q24, aI en 8 (fun _ => 0)), (q25, aI en 8 (fun _ => 0)), (q26, aI en 8 (fun _ => 0)), (q27, aI en 8 (fun _ => 0)), (q28, aI en 8 (fun _ => 0)), (q3, aI en 6 (fun _ => 0)), (q4, aI en 6 (fun _ => 0)), (q5, .inr (1, [.ref q1, .ref q2, .ref q29, .ref q30, .ref q31, .ref q32, .ref q33, .ref q34, vi 0, vi 0, vi 0])), (q29, aZ en 8 (fun _ => 0)), (q30, aI en 8 (fun _ => 0)), (q31, aI en 8 (fun _ => 0)), (q32, aI en 8 (fun _ => 0)), (q33, aI en 8 (fun _ => 0)), (q34, aI en 8 (fun _ => 0))]) 0 C dX6_init_62 ffX6_38_5 rfl rfl rfl (Nat.le_of_ble_eq_true rfl) rfl ?_
  refine y_aload_n 0 dX6_init_65 rfl ?_
  refine y_new dX6_init_66 clX6_42 (by decide) (by decide) (fun q6 => ?_)
  refine Y.eqw (ws2 := [(h0, .inr (5, [.ref q1, .ref q2, .ref q3, .ref q4, .ref q5, .null, .null, .null, vi 0, .null, vi 0])), (q1, .inr (3, [vi 3, .ref q18, vi 0, vi (-1), vi 0, .ref q19, .ref q20, .ref q21, .ref q22])), (q18, aI en 47 (fun _ => 0)), (q19, aI en 12 (fun _ => 0)), (q20, aI en 12 (fun _ => 0)), (q21, aI en 12 (fun _ => 0)), (q22, aI en 64 (gA (fun _ => 0) (fun _ => 0) (fun _ => 0) (fun _ => 0) 0)), (q2, .inr (2, [vi 5, .ref q23, vi 0, vi (-1), vi 0, .ref q24, .ref q25, .ref q26, .ref q27, .ref q28])), (q23, aI en 47 (fun _ => 0)), (q24, aI en 8 (fun _ => 0)), (q25, aI en 8 (fun _ => 0)), (q26, aI en 8 (fun _ => 0)), (q27, aI en 8 (fun _ => 0)), (q28, aI en 8 (fun _ => 0)), (q3, aI en 6 (fun _ => 0)), (q4, aI en 6 (fun _ => 0)), (q5, .inr (1, [.ref q1, .ref q2, .ref q29, .ref q30, .ref q31, .ref q32, .ref q33, .ref q34, vi 0, vi 0, vi 0])), (q29, aZ en 8 (fun _ => 0)), (q30, aI en 8 (fun _ => 0)), (q31, aI en 8 (fun _ => 0)), (q32, aI en 8 (fun _ => 0)), (q33, aI en 8 (fun _ => 0)), (q34, aI en 8 (fun _ => 0)), (q6, .inr (0, [.null, .null, .null, vi 0, vl 0, vl 0]))]) rfl ?_
  refine Y.eqc (a := 23) (b := 330) rfl rfl ?_
  refine y_dup dX6_init_69 ?_
  refine y_aload_n 0 dX6_init_70 rfl ?_
  refine y_get 0 dX6_init_71 fX6_10_5 rfl rfl ?_
  refine y_call (kd' := (mX0_init, 2, 77)) (wc := [(q6, .inr (0, [.null, .null, .null, vi 0, vl 0, vl 0]))]) (wr := [(h0, .inr (5, [.ref q1, .ref q2, .ref q3, .ref q4, .ref q5, .null, .null, .null, vi 0, .null, vi 0])), (q1, .inr (3, [vi 3, .ref q18, vi 0, vi (-1), vi 0, .ref q19, .ref q20, .ref q21, .ref q22])), (q18, aI en 47 (fun _ => 0)), (q19, aI en 12 (fun _ => 0)), (q20, aI en 12 (fun _ => 0)), (q21, aI en 12 (fun _ => 0)), (q22, aI en 64 (gA (fun _ => 0) (fun _ => 0) (fun _ => 0) (fun _ => 0) 0)), (q2, .inr (2, [vi 5, .ref q23, vi 0, vi (-1), vi 0, .ref q24, .ref q25, .ref q26, .ref q27, .ref q28])), (q23, aI en 47 (fun _ => 0)), (q24, aI en 8 (fun _ => 0)), (q25, aI en 8 (fun _ => 0)), (q26, aI en 8 (fun _ => 0)), (q27, aI en 8 (fun _ => 0)), (q28, aI en 8 (fun _ => 0)), (q3, aI en 6 (fun _ => 0)), (q4, aI en 6 (fun _ => 0)), (q5, .inr (1, [.ref q1, .ref q2, .ref q29, .ref q30, .ref q31, .ref q32, .ref q33, .ref q34, vi 0, vi 0, vi 0])), (q29, aZ en 8 (fun _ => 0)), (q30, aI en 8 (fun _ => 0)), (q31, aI en 8 (fun _ => 0)), (q32, aI en 8 (fun _ => 0)), (q33, aI en 8 (fun _ => 0)), (q34, aI en 8 (fun _ => 0))]) [23] [0, 1, 2, 3, 4, 5, 6, 7, 8, 9, 10, 11, 12, 13, 14, 15, 16, 17, 18, 19, 20, 21, 22] dX6_init_74 ilX6_44 (by decide) rfl rfl (by decide) (by decide) (by decide) (kt_X0_init en q6 q1) rfl rfl (by exact Nat.le_of_ble_eq_true rfl) (by decide) (by decide) (fun w74_37 hw74_37 => ?_)
  obtain ⟨q35, q36, rfl⟩ := hw74_37
  refine Y.eqw (ws2 := [(h0, .inr (5, [.ref q1, .ref q2, .ref q3, .ref q4, .ref q5, .null, .null, .null, vi 0, .null, vi 0])), (q1, .inr (3, [vi 3, .ref q18, vi 0, vi (-1), vi 0, .ref q19, .ref q20, .ref q21, .ref q22])), (q18, aI en 47 (fun _ => 0)), (q19, aI en 12 (fun _ => 0)), (q20, aI en 12 (fun _ => 0)), (q21, aI en 12 (fun _ => 0)), (q22, aI en 64 (gA (fun _ => 0) (fun _ => 0) (fun _ => 0) (fun _ => 0) 0)), (q2, .inr (2, [vi 5, .ref q23, vi 0, vi (-1), vi 0, .ref q24, .ref q25, .ref q26, .ref q27, .ref q28])), (q23, aI en 47 (fun _ => 0)), (q24, aI en 8 (fun _ => 0)), (q25, aI en 8 (fun _ => 0)), (q26, aI en 8 (fun _ => 0)), (q27, aI en 8 (fun _ => 0)), (q28, aI en 8 (fun _ => 0)), (q3, aI en 6 (fun _ => 0)), (q4, aI en 6 (fun _ => 0)), (q5, .inr (1, [.ref q1, .ref q2, .ref q29, .ref q30, .ref q31, .ref q32, .ref q33, .ref q34, vi 0, vi 0, vi 0])), (q29, aZ en 8 (fun _ => 0)), (q30, aI en 8 (fun _ => 0)), (q31, aI en 8 (fun _ => 0)), (q32, aI en 8 (fun _ => 0)), (q33, aI en 8 (fun _ => 0)), (q34, aI en 8 (fun _ => 0)), (q6, .inr (0, [.ref q1, .ref q35, .ref q36, vi 0, vl 0, vl 0])), (q35, aJ en 64 (fun _ => 0)), (q36, aJ en 13 (fun _ => 0))]) rfl ?_
  refine Y.eqc (a := 25) (b := 407) rfl rfl ?_
  refine y_putF (ws2 := [(h0, .inr (5, [.ref q1, .ref q2, .ref q3, .ref q4, .ref q5, .ref q6, .null, .null, vi 0, .null, vi 0])), (q1, .inr (3, [vi 3, .ref q18, vi 0, vi (-1), vi 0, .ref q19, .ref q20, .ref q21, .ref q22])), (q18, aI en 47 (fun _ => 0)), (q19, aI en 12 (fun _ => 0)), (q20, aI en 12 (fun _ => 0)), (q21, aI en 12 (fun _ => 0)), (q22, aI en 64 (gA (fun _ => 0) (fun _ => 0) (fun _ => 0) (fun _ => 0) 0)), (q2, .inr (2, [vi 5, .ref q23, vi 0, vi (-1), vi 0, .ref q24, .ref q25, .ref q26, .ref q27, .ref q28])), (q23, aI en 47 (fun _ => 0)), (q24, aI en 8 (fun _ => 0)), (q25, aI en 8 (fun _ => 0)), (q26, aI en 8 (fun _ => 0)), (q27, aI en 8 (fun _ => 0)), (q28, aI en 8 (fun _ => 0)), (q3, aI en 6 (fun _ => 0)), (q4, aI en 6 (fun _ => 0)), (q5, .inr (1, [.ref q1, .ref q2, .ref q29, .ref q30, .ref q31, .ref q32, .ref q33, .ref q34, vi 0, vi 0, vi 0])), (q29, aZ en 8 (fun _ => 0)), (q30, aI en 8 (fun _ => 0)), (q31, aI en 8 (fun _ => 0)), (q32, aI en 8 (fun _ => 0)), (q33, aI en 8 (fun _ => 0)), (q34, aI en 8 (fun _ => 0)), (q6, .inr (0, [.ref q1, .ref q35, .ref q36, vi 0, vl 0, vl 0])), (q35, aJ en 64 (fun _ => 0)), (q36, aJ en 13 (fun _ => 0))]) 0 C dX6_init_77 ffX6_47_5 rfl rfl rfl (Nat.le_of_ble_eq_true rfl) rfl ?_
  refine y_aload_n 0 dX6_init_80 rfl ?_
  refine y_bipush dX6_init_81 rfl ?_
  refine y_newI (n := 8) dX6_init_83 rfl (by decide) (by decide) (by decide) (fun q7 => ?_)
  refine Y.eqw (ws2 := [(h0, .inr (5, [.ref q1, .ref q2, .ref q3, .ref q4, .ref q5, .ref q6, .null, .null, vi 0, .null, vi 0])), (q1, .inr (3, [vi 3, .ref q18, vi 0, vi (-1), vi 0, .ref q19, .ref q20, .ref q21, .ref q22])), (q18, aI en 47 (fun _ => 0)), (q19, aI en 12 (fun _ => 0)), (q20, aI en 12 (fun _ => 0)), (q21, aI en 12 (fun _ => 0)), (q22, aI en 64 (gA (fun _ => 0) (fun _ => 0) (fun _ => 0) (fun _ => 0) 0)), (q2, .inr (2, [vi 5, .ref q23, vi 0, vi (-1), vi 0, .ref q24, .ref q25, .ref q26, .ref q27, .ref q28])), (q23, aI en 47 (fun _ => 0)), (q24, aI en 8 (fun _ => 0)), (q25, aI en 8 (fun _ => 0)), (q26, aI en 8 (fun _ => 0)), (q27, aI en 8 (fun _ => 0)), (q28, aI en 8 (fun _ => 0)), (q3, aI en 6 (fun _ => 0)), (q4, aI en 6 (fun _ => 0)), (q5, .inr (1, [.ref q1, .ref q2, .ref q29, .ref q30, .ref q31, .ref q32, .ref q33, .ref q34, vi 0, vi 0, vi 0])), (q29, aZ en 8 (fun _ => 0)), (q30, aI en 8 (fun _ => 0)), (q31, aI en 8 (fun _ => 0)), (q32, aI en 8 (fun _ => 0)), (q33, aI en 8 (fun _ => 0)), (q34, aI en 8 (fun _ => 0)), (q6, .inr (0, [.ref q1, .ref q35, .ref q36, vi 0, vl 0, vl 0])), (q35, aJ en 64 (fun _ => 0)), (q36, aJ en 13 (fun _ => 0)), (q7, aI en 8 (fun _ => 0))]) rfl ?_
  refine Y.eqc (a := 26) (b := 415) rfl rfl ?_
  refine y_putF (ws2 := [(h0, .inr (5, [.ref q1, .ref q2, .ref q3, .ref q4, .ref q5, .ref q6, .ref q7, .null, vi 0, .null, vi 0])), (q1, .inr (3, [vi 3, .ref q18, vi 0, vi (-1), vi 0, .ref q19, .ref q20, .ref q21, .ref q22])), (q18, aI en 47 (fun _ => 0)), (q19, aI en 12 (fun _ => 0)), (q20, aI en 12 (fun _ => 0)), (q21, aI en 12 (fun _ => 0)), (q22, aI en 64 (gA (fun _ => 0) (fun _ => 0) (fun _ => 0) (fun _ => 0) 0)), (q2, .inr (2, [vi 5, .ref q23, vi 0, vi (-1), vi 0, .ref q24, .ref q25, .ref q26, .ref q27, .ref q28])), (q23, aI en 47 (fun _ => 0)), (q24, aI en 8 (fun _ => 0)), (q25, aI en 8 (fun _ => 0)), (q26, aI en 8 (fun _ => 0)), (q27, aI en 8 (fun _ => 0)), (q28, aI en 8 (fun _ => 0)), (q3, aI en 6 (fun _ => 0)), (q4, aI en 6 (fun _ => 0)), (q5, .inr (1, [.ref q1, .ref q2, .ref q29, .ref q30, .ref q31, .ref q32, .ref q33, .ref q34, vi 0, vi 0, vi 0])), (q29, aZ en 8 (fun _ => 0)), (q30, aI en 8 (fun _ => 0)), (q31, aI en 8 (fun _ => 0)), (q32, aI en 8 (fun _ => 0)), (q33, aI en 8 (fun _ => 0)), (q34, aI en 8 (fun _ => 0)), (q6, .inr (0, [.ref q1, .ref q35, .ref q36, vi 0, vl 0, vl 0])), (q35, aJ en 64 (fun _ => 0)), (q36, aJ en 13 (fun _ => 0)), (q7, aI en 8 (fun _ => 0))]) 0 C dX6_init_85 ffX6_51_5 rfl rfl rfl (Nat.le_of_ble_eq_true rfl) rfl ?_
  refine y_aload_n 0 dX6_init_88 rfl ?_
  refine y_bipush dX6_init_89 rfl ?_
  refine y_newI (n := 8) dX6_init_91 rfl (by decide) (by decide) (by decide) (fun q8 => ?_)
  refine Y.eqw (ws2 := [(h0, .inr (5, [.ref q1, .ref q2, .ref q3, .ref q4, .ref q5, .ref q6, .ref q7, .null, vi 0, .null, vi 0])), (q1, .inr (3, [vi 3, .ref q18, vi 0, vi (-1), vi 0, .ref q19, .ref q20, .ref q21, .ref q22])), (q18, aI en 47 (fun _ => 0)), (q19, aI en 12 (fun _ => 0)), (q20, aI en 12 (fun _ => 0)), (q21, aI en 12 (fun _ => 0)), (q22, aI en 64 (gA (fun _ => 0) (fun _ => 0) (fun _ => 0) (fun _ => 0) 0)), (q2, .inr (2, [vi 5, .ref q23, vi 0, vi (-1), vi 0, .ref q24, .ref q25, .ref q26, .ref q27, .ref q28])), (q23, aI en 47 (fun _ => 0)), (q24, aI en 8 (fun _ => 0)), (q25, aI en 8 (fun _ => 0)), (q26, aI en 8 (fun _ => 0)), (q27, aI en 8 (fun _ => 0)), (q28, aI en 8 (fun _ => 0)), (q3, aI en 6 (fun _ => 0)), (q4, aI en 6 (fun _ => 0)), (q5, .inr (1, [.ref q1, .ref q2, .ref q29, .ref q30, .ref q31, .ref q32, .ref q33, .ref q34, vi 0, vi 0, vi 0])), (q29, aZ en 8 (fun _ => 0)), (q30, aI en 8 (fun _ => 0)), (q31, aI en 8 (fun _ => 0)), (q32, aI en 8 (fun _ => 0)), (q33, aI en 8 (fun _ => 0)), (q34, aI en 8 (fun _ => 0)), (q6, .inr (0, [.ref q1, .ref q35, .ref q36, vi 0, vl 0, vl 0])), (q35, aJ en 64 (fun _ => 0)), (q36, aJ en 13 (fun _ => 0)), (q7, aI en 8 (fun _ => 0)), (q8, aI en 8 (fun _ => 0))]) rfl ?_
  refine Y.eqc (a := 27) (b := 423) rfl rfl ?_
  refine y_putF (ws2 := [(h0, .inr (5, [.ref q1, .ref q2, .ref q3, .ref q4, .ref q5, .ref q6, .ref q7, .ref q8, vi 0, .null, vi 0])), (q1, .inr (3, [vi 3, .ref q18, vi 0, vi (-1), vi 0, .ref q19, .ref q20, .ref q21, .ref q22])), (q18, aI en 47 (fun _ => 0)), (q19, aI en 12 (fun _ => 0)), (q20, aI en 12 (fun _ => 0)), (q21, aI en 12 (fun _ => 0)), (q22, aI en 64 (gA (fun _ => 0) (fun _ => 0) (fun _ => 0) (fun _ => 0) 0)), (q2, .inr (2, [vi 5, .ref q23, vi 0, vi (-1), vi 0, .ref q24, .ref q25, .ref q26, .ref q27, .ref q28])), (q23, aI en 47 (fun _ => 0)), (q24, aI en 8 (fun _ => 0)), (q25, aI en 8 (fun _ => 0)), (q26, aI en 8 (fun _ => 0)), (q27, aI en 8 (fun _ => 0)), (q28, aI en 8 (fun _ => 0)), (q3, aI en 6 (fun _ => 0)), (q4, aI en 6 (fun _ => 0)), (q5, .inr (1, [.ref q1, .ref q2, .ref q29, .ref q30, .ref q31, .ref q32, .ref q33, .ref q34, vi 0, vi 0, vi 0])), (q29, aZ en 8 (fun _ => 0)), (q30, aI en 8 (fun _ => 0)), (q31, aI en 8 (fun _ => 0)), (q32, aI en 8 (fun _ => 0)), (q33, aI en 8 (fun _ => 0)), (q34, aI en 8 (fun _ => 0)), (q6, .inr (0, [.ref q1, .ref q35, .ref q36, vi 0, vl 0, vl 0])), (q35, aJ en 64 (fun _ => 0)), (q36, aJ en 13 (fun _ => 0)), (q7, aI en 8 (fun _ => 0)), (q8, aI en 8 (fun _ => 0))]) 0 C dX6_init_93 ffX6_54_5 rfl rfl rfl (Nat.le_of_ble_eq_true rfl) rfl ?_
  refine y_aload_n 0 dX6_init_96 rfl ?_
  refine y_iconst dX6_init_97 ?_
  refine y_anew (n := 4) dX6_init_98 rfl rfl (by decide) (by decide) (by decide) (fun q9 => ?_)
  refine Y.eqw (ws2 := [(h0, .inr (5, [.ref q1, .ref q2, .ref q3, .ref q4, .ref q5, .ref q6, .ref q7, .ref q8, vi 0, .null, vi 0])), (q1, .inr (3, [vi 3, .ref q18, vi 0, vi (-1), vi 0, .ref q19, .ref q20, .ref q21, .ref q22])), (q18, aI en 47 (fun _ => 0)), (q19, aI en 12 (fun _ => 0)), (q20, aI en 12 (fun _ => 0)), (q21, aI en 12 (fun _ => 0)), (q22, aI en 64 (gA (fun _ => 0) (fun _ => 0) (fun _ => 0) (fun _ => 0) 0)), (q2, .inr (2, [vi 5, .ref q23, vi 0, vi (-1), vi 0, .ref q24, .ref q25, .ref q26, .ref q27, .ref q28])), (q23, aI en 47 (fun _ => 0)), (q24, aI en 8 (fun _ => 0)), (q25, aI en 8 (fun _ => 0)), (q26, aI en 8 (fun _ => 0)), (q27, aI en 8 (fun _ => 0)), (q28, aI en 8 (fun _ => 0)), (q3, aI en 6 (fun _ => 0)), (q4, aI en 6 (fun _ => 0)), (q5, .inr (1, [.ref q1, .ref q2, .ref q29, .ref q30, .ref q31, .ref q32, .ref q33, .ref q34, vi 0, vi 0, vi 0])), (q29, aZ en 8 (fun _ => 0)), (q30, aI en 8 (fun _ => 0)), (q31, aI en 8 (fun _ => 0)), (q32, aI en 8 (fun _ => 0)), (q33, aI en 8 (fun _ => 0)), (q34, aI en 8 (fun _ => 0)), (q6, .inr (0, [.ref q1, .ref q35, .ref q36, vi 0, vl 0, vl 0])), (q35, aJ en 64 (fun _ => 0)), (q36, aJ en 13 (fun _ => 0)), (q7, aI en 8 (fun _ => 0)), (q8, aI en 8 (fun _ => 0)), (q9, .inl (en.2.2.1.2.2.2, 4, .inr (.inr (.inr (.inr (fun _ => none))))))]) rfl ?_
  refine Y.eqc (a := 28) (b := 427) rfl rfl ?_
  refine y_putF (ws2 := [(h0, .inr (5, [.ref q1, .ref q2, .ref q3, .ref q4, .ref q5, .ref q6, .ref q7, .ref q8, vi 0, .ref q9, vi 0])), (q1, .inr (3, [vi 3, .ref q18, vi 0, vi (-1), vi 0, .ref q19, .ref q20, .ref q21, .ref q22])), (q18, aI en 47 (fun _ => 0)), (q19, aI en 12 (fun _ => 0)), (q20, aI en 12 (fun _ => 0)), (q21, aI en 12 (fun _ => 0)), (q22, aI en 64 (gA (fun _ => 0) (fun _ => 0) (fun _ => 0) (fun _ => 0) 0)), (q2, .inr (2, [vi 5, .ref q23, vi 0, vi (-1), vi 0, .ref q24, .ref q25, .ref q26, .ref q27, .ref q28])), (q23, aI en 47 (fun _ => 0)), (q24, aI en 8 (fun _ => 0)), (q25, aI en 8 (fun _ => 0)), (q26, aI en 8 (fun _ => 0)), (q27, aI en 8 (fun _ => 0)), (q28, aI en 8 (fun _ => 0)), (q3, aI en 6 (fun _ => 0)), (q4, aI en 6 (fun _ => 0)), (q5, .inr (1, [.ref q1, .ref q2, .ref q29, .ref q30, .ref q31, .ref q32, .ref q33, .ref q34, vi 0, vi 0, vi 0])), (q29, aZ en 8 (fun _ => 0)), (q30, aI en 8 (fun _ => 0)), (q31, aI en 8 (fun _ => 0)), (q32, aI en 8 (fun _ => 0)), (q33, aI en 8 (fun _ => 0)), (q34, aI en 8 (fun _ => 0)), (q6, .inr (0, [.ref q1, .ref q35, .ref q36, vi 0, vl 0, vl 0])), (q35, aJ en 64 (fun _ => 0)), (q36, aJ en 13 (fun _ => 0)), (q7, aI en 8 (fun _ => 0)), (q8, aI en 8 (fun _ => 0)), (q9, .inl (en.2.2.1.2.2.2, 4, .inr (.inr (.inr (.inr (fun _ => none))))))]) 0 C dX6_init_101 ffX6_59_5 rfl rfl rfl (Nat.le_of_ble_eq_true rfl) rfl ?_
  refine y_iconst dX6_init_104 ?_
  refine y_istore_n [(0, .ref h0), (1, vi 0)] [1, 0] dX6_init_105 (by decide) rfl ?_
  refine y_iload_n 1 dX6_init_106 rfl ?_
  refine y_iconst dX6_init_107 ?_
  refine y_icmp_ge (tgt := 130) dX6_init_108 rfl (by decide) (fun z => absurd z (by decide)) (fun _ => ?_)
  refine y_aload_n 0 dX6_init_111 rfl ?_
  refine y_get 0 dX6_init_112 fX6_59_5 rfl rfl ?_
  refine y_iload_n 1 dX6_init_115 rfl ?_
  refine y_new dX6_init_116 clX6_57 (by decide) (by decide) (fun q10 => ?_)
  refine Y.eqw (ws2 := [(h0, .inr (5, [.ref q1, .ref q2, .ref q3, .ref q4, .ref q5, .ref q6, .ref q7, .ref q8, vi 0, .ref q9, vi 0])), (q1, .inr (3, [vi 3, .ref q18, vi 0, vi (-1), vi 0, .ref q19, .ref q20, .ref q21, .ref q22])), (q18, aI en 47 (fun _ => 0)), (q19, aI en 12 (fun _ => 0)), (q20, aI en 12 (fun _ => 0)), (q21, aI en 12 (fun _ => 0)), (q22, aI en 64 (gA (fun _ => 0) (fun _ => 0) (fun _ => 0) (fun _ => 0) 0)), (q2, .inr (2, [vi 5, .ref q23, vi 0, vi (-1), vi 0, .ref q24, .ref q25, .ref q26, .ref q27, .ref q28])), (q23, aI en 47 (fun _ => 0)), (q24, aI en 8 (fun _ => 0)), (q25, aI en 8 (fun _ => 0)), (q26, aI en 8 (fun _ => 0)), (q27, aI en 8 (fun _ => 0)), (q28, aI en 8 (fun _ => 0)), (q3, aI en 6 (fun _ => 0)), (q4, aI en 6 (fun _ => 0)), (q5, .inr (1, [.ref q1, .ref q2, .ref q29, .ref q30, .ref q31, .ref q32, .ref q33, .ref q34, vi 0, vi 0, vi 0])), (q29, aZ en 8 (fun _ => 0)), (q30, aI en 8 (fun _ => 0)), (q31, aI en 8 (fun _ => 0)), (q32, aI en 8 (fun _ => 0)), (q33, aI en 8 (fun _ => 0)), (q34, aI en 8 (fun _ => 0)), (q6, .inr (0, [.ref q1, .ref q35, .ref q36, vi 0, vl 0, vl 0])), (q35, aJ en 64 (fun _ => 0)), (q36, aJ en 13 (fun _ => 0)), (q7, aI en 8 (fun _ => 0)), (q8, aI en 8 (fun _ => 0)), (q9, .inl (en.2.2.1.2.2.2, 4, .inr (.inr (.inr (.inr (fun _ => none)))))), (q10, .inr (4, [vi 0, vi 0, .null]))]) rfl ?_
  refine Y.eqc (a := 29) (b := 430) rfl rfl ?_
  refine y_dup dX6_init_119 ?_
  refine y_callN (kd' := (mX4_init, 1, 60)) (wc := [(q10, .inr (4, [vi 0, vi 0, .null]))]) (wr := [(h0, .inr (5, [.ref q1, .ref q2, .ref q3, .ref q4, .ref q5, .ref q6, .ref q7, .ref q8, vi 0, .ref q9, vi 0])), (q1, .inr (3, [vi 3, .ref q18, vi 0, vi (-1), vi 0, .ref q19, .ref q20, .ref q21, .ref q22])), (q18, aI en 47 (fun _ => 0)), (q19, aI en 12 (fun _ => 0)), (q20, aI en 12 (fun _ => 0)), (q21, aI en 12 (fun _ => 0)), (q22, aI en 64 (gA (fun _ => 0) (fun _ => 0) (fun _ => 0) (fun _ => 0) 0)), (q2, .inr (2, [vi 5, .ref q23, vi 0, vi (-1), vi 0, .ref q24, .ref q25, .ref q26, .ref q27, .ref q28])), (q23, aI en 47 (fun _ => 0)), (q24, aI en 8 (fun _ => 0)), (q25, aI en 8 (fun _ => 0)), (q26, aI en 8 (fun _ => 0)), (q27, aI en 8 (fun _ => 0)), (q28, aI en 8 (fun _ => 0)), (q3, aI en 6 (fun _ => 0)), (q4, aI en 6 (fun _ => 0)), (q5, .inr (1, [.ref q1, .ref q2, .ref q29, .ref q30, .ref q31, .ref q32, .ref q33, .ref q34, vi 0, vi 0, vi 0])), (q29, aZ en 8 (fun _ => 0)), (q30, aI en 8 (fun _ => 0)), (q31, aI en 8 (fun _ => 0)), (q32, aI en 8 (fun _ => 0)), (q33, aI en 8 (fun _ => 0)), (q34, aI en 8 (fun _ => 0)), (q6, .inr (0, [.ref q1, .ref q35, .ref q36, vi 0, vl 0, vl 0])), (q35, aJ en 64 (fun _ => 0)), (q36, aJ en 13 (fun _ => 0)), (q7, aI en 8 (fun _ => 0)), (q8, aI en 8 (fun _ => 0)), (q9, .inl (en.2.2.1.2.2.2, 4, .inr (.inr (.inr (.inr (fun _ => none))))))]) [29] [0, 1, 2, 3, 4, 5, 6, 7, 8, 9, 10, 11, 12, 13, 14, 15, 16, 17, 18, 19, 20, 21, 22, 23, 24, 25, 26, 27, 28] dX6_init_120 (fun U h => h.2.1) ilX6_63 (by decide) rfl rfl (by decide) (by decide) (by decide) (kt_X4_init en q10) rfl rfl (by exact Nat.le_of_ble_eq_true rfl) (by decide) (by decide) (fun w120_61 hw120_61 => ?_)
  obtain ⟨q14, rfl⟩ := hw120_61
  refine Y.eqw (ws2 := [(h0, .inr (5, [.ref q1, .ref q2, .ref q3, .ref q4, .ref q5, .ref q6, .ref q7, .ref q8, vi 0, .ref q9, vi 0])), (q1, .inr (3, [vi 3, .ref q18, vi 0, vi (-1), vi 0, .ref q19, .ref q20, .ref q21, .ref q22])), (q18, aI en 47 (fun _ => 0)), (q19, aI en 12 (fun _ => 0)), (q20, aI en 12 (fun _ => 0)), (q21, aI en 12 (fun _ => 0)), (q22, aI en 64 (gA (fun _ => 0) (fun _ => 0) (fun _ => 0) (fun _ => 0) 0)), (q2, .inr (2, [vi 5, .ref q23, vi 0, vi (-1), vi 0, .ref q24, .ref q25, .ref q26, .ref q27, .ref q28])), (q23, aI en 47 (fun _ => 0)), (q24, aI en 8 (fun _ => 0)), (q25, aI en 8 (fun _ => 0)), (q26, aI en 8 (fun _ => 0)), (q27, aI en 8 (fun _ => 0)), (q28, aI en 8 (fun _ => 0)), (q3, aI en 6 (fun _ => 0)), (q4, aI en 6 (fun _ => 0)), (q5, .inr (1, [.ref q1, .ref q2, .ref q29, .ref q30, .ref q31, .ref q32, .ref q33, .ref q34, vi 0, vi 0, vi 0])), (q29, aZ en 8 (fun _ => 0)), (q30, aI en 8 (fun _ => 0)), (q31, aI en 8 (fun _ => 0)), (q32, aI en 8 (fun _ => 0)), (q33, aI en 8 (fun _ => 0)), (q34, aI en 8 (fun _ => 0)), (q6, .inr (0, [.ref q1, .ref q35, .ref q36, vi 0, vl 0, vl 0])), (q35, aJ en 64 (fun _ => 0)), (q36, aJ en 13 (fun _ => 0)), (q7, aI en 8 (fun _ => 0)), (q8, aI en 8 (fun _ => 0)), (q9, .inl (en.2.2.1.2.2.2, 4, .inr (.inr (.inr (.inr (fun _ => none)))))), (q10, .inr (4, [vi (-1), vi 0, .ref q14])), (q14, aI en 60 (fun _ => 0))]) rfl ?_
  refine Y.eqc (a := 30) (b := 490) rfl rfl ?_
  refine y_aast (ws2 := [(h0, .inr (5, [.ref q1, .ref q2, .ref q3, .ref q4, .ref q5, .ref q6, .ref q7, .ref q8, vi 0, .ref q9, vi 0])), (q1, .inr (3, [vi 3, .ref q18, vi 0, vi (-1), vi 0, .ref q19, .ref q20, .ref q21, .ref q22])), (q18, aI en 47 (fun _ => 0)), (q19, aI en 12 (fun _ => 0)), (q20, aI en 12 (fun _ => 0)), (q21, aI en 12 (fun _ => 0)), (q22, aI en 64 (gA (fun _ => 0) (fun _ => 0) (fun _ => 0) (fun _ => 0) 0)), (q2, .inr (2, [vi 5, .ref q23, vi 0, vi (-1), vi 0, .ref q24, .ref q25, .ref q26, .ref q27, .ref q28])), (q23, aI en 47 (fun _ => 0)), (q24, aI en 8 (fun _ => 0)), (q25, aI en 8 (fun _ => 0)), (q26, aI en 8 (fun _ => 0)), (q27, aI en 8 (fun _ => 0)), (q28, aI en 8 (fun _ => 0)), (q3, aI en 6 (fun _ => 0)), (q4, aI en 6 (fun _ => 0)), (q5, .inr (1, [.ref q1, .ref q2, .ref q29, .ref q30, .ref q31, .ref q32, .ref q33, .ref q34, vi 0, vi 0, vi 0])), (q29, aZ en 8 (fun _ => 0)), (q30, aI en 8 (fun _ => 0)), (q31, aI en 8 (fun _ => 0)), (q32, aI en 8 (fun _ => 0)), (q33, aI en 8 (fun _ => 0)), (q34, aI en 8 (fun _ => 0)), (q6, .inr (0, [.ref q1, .ref q35, .ref q36, vi 0, vl 0, vl 0])), (q35, aJ en 64 (fun _ => 0)), (q36, aJ en 13 (fun _ => 0)), (q7, aI en 8 (fun _ => 0)), (q8, aI en 8 (fun _ => 0)), (q9, .inl (en.2.2.1.2.2.2, 4, .inr (.inr (.inr (.inr (va_up (fun _ => none) 0 (some q10))))))), (q10, .inr (4, [vi (-1), vi 0, .ref q14])), (q14, aI en 60 (fun _ => 0))]) 28 29 dX6_init_123 rfl rfl (by decide) (by decide) rfl ?_
  refine y_iinc (y := 1) [(0, .ref h0), (1, vi 1)] [1, 0] 1 dX6_init_124 rfl (by decide) (by decide) rfl ?_
  refine y_goto (tgt := 106) dX6_init_127 rfl ?_
  refine y_iload_n 1 dX6_init_106 rfl ?_
  refine y_iconst dX6_init_107 ?_
  refine y_icmp_ge (tgt := 130) dX6_init_108 rfl (by decide) (fun z => absurd z (by decide)) (fun _ => ?_)
  refine y_aload_n 0 dX6_init_111 rfl ?_
  refine y_get 0 dX6_init_112 fX6_59_5 rfl rfl ?_
  refine y_iload_n 1 dX6_init_115 rfl ?_
  refine y_new dX6_init_116 clX6_57 (by decide) (by decide) (fun q11 => ?_)
  refine Y.eqw (ws2 := [(h0, .inr (5, [.ref q1, .ref q2, .ref q3, .ref q4, .ref q5, .ref q6, .ref q7, .ref q8, vi 0, .ref q9, vi 0])), (q1, .inr (3, [vi 3, .ref q18, vi 0, vi (-1), vi 0, .ref q19, .ref q20, .ref q21, .ref q22])), (q18, aI en 47 (fun _ => 0)), (q19, aI en 12 (fun _ => 0)), (q20, aI en 12 (fun _ => 0)), (q21, aI en 12 (fun _ => 0)), (q22, aI en 64 (gA (fun _ => 0) (fun _ => 0) (fun _ => 0) (fun _ => 0) 0)), (q2, .inr (2, [vi 5, .ref q23, vi 0, vi (-1), vi 0, .ref q24, .ref q25, .ref q26, .ref q27, .ref q28])), (q23, aI en 47 (fun _ => 0)), (q24, aI en 8 (fun _ => 0)), (q25, aI en 8 (fun _ => 0)), (q26, aI en 8 (fun _ => 0)), (q27, aI en 8 (fun _ => 0)), (q28, aI en 8 (fun _ => 0)), (q3, aI en 6 (fun _ => 0)), (q4, aI en 6 (fun _ => 0)), (q5, .inr (1, [.ref q1, .ref q2, .ref q29, .ref q30, .ref q31, .ref q32, .ref q33, .ref q34, vi 0, vi 0, vi 0])), (q29, aZ en 8 (fun _ => 0)), (q30, aI en 8 (fun _ => 0)), (q31, aI en 8 (fun _ => 0)), (q32, aI en 8 (fun _ => 0)), (q33, aI en 8 (fun _ => 0)), (q34, aI en 8 (fun _ => 0)), (q6, .inr (0, [.ref q1, .ref q35, .ref q36, vi 0, vl 0, vl 0])), (q35, aJ en 64 (fun _ => 0)), (q36, aJ en 13 (fun _ => 0)), (q7, aI en 8 (fun _ => 0)), (q8, aI en 8 (fun _ => 0)), (q9, .inl (en.2.2.1.2.2.2, 4, .inr (.inr (.inr (.inr (va_up (fun _ => none) 0 (some q10))))))), (q10, .inr (4, [vi (-1), vi 0, .ref q14])), (q14, aI en 60 (fun _ => 0)), (q11, .inr (4, [vi 0, vi 0, .null]))]) rfl ?_
  refine Y.eqc (a := 31) (b := 493) rfl rfl ?_
  refine y_dup dX6_init_119 ?_
  refine y_callN (kd' := (mX4_init, 1, 60)) (wc := [(q11, .inr (4, [vi 0, vi 0, .null]))]) (wr := [(h0, .inr (5, [.ref q1, .ref q2, .ref q3, .ref q4, .ref q5, .ref q6, .ref q7, .ref q8, vi 0, .ref q9, vi 0])), (q1, .inr (3, [vi 3, .ref q18, vi 0, vi (-1), vi 0, .ref q19, .ref q20, .ref q21, .ref q22])), (q18, aI en 47 (fun _ => 0)), (q19, aI en 12 (fun _ => 0)), (q20, aI en 12 (fun _ => 0)), (q21, aI en 12 (fun _ => 0)), (q22, aI en 64 (gA (fun _ => 0) (fun _ => 0) (fun _ => 0) (fun _ => 0) 0)), (q2, .inr (2, [vi 5, .ref q23, vi 0, vi (-1), vi 0, .ref q24, .ref q25, .ref q26, .ref q27, .ref q28])), (q23, aI en 47 (fun _ => 0)), (q24, aI en 8 (fun _ => 0)), (q25, aI en 8 (fun _ => 0)), (q26, aI en 8 (fun _ => 0)), (q27, aI en 8 (fun _ => 0)), (q28, aI en 8 (fun _ => 0)), (q3, aI en 6 (fun _ => 0)), (q4, aI en 6 (fun _ => 0)), (q5, .inr (1, [.ref q1, .ref q2, .ref q29, .ref q30, .ref q31, .ref q32, .ref q33, .ref q34, vi 0, vi 0, vi 0])), (q29, aZ en 8 (fun _ => 0)), (q30, aI en 8 (fun _ => 0)), (q31, aI en 8 (fun _ => 0)), (q32, aI en 8 (fun _ => 0)), (q33, aI en 8 (fun _ => 0)), (q34, aI en 8 (fun _ => 0)), (q6, .inr (0, [.ref q1, .ref q35, .ref q36, vi 0, vl 0, vl 0])), (q35, aJ en 64 (fun _ => 0)), (q36, aJ en 13 (fun _ => 0)), (q7, aI en 8 (fun _ => 0)), (q8, aI en 8 (fun _ => 0)), (q9, .inl (en.2.2.1.2.2.2, 4, .inr (.inr (.inr (.inr (va_up (fun _ => none) 0 (some q10))))))), (q10, .inr (4, [vi (-1), vi 0, .ref q14])), (q14, aI en 60 (fun _ => 0))]) [31] [0, 1, 2, 3, 4, 5, 6, 7, 8, 9, 10, 11, 12, 13, 14, 15, 16, 17, 18, 19, 20, 21, 22, 23, 24, 25, 26, 27, 28, 29, 30] dX6_init_120 (fun U h => h.2.1) ilX6_63 (by decide) rfl rfl (by decide) (by decide) (by decide) (kt_X4_init en q11) rfl rfl (by exact Nat.le_of_ble_eq_true rfl) (by decide) (by decide) (fun w120_73 hw120_73 => ?_)
  obtain ⟨q15, rfl⟩ := hw120_73
  refine Y.eqw (ws2 := [(h0, .inr (5, [.ref q1, .ref q2, .ref q3, .ref q4, .ref q5, .ref q6, .ref q7, .ref q8, vi 0, .ref q9, vi 0])), (q1, .inr (3, [vi 3, .ref q18, vi 0, vi (-1), vi 0, .ref q19, .ref q20, .ref q21, .ref q22])), (q18, aI en 47 (fun _ => 0)), (q19, aI en 12 (fun _ => 0)), (q20, aI en 12 (fun _ => 0)), (q21, aI en 12 (fun _ => 0)), (q22, aI en 64 (gA (fun _ => 0) (fun _ => 0) (fun _ => 0) (fun _ => 0) 0)), (q2, .inr (2, [vi 5, .ref q23, vi 0, vi (-1), vi 0, .ref q24, .ref q25, .ref q26, .ref q27, .ref q28])), (q23, aI en 47 (fun _ => 0)), (q24, aI en 8 (fun _ => 0)), (q25, aI en 8 (fun _ => 0)), (q26, aI en 8 (fun _ => 0)), (q27, aI en 8 (fun _ => 0)), (q28, aI en 8 (fun _ => 0)), (q3, aI en 6 (fun _ => 0)), (q4, aI en 6 (fun _ => 0)), (q5, .inr (1, [.ref q1, .ref q2, .ref q29, .ref q30, .ref q31, .ref q32, .ref q33, .ref q34, vi 0, vi 0, vi 0])), (q29, aZ en 8 (fun _ => 0)), (q30, aI en 8 (fun _ => 0)), (q31, aI en 8 (fun _ => 0)), (q32, aI en 8 (fun _ => 0)), (q33, aI en 8 (fun _ => 0)), (q34, aI en 8 (fun _ => 0)), (q6, .inr (0, [.ref q1, .ref q35, .ref q36, vi 0, vl 0, vl 0])), (q35, aJ en 64 (fun _ => 0)), (q36, aJ en 13 (fun _ => 0)), (q7, aI en 8 (fun _ => 0)), (q8, aI en 8 (fun _ => 0)), (q9, .inl (en.2.2.1.2.2.2, 4, .inr (.inr (.inr (.inr (va_up (fun _ => none) 0 (some q10))))))), (q10, .inr (4, [vi (-1), vi 0, .ref q14])), (q14, aI en 60 (fun _ => 0)), (q11, .inr (4, [vi (-1), vi 0, .ref q15])), (q15, aI en 60 (fun _ => 0))]) rfl ?_
  refine Y.eqc (a := 32) (b := 553) rfl rfl ?_
  refine y_aast (ws2 := [(h0, .inr (5, [.ref q1, .ref q2, .ref q3, .ref q4, .ref q5, .ref q6, .ref q7, .ref q8, vi 0, .ref q9, vi 0])), (q1, .inr (3, [vi 3, .ref q18, vi 0, vi (-1), vi 0, .ref q19, .ref q20, .ref q21, .ref q22])), (q18, aI en 47 (fun _ => 0)), (q19, aI en 12 (fun _ => 0)), (q20, aI en 12 (fun _ => 0)), (q21, aI en 12 (fun _ => 0)), (q22, aI en 64 (gA (fun _ => 0) (fun _ => 0) (fun _ => 0) (fun _ => 0) 0)), (q2, .inr (2, [vi 5, .ref q23, vi 0, vi (-1), vi 0, .ref q24, .ref q25, .ref q26, .ref q27, .ref q28])), (q23, aI en 47 (fun _ => 0)), (q24, aI en 8 (fun _ => 0)), (q25, aI en 8 (fun _ => 0)), (q26, aI en 8 (fun _ => 0)), (q27, aI en 8 (fun _ => 0)), (q28, aI en 8 (fun _ => 0)), (q3, aI en 6 (fun _ => 0)), (q4, aI en 6 (fun _ => 0)), (q5, .inr (1, [.ref q1, .ref q2, .ref q29, .ref q30, .ref q31, .ref q32, .ref q33, .ref q34, vi 0, vi 0, vi 0])), (q29, aZ en 8 (fun _ => 0)), (q30, aI en 8 (fun _ => 0)), (q31, aI en 8 (fun _ => 0)), (q32, aI en 8 (fun _ => 0)), (q33, aI en 8 (fun _ => 0)), (q34, aI en 8 (fun _ => 0)), (q6, .inr (0, [.ref q1, .ref q35, .ref q36, vi 0, vl 0, vl 0])), (q35, aJ en 64 (fun _ => 0)), (q36, aJ en 13 (fun _ => 0)), (q7, aI en 8 (fun _ => 0)), (q8, aI en 8 (fun _ => 0)), (q9, .inl (en.2.2.1.2.2.2, 4, .inr (.inr (.inr (.inr (va_up (va_up (fun _ => none) 0 (some q10)) 1 (some q11))))))), (q10, .inr (4, [vi (-1), vi 0, .ref q14])), (q14, aI en 60 (fun _ => 0)), (q11, .inr (4, [vi (-1), vi 0, .ref q15])), (q15, aI en 60 (fun _ => 0))]) 28 31 dX6_init_123 rfl rfl (by decide) (by decide) rfl ?_
  refine y_iinc (y := 2) [(0, .ref h0), (1, vi 2)] [1, 0] 1 dX6_init_124 rfl (by decide) (by decide) rfl ?_
  refine y_goto (tgt := 106) dX6_init_127 rfl ?_
  refine y_iload_n 1 dX6_init_106 rfl ?_
  refine y_iconst dX6_init_107 ?_
  refine y_icmp_ge (tgt := 130) dX6_init_108 rfl (by decide) (fun z => absurd z (by decide)) (fun _ => ?_)
  refine y_aload_n 0 dX6_init_111 rfl ?_
  refine y_get 0 dX6_init_112 fX6_59_5 rfl rfl ?_
  refine y_iload_n 1 dX6_init_115 rfl ?_
  refine y_new dX6_init_116 clX6_57 (by decide) (by decide) (fun q12 => ?_)
  refine Y.eqw (ws2 := [(h0, .inr (5, [.ref q1, .ref q2, .ref q3, .ref q4, .ref q5, .ref q6, .ref q7, .ref q8, vi 0, .ref q9, vi 0])), (q1, .inr (3, [vi 3, .ref q18, vi 0, vi (-1), vi 0, .ref q19, .ref q20, .ref q21, .ref q22])), (q18, aI en 47 (fun _ => 0)), (q19, aI en 12 (fun _ => 0)), (q20, aI en 12 (fun _ => 0)), (q21, aI en 12 (fun _ => 0)), (q22, aI en 64 (gA (fun _ => 0) (fun _ => 0) (fun _ => 0) (fun _ => 0) 0)), (q2, .inr (2, [vi 5, .ref q23, vi 0, vi (-1), vi 0, .ref q24, .ref q25, .ref q26, .ref q27, .ref q28])), (q23, aI en 47 (fun _ => 0)), (q24, aI en 8 (fun _ => 0)), (q25, aI en 8 (fun _ => 0)), (q26, aI en 8 (fun _ => 0)), (q27, aI en 8 (fun _ => 0)), (q28, aI en 8 (fun _ => 0)), (q3, aI en 6 (fun _ => 0)), (q4, aI en 6 (fun _ => 0)), (q5, .inr (1, [.ref q1, .ref q2, .ref q29, .ref q30, .ref q31, .ref q32, .ref q33, .ref q34, vi 0, vi 0, vi 0])), (q29, aZ en 8 (fun _ => 0)), (q30, aI en 8 (fun _ => 0)), (q31, aI en 8 (fun _ => 0)), (q32, aI en 8 (fun _ => 0)), (q33, aI en 8 (fun _ => 0)), (q34, aI en 8 (fun _ => 0)), (q6, .inr (0, [.ref q1, .ref q35, .ref q36, vi 0, vl 0, vl 0])), (q35, aJ en 64 (fun _ => 0)), (q36, aJ en 13 (fun _ => 0)), (q7, aI en 8 (fun _ => 0)), (q8, aI en 8 (fun _ => 0)), (q9, .inl (en.2.2.1.2.2.2, 4, .inr (.inr (.inr (.inr (va_up (va_up (fun _ => none) 0 (some q10)) 1 (some q11))))))), (q10, .inr (4, [vi (-1), vi 0, .ref q14])), (q14, aI en 60 (fun _ => 0)), (q11, .inr (4, [vi (-1), vi 0, .ref q15])), (q15, aI en 60 (fun _ => 0)), (q12, .inr (4, [vi 0, vi 0, .null]))]) rfl ?_
  refine Y.eqc (a := 33) (b := 556) rfl rfl ?_
  refine y_dup dX6_init_119 ?_
  refine y_callN (kd' := (mX4_init, 1, 60)) (wc := [(q12, .inr (4, [vi 0, vi 0, .null]))]) (wr := [(h0, .inr (5, [.ref q1, .ref q2, .ref q3, .ref q4, .ref q5, .ref q6, .ref q7, .ref q8, vi 0, .ref q9, vi 0])), (q1, .inr (3, [vi 3, .ref q18, vi 0, vi (-1), vi 0, .ref q19, .ref q20, .ref q21, .ref q22])), (q18, aI en 47 (fun _ => 0)), (q19, aI en 12 (fun _ => 0)), (q20, aI en 12 (fun _ => 0)), (q21, aI en 12 (fun _ => 0)), (q22, aI en 64 (gA (fun _ => 0) (fun _ => 0) (fun _ => 0) (fun _ => 0) 0)), (q2, .inr (2, [vi 5, .ref q23, vi 0, vi (-1), vi 0, .ref q24, .ref q25, .ref q26, .ref q27, .ref q28])), (q23, aI en 47 (fun _ => 0)), (q24, aI en 8 (fun _ => 0)), (q25, aI en 8 (fun _ => 0)), (q26, aI en 8 (fun _ => 0)), (q27, aI en 8 (fun _ => 0)), (q28, aI en 8 (fun _ => 0)), (q3, aI en 6 (fun _ => 0)), (q4, aI en 6 (fun _ => 0)), (q5, .inr (1, [.ref q1, .ref q2, .ref q29, .ref q30, .ref q31, .ref q32, .ref q33, .ref q34, vi 0, vi 0, vi 0])), (q29, aZ en 8 (fun _ => 0)), (q30, aI en 8 (fun _ => 0)), (q31, aI en 8 (fun _ => 0)), (q32, aI en 8 (fun _ => 0)), (q33, aI en 8 (fun _ => 0)), (q34, aI en 8 (fun _ => 0)), (q6, .inr (0, [.ref q1, .ref q35, .ref q36, vi 0, vl 0, vl 0])), (q35, aJ en 64 (fun _ => 0)), (q36, aJ en 13 (fun _ => 0)), (q7, aI en 8 (fun _ => 0)), (q8, aI en 8 (fun _ => 0)), (q9, .inl (en.2.2.1.2.2.2, 4, .inr (.inr (.inr (.inr (va_up (va_up (fun _ => none) 0 (some q10)) 1 (some q11))))))), (q10, .inr (4, [vi (-1), vi 0, .ref q14])), (q14, aI en 60 (fun _ => 0)), (q11, .inr (4, [vi (-1), vi 0, .ref q15])), (q15, aI en 60 (fun _ => 0))]) [33] [0, 1, 2, 3, 4, 5, 6, 7, 8, 9, 10, 11, 12, 13, 14, 15, 16, 17, 18, 19, 20, 21, 22, 23, 24, 25, 26, 27, 28, 29, 30, 31, 32] dX6_init_120 (fun U h => h.2.1) ilX6_63 (by decide) rfl rfl (by decide) (by decide) (by decide) (kt_X4_init en q12) rfl rfl (by exact Nat.le_of_ble_eq_true rfl) (by decide) (by decide) (fun w120_85 hw120_85 => ?_)
  obtain ⟨q16, rfl⟩ := hw120_85
  refine Y.eqw (ws2 := [(h0, .inr (5, [.ref q1, .ref q2, .ref q3, .ref q4, .ref q5, .ref q6, .ref q7, .ref q8, vi 0, .ref q9, vi 0])), (q1, .inr (3, [vi 3, .ref q18, vi 0, vi (-1), vi 0, .ref q19, .ref q20, .ref q21, .ref q22])), (q18, aI en 47 (fun _ => 0)), (q19, aI en 12 (fun _ => 0)), (q20, aI en 12 (fun _ => 0)), (q21, aI en 12 (fun _ => 0)), (q22, aI en 64 (gA (fun _ => 0) (fun _ => 0) (fun _ => 0) (fun _ => 0) 0)), (q2, .inr (2, [vi 5, .ref q23, vi 0, vi (-1), vi 0, .ref q24, .ref q25, .ref q26, .ref q27, .ref q28])), (q23, aI en 47 (fun _ => 0)), (q24, aI en 8 (fun _ => 0)), (q25, aI en 8 (fun _ => 0)), (q26, aI en 8 (fun _ => 0)), (q27, aI en 8 (fun _ => 0)), (q28, aI en 8 (fun _ => 0)), (q3, aI en 6 (fun _ => 0)), (q4, aI en 6 (fun _ => 0)), (q5, .inr (1, [.ref q1, .ref q2, .ref q29, .ref q30, .ref q31, .ref q32, .ref q33, .ref q34, vi 0, vi 0, vi 0])), (q29, aZ en 8 (fun _ => 0)), (q30, aI en 8 (fun _ => 0)), (q31, aI en 8 (fun _ => 0)), (q32, aI en 8 (fun _ => 0)), (q33, aI en 8 (fun _ => 0)), (q34, aI en 8 (fun _ => 0)), (q6, .inr (0, [.ref q1, .ref q35, .ref q36, vi 0, vl 0, vl 0])), (q35, aJ en 64 (fun _ => 0)), (q36, aJ en 13 (fun _ => 0)), (q7, aI en 8 (fun _ => 0)), (q8, aI en 8 (fun _ => 0)), (q9, .inl (en.2.2.1.2.2.2, 4, .inr (.inr (.inr (.inr (va_up (va_up (fun _ => none) 0 (some q10)) 1 (some q11))))))), (q10, .inr (4, [vi (-1), vi 0, .ref q14])), (q14, aI en 60 (fun _ => 0)), (q11, .inr (4, [vi (-1), vi 0, .ref q15])), (q15, aI en 60 (fun _ => 0)), (q12, .inr (4, [vi (-1), vi 0, .ref q16])), (q16, aI en 60 (fun _ => 0))]) rfl ?_
  refine Y.eqc (a := 34) (b := 616) rfl rfl ?_
  refine y_aast (ws2 := [(h0, .inr (5, [.ref q1, .ref q2, .ref q3, .ref q4, .ref q5, .ref q6, .ref q7, .ref q8, vi 0, .ref q9, vi 0])), (q1, .inr (3, [vi 3, .ref q18, vi 0, vi (-1), vi 0, .ref q19, .ref q20, .ref q21, .ref q22])), (q18, aI en 47 (fun _ => 0)), (q19, aI en 12 (fun _ => 0)), (q20, aI en 12 (fun _ => 0)), (q21, aI en 12 (fun _ => 0)), (q22, aI en 64 (gA (fun _ => 0) (fun _ => 0) (fun _ => 0) (fun _ => 0) 0)), (q2, .inr (2, [vi 5, .ref q23, vi 0, vi (-1), vi 0, .ref q24, .ref q25, .ref q26, .ref q27, .ref q28])), (q23, aI en 47 (fun _ => 0)), (q24, aI en 8 (fun _ => 0)), (q25, aI en 8 (fun _ => 0)), (q26, aI en 8 (fun _ => 0)), (q27, aI en 8 (fun _ => 0)), (q28, aI en 8 (fun _ => 0)), (q3, aI en 6 (fun _ => 0)), (q4, aI en 6 (fun _ => 0)), (q5, .inr (1, [.ref q1, .ref q2, .ref q29, .ref q30, .ref q31, .ref q32, .ref q33, .ref q34, vi 0, vi 0, vi 0])), (q29, aZ en 8 (fun _ => 0)), (q30, aI en 8 (fun _ => 0)), (q31, aI en 8 (fun _ => 0)), (q32, aI en 8 (fun _ => 0)), (q33, aI en 8 (fun _ => 0)), (q34, aI en 8 (fun _ => 0)), (q6, .inr (0, [.ref q1, .ref q35, .ref q36, vi 0, vl 0, vl 0])), (q35, aJ en 64 (fun _ => 0)), (q36, aJ en 13 (fun _ => 0)), (q7, aI en 8 (fun _ => 0)), (q8, aI en 8 (fun _ => 0)), (q9, .inl (en.2.2.1.2.2.2, 4, .inr (.inr (.inr (.inr (va_up (va_up (va_up (fun _ => none) 0 (some q10)) 1 (some q11)) 2 (some q12))))))), (q10, .inr (4, [vi (-1), vi 0, .ref q14])), (q14, aI en 60 (fun _ => 0)), (q11, .inr (4, [vi (-1), vi 0, .ref q15])), (q15, aI en 60 (fun _ => 0)), (q12, .inr (4, [vi (-1), vi 0, .ref q16])), (q16, aI en 60 (fun _ => 0))]) 28 33 dX6_init_123 rfl rfl (by decide) (by decide) rfl ?_
  refine y_iinc (y := 3) [(0, .ref h0), (1, vi 3)] [1, 0] 1 dX6_init_124 rfl (by decide) (by decide) rfl ?_
  refine y_goto (tgt := 106) dX6_init_127 rfl ?_
  refine y_iload_n 1 dX6_init_106 rfl ?_
  refine y_iconst dX6_init_107 ?_
  refine y_icmp_ge (tgt := 130) dX6_init_108 rfl (by decide) (fun z => absurd z (by decide)) (fun _ => ?_)
  refine y_aload_n 0 dX6_init_111 rfl ?_
  refine y_get 0 dX6_init_112 fX6_59_5 rfl rfl ?_
  refine y_iload_n 1 dX6_init_115 rfl ?_
  refine y_new dX6_init_116 clX6_57 (by decide) (by decide) (fun q13 => ?_)
  refine Y.eqw (ws2 := [(h0, .inr (5, [.ref q1, .ref q2, .ref q3, .ref q4, .ref q5, .ref q6, .ref q7, .ref q8, vi 0, .ref q9, vi 0])), (q1, .inr (3, [vi 3, .ref q18, vi 0, vi (-1), vi 0, .ref q19, .ref q20, .ref q21, .ref q22])), (q18, aI en 47 (fun _ => 0)), (q19, aI en 12 (fun _ => 0)), (q20, aI en 12 (fun _ => 0)), (q21, aI en 12 (fun _ => 0)), (q22, aI en 64 (gA (fun _ => 0) (fun _ => 0) (fun _ => 0) (fun _ => 0) 0)), (q2, .inr (2, [vi 5, .ref q23, vi 0, vi (-1), vi 0, .ref q24, .ref q25, .ref q26, .ref q27, .ref q28])), (q23, aI en 47 (fun _ => 0)), (q24, aI en 8 (fun _ => 0)), (q25, aI en 8 (fun _ => 0)), (q26, aI en 8 (fun _ => 0)), (q27, aI en 8 (fun _ => 0)), (q28, aI en 8 (fun _ => 0)), (q3, aI en 6 (fun _ => 0)), (q4, aI en 6 (fun _ => 0)), (q5, .inr (1, [.ref q1, .ref q2, .ref q29, .ref q30, .ref q31, .ref q32, .ref q33, .ref q34, vi 0, vi 0, vi 0])), (q29, aZ en 8 (fun _ => 0)), (q30, aI en 8 (fun _ => 0)), (q31, aI en 8 (fun _ => 0)), (q32, aI en 8 (fun _ => 0)), (q33, aI en 8 (fun _ => 0)), (q34, aI en 8 (fun _ => 0)), (q6, .inr (0, [.ref q1, .ref q35, .ref q36, vi 0, vl 0, vl 0])), (q35, aJ en 64 (fun _ => 0)), (q36, aJ en 13 (fun _ => 0)), (q7, aI en 8 (fun _ => 0)), (q8, aI en 8 (fun _ => 0)), (q9, .inl (en.2.2.1.2.2.2, 4, .inr (.inr (.inr (.inr (va_up (va_up (va_up (fun _ => none) 0 (some q10)) 1 (some q11)) 2 (some q12))))))), (q10, .inr (4, [vi (-1), vi 0, .ref q14])), (q14, aI en 60 (fun _ => 0)), (q11, .inr (4, [vi (-1), vi 0, .ref q15])), (q15, aI en 60 (fun _ => 0)), (q12, .inr (4, [vi (-1), vi 0, .ref q16])), (q16, aI en 60 (fun _ => 0)), (q13, .inr (4, [vi 0, vi 0, .null]))]) rfl ?_
  refine Y.eqc (a := 35) (b := 619) rfl rfl ?_
  refine y_dup dX6_init_119 ?_
  refine y_callN (kd' := (mX4_init, 1, 60)) (wc := [(q13, .inr (4, [vi 0, vi 0, .null]))]) (wr := [(h0, .inr (5, [.ref q1, .ref q2, .ref q3, .ref q4, .ref q5, .ref q6, .ref q7, .ref q8, vi 0, .ref q9, vi 0])), (q1, .inr (3, [vi 3, .ref q18, vi 0, vi (-1), vi 0, .ref q19, .ref q20, .ref q21, .ref q22])), (q18, aI en 47 (fun _ => 0)), (q19, aI en 12 (fun _ => 0)), (q20, aI en 12 (fun _ => 0)), (q21, aI en 12 (fun _ => 0)), (q22, aI en 64 (gA (fun _ => 0) (fun _ => 0) (fun _ => 0) (fun _ => 0) 0)), (q2, .inr (2, [vi 5, .ref q23, vi 0, vi (-1), vi 0, .ref q24, .ref q25, .ref q26, .ref q27, .ref q28])), (q23, aI en 47 (fun _ => 0)), (q24, aI en 8 (fun _ => 0)), (q25, aI en 8 (fun _ => 0)), (q26, aI en 8 (fun _ => 0)), (q27, aI en 8 (fun _ => 0)), (q28, aI en 8 (fun _ => 0)), (q3, aI en 6 (fun _ => 0)), (q4, aI en 6 (fun _ => 0)), (q5, .inr (1, [.ref q1, .ref q2, .ref q29, .ref q30, .ref q31, .ref q32, .ref q33, .ref q34, vi 0, vi 0, vi 0])), (q29, aZ en 8 (fun _ => 0)), (q30, aI en 8 (fun _ => 0)), (q31, aI en 8 (fun _ => 0)), (q32, aI en 8 (fun _ => 0)), (q33, aI en 8 (fun _ => 0)), (q34, aI en 8 (fun _ => 0)), (q6, .inr (0, [.ref q1, .ref q35, .ref q36, vi 0, vl 0, vl 0])), (q35, aJ en 64 (fun _ => 0)), (q36, aJ en 13 (fun _ => 0)), (q7, aI en 8 (fun _ => 0)), (q8, aI en 8 (fun _ => 0)), (q9, .inl (en.2.2.1.2.2.2, 4, .inr (.inr (.inr (.inr (va_up (va_up (va_up (fun _ => none) 0 (some q10)) 1 (some q11)) 2 (some q12))))))), (q10, .inr (4, [vi (-1), vi 0, .ref q14])), (q14, aI en 60 (fun _ => 0)), (q11, .inr (4, [vi (-1), vi 0, .ref q15])), (q15, aI en 60 (fun _ => 0)), (q12, .inr (4, [vi (-1), vi 0, .ref q16])), (q16, aI en 60 (fun _ => 0))]) [35] [0, 1, 2, 3, 4, 5, 6, 7, 8, 9, 10, 11, 12, 13, 14, 15, 16, 17, 18, 19, 20, 21, 22, 23, 24, 25, 26, 27, 28, 29, 30, 31, 32, 33, 34] dX6_init_120 (fun U h => h.2.1) ilX6_63 (by decide) rfl rfl (by decide) (by decide) (by decide) (kt_X4_init en q13) rfl rfl (by exact Nat.le_of_ble_eq_true rfl) (by decide) (by decide) (fun w120_97 hw120_97 => ?_)
  obtain ⟨q17, rfl⟩ := hw120_97
  refine Y.eqw (ws2 := [(h0, .inr (5, [.ref q1, .ref q2, .ref q3, .ref q4, .ref q5, .ref q6, .ref q7, .ref q8, vi 0, .ref q9, vi 0])), (q1, .inr (3, [vi 3, .ref q18, vi 0, vi (-1), vi 0, .ref q19, .ref q20, .ref q21, .ref q22])), (q18, aI en 47 (fun _ => 0)), (q19, aI en 12 (fun _ => 0)), (q20, aI en 12 (fun _ => 0)), (q21, aI en 12 (fun _ => 0)), (q22, aI en 64 (gA (fun _ => 0) (fun _ => 0) (fun _ => 0) (fun _ => 0) 0)), (q2, .inr (2, [vi 5, .ref q23, vi 0, vi (-1), vi 0, .ref q24, .ref q25, .ref q26, .ref q27, .ref q28])), (q23, aI en 47 (fun _ => 0)), (q24, aI en 8 (fun _ => 0)), (q25, aI en 8 (fun _ => 0)), (q26, aI en 8 (fun _ => 0)), (q27, aI en 8 (fun _ => 0)), (q28, aI en 8 (fun _ => 0)), (q3, aI en 6 (fun _ => 0)), (q4, aI en 6 (fun _ => 0)), (q5, .inr (1, [.ref q1, .ref q2, .ref q29, .ref q30, .ref q31, .ref q32, .ref q33, .ref q34, vi 0, vi 0, vi 0])), (q29, aZ en 8 (fun _ => 0)), (q30, aI en 8 (fun _ => 0)), (q31, aI en 8 (fun _ => 0)), (q32, aI en 8 (fun _ => 0)), (q33, aI en 8 (fun _ => 0)), (q34, aI en 8 (fun _ => 0)), (q6, .inr (0, [.ref q1, .ref q35, .ref q36, vi 0, vl 0, vl 0])), (q35, aJ en 64 (fun _ => 0)), (q36, aJ en 13 (fun _ => 0)), (q7, aI en 8 (fun _ => 0)), (q8, aI en 8 (fun _ => 0)), (q9, .inl (en.2.2.1.2.2.2, 4, .inr (.inr (.inr (.inr (va_up (va_up (va_up (fun _ => none) 0 (some q10)) 1 (some q11)) 2 (some q12))))))), (q10, .inr (4, [vi (-1), vi 0, .ref q14])), (q14, aI en 60 (fun _ => 0)), (q11, .inr (4, [vi (-1), vi 0, .ref q15])), (q15, aI en 60 (fun _ => 0)), (q12, .inr (4, [vi (-1), vi 0, .ref q16])), (q16, aI en 60 (fun _ => 0)), (q13, .inr (4, [vi (-1), vi 0, .ref q17])), (q17, aI en 60 (fun _ => 0))]) rfl ?_
  refine Y.eqc (a := 36) (b := 679) rfl rfl ?_
  refine y_aast (ws2 := [(h0, .inr (5, [.ref q1, .ref q2, .ref q3, .ref q4, .ref q5, .ref q6, .ref q7, .ref q8, vi 0, .ref q9, vi 0])), (q1, .inr (3, [vi 3, .ref q18, vi 0, vi (-1), vi 0, .ref q19, .ref q20, .ref q21, .ref q22])), (q18, aI en 47 (fun _ => 0)), (q19, aI en 12 (fun _ => 0)), (q20, aI en 12 (fun _ => 0)), (q21, aI en 12 (fun _ => 0)), (q22, aI en 64 (gA (fun _ => 0) (fun _ => 0) (fun _ => 0) (fun _ => 0) 0)), (q2, .inr (2, [vi 5, .ref q23, vi 0, vi (-1), vi 0, .ref q24, .ref q25, .ref q26, .ref q27, .ref q28])), (q23, aI en 47 (fun _ => 0)), (q24, aI en 8 (fun _ => 0)), (q25, aI en 8 (fun _ => 0)), (q26, aI en 8 (fun _ => 0)), (q27, aI en 8 (fun _ => 0)), (q28, aI en 8 (fun _ => 0)), (q3, aI en 6 (fun _ => 0)), (q4, aI en 6 (fun _ => 0)), (q5, .inr (1, [.ref q1, .ref q2, .ref q29, .ref q30, .ref q31, .ref q32, .ref q33, .ref q34, vi 0, vi 0, vi 0])), (q29, aZ en 8 (fun _ => 0)), (q30, aI en 8 (fun _ => 0)), (q31, aI en 8 (fun _ => 0)), (q32, aI en 8 (fun _ => 0)), (q33, aI en 8 (fun _ => 0)), (q34, aI en 8 (fun _ => 0)), (q6, .inr (0, [.ref q1, .ref q35, .ref q36, vi 0, vl 0, vl 0])), (q35, aJ en 64 (fun _ => 0)), (q36, aJ en 13 (fun _ => 0)), (q7, aI en 8 (fun _ => 0)), (q8, aI en 8 (fun _ => 0)), (q9, .inl (en.2.2.1.2.2.2, 4, .inr (.inr (.inr (.inr (va_up (va_up (va_up (va_up (fun _ => none) 0 (some q10)) 1 (some q11)) 2 (some q12)) 3 (some q13))))))), (q10, .inr (4, [vi (-1), vi 0, .ref q14])), (q14, aI en 60 (fun _ => 0)), (q11, .inr (4, [vi (-1), vi 0, .ref q15])), (q15, aI en 60 (fun _ => 0)), (q12, .inr (4, [vi (-1), vi 0, .ref q16])), (q16, aI en 60 (fun _ => 0)), (q13, .inr (4, [vi (-1), vi 0, .ref q17])), (q17, aI en 60 (fun _ => 0))]) 28 35 dX6_init_123 rfl rfl (by decide) (by decide) rfl ?_
  refine y_iinc (y := 4) [(0, .ref h0), (1, vi 4)] [1, 0] 1 dX6_init_124 rfl (by decide) (by decide) rfl ?_
  refine y_goto (tgt := 106) dX6_init_127 rfl ?_
  refine y_iload_n 1 dX6_init_106 rfl ?_
  refine y_iconst dX6_init_107 ?_
  refine y_icmp_ge (tgt := 130) dX6_init_108 rfl (by decide) (fun _ => ?_) (fun z => absurd z (by decide))
  exact y_vret C dX6_init_130 (by decide) (by decide) ⟨q1, q2, q3, q4, q5, q6, q7, q8, q9, q10, q11, q12, q13, q14, q15, q16, q17, q18, q19, q20, q21, q22, q23, q24, q25, q26, q27, q28, q29, q30, q31, q32, q33, q34, q35, q36, rfl⟩
theorem tob_RX7 : Cond.methodLink RX7 1 Lib.objectInit ∈ lw_g := tin 637 (by decide +kernel) rfl
theorem tfl_RX7_7 : Cond.fieldLink RX7 7 "CrownlessDaysModel" "forms" "[I" ∈ lw_g := tin 638 (by decide +kernel) rfl
theorem ffX7_7_6 : FFk RX7 7 6 0 (.array .int) := ⟨RX7, TX7, 20, tyX7, rfl, by decide, uw_7, tfl_RX7_7, tyX7_ok, nmX7, rfl, rfl, rfl⟩
theorem tfl_RX7_13 : Cond.fieldLink RX7 13 "CrownlessDaysModel" "sizes" "[I" ∈ lw_g := tin 639 (by decide +kernel) rfl
theorem ffX7_13_6 : FFk RX7 13 6 1 (.array .int) := ⟨RX7, TX7, 20, tyX7, rfl, by decide, uw_7, tfl_RX7_13, tyX7_ok, nmX7, rfl, rfl, rfl⟩
theorem tfl_RX7_16 : Cond.fieldLink RX7 16 "CrownlessDaysModel" "items" "[I" ∈ lw_g := tin 640 (by decide +kernel) rfl
theorem ffX7_16_6 : FFk RX7 16 6 2 (.array .int) := ⟨RX7, TX7, 20, tyX7, rfl, by decide, uw_7, tfl_RX7_16, tyX7_ok, nmX7, rfl, rfl, rfl⟩
theorem tfl_RX7_19 : Cond.fieldLink RX7 19 "CrownlessDaysModel" "moved" "[I" ∈ lw_g := tin 641 (by decide +kernel) rfl
theorem ffX7_19_6 : FFk RX7 19 6 3 (.array .int) := ⟨RX7, TX7, 20, tyX7, rfl, by decide, uw_7, tfl_RX7_19, tyX7_ok, nmX7, rfl, rfl, rfl⟩
theorem tfl_RX7_22 : Cond.fieldLink RX7 22 "CrownlessDaysModel" "bytes" "[I" ∈ lw_g := tin 643 (by decide +kernel) rfl
theorem ffX7_22_6 : FFk RX7 22 6 5 (.array .int) := ⟨RX7, TX7, 20, tyX7, rfl, by decide, uw_7, tfl_RX7_22, tyX7_ok, nmX7, rfl, rfl, rfl⟩
theorem tfl_RX7_25 : Cond.fieldLink RX7 25 "CrownlessDaysModel" "typed" "[I" ∈ lw_g := tin 644 (by decide +kernel) rfl
theorem ffX7_25_6 : FFk RX7 25 6 6 (.array .int) := ⟨RX7, TX7, 20, tyX7, rfl, by decide, uw_7, tfl_RX7_25, tyX7_ok, nmX7, rfl, rfl, rfl⟩
theorem tfl_RX7_28 : Cond.fieldLink RX7 28 "CrownlessDaysModel" "road" "[I" ∈ lw_g := tin 646 (by decide +kernel) rfl
theorem ffX7_28_6 : FFk RX7 28 6 8 (.array .int) := ⟨RX7, TX7, 20, tyX7, rfl, by decide, uw_7, tfl_RX7_28, tyX7_ok, nmX7, rfl, rfl, rfl⟩
theorem tfl_RX7_31 : Cond.fieldLink RX7 31 "CrownlessDaysModel" "person" "[I" ∈ lw_g := tin 648 (by decide +kernel) rfl
theorem ffX7_31_6 : FFk RX7 31 6 10 (.array .int) := ⟨RX7, TX7, 20, tyX7, rfl, by decide, uw_7, tfl_RX7_31, tyX7_ok, nmX7, rfl, rfl, rfl⟩
theorem tfl_RX7_34 : Cond.fieldLink RX7 34 "CrownlessDaysModel" "told" "[I" ∈ lw_g := tin 649 (by decide +kernel) rfl
theorem ffX7_34_6 : FFk RX7 34 6 11 (.array .int) := ⟨RX7, TX7, 20, tyX7, rfl, by decide, uw_7, tfl_RX7_34, tyX7_ok, nmX7, rfl, rfl, rfl⟩
theorem tfl_RX7_37 : Cond.fieldLink RX7 37 "CrownlessDaysModel" "ways" "[I" ∈ lw_g := tin 650 (by decide +kernel) rfl
theorem ffX7_37_6 : FFk RX7 37 6 12 (.array .int) := ⟨RX7, TX7, 20, tyX7, rfl, by decide, uw_7, tfl_RX7_37, tyX7_ok, nmX7, rfl, rfl, rfl⟩
theorem tfl_RX7_40 : Cond.fieldLink RX7 40 "CrownlessDaysModel" "comes" "[I" ∈ lw_g := tin 651 (by decide +kernel) rfl
theorem ffX7_40_6 : FFk RX7 40 6 13 (.array .int) := ⟨RX7, TX7, 20, tyX7, rfl, by decide, uw_7, tfl_RX7_40, tyX7_ok, nmX7, rfl, rfl, rfl⟩
theorem tfl_RX7_43 : Cond.fieldLink RX7 43 "CrownlessDaysModel" "ends" "[I" ∈ lw_g := tin 652 (by decide +kernel) rfl
theorem ffX7_43_6 : FFk RX7 43 6 14 (.array .int) := ⟨RX7, TX7, 20, tyX7, rfl, by decide, uw_7, tfl_RX7_43, tyX7_ok, nmX7, rfl, rfl, rfl⟩
theorem tfl_RX7_46 : Cond.fieldLink RX7 46 "CrownlessDaysModel" "rich" "[I" ∈ lw_g := tin 653 (by decide +kernel) rfl
theorem ffX7_46_6 : FFk RX7 46 6 15 (.array .int) := ⟨RX7, TX7, 20, tyX7, rfl, by decide, uw_7, tfl_RX7_46, tyX7_ok, nmX7, rfl, rfl, rfl⟩
theorem tfl_RX7_49 : Cond.fieldLink RX7 49 "CrownlessDaysModel" "sight" "[I" ∈ lw_g := tin 655 (by decide +kernel) rfl
theorem ffX7_49_6 : FFk RX7 49 6 17 (.array .int) := ⟨RX7, TX7, 20, tyX7, rfl, by decide, uw_7, tfl_RX7_49, tyX7_ok, nmX7, rfl, rfl, rfl⟩
theorem tfl_RX7_52 : Cond.fieldLink RX7 52 "CrownlessDaysModel" "heard" "[I" ∈ lw_g := tin 656 (by decide +kernel) rfl
theorem ffX7_52_6 : FFk RX7 52 6 18 (.array .int) := ⟨RX7, TX7, 20, tyX7, rfl, by decide, uw_7, tfl_RX7_52, tyX7_ok, nmX7, rfl, rfl, rfl⟩
set_option maxRecDepth 100000 in
set_option maxHeartbeats 2000000 in
theorem kt_X7_init (en : zE) (h0 : Nat) : Kt en yX7_init (mX7_init, 15, 600) [.ref h0] [(h0, .inr (6, [.null, .null, .null, .null, vi 0, .null, .null, vi 0, .null, vi 0, .null, .null, .null, .null, .null, .null, vi 0, .null, .null, vi 0]))] (fun wz => ∃ q38 q39 q40 q41 q42 q43 q44 q45 q46 q47 q48 q49 q50 q51 q52 : Nat, wz = [(h0, .inr (6, [.ref q38, .ref q39, .ref q40, .ref q41, vi 0, .ref q42, .ref q43, vi 0, .ref q44, vi 0, .ref q45, .ref q46, .ref q47, .ref q48, .ref q49, .ref q50, vi 0, .ref q51, .ref q52, vi 0])), (q38, aI en 4 (up (up (up (up (fun _ => 0) 0 (-1)) 1 (-1)) 2 (-1)) 3 (-1))), (q39, aI en 4 (fun _ => 0)), (q40, aI en 240 (fun _ => 0)), (q41, aI en 60 (fun _ => 0)), (q42, aI en 96 (fun _ => 0)), (q43, aI en 2 (fun _ => 0)), (q44, aI en 36 (fun _ => 0)), (q45, aI en 40 (fun _ => 0)), (q46, aI en 6 (fun _ => 0)), (q47, aI en 64 (fun _ => 0)), (q48, aI en 8 (fun _ => 0)), (q49, aI en 8 (fun _ => 0)), (q50, aI en 8 (fun _ => 0)), (q51, aI en 16 (fun _ => 0)), (q52, aI en 8 (fun _ => 0))]) := by
  refine Kt.of (by decide +kernel) rfl rfl rfl [(0, .ref h0)] rfl (Nat.le_of_ble_eq_true rfl) (fun cx C => ?_)
  refine y_aload_n 0 dX7_init_0 rfl ?_
  refine y_obj dX7_init_1 tob_RX7 (by decide) (by decide) ?_
  refine y_aload_n 0 dX7_init_4 rfl ?_
  refine y_iconst dX7_init_5 ?_
  refine y_newI (n := 4) dX7_init_6 rfl (by decide) (by decide) (by decide) (fun q38 => ?_)
  refine Y.eqw (ws2 := [(h0, .inr (6, [.null, .null, .null, .null, vi 0, .null, .null, vi 0, .null, vi 0, .null, .null, .null, .null, .null, .null, vi 0, .null, .null, vi 0])), (q38, aI en 4 (fun _ => 0))]) rfl ?_
  refine Y.eqc (a := 1) (b := 4) rfl rfl ?_
  refine y_putF (ws2 := [(h0, .inr (6, [.ref q38, .null, .null, .null, vi 0, .null, .null, vi 0, .null, vi 0, .null, .null, .null, .null, .null, .null, vi 0, .null, .null, vi 0])), (q38, aI en 4 (fun _ => 0))]) 0 C dX7_init_8 ffX7_7_6 rfl rfl rfl (Nat.le_of_ble_eq_true rfl) rfl ?_
  refine y_aload_n 0 dX7_init_11 rfl ?_
  refine y_iconst dX7_init_12 ?_
  refine y_newI (n := 4) dX7_init_13 rfl (by decide) (by decide) (by decide) (fun q39 => ?_)
  refine Y.eqw (ws2 := [(h0, .inr (6, [.ref q38, .null, .null, .null, vi 0, .null, .null, vi 0, .null, vi 0, .null, .null, .null, .null, .null, .null, vi 0, .null, .null, vi 0])), (q38, aI en 4 (fun _ => 0)), (q39, aI en 4 (fun _ => 0))]) rfl ?_
  refine Y.eqc (a := 2) (b := 8) rfl rfl ?_
  refine y_putF (ws2 := [(h0, .inr (6, [.ref q38, .ref q39, .null, .null, vi 0, .null, .null, vi 0, .null, vi 0, .null, .null, .null, .null, .null, .null, vi 0, .null, .null, vi 0])), (q38, aI en 4 (fun _ => 0)), (q39, aI en 4 (fun _ => 0))]) 0 C dX7_init_15 ffX7_13_6 rfl rfl rfl (Nat.le_of_ble_eq_true rfl) rfl ?_
  refine y_aload_n 0 dX7_init_18 rfl ?_
  refine y_sipush dX7_init_19 rfl ?_
  refine y_newI (n := 240) dX7_init_22 rfl (by decide) (by decide) (by decide) (fun q40 => ?_)
  refine Y.eqw (ws2 := [(h0, .inr (6, [.ref q38, .ref q39, .null, .null, vi 0, .null, .null, vi 0, .null, vi 0, .null, .null, .null, .null, .null, .null, vi 0, .null, .null, vi 0])), (q38, aI en 4 (fun _ => 0)), (q39, aI en 4 (fun _ => 0)), (q40, aI en 240 (fun _ => 0))]) rfl ?_
  refine Y.eqc (a := 3) (b := 248) rfl rfl ?_
  refine y_putF (ws2 := [(h0, .inr (6, [.ref q38, .ref q39, .ref q40, .null, vi 0, .null, .null, vi 0, .null, vi 0, .null, .null, .null, .null, .null, .null, vi 0, .null, .null, vi 0])), (q38, aI en 4 (fun _ => 0)), (q39, aI en 4 (fun _ => 0)), (q40, aI en 240 (fun _ => 0))]) 0 C dX7_init_24 ffX7_16_6 rfl rfl rfl (Nat.le_of_ble_eq_true rfl) rfl ?_
  refine y_aload_n 0 dX7_init_27 rfl ?_
  refine y_bipush dX7_init_28 rfl ?_
  refine y_newI (n := 60) dX7_init_30 rfl (by decide) (by decide) (by decide) (fun q41 => ?_)
  refine Y.eqw (ws2 := [(h0, .inr (6, [.ref q38, .ref q39, .ref q40, .null, vi 0, .null, .null, vi 0, .null, vi 0, .null, .null, .null, .null, .null, .null, vi 0, .null, .null, vi 0])), (q38, aI en 4 (fun _ => 0)), (q39, aI en 4 (fun _ => 0)), (q40, aI en 240 (fun _ => 0)), (q41, aI en 60 (fun _ => 0))]) rfl ?_
  refine Y.eqc (a := 4) (b := 308) rfl rfl ?_
  refine y_putF (ws2 := [(h0, .inr (6, [.ref q38, .ref q39, .ref q40, .ref q41, vi 0, .null, .null, vi 0, .null, vi 0, .null, .null, .null, .null, .null, .null, vi 0, .null, .null, vi 0])), (q38, aI en 4 (fun _ => 0)), (q39, aI en 4 (fun _ => 0)), (q40, aI en 240 (fun _ => 0)), (q41, aI en 60 (fun _ => 0))]) 0 C dX7_init_32 ffX7_19_6 rfl rfl rfl (Nat.le_of_ble_eq_true rfl) rfl ?_
  refine y_aload_n 0 dX7_init_35 rfl ?_
  refine y_bipush dX7_init_36 rfl ?_
  refine y_newI (n := 96) dX7_init_38 rfl (by decide) (by decide) (by decide) (fun q42 => ?_)
  refine Y.eqw (ws2 := [(h0, .inr (6, [.ref q38, .ref q39, .ref q40, .ref q41, vi 0, .null, .null, vi 0, .null, vi 0, .null, .null, .null, .null, .null, .null, vi 0, .null, .null, vi 0])), (q38, aI en 4 (fun _ => 0)), (q39, aI en 4 (fun _ => 0)), (q40, aI en 240 (fun _ => 0)), (q41, aI en 60 (fun _ => 0)), (q42, aI en 96 (fun _ => 0))]) rfl ?_
  refine Y.eqc (a := 5) (b := 404) rfl rfl ?_
  refine y_putF (ws2 := [(h0, .inr (6, [.ref q38, .ref q39, .ref q40, .ref q41, vi 0, .ref q42, .null, vi 0, .null, vi 0, .null, .null, .null, .null, .null, .null, vi 0, .null, .null, vi 0])), (q38, aI en 4 (fun _ => 0)), (q39, aI en 4 (fun _ => 0)), (q40, aI en 240 (fun _ => 0)), (q41, aI en 60 (fun _ => 0)), (q42, aI en 96 (fun _ => 0))]) 0 C dX7_init_40 ffX7_22_6 rfl rfl rfl (Nat.le_of_ble_eq_true rfl) rfl ?_
  refine y_aload_n 0 dX7_init_43 rfl ?_
  refine y_iconst dX7_init_44 ?_
  refine y_newI (n := 2) dX7_init_45 rfl (by decide) (by decide) (by decide) (fun q43 => ?_)
  refine Y.eqw (ws2 := [(h0, .inr (6, [.ref q38, .ref q39, .ref q40, .ref q41, vi 0, .ref q42, .null, vi 0, .null, vi 0, .null, .null, .null, .null, .null, .null, vi 0, .null, .null, vi 0])), (q38, aI en 4 (fun _ => 0)), (q39, aI en 4 (fun _ => 0)), (q40, aI en 240 (fun _ => 0)), (q41, aI en 60 (fun _ => 0)), (q42, aI en 96 (fun _ => 0)), (q43, aI en 2 (fun _ => 0))]) rfl ?_
  refine Y.eqc (a := 6) (b := 406) rfl rfl ?_
  refine y_putF (ws2 := [(h0, .inr (6, [.ref q38, .ref q39, .ref q40, .ref q41, vi 0, .ref q42, .ref q43, vi 0, .null, vi 0, .null, .null, .null, .null, .null, .null, vi 0, .null, .null, vi 0])), (q38, aI en 4 (fun _ => 0)), (q39, aI en 4 (fun _ => 0)), (q40, aI en 240 (fun _ => 0)), (q41, aI en 60 (fun _ => 0)), (q42, aI en 96 (fun _ => 0)), (q43, aI en 2 (fun _ => 0))]) 0 C dX7_init_47 ffX7_25_6 rfl rfl rfl (Nat.le_of_ble_eq_true rfl) rfl ?_
  refine y_aload_n 0 dX7_init_50 rfl ?_
  refine y_bipush dX7_init_51 rfl ?_
  refine y_newI (n := 36) dX7_init_53 rfl (by decide) (by decide) (by decide) (fun q44 => ?_)
  refine Y.eqw (ws2 := [(h0, .inr (6, [.ref q38, .ref q39, .ref q40, .ref q41, vi 0, .ref q42, .ref q43, vi 0, .null, vi 0, .null, .null, .null, .null, .null, .null, vi 0, .null, .null, vi 0])), (q38, aI en 4 (fun _ => 0)), (q39, aI en 4 (fun _ => 0)), (q40, aI en 240 (fun _ => 0)), (q41, aI en 60 (fun _ => 0)), (q42, aI en 96 (fun _ => 0)), (q43, aI en 2 (fun _ => 0)), (q44, aI en 36 (fun _ => 0))]) rfl ?_
  refine Y.eqc (a := 7) (b := 442) rfl rfl ?_
  refine y_putF (ws2 := [(h0, .inr (6, [.ref q38, .ref q39, .ref q40, .ref q41, vi 0, .ref q42, .ref q43, vi 0, .ref q44, vi 0, .null, .null, .null, .null, .null, .null, vi 0, .null, .null, vi 0])), (q38, aI en 4 (fun _ => 0)), (q39, aI en 4 (fun _ => 0)), (q40, aI en 240 (fun _ => 0)), (q41, aI en 60 (fun _ => 0)), (q42, aI en 96 (fun _ => 0)), (q43, aI en 2 (fun _ => 0)), (q44, aI en 36 (fun _ => 0))]) 0 C dX7_init_55 ffX7_28_6 rfl rfl rfl (Nat.le_of_ble_eq_true rfl) rfl ?_
  refine y_aload_n 0 dX7_init_58 rfl ?_
  refine y_bipush dX7_init_59 rfl ?_
  refine y_newI (n := 40) dX7_init_61 rfl (by decide) (by decide) (by decide) (fun q45 => ?_)
  refine Y.eqw (ws2 := [(h0, .inr (6, [.ref q38, .ref q39, .ref q40, .ref q41, vi 0, .ref q42, .ref q43, vi 0, .ref q44, vi 0, .null, .null, .null, .null, .null, .null, vi 0, .null, .null, vi 0])), (q38, aI en 4 (fun _ => 0)), (q39, aI en 4 (fun _ => 0)), (q40, aI en 240 (fun _ => 0)), (q41, aI en 60 (fun _ => 0)), (q42, aI en 96 (fun _ => 0)), (q43, aI en 2 (fun _ => 0)), (q44, aI en 36 (fun _ => 0)), (q45, aI en 40 (fun _ => 0))]) rfl ?_
  refine Y.eqc (a := 8) (b := 482) rfl rfl ?_
  refine y_putF (ws2 := [(h0, .inr (6, [.ref q38, .ref q39, .ref q40, .ref q41, vi 0, .ref q42, .ref q43, vi 0, .ref q44, vi 0, .ref q45, .null, .null, .null, .null, .null, vi 0, .null, .null, vi 0])), (q38, aI en 4 (fun _ => 0)), (q39, aI en 4 (fun _ => 0)), (q40, aI en 240 (fun _ => 0)), (q41, aI en 60 (fun _ => 0)), (q42, aI en 96 (fun _ => 0)), (q43, aI en 2 (fun _ => 0)), (q44, aI en 36 (fun _ => 0)), (q45, aI en 40 (fun _ => 0))]) 0 C dX7_init_63 ffX7_31_6 rfl rfl rfl (Nat.le_of_ble_eq_true rfl) rfl ?_
  refine y_aload_n 0 dX7_init_66 rfl ?_
  refine y_bipush dX7_init_67 rfl ?_
  refine y_newI (n := 6) dX7_init_69 rfl (by decide) (by decide) (by decide) (fun q46 => ?_)
  refine Y.eqw (ws2 := [(h0, .inr (6, [.ref q38, .ref q39, .ref q40, .ref q41, vi 0, .ref q42, .ref q43, vi 0, .ref q44, vi 0, .ref q45, .null, .null, .null, .null, .null, vi 0, .null, .null, vi 0])), (q38, aI en 4 (fun _ => 0)), (q39, aI en 4 (fun _ => 0)), (q40, aI en 240 (fun _ => 0)), (q41, aI en 60 (fun _ => 0)), (q42, aI en 96 (fun _ => 0)), (q43, aI en 2 (fun _ => 0)), (q44, aI en 36 (fun _ => 0)), (q45, aI en 40 (fun _ => 0)), (q46, aI en 6 (fun _ => 0))]) rfl ?_
  refine Y.eqc (a := 9) (b := 488) rfl rfl ?_
  refine y_putF (ws2 := [(h0, .inr (6, [.ref q38, .ref q39, .ref q40, .ref q41, vi 0, .ref q42, .ref q43, vi 0, .ref q44, vi 0, .ref q45, .ref q46, .null, .null, .null, .null, vi 0, .null, .null, vi 0])), (q38, aI en 4 (fun _ => 0)), (q39, aI en 4 (fun _ => 0)), (q40, aI en 240 (fun _ => 0)), (q41, aI en 60 (fun _ => 0)), (q42, aI en 96 (fun _ => 0)), (q43, aI en 2 (fun _ => 0)), (q44, aI en 36 (fun _ => 0)), (q45, aI en 40 (fun _ => 0)), (q46, aI en 6 (fun _ => 0))]) 0 C dX7_init_71 ffX7_34_6 rfl rfl rfl (Nat.le_of_ble_eq_true rfl) rfl ?_
  refine y_aload_n 0 dX7_init_74 rfl ?_
  refine y_bipush dX7_init_75 rfl ?_
  refine y_newI (n := 64) dX7_init_77 rfl (by decide) (by decide) (by decide) (fun q47 => ?_)
  refine Y.eqw (ws2 := [(h0, .inr (6, [.ref q38, .ref q39, .ref q40, .ref q41, vi 0, .ref q42, .ref q43, vi 0, .ref q44, vi 0, .ref q45, .ref q46, .null, .null, .null, .null, vi 0, .null, .null, vi 0])), (q38, aI en 4 (fun _ => 0)), (q39, aI en 4 (fun _ => 0)), (q40, aI en 240 (fun _ => 0)), (q41, aI en 60 (fun _ => 0)), (q42, aI en 96 (fun _ => 0)), (q43, aI en 2 (fun _ => 0)), (q44, aI en 36 (fun _ => 0)), (q45, aI en 40 (fun _ => 0)), (q46, aI en 6 (fun _ => 0)), (q47, aI en 64 (fun _ => 0))]) rfl ?_
  refine Y.eqc (a := 10) (b := 552) rfl rfl ?_
  refine y_putF (ws2 := [(h0, .inr (6, [.ref q38, .ref q39, .ref q40, .ref q41, vi 0, .ref q42, .ref q43, vi 0, .ref q44, vi 0, .ref q45, .ref q46, .ref q47, .null, .null, .null, vi 0, .null, .null, vi 0])), (q38, aI en 4 (fun _ => 0)), (q39, aI en 4 (fun _ => 0)), (q40, aI en 240 (fun _ => 0)), (q41, aI en 60 (fun _ => 0)), (q42, aI en 96 (fun _ => 0)), (q43, aI en 2 (fun _ => 0)), (q44, aI en 36 (fun _ => 0)), (q45, aI en 40 (fun _ => 0)), (q46, aI en 6 (fun _ => 0)), (q47, aI en 64 (fun _ => 0))]) 0 C dX7_init_79 ffX7_37_6 rfl rfl rfl (Nat.le_of_ble_eq_true rfl) rfl ?_
  refine y_aload_n 0 dX7_init_82 rfl ?_
  refine y_bipush dX7_init_83 rfl ?_
  refine y_newI (n := 8) dX7_init_85 rfl (by decide) (by decide) (by decide) (fun q48 => ?_)
  refine Y.eqw (ws2 := [(h0, .inr (6, [.ref q38, .ref q39, .ref q40, .ref q41, vi 0, .ref q42, .ref q43, vi 0, .ref q44, vi 0, .ref q45, .ref q46, .ref q47, .null, .null, .null, vi 0, .null, .null, vi 0])), (q38, aI en 4 (fun _ => 0)), (q39, aI en 4 (fun _ => 0)), (q40, aI en 240 (fun _ => 0)), (q41, aI en 60 (fun _ => 0)), (q42, aI en 96 (fun _ => 0)), (q43, aI en 2 (fun _ => 0)), (q44, aI en 36 (fun _ => 0)), (q45, aI en 40 (fun _ => 0)), (q46, aI en 6 (fun _ => 0)), (q47, aI en 64 (fun _ => 0)), (q48, aI en 8 (fun _ => 0))]) rfl ?_
  refine Y.eqc (a := 11) (b := 560) rfl rfl ?_
  refine y_putF (ws2 := [(h0, .inr (6, [.ref q38, .ref q39, .ref q40, .ref q41, vi 0, .ref q42, .ref q43, vi 0, .ref q44, vi 0, .ref q45, .ref q46, .ref q47, .ref q48, .null, .null, vi 0, .null, .null, vi 0])), (q38, aI en 4 (fun _ => 0)), (q39, aI en 4 (fun _ => 0)), (q40, aI en 240 (fun _ => 0)), (q41, aI en 60 (fun _ => 0)), (q42, aI en 96 (fun _ => 0)), (q43, aI en 2 (fun _ => 0)), (q44, aI en 36 (fun _ => 0)), (q45, aI en 40 (fun _ => 0)), (q46, aI en 6 (fun _ => 0)), (q47, aI en 64 (fun _ => 0)), (q48, aI en 8 (fun _ => 0))]) 0 C dX7_init_87 ffX7_40_6 rfl rfl rfl (Nat.le_of_ble_eq_true rfl) rfl ?_
  refine y_aload_n 0 dX7_init_90 rfl ?_
  refine y_bipush dX7_init_91 rfl ?_
  refine y_newI (n := 8) dX7_init_93 rfl (by decide) (by decide) (by decide) (fun q49 => ?_)
  refine Y.eqw (ws2 := [(h0, .inr (6, [.ref q38, .ref q39, .ref q40, .ref q41, vi 0, .ref q42, .ref q43, vi 0, .ref q44, vi 0, .ref q45, .ref q46, .ref q47, .ref q48, .null, .null, vi 0, .null, .null, vi 0])), (q38, aI en 4 (fun _ => 0)), (q39, aI en 4 (fun _ => 0)), (q40, aI en 240 (fun _ => 0)), (q41, aI en 60 (fun _ => 0)), (q42, aI en 96 (fun _ => 0)), (q43, aI en 2 (fun _ => 0)), (q44, aI en 36 (fun _ => 0)), (q45, aI en 40 (fun _ => 0)), (q46, aI en 6 (fun _ => 0)), (q47, aI en 64 (fun _ => 0)), (q48, aI en 8 (fun _ => 0)), (q49, aI en 8 (fun _ => 0))]) rfl ?_
  refine Y.eqc (a := 12) (b := 568) rfl rfl ?_
  refine y_putF (ws2 := [(h0, .inr (6, [.ref q38, .ref q39, .ref q40, .ref q41, vi 0, .ref q42, .ref q43, vi 0, .ref q44, vi 0, .ref q45, .ref q46, .ref q47, .ref q48, .ref q49, .null, vi 0, .null, .null, vi 0])), (q38, aI en 4 (fun _ => 0)), (q39, aI en 4 (fun _ => 0)), (q40, aI en 240 (fun _ => 0)), (q41, aI en 60 (fun _ => 0)), (q42, aI en 96 (fun _ => 0)), (q43, aI en 2 (fun _ => 0)), (q44, aI en 36 (fun _ => 0)), (q45, aI en 40 (fun _ => 0)), (q46, aI en 6 (fun _ => 0)), (q47, aI en 64 (fun _ => 0)), (q48, aI en 8 (fun _ => 0)), (q49, aI en 8 (fun _ => 0))]) 0 C dX7_init_95 ffX7_43_6 rfl rfl rfl (Nat.le_of_ble_eq_true rfl) rfl ?_
  refine y_aload_n 0 dX7_init_98 rfl ?_
  refine y_bipush dX7_init_99 rfl ?_
  refine y_newI (n := 8) dX7_init_101 rfl (by decide) (by decide) (by decide) (fun q50 => ?_)
  refine Y.eqw (ws2 := [(h0, .inr (6, [.ref q38, .ref q39, .ref q40, .ref q41, vi 0, .ref q42, .ref q43, vi 0, .ref q44, vi 0, .ref q45, .ref q46, .ref q47, .ref q48, .ref q49, .null, vi 0, .null, .null, vi 0])), (q38, aI en 4 (fun _ => 0)), (q39, aI en 4 (fun _ => 0)), (q40, aI en 240 (fun _ => 0)), (q41, aI en 60 (fun _ => 0)), (q42, aI en 96 (fun _ => 0)), (q43, aI en 2 (fun _ => 0)), (q44, aI en 36 (fun _ => 0)), (q45, aI en 40 (fun _ => 0)), (q46, aI en 6 (fun _ => 0)), (q47, aI en 64 (fun _ => 0)), (q48, aI en 8 (fun _ => 0)), (q49, aI en 8 (fun _ => 0)), (q50, aI en 8 (fun _ => 0))]) rfl ?_
  refine Y.eqc (a := 13) (b := 576) rfl rfl ?_
  refine y_putF (ws2 := [(h0, .inr (6, [.ref q38, .ref q39, .ref q40, .ref q41, vi 0, .ref q42, .ref q43, vi 0, .ref q44, vi 0, .ref q45, .ref q46, .ref q47, .ref q48, .ref q49, .ref q50, vi 0, .null, .null, vi 0])), (q38, aI en 4 (fun _ => 0)), (q39, aI en 4 (fun _ => 0)), (q40, aI en 240 (fun _ => 0)), (q41, aI en 60 (fun _ => 0)), (q42, aI en 96 (fun _ => 0)), (q43, aI en 2 (fun _ => 0)), (q44, aI en 36 (fun _ => 0)), (q45, aI en 40 (fun _ => 0)), (q46, aI en 6 (fun _ => 0)), (q47, aI en 64 (fun _ => 0)), (q48, aI en 8 (fun _ => 0)), (q49, aI en 8 (fun _ => 0)), (q50, aI en 8 (fun _ => 0))]) 0 C dX7_init_103 ffX7_46_6 rfl rfl rfl (Nat.le_of_ble_eq_true rfl) rfl ?_
  refine y_aload_n 0 dX7_init_106 rfl ?_
  refine y_bipush dX7_init_107 rfl ?_
  refine y_newI (n := 16) dX7_init_109 rfl (by decide) (by decide) (by decide) (fun q51 => ?_)
  refine Y.eqw (ws2 := [(h0, .inr (6, [.ref q38, .ref q39, .ref q40, .ref q41, vi 0, .ref q42, .ref q43, vi 0, .ref q44, vi 0, .ref q45, .ref q46, .ref q47, .ref q48, .ref q49, .ref q50, vi 0, .null, .null, vi 0])), (q38, aI en 4 (fun _ => 0)), (q39, aI en 4 (fun _ => 0)), (q40, aI en 240 (fun _ => 0)), (q41, aI en 60 (fun _ => 0)), (q42, aI en 96 (fun _ => 0)), (q43, aI en 2 (fun _ => 0)), (q44, aI en 36 (fun _ => 0)), (q45, aI en 40 (fun _ => 0)), (q46, aI en 6 (fun _ => 0)), (q47, aI en 64 (fun _ => 0)), (q48, aI en 8 (fun _ => 0)), (q49, aI en 8 (fun _ => 0)), (q50, aI en 8 (fun _ => 0)), (q51, aI en 16 (fun _ => 0))]) rfl ?_
  refine Y.eqc (a := 14) (b := 592) rfl rfl ?_
  refine y_putF (ws2 := [(h0, .inr (6, [.ref q38, .ref q39, .ref q40, .ref q41, vi 0, .ref q42, .ref q43, vi 0, .ref q44, vi 0, .ref q45, .ref q46, .ref q47, .ref q48, .ref q49, .ref q50, vi 0, .ref q51, .null, vi 0])), (q38, aI en 4 (fun _ => 0)), (q39, aI en 4 (fun _ => 0)), (q40, aI en 240 (fun _ => 0)), (q41, aI en 60 (fun _ => 0)), (q42, aI en 96 (fun _ => 0)), (q43, aI en 2 (fun _ => 0)), (q44, aI en 36 (fun _ => 0)), (q45, aI en 40 (fun _ => 0)), (q46, aI en 6 (fun _ => 0)), (q47, aI en 64 (fun _ => 0)), (q48, aI en 8 (fun _ => 0)), (q49, aI en 8 (fun _ => 0)), (q50, aI en 8 (fun _ => 0)), (q51, aI en 16 (fun _ => 0))]) 0 C dX7_init_111 ffX7_49_6 rfl rfl rfl (Nat.le_of_ble_eq_true rfl) rfl ?_
  refine y_aload_n 0 dX7_init_114 rfl ?_
  refine y_bipush dX7_init_115 rfl ?_
  refine y_newI (n := 8) dX7_init_117 rfl (by decide) (by decide) (by decide) (fun q52 => ?_)
  refine Y.eqw (ws2 := [(h0, .inr (6, [.ref q38, .ref q39, .ref q40, .ref q41, vi 0, .ref q42, .ref q43, vi 0, .ref q44, vi 0, .ref q45, .ref q46, .ref q47, .ref q48, .ref q49, .ref q50, vi 0, .ref q51, .null, vi 0])), (q38, aI en 4 (fun _ => 0)), (q39, aI en 4 (fun _ => 0)), (q40, aI en 240 (fun _ => 0)), (q41, aI en 60 (fun _ => 0)), (q42, aI en 96 (fun _ => 0)), (q43, aI en 2 (fun _ => 0)), (q44, aI en 36 (fun _ => 0)), (q45, aI en 40 (fun _ => 0)), (q46, aI en 6 (fun _ => 0)), (q47, aI en 64 (fun _ => 0)), (q48, aI en 8 (fun _ => 0)), (q49, aI en 8 (fun _ => 0)), (q50, aI en 8 (fun _ => 0)), (q51, aI en 16 (fun _ => 0)), (q52, aI en 8 (fun _ => 0))]) rfl ?_
  refine Y.eqc (a := 15) (b := 600) rfl rfl ?_
  refine y_putF (ws2 := [(h0, .inr (6, [.ref q38, .ref q39, .ref q40, .ref q41, vi 0, .ref q42, .ref q43, vi 0, .ref q44, vi 0, .ref q45, .ref q46, .ref q47, .ref q48, .ref q49, .ref q50, vi 0, .ref q51, .ref q52, vi 0])), (q38, aI en 4 (fun _ => 0)), (q39, aI en 4 (fun _ => 0)), (q40, aI en 240 (fun _ => 0)), (q41, aI en 60 (fun _ => 0)), (q42, aI en 96 (fun _ => 0)), (q43, aI en 2 (fun _ => 0)), (q44, aI en 36 (fun _ => 0)), (q45, aI en 40 (fun _ => 0)), (q46, aI en 6 (fun _ => 0)), (q47, aI en 64 (fun _ => 0)), (q48, aI en 8 (fun _ => 0)), (q49, aI en 8 (fun _ => 0)), (q50, aI en 8 (fun _ => 0)), (q51, aI en 16 (fun _ => 0)), (q52, aI en 8 (fun _ => 0))]) 0 C dX7_init_119 ffX7_52_6 rfl rfl rfl (Nat.le_of_ble_eq_true rfl) rfl ?_
  refine y_iconst dX7_init_122 ?_
  refine y_istore_n [(0, .ref h0), (1, vi 0)] [1, 0] dX7_init_123 (by decide) rfl ?_
  refine y_iload_n 1 dX7_init_124 rfl ?_
  refine y_iconst dX7_init_125 ?_
  refine y_icmp_ge (tgt := 142) dX7_init_126 rfl (by decide) (fun z => absurd z (by decide)) (fun _ => ?_)
  refine y_aload_n 0 dX7_init_129 rfl ?_
  refine y_get 0 dX7_init_130 fX7_7_6 rfl rfl ?_
  refine y_iload_n 1 dX7_init_133 rfl ?_
  refine y_iconst dX7_init_134 ?_
  refine y_iast (ws2 := [(h0, .inr (6, [.ref q38, .ref q39, .ref q40, .ref q41, vi 0, .ref q42, .ref q43, vi 0, .ref q44, vi 0, .ref q45, .ref q46, .ref q47, .ref q48, .ref q49, .ref q50, vi 0, .ref q51, .ref q52, vi 0])), (q38, aI en 4 (up (fun _ => 0) 0 (-1))), (q39, aI en 4 (fun _ => 0)), (q40, aI en 240 (fun _ => 0)), (q41, aI en 60 (fun _ => 0)), (q42, aI en 96 (fun _ => 0)), (q43, aI en 2 (fun _ => 0)), (q44, aI en 36 (fun _ => 0)), (q45, aI en 40 (fun _ => 0)), (q46, aI en 6 (fun _ => 0)), (q47, aI en 64 (fun _ => 0)), (q48, aI en 8 (fun _ => 0)), (q49, aI en 8 (fun _ => 0)), (q50, aI en 8 (fun _ => 0)), (q51, aI en 16 (fun _ => 0)), (q52, aI en 8 (fun _ => 0))]) 1 dX7_init_135 rfl (by decide) (by decide) rfl ?_
  refine y_iinc (y := 1) [(0, .ref h0), (1, vi 1)] [1, 0] 1 dX7_init_136 rfl (by decide) (by decide) rfl ?_
  refine y_goto (tgt := 124) dX7_init_139 rfl ?_
  refine y_iload_n 1 dX7_init_124 rfl ?_
  refine y_iconst dX7_init_125 ?_
  refine y_icmp_ge (tgt := 142) dX7_init_126 rfl (by decide) (fun z => absurd z (by decide)) (fun _ => ?_)
  refine y_aload_n 0 dX7_init_129 rfl ?_
  refine y_get 0 dX7_init_130 fX7_7_6 rfl rfl ?_
  refine y_iload_n 1 dX7_init_133 rfl ?_
  refine y_iconst dX7_init_134 ?_
  refine y_iast (ws2 := [(h0, .inr (6, [.ref q38, .ref q39, .ref q40, .ref q41, vi 0, .ref q42, .ref q43, vi 0, .ref q44, vi 0, .ref q45, .ref q46, .ref q47, .ref q48, .ref q49, .ref q50, vi 0, .ref q51, .ref q52, vi 0])), (q38, aI en 4 (up (up (fun _ => 0) 0 (-1)) 1 (-1))), (q39, aI en 4 (fun _ => 0)), (q40, aI en 240 (fun _ => 0)), (q41, aI en 60 (fun _ => 0)), (q42, aI en 96 (fun _ => 0)), (q43, aI en 2 (fun _ => 0)), (q44, aI en 36 (fun _ => 0)), (q45, aI en 40 (fun _ => 0)), (q46, aI en 6 (fun _ => 0)), (q47, aI en 64 (fun _ => 0)), (q48, aI en 8 (fun _ => 0)), (q49, aI en 8 (fun _ => 0)), (q50, aI en 8 (fun _ => 0)), (q51, aI en 16 (fun _ => 0)), (q52, aI en 8 (fun _ => 0))]) 1 dX7_init_135 rfl (by decide) (by decide) rfl ?_
  refine y_iinc (y := 2) [(0, .ref h0), (1, vi 2)] [1, 0] 1 dX7_init_136 rfl (by decide) (by decide) rfl ?_
  refine y_goto (tgt := 124) dX7_init_139 rfl ?_
  refine y_iload_n 1 dX7_init_124 rfl ?_
  refine y_iconst dX7_init_125 ?_
  refine y_icmp_ge (tgt := 142) dX7_init_126 rfl (by decide) (fun z => absurd z (by decide)) (fun _ => ?_)
  refine y_aload_n 0 dX7_init_129 rfl ?_
  refine y_get 0 dX7_init_130 fX7_7_6 rfl rfl ?_
  refine y_iload_n 1 dX7_init_133 rfl ?_
  refine y_iconst dX7_init_134 ?_
  refine y_iast (ws2 := [(h0, .inr (6, [.ref q38, .ref q39, .ref q40, .ref q41, vi 0, .ref q42, .ref q43, vi 0, .ref q44, vi 0, .ref q45, .ref q46, .ref q47, .ref q48, .ref q49, .ref q50, vi 0, .ref q51, .ref q52, vi 0])), (q38, aI en 4 (up (up (up (fun _ => 0) 0 (-1)) 1 (-1)) 2 (-1))), (q39, aI en 4 (fun _ => 0)), (q40, aI en 240 (fun _ => 0)), (q41, aI en 60 (fun _ => 0)), (q42, aI en 96 (fun _ => 0)), (q43, aI en 2 (fun _ => 0)), (q44, aI en 36 (fun _ => 0)), (q45, aI en 40 (fun _ => 0)), (q46, aI en 6 (fun _ => 0)), (q47, aI en 64 (fun _ => 0)), (q48, aI en 8 (fun _ => 0)), (q49, aI en 8 (fun _ => 0)), (q50, aI en 8 (fun _ => 0)), (q51, aI en 16 (fun _ => 0)), (q52, aI en 8 (fun _ => 0))]) 1 dX7_init_135 rfl (by decide) (by decide) rfl ?_
  refine y_iinc (y := 3) [(0, .ref h0), (1, vi 3)] [1, 0] 1 dX7_init_136 rfl (by decide) (by decide) rfl ?_
  refine y_goto (tgt := 124) dX7_init_139 rfl ?_
  refine y_iload_n 1 dX7_init_124 rfl ?_
  refine y_iconst dX7_init_125 ?_
  refine y_icmp_ge (tgt := 142) dX7_init_126 rfl (by decide) (fun z => absurd z (by decide)) (fun _ => ?_)
  refine y_aload_n 0 dX7_init_129 rfl ?_
  refine y_get 0 dX7_init_130 fX7_7_6 rfl rfl ?_
  refine y_iload_n 1 dX7_init_133 rfl ?_
  refine y_iconst dX7_init_134 ?_
  refine y_iast (ws2 := [(h0, .inr (6, [.ref q38, .ref q39, .ref q40, .ref q41, vi 0, .ref q42, .ref q43, vi 0, .ref q44, vi 0, .ref q45, .ref q46, .ref q47, .ref q48, .ref q49, .ref q50, vi 0, .ref q51, .ref q52, vi 0])), (q38, aI en 4 (up (up (up (up (fun _ => 0) 0 (-1)) 1 (-1)) 2 (-1)) 3 (-1))), (q39, aI en 4 (fun _ => 0)), (q40, aI en 240 (fun _ => 0)), (q41, aI en 60 (fun _ => 0)), (q42, aI en 96 (fun _ => 0)), (q43, aI en 2 (fun _ => 0)), (q44, aI en 36 (fun _ => 0)), (q45, aI en 40 (fun _ => 0)), (q46, aI en 6 (fun _ => 0)), (q47, aI en 64 (fun _ => 0)), (q48, aI en 8 (fun _ => 0)), (q49, aI en 8 (fun _ => 0)), (q50, aI en 8 (fun _ => 0)), (q51, aI en 16 (fun _ => 0)), (q52, aI en 8 (fun _ => 0))]) 1 dX7_init_135 rfl (by decide) (by decide) rfl ?_
  refine y_iinc (y := 4) [(0, .ref h0), (1, vi 4)] [1, 0] 1 dX7_init_136 rfl (by decide) (by decide) rfl ?_
  refine y_goto (tgt := 124) dX7_init_139 rfl ?_
  refine y_iload_n 1 dX7_init_124 rfl ?_
  refine y_iconst dX7_init_125 ?_
  refine y_icmp_ge (tgt := 142) dX7_init_126 rfl (by decide) (fun _ => ?_) (fun z => absurd z (by decide))
  exact y_vret C dX7_init_142 (by decide) (by decide) ⟨q38, q39, q40, q41, q42, q43, q44, q45, q46, q47, q48, q49, q50, q51, q52, rfl⟩
