abbrev rmX1_copyFrom : Room := { frames := 1, cells := 0, slots := 0, locals := 22 }
theorem hvX1_copyFrom : yX1_copyFrom.cls = RX1 ∧ yX1_copyFrom.cls ≠ "java/lang/invoke/MethodHandle" ∧ yX1_copyFrom.cls ≠ "java/lang/invoke/VarHandle" ∧ (parseMethodDescriptor yX1_copyFrom.desc).map (fun d => d.parameters.length) = some 1 := by decide +kernel
set_option maxRecDepth 100000 in
set_option maxHeartbeats 4000000 in
theorem kX1_copyFrom (Θ : Tht) (F : Nat) (d0 d1 d2 d3 o0 o1 o2 o3 : Nat) (d_columns : Int32) (d_rows : Int32) (d_carrier : Int32) (d_partMarks : Int64) (d_linkMarks : Int64) (d_operations : Int32) (d_pilots : Int32) (d_settings : Nat → Int32) (d_facts : Nat → Int32) (d_cells : Nat → Int64) (o_columns : Int32) (o_rows : Int32) (o_carrier : Int32) (o_partMarks : Int64) (o_linkMarks : Int64) (o_operations : Int32) (o_pilots : Int32) (o_settings : Nat → Int32) (o_facts : Nat → Int32) (o_cells : Nat → Int64) (o_d_columns : Int32) (o_d_rows : Int32) (o_d_carrier : Int32) (o_d_partMarks : Int64) (o_d_linkMarks : Int64) (o_d_operations : Int32) (o_d_pilots : Int32) (o_d_settings : Nat → Int32) (o_d_facts : Nat → Int32) (o_d_cells : Nat → Int64) (hf : fX1_copyFrom F d_settings d_facts d_cells o_columns o_rows o_carrier o_partMarks o_linkMarks o_operations o_pilots o_settings o_facts o_cells = some (o_d_columns, o_d_rows, o_d_carrier, o_d_partMarks, o_d_linkMarks, o_d_operations, o_d_pilots, o_d_settings, o_d_facts, o_d_cells)) : Fn Θ yX1_copyFrom (Cond.code yX1_copyFrom cX1_copyFrom 2 none :: GW) rmX1_copyFrom [.ref d0, .ref o0] (wX1 Θ d0 d1 d2 d3 d_columns d_rows d_carrier d_partMarks d_linkMarks d_operations d_pilots d_settings d_facts d_cells ++ wX1 Θ o0 o1 o2 o3 o_columns o_rows o_carrier o_partMarks o_linkMarks o_operations o_pilots o_settings o_facts o_cells) none (wX1 Θ d0 d1 d2 d3 o_d_columns o_d_rows o_d_carrier o_d_partMarks o_d_linkMarks o_d_operations o_d_pilots o_d_settings o_d_facts o_d_cells ++ wX1 Θ o0 o1 o2 o3 o_columns o_rows o_carrier o_partMarks o_linkMarks o_operations o_pilots o_settings o_facts o_cells) := by
  delta fX1_copyFrom at hf
  refine Fn.of (by decide +kernel) rfl (Nat.le_of_ble_eq_true rfl) (fun p e s m args below meth c A Q G K => ?_)
  show sw Θ p e rmX1_copyFrom s m args below meth c A Q 2 0 0 0 [(0, .ref d0), (1, .ref o0)] [] (wX1 Θ d0 d1 d2 d3 d_columns d_rows d_carrier d_partMarks d_linkMarks d_operations d_pilots d_settings d_facts d_cells ++ wX1 Θ o0 o1 o2 o3 o_columns o_rows o_carrier o_partMarks o_linkMarks o_operations o_pilots o_settings o_facts o_cells)
  refine sw_aload_n 0 G dX1_copyFrom_0 0 rfl ?_
  refine sw_aload_n 1 G dX1_copyFrom_1 1 rfl ?_
  refine sw_get 2 G hnX1 4 0 dX1_copyFrom_2 vc1 (by decide) (List.mem_cons_of_mem _ lk_c5f4e1a9) rfl rfl ?_
  refine sw_put 5 G hnX1 tyX1_ok nmX1 0 0 (wX1 Θ d0 d1 d2 d3 o_columns d_rows d_carrier d_partMarks d_linkMarks d_operations d_pilots d_settings d_facts d_cells ++ wX1 Θ o0 o1 o2 o3 o_columns o_rows o_carrier o_partMarks o_linkMarks o_operations o_pilots o_settings o_facts o_cells) dX1_copyFrom_5 vc1 (by decide) (List.mem_cons_of_mem _ lk_c5f4e1a9) rfl rfl (Nat.le_of_ble_eq_true rfl) (tyX1_ok 0 (by decide)) rfl rfl rfl ?_
  refine sw_aload_n 8 G dX1_copyFrom_8 0 rfl ?_
  refine sw_aload_n 9 G dX1_copyFrom_9 1 rfl ?_
  refine sw_get 10 G hnX1 4 1 dX1_copyFrom_10 vc1 (by decide) (List.mem_cons_of_mem _ lk_2d45b2b9) rfl rfl ?_
  refine sw_put 13 G hnX1 tyX1_ok nmX1 0 1 (wX1 Θ d0 d1 d2 d3 o_columns o_rows d_carrier d_partMarks d_linkMarks d_operations d_pilots d_settings d_facts d_cells ++ wX1 Θ o0 o1 o2 o3 o_columns o_rows o_carrier o_partMarks o_linkMarks o_operations o_pilots o_settings o_facts o_cells) dX1_copyFrom_13 vc1 (by decide) (List.mem_cons_of_mem _ lk_2d45b2b9) rfl rfl (Nat.le_of_ble_eq_true rfl) (tyX1_ok 1 (by decide)) rfl rfl rfl ?_
  refine sw_aload_n 16 G dX1_copyFrom_16 0 rfl ?_
  refine sw_aload_n 17 G dX1_copyFrom_17 1 rfl ?_
  refine sw_get 18 G hnX1 4 2 dX1_copyFrom_18 vc1 (by decide) (List.mem_cons_of_mem _ lk_a776837e) rfl rfl ?_
  refine sw_put 21 G hnX1 tyX1_ok nmX1 0 2 (wX1 Θ d0 d1 d2 d3 o_columns o_rows o_carrier d_partMarks d_linkMarks d_operations d_pilots d_settings d_facts d_cells ++ wX1 Θ o0 o1 o2 o3 o_columns o_rows o_carrier o_partMarks o_linkMarks o_operations o_pilots o_settings o_facts o_cells) dX1_copyFrom_21 vc1 (by decide) (List.mem_cons_of_mem _ lk_a776837e) rfl rfl (Nat.le_of_ble_eq_true rfl) (tyX1_ok 2 (by decide)) rfl rfl rfl ?_
  refine sw_aload_n 24 G dX1_copyFrom_24 0 rfl ?_
  refine sw_aload_n 25 G dX1_copyFrom_25 1 rfl ?_
  refine sw_get 26 G hnX1 4 3 dX1_copyFrom_26 vc1 (by decide) (List.mem_cons_of_mem _ lk_527a7e63) rfl rfl ?_
  refine sw_put 29 G hnX1 tyX1_ok nmX1 0 3 (wX1 Θ d0 d1 d2 d3 o_columns o_rows o_carrier o_partMarks d_linkMarks d_operations d_pilots d_settings d_facts d_cells ++ wX1 Θ o0 o1 o2 o3 o_columns o_rows o_carrier o_partMarks o_linkMarks o_operations o_pilots o_settings o_facts o_cells) dX1_copyFrom_29 vc1 (by decide) (List.mem_cons_of_mem _ lk_527a7e63) rfl rfl (Nat.le_of_ble_eq_true rfl) (tyX1_ok 3 (by decide)) rfl rfl rfl ?_
  refine sw_aload_n 32 G dX1_copyFrom_32 0 rfl ?_
  refine sw_aload_n 33 G dX1_copyFrom_33 1 rfl ?_
  refine sw_get 34 G hnX1 4 4 dX1_copyFrom_34 vc1 (by decide) (List.mem_cons_of_mem _ lk_6f9393db) rfl rfl ?_
  refine sw_put 37 G hnX1 tyX1_ok nmX1 0 4 (wX1 Θ d0 d1 d2 d3 o_columns o_rows o_carrier o_partMarks o_linkMarks d_operations d_pilots d_settings d_facts d_cells ++ wX1 Θ o0 o1 o2 o3 o_columns o_rows o_carrier o_partMarks o_linkMarks o_operations o_pilots o_settings o_facts o_cells) dX1_copyFrom_37 vc1 (by decide) (List.mem_cons_of_mem _ lk_6f9393db) rfl rfl (Nat.le_of_ble_eq_true rfl) (tyX1_ok 4 (by decide)) rfl rfl rfl ?_
  refine sw_aload_n 40 G dX1_copyFrom_40 0 rfl ?_
  refine sw_aload_n 41 G dX1_copyFrom_41 1 rfl ?_
  refine sw_get 42 G hnX1 4 5 dX1_copyFrom_42 vc1 (by decide) (List.mem_cons_of_mem _ lk_bded192f) rfl rfl ?_
  refine sw_put 45 G hnX1 tyX1_ok nmX1 0 5 (wX1 Θ d0 d1 d2 d3 o_columns o_rows o_carrier o_partMarks o_linkMarks o_operations d_pilots d_settings d_facts d_cells ++ wX1 Θ o0 o1 o2 o3 o_columns o_rows o_carrier o_partMarks o_linkMarks o_operations o_pilots o_settings o_facts o_cells) dX1_copyFrom_45 vc1 (by decide) (List.mem_cons_of_mem _ lk_bded192f) rfl rfl (Nat.le_of_ble_eq_true rfl) (tyX1_ok 5 (by decide)) rfl rfl rfl ?_
  refine sw_aload_n 48 G dX1_copyFrom_48 0 rfl ?_
  refine sw_aload_n 49 G dX1_copyFrom_49 1 rfl ?_
  refine sw_get 50 G hnX1 4 6 dX1_copyFrom_50 vc1 (by decide) (List.mem_cons_of_mem _ lk_55395b45) rfl rfl ?_
  refine sw_put 53 G hnX1 tyX1_ok nmX1 0 6 (wX1 Θ d0 d1 d2 d3 o_columns o_rows o_carrier o_partMarks o_linkMarks o_operations o_pilots d_settings d_facts d_cells ++ wX1 Θ o0 o1 o2 o3 o_columns o_rows o_carrier o_partMarks o_linkMarks o_operations o_pilots o_settings o_facts o_cells) dX1_copyFrom_53 vc1 (by decide) (List.mem_cons_of_mem _ lk_55395b45) rfl rfl (Nat.le_of_ble_eq_true rfl) (tyX1_ok 6 (by decide)) rfl rfl rfl ?_
  refine sw_aload_n 56 G dX1_copyFrom_56 1 rfl ?_
  refine sw_get 57 G hnX1 4 7 dX1_copyFrom_57 vc1 (by decide) (List.mem_cons_of_mem _ lk_81f95497) rfl rfl ?_
  refine sw_aload_n 60 G dX1_copyFrom_60 0 rfl ?_
  refine sw_get 61 G hnX1 0 7 dX1_copyFrom_61 vc1 (by decide) (List.mem_cons_of_mem _ lk_81f95497) rfl rfl ?_
  obtain ⟨u1, hg, hf⟩ := bd1_some hf
  refine sw_callSN 64 G (wX1 Θ d0 d1 d2 d3 o_columns o_rows o_carrier o_partMarks o_linkMarks o_operations o_pilots u1 d_facts d_cells ++ wX1 Θ o0 o1 o2 o3 o_columns o_rows o_carrier o_partMarks o_linkMarks o_operations o_pilots o_settings o_facts o_cells) [5, 1] [0, 2, 3, 4, 6, 7] [0, 7, 1, 2, 3, 6, 4, 5] 2 dX1_copyFrom_64 (kX5_copyInts Θ F o1 d1 5 5 o_settings d_settings u1 hg) (gwN lk_73dda350) (List.mem_of_getElem? (i := 6) rfl) (List.mem_cons_of_mem _ lk_c5872254) (List.mem_cons_of_mem _ lk_8ee2523c) rfl hsX5_copyInts ⟨rfl, rfl⟩ ⟨Nat.le_of_ble_eq_true rfl, Nat.le_of_ble_eq_true rfl⟩ ⟨Nat.zero_le _, Nat.zero_le _⟩ rfl rfl (Nat.le_of_ble_eq_true rfl) rfl rfl rfl (by decide) ?_
  refine sw_aload_n 67 G dX1_copyFrom_67 1 rfl ?_
  refine sw_get 68 G hnX1 4 8 dX1_copyFrom_68 vc1 (by decide) (List.mem_cons_of_mem _ lk_d228bcbb) rfl rfl ?_
  refine sw_aload_n 71 G dX1_copyFrom_71 0 rfl ?_
  refine sw_get 72 G hnX1 0 8 dX1_copyFrom_72 vc1 (by decide) (List.mem_cons_of_mem _ lk_d228bcbb) rfl rfl ?_
  obtain ⟨u2, hg, hf⟩ := bd1_some hf
  refine sw_callSN 75 G (wX1 Θ d0 d1 d2 d3 o_columns o_rows o_carrier o_partMarks o_linkMarks o_operations o_pilots u1 u2 d_cells ++ wX1 Θ o0 o1 o2 o3 o_columns o_rows o_carrier o_partMarks o_linkMarks o_operations o_pilots o_settings o_facts o_cells) [6, 2] [0, 1, 3, 4, 5, 7] [0, 1, 7, 2, 3, 4, 6, 5] 2 dX1_copyFrom_75 (kX5_copyInts Θ F o2 d2 42 42 o_facts d_facts u2 hg) (gwN lk_73dda350) (List.mem_of_getElem? (i := 6) rfl) (List.mem_cons_of_mem _ lk_c5872254) (List.mem_cons_of_mem _ lk_8ee2523c) rfl hsX5_copyInts ⟨rfl, rfl⟩ ⟨Nat.le_of_ble_eq_true rfl, Nat.le_of_ble_eq_true rfl⟩ ⟨Nat.zero_le _, Nat.zero_le _⟩ rfl rfl (Nat.le_of_ble_eq_true rfl) rfl rfl rfl (by decide) ?_
  refine sw_aload_n 78 G dX1_copyFrom_78 1 rfl ?_
  refine sw_get 79 G hnX1 4 9 dX1_copyFrom_79 vc1 (by decide) (List.mem_cons_of_mem _ lk_7d3903e7) rfl rfl ?_
  refine sw_aload_n 82 G dX1_copyFrom_82 0 rfl ?_
  refine sw_get 83 G hnX1 0 9 dX1_copyFrom_83 vc1 (by decide) (List.mem_cons_of_mem _ lk_7d3903e7) rfl rfl ?_
  obtain ⟨u3, hg, hf⟩ := bd1_some hf
  refine sw_callSN 86 G (wX1 Θ d0 d1 d2 d3 o_columns o_rows o_carrier o_partMarks o_linkMarks o_operations o_pilots u1 u2 u3 ++ wX1 Θ o0 o1 o2 o3 o_columns o_rows o_carrier o_partMarks o_linkMarks o_operations o_pilots o_settings o_facts o_cells) [7, 3] [0, 1, 2, 4, 5, 6] [0, 1, 2, 7, 3, 4, 5, 6] 2 dX1_copyFrom_86 (kX5_copyLongs Θ F o3 d3 6 6 o_cells d_cells u3 hg) (gwN lk_aeba33e1) (List.mem_of_getElem? (i := 7) rfl) (List.mem_cons_of_mem _ lk_aa7a931f) (List.mem_cons_of_mem _ lk_4c9912ca) rfl hsX5_copyLongs ⟨rfl, rfl⟩ ⟨Nat.le_of_ble_eq_true rfl, Nat.le_of_ble_eq_true rfl⟩ ⟨Nat.zero_le _, Nat.zero_le _⟩ rfl rfl (Nat.le_of_ble_eq_true rfl) rfl rfl rfl (by decide) ?_
  cases hf
  exact sw_vret 89 G dX1_copyFrom_89 K
abbrev rmX1_startOver : Room := { frames := 0, cells := 0, slots := 0, locals := 0 }
theorem hvX1_startOver : yX1_startOver.cls = RX1 ∧ yX1_startOver.cls ≠ "java/lang/invoke/MethodHandle" ∧ yX1_startOver.cls ≠ "java/lang/invoke/VarHandle" ∧ (parseMethodDescriptor yX1_startOver.desc).map (fun d => d.parameters.length) = some 2 := by decide +kernel
set_option maxRecDepth 100000 in
set_option maxHeartbeats 4000000 in
theorem kX1_startOver (Θ : Tht) (d0 d1 d2 d3 : Nat) (d_columns : Int32) (d_rows : Int32) (d_carrier : Int32) (d_partMarks : Int64) (d_linkMarks : Int64) (d_operations : Int32) (d_pilots : Int32) (d_settings : Nat → Int32) (d_facts : Nat → Int32) (d_cells : Nat → Int64) (a0 : Int32) (a1 : Int32) (o_d_columns : Int32) (o_d_rows : Int32) (o_d_partMarks : Int64) (o_d_linkMarks : Int64) (o_d_operations : Int32) (o_d_pilots : Int32) (hf : fX1_startOver a0 a1 = some (o_d_columns, o_d_rows, o_d_partMarks, o_d_linkMarks, o_d_operations, o_d_pilots)) : Fn Θ yX1_startOver (Cond.code yX1_startOver cX1_startOver 3 none :: GW) rmX1_startOver [.ref d0, .int a0, .int a1] (wX1 Θ d0 d1 d2 d3 d_columns d_rows d_carrier d_partMarks d_linkMarks d_operations d_pilots d_settings d_facts d_cells) none (wX1 Θ d0 d1 d2 d3 o_d_columns o_d_rows d_carrier o_d_partMarks o_d_linkMarks o_d_operations o_d_pilots d_settings d_facts d_cells) := by
  delta fX1_startOver at hf
  refine Fn.of (by decide +kernel) rfl (Nat.le_of_ble_eq_true rfl) (fun p e s m args below meth c A Q G K => ?_)
  show sw Θ p e rmX1_startOver s m args below meth c A Q 3 0 0 0 [(0, .ref d0), (1, .int a0), (2, .int a1)] [] (wX1 Θ d0 d1 d2 d3 d_columns d_rows d_carrier d_partMarks d_linkMarks d_operations d_pilots d_settings d_facts d_cells)
  refine sw_aload_n 0 G dX1_startOver_0 0 rfl ?_
  refine sw_iload_n 1 G dX1_startOver_1 1 rfl ?_
  refine sw_put 2 G hnX1 tyX1_ok nmX1 0 0 (wX1 Θ d0 d1 d2 d3 a0 d_rows d_carrier d_partMarks d_linkMarks d_operations d_pilots d_settings d_facts d_cells) dX1_startOver_2 vc1 (by decide) (List.mem_cons_of_mem _ lk_c5f4e1a9) rfl rfl (Nat.le_of_ble_eq_true rfl) (tyX1_ok 0 (by decide)) rfl rfl rfl ?_
  refine sw_aload_n 5 G dX1_startOver_5 0 rfl ?_
  refine sw_iload_n 6 G dX1_startOver_6 2 rfl ?_
  refine sw_put 7 G hnX1 tyX1_ok nmX1 0 1 (wX1 Θ d0 d1 d2 d3 a0 a1 d_carrier d_partMarks d_linkMarks d_operations d_pilots d_settings d_facts d_cells) dX1_startOver_7 vc1 (by decide) (List.mem_cons_of_mem _ lk_2d45b2b9) rfl rfl (Nat.le_of_ble_eq_true rfl) (tyX1_ok 1 (by decide)) rfl rfl rfl ?_
  refine sw_aload_n 10 G dX1_startOver_10 0 rfl ?_
  refine sw_lconst 11 G (0 : Int64) dX1_startOver_11 rfl ?_
  refine sw_put 12 G hnX1 tyX1_ok nmX1 0 3 (wX1 Θ d0 d1 d2 d3 a0 a1 d_carrier (0 : Int64) d_linkMarks d_operations d_pilots d_settings d_facts d_cells) dX1_startOver_12 vc1 (by decide) (List.mem_cons_of_mem _ lk_527a7e63) rfl rfl (Nat.le_of_ble_eq_true rfl) (tyX1_ok 3 (by decide)) rfl rfl rfl ?_
  refine sw_aload_n 15 G dX1_startOver_15 0 rfl ?_
  refine sw_lconst 16 G (0 : Int64) dX1_startOver_16 rfl ?_
  refine sw_put 17 G hnX1 tyX1_ok nmX1 0 4 (wX1 Θ d0 d1 d2 d3 a0 a1 d_carrier (0 : Int64) (0 : Int64) d_operations d_pilots d_settings d_facts d_cells) dX1_startOver_17 vc1 (by decide) (List.mem_cons_of_mem _ lk_6f9393db) rfl rfl (Nat.le_of_ble_eq_true rfl) (tyX1_ok 4 (by decide)) rfl rfl rfl ?_
  refine sw_aload_n 20 G dX1_startOver_20 0 rfl ?_
  refine sw_iconst 21 G (0 : Int32) dX1_startOver_21 rfl ?_
  refine sw_put 22 G hnX1 tyX1_ok nmX1 0 5 (wX1 Θ d0 d1 d2 d3 a0 a1 d_carrier (0 : Int64) (0 : Int64) (0 : Int32) d_pilots d_settings d_facts d_cells) dX1_startOver_22 vc1 (by decide) (List.mem_cons_of_mem _ lk_bded192f) rfl rfl (Nat.le_of_ble_eq_true rfl) (tyX1_ok 5 (by decide)) rfl rfl rfl ?_
  refine sw_aload_n 25 G dX1_startOver_25 0 rfl ?_
  refine sw_iconst 26 G (0 : Int32) dX1_startOver_26 rfl ?_
  refine sw_put 27 G hnX1 tyX1_ok nmX1 0 6 (wX1 Θ d0 d1 d2 d3 a0 a1 d_carrier (0 : Int64) (0 : Int64) (0 : Int32) (0 : Int32) d_settings d_facts d_cells) dX1_startOver_27 vc1 (by decide) (List.mem_cons_of_mem _ lk_55395b45) rfl rfl (Nat.le_of_ble_eq_true rfl) (tyX1_ok 6 (by decide)) rfl rfl rfl ?_
  cases hf
  exact sw_vret 30 G dX1_startOver_30 K
abbrev rmX1_setting : Room := { frames := 0, cells := 0, slots := 0, locals := 0 }
theorem hvX1_setting : yX1_setting.cls = RX1 ∧ yX1_setting.cls ≠ "java/lang/invoke/MethodHandle" ∧ yX1_setting.cls ≠ "java/lang/invoke/VarHandle" ∧ (parseMethodDescriptor yX1_setting.desc).map (fun d => d.parameters.length) = some 1 := by decide +kernel
set_option maxRecDepth 100000 in
set_option maxHeartbeats 4000000 in
theorem kX1_setting (Θ : Tht) (d0 d1 d2 d3 : Nat) (d_columns : Int32) (d_rows : Int32) (d_carrier : Int32) (d_partMarks : Int64) (d_linkMarks : Int64) (d_operations : Int32) (d_pilots : Int32) (d_settings : Nat → Int32) (d_facts : Nat → Int32) (d_cells : Nat → Int64) (a0 : Int32) (ro : Int32) (hf : fX1_setting d_settings a0 = some ro) : Fn Θ yX1_setting (Cond.code yX1_setting cX1_setting 2 (some .int) :: GW) rmX1_setting [.ref d0, .int a0] (wX1 Θ d0 d1 d2 d3 d_columns d_rows d_carrier d_partMarks d_linkMarks d_operations d_pilots d_settings d_facts d_cells) (some (.int ro)) (wX1 Θ d0 d1 d2 d3 d_columns d_rows d_carrier d_partMarks d_linkMarks d_operations d_pilots d_settings d_facts d_cells) := by
  delta fX1_setting at hf
  refine Fn.of (by decide +kernel) rfl (Nat.le_of_ble_eq_true rfl) (fun p e s m args below meth c A Q G K => ?_)
  show sw Θ p e rmX1_setting s m args below meth c A Q 2 0 0 0 [(0, .ref d0), (1, .int a0)] [] (wX1 Θ d0 d1 d2 d3 d_columns d_rows d_carrier d_partMarks d_linkMarks d_operations d_pilots d_settings d_facts d_cells)
  refine sw_iload_n 0 G dX1_setting_0 1 rfl ?_
  refine sw_if_lt 1 22 G dX1_setting_1 rfl hf (fun hf => ?_) (fun hf => ?_)
  · refine sw_iconst 22 G (0 : Int32) dX1_setting_22 rfl ?_
    cases hf
    exact sw_iret 23 G dX1_setting_23 K
  · refine sw_iload_n 4 G dX1_setting_4 1 rfl ?_
    refine sw_aload_n 5 G dX1_setting_5 0 rfl ?_
    refine sw_get 6 G hnX1 0 7 dX1_setting_6 vc1 (by decide) (List.mem_cons_of_mem _ lk_81f95497) rfl rfl ?_
    refine sw_alen 9 G 1 1 (5 : Int32) dX1_setting_9 rfl rfl rfl ?_
    refine sw_icmp_ge 10 22 G dX1_setting_10 rfl hf (fun hf => ?_) (fun hf => ?_)
    · refine sw_iconst 22 G (0 : Int32) dX1_setting_22 rfl ?_
      cases hf
      exact sw_iret 23 G dX1_setting_23 K
    · refine sw_aload_n 13 G dX1_setting_13 0 rfl ?_
      refine sw_get 14 G hnX1 0 7 dX1_setting_14 vc1 (by decide) (List.mem_cons_of_mem _ lk_81f95497) rfl rfl ?_
      refine sw_iload_n 17 G dX1_setting_17 1 rfl ?_
      refine sw_iald 18 G 1 dX1_setting_18 rfl hf (fun hf => ?_)
      refine sw_goto 19 G 23 dX1_setting_19 rfl ?_
      cases hf
      exact sw_iret 23 G dX1_setting_23 K
abbrev rmX1_changeSetting : Room := { frames := 0, cells := 0, slots := 0, locals := 0 }
theorem hvX1_changeSetting : yX1_changeSetting.cls = RX1 ∧ yX1_changeSetting.cls ≠ "java/lang/invoke/MethodHandle" ∧ yX1_changeSetting.cls ≠ "java/lang/invoke/VarHandle" ∧ (parseMethodDescriptor yX1_changeSetting.desc).map (fun d => d.parameters.length) = some 2 := by decide +kernel
set_option maxRecDepth 100000 in
set_option maxHeartbeats 4000000 in
theorem kX1_changeSetting (Θ : Tht) (d0 d1 d2 d3 : Nat) (d_columns : Int32) (d_rows : Int32) (d_carrier : Int32) (d_partMarks : Int64) (d_linkMarks : Int64) (d_operations : Int32) (d_pilots : Int32) (d_settings : Nat → Int32) (d_facts : Nat → Int32) (d_cells : Nat → Int64) (a0 : Int32) (a1 : Int32) (o_d_settings : Nat → Int32) (hf : fX1_changeSetting d_settings a0 a1 = some o_d_settings) : Fn Θ yX1_changeSetting (Cond.code yX1_changeSetting cX1_changeSetting 3 none :: GW) rmX1_changeSetting [.ref d0, .int a0, .int a1] (wX1 Θ d0 d1 d2 d3 d_columns d_rows d_carrier d_partMarks d_linkMarks d_operations d_pilots d_settings d_facts d_cells) none (wX1 Θ d0 d1 d2 d3 d_columns d_rows d_carrier d_partMarks d_linkMarks d_operations d_pilots o_d_settings d_facts d_cells) := by
  delta fX1_changeSetting at hf
  refine Fn.of (by decide +kernel) rfl (Nat.le_of_ble_eq_true rfl) (fun p e s m args below meth c A Q G K => ?_)
  show sw Θ p e rmX1_changeSetting s m args below meth c A Q 3 0 0 0 [(0, .ref d0), (1, .int a0), (2, .int a1)] [] (wX1 Θ d0 d1 d2 d3 d_columns d_rows d_carrier d_partMarks d_linkMarks d_operations d_pilots d_settings d_facts d_cells)
  refine sw_iload_n 0 G dX1_changeSetting_0 1 rfl ?_
  refine sw_if_lt 1 20 G dX1_changeSetting_1 rfl hf (fun hf => ?_) (fun hf => ?_)
  · cases hf
    exact sw_vret 20 G dX1_changeSetting_20 K
  · refine sw_iload_n 4 G dX1_changeSetting_4 1 rfl ?_
    refine sw_aload_n 5 G dX1_changeSetting_5 0 rfl ?_
    refine sw_get 6 G hnX1 0 7 dX1_changeSetting_6 vc1 (by decide) (List.mem_cons_of_mem _ lk_81f95497) rfl rfl ?_
    refine sw_alen 9 G 1 1 (5 : Int32) dX1_changeSetting_9 rfl rfl rfl ?_
    refine sw_icmp_ge 10 20 G dX1_changeSetting_10 rfl hf (fun hf => ?_) (fun hf => ?_)
    · cases hf
      exact sw_vret 20 G dX1_changeSetting_20 K
    · refine sw_aload_n 13 G dX1_changeSetting_13 0 rfl ?_
      refine sw_get 14 G hnX1 0 7 dX1_changeSetting_14 vc1 (by decide) (List.mem_cons_of_mem _ lk_81f95497) rfl rfl ?_
      refine sw_iload_n 17 G dX1_changeSetting_17 1 rfl ?_
      refine sw_iload_n 18 G dX1_changeSetting_18 2 rfl ?_
      refine sw_iast 19 G 1 (wX1 Θ d0 d1 d2 d3 d_columns d_rows d_carrier d_partMarks d_linkMarks d_operations d_pilots (upd d_settings a0.toNatClampNeg a1) d_facts d_cells) dX1_changeSetting_19 rfl rfl hf (fun hf => ?_)
      cases hf
      exact sw_vret 20 G dX1_changeSetting_20 K
abbrev rmX1_hasPilot : Room := { frames := 1, cells := 0, slots := 0, locals := 21 }
theorem hvX1_hasPilot : yX1_hasPilot.cls = RX1 ∧ yX1_hasPilot.cls ≠ "java/lang/invoke/MethodHandle" ∧ yX1_hasPilot.cls ≠ "java/lang/invoke/VarHandle" ∧ (parseMethodDescriptor yX1_hasPilot.desc).map (fun d => d.parameters.length) = some 1 := by decide +kernel
set_option maxRecDepth 100000 in
set_option maxHeartbeats 4000000 in
theorem kX1_hasPilot (Θ : Tht) (d0 d1 d2 d3 : Nat) (d_columns : Int32) (d_rows : Int32) (d_carrier : Int32) (d_partMarks : Int64) (d_linkMarks : Int64) (d_operations : Int32) (d_pilots : Int32) (d_settings : Nat → Int32) (d_facts : Nat → Int32) (d_cells : Nat → Int64) (a0 : Int32) (ro : Int32) (hf : fX1_hasPilot d_pilots a0 = some ro) : Fn Θ yX1_hasPilot (Cond.code yX1_hasPilot cX1_hasPilot 2 (some .boolean) :: GW) rmX1_hasPilot [.ref d0, .int a0] (wX1 Θ d0 d1 d2 d3 d_columns d_rows d_carrier d_partMarks d_linkMarks d_operations d_pilots d_settings d_facts d_cells) (some (.int ro)) (wX1 Θ d0 d1 d2 d3 d_columns d_rows d_carrier d_partMarks d_linkMarks d_operations d_pilots d_settings d_facts d_cells) := by
  delta fX1_hasPilot at hf
  refine Fn.of (by decide +kernel) rfl (Nat.le_of_ble_eq_true rfl) (fun p e s m args below meth c A Q G K => ?_)
  show sw Θ p e rmX1_hasPilot s m args below meth c A Q 2 0 0 0 [(0, .ref d0), (1, .int a0)] [] (wX1 Θ d0 d1 d2 d3 d_columns d_rows d_carrier d_partMarks d_linkMarks d_operations d_pilots d_settings d_facts d_cells)
  refine sw_aload_n 0 G dX1_hasPilot_0 0 rfl ?_
  refine sw_get 1 G hnX1 0 6 dX1_hasPilot_1 vc1 (by decide) (List.mem_cons_of_mem _ lk_55395b45) rfl rfl ?_
  refine sw_iload_n 4 G dX1_hasPilot_4 1 rfl ?_
  obtain ⟨r1, hg, hf⟩ := bd1_some hf
  refine sw_callSN 5 G (wX1 Θ d0 d1 d2 d3 d_columns d_rows d_carrier d_partMarks d_linkMarks d_operations d_pilots d_settings d_facts d_cells) [] [0, 1, 2, 3] [0, 1, 2, 3] 2 dX1_hasPilot_5 (kX5_isIn Θ d_pilots a0 r1 hg) (gwN lk_9805779a) (List.mem_of_getElem? (i := 10) rfl) (List.mem_cons_of_mem _ lk_17fb23dc) (List.mem_cons_of_mem _ lk_b26544b5) rfl hsX5_isIn ⟨rfl, rfl⟩ ⟨Nat.le_of_ble_eq_true rfl, Nat.le_of_ble_eq_true rfl⟩ ⟨Nat.zero_le _, Nat.zero_le _⟩ rfl rfl (Nat.le_of_ble_eq_true rfl) rfl rfl rfl (by decide) ?_
  obtain ⟨hz, hf⟩ := gb_some hf
  cases hf
  exact sw_zret 8 G dX1_hasPilot_8 K hz
abbrev rmX1_changePilot : Room := { frames := 0, cells := 0, slots := 0, locals := 0 }
theorem hvX1_changePilot : yX1_changePilot.cls = RX1 ∧ yX1_changePilot.cls ≠ "java/lang/invoke/MethodHandle" ∧ yX1_changePilot.cls ≠ "java/lang/invoke/VarHandle" ∧ (parseMethodDescriptor yX1_changePilot.desc).map (fun d => d.parameters.length) = some 2 := by decide +kernel
set_option maxRecDepth 100000 in
set_option maxHeartbeats 4000000 in
theorem kX1_changePilot (Θ : Tht) (d0 d1 d2 d3 : Nat) (d_columns : Int32) (d_rows : Int32) (d_carrier : Int32) (d_partMarks : Int64) (d_linkMarks : Int64) (d_operations : Int32) (d_pilots : Int32) (d_settings : Nat → Int32) (d_facts : Nat → Int32) (d_cells : Nat → Int64) (a0 : Int32) (a1 : Int32) (o_d_pilots : Int32) (hf : fX1_changePilot d_pilots a0 a1 = some o_d_pilots) : Fn Θ yX1_changePilot (Cond.code yX1_changePilot cX1_changePilot 3 none :: GW) rmX1_changePilot [.ref d0, .int a0, .int a1] (wX1 Θ d0 d1 d2 d3 d_columns d_rows d_carrier d_partMarks d_linkMarks d_operations d_pilots d_settings d_facts d_cells) none (wX1 Θ d0 d1 d2 d3 d_columns d_rows d_carrier d_partMarks d_linkMarks d_operations o_d_pilots d_settings d_facts d_cells) := by
  delta fX1_changePilot at hf
  refine Fn.of (by decide +kernel) rfl (Nat.le_of_ble_eq_true rfl) (fun p e s m args below meth c A Q G K => ?_)
  show sw Θ p e rmX1_changePilot s m args below meth c A Q 3 0 0 0 [(0, .ref d0), (1, .int a0), (2, .int a1)] [] (wX1 Θ d0 d1 d2 d3 d_columns d_rows d_carrier d_partMarks d_linkMarks d_operations d_pilots d_settings d_facts d_cells)
  refine sw_aload_n 0 G dX1_changePilot_0 0 rfl ?_
  refine sw_iload_n 1 G dX1_changePilot_1 2 rfl ?_
  obtain ⟨v1, hj, hf⟩ := bd1_some hf
  have hx26 : sw Θ p e rmX1_changePilot s m args below meth c A Q 3 0 0 26 [] [.int v1, .ref d0] (wX1 Θ d0 d1 d2 d3 d_columns d_rows d_carrier d_partMarks d_linkMarks d_operations d_pilots d_settings d_facts d_cells) := by
    refine sw_put 26 G hnX1 tyX1_ok nmX1 0 6 (wX1 Θ d0 d1 d2 d3 d_columns d_rows d_carrier d_partMarks d_linkMarks d_operations v1 d_settings d_facts d_cells) dX1_changePilot_26 vc1 (by decide) (List.mem_cons_of_mem _ lk_55395b45) rfl rfl (Nat.le_of_ble_eq_true rfl) (tyX1_ok 6 (by decide)) rfl rfl rfl ?_
    cases hf
    exact sw_vret 29 G dX1_changePilot_29 K
  clear hf
  have hf := hj
  clear hj
  refine sw_if_eq 2 16 G dX1_changePilot_2 rfl hf (fun hf => ?_) (fun hf => ?_)
  · refine sw_aload_n 16 G dX1_changePilot_16 0 rfl ?_
    refine sw_get 17 G hnX1 0 6 dX1_changePilot_17 vc1 (by decide) (List.mem_cons_of_mem _ lk_55395b45) rfl rfl ?_
    refine sw_iconst 20 G (1 : Int32) dX1_changePilot_20 rfl ?_
    refine sw_iload_n 21 G dX1_changePilot_21 1 rfl ?_
    refine sw_ishl 22 G dX1_changePilot_22 ?_
    refine sw_iconst 23 G (-1 : Int32) dX1_changePilot_23 rfl ?_
    refine sw_ixor 24 G dX1_changePilot_24 ?_
    refine sw_iand 25 G dX1_changePilot_25 ?_
    cases hf
    exact sw_lv _ [] rfl hx26
  · refine sw_aload_n 5 G dX1_changePilot_5 0 rfl ?_
    refine sw_get 6 G hnX1 0 6 dX1_changePilot_6 vc1 (by decide) (List.mem_cons_of_mem _ lk_55395b45) rfl rfl ?_
    refine sw_iconst 9 G (1 : Int32) dX1_changePilot_9 rfl ?_
    refine sw_iload_n 10 G dX1_changePilot_10 1 rfl ?_
    refine sw_ishl 11 G dX1_changePilot_11 ?_
    refine sw_ior 12 G dX1_changePilot_12 ?_
    refine sw_goto 13 G 26 dX1_changePilot_13 rfl ?_
    cases hf
    exact sw_lv _ [] rfl hx26
abbrev rmX1_fact : Room := { frames := 0, cells := 0, slots := 0, locals := 0 }
theorem hvX1_fact : yX1_fact.cls = RX1 ∧ yX1_fact.cls ≠ "java/lang/invoke/MethodHandle" ∧ yX1_fact.cls ≠ "java/lang/invoke/VarHandle" ∧ (parseMethodDescriptor yX1_fact.desc).map (fun d => d.parameters.length) = some 2 := by decide +kernel
set_option maxRecDepth 100000 in
set_option maxHeartbeats 4000000 in
theorem kX1_fact (Θ : Tht) (d0 d1 d2 d3 : Nat) (d_columns : Int32) (d_rows : Int32) (d_carrier : Int32) (d_partMarks : Int64) (d_linkMarks : Int64) (d_operations : Int32) (d_pilots : Int32) (d_settings : Nat → Int32) (d_facts : Nat → Int32) (d_cells : Nat → Int64) (a0 : Int32) (a1 : Int32) (ro : Int32) (hf : fX1_fact d_facts a0 a1 = some ro) : Fn Θ yX1_fact (Cond.code yX1_fact cX1_fact 4 (some .int) :: GW) rmX1_fact [.ref d0, .int a0, .int a1] (wX1 Θ d0 d1 d2 d3 d_columns d_rows d_carrier d_partMarks d_linkMarks d_operations d_pilots d_settings d_facts d_cells) (some (.int ro)) (wX1 Θ d0 d1 d2 d3 d_columns d_rows d_carrier d_partMarks d_linkMarks d_operations d_pilots d_settings d_facts d_cells) := by
  delta fX1_fact at hf
  refine Fn.of (by decide +kernel) rfl (Nat.le_of_ble_eq_true rfl) (fun p e s m args below meth c A Q G K => ?_)
  show sw Θ p e rmX1_fact s m args below meth c A Q 4 0 0 0 [(0, .ref d0), (1, .int a0), (2, .int a1)] [] (wX1 Θ d0 d1 d2 d3 d_columns d_rows d_carrier d_partMarks d_linkMarks d_operations d_pilots d_settings d_facts d_cells)
  refine sw_iload_n 0 G dX1_fact_0 1 rfl ?_
  refine sw_bipush 1 G (7 : Int32) dX1_fact_1 rfl ?_
  refine sw_imul 3 G dX1_fact_3 ?_
  refine sw_iload_n 4 G dX1_fact_4 2 rfl ?_
  refine sw_iadd 5 G dX1_fact_5 ?_
  refine sw_nmi hf (fun v1 hf => ?_)
  refine sw_istore_n 6 G [(3, .int v1), (0, .ref d0), (1, .int a0), (2, .int a1)] dX1_fact_6 (by decide) rfl ?_
  refine sw_iload_n 7 G dX1_fact_7 0 rfl ?_
  refine sw_if_lt 8 29 G dX1_fact_8 rfl hf (fun hf => ?_) (fun hf => ?_)
  · refine sw_iconst 29 G (0 : Int32) dX1_fact_29 rfl ?_
    cases hf
    exact sw_iret 30 G dX1_fact_30 K
  · refine sw_iload_n 11 G dX1_fact_11 0 rfl ?_
    refine sw_aload_n 12 G dX1_fact_12 1 rfl ?_
    refine sw_get 13 G hnX1 0 8 dX1_fact_13 vc1 (by decide) (List.mem_cons_of_mem _ lk_d228bcbb) rfl rfl ?_
    refine sw_alen 16 G 2 1 (42 : Int32) dX1_fact_16 rfl rfl rfl ?_
    refine sw_icmp_ge 17 29 G dX1_fact_17 rfl hf (fun hf => ?_) (fun hf => ?_)
    · refine sw_iconst 29 G (0 : Int32) dX1_fact_29 rfl ?_
      cases hf
      exact sw_iret 30 G dX1_fact_30 K
    · refine sw_aload_n 20 G dX1_fact_20 1 rfl ?_
      refine sw_get 21 G hnX1 0 8 dX1_fact_21 vc1 (by decide) (List.mem_cons_of_mem _ lk_d228bcbb) rfl rfl ?_
      refine sw_iload_n 24 G dX1_fact_24 0 rfl ?_
      refine sw_iald 25 G 2 dX1_fact_25 rfl hf (fun hf => ?_)
      refine sw_goto 26 G 30 dX1_fact_26 rfl ?_
      cases hf
      exact sw_iret 30 G dX1_fact_30 K
abbrev rmX1_planStations : Room := { frames := 1, cells := 0, slots := 0, locals := 23 }
theorem hvX1_planStations : yX1_planStations.cls = RX1 ∧ yX1_planStations.cls ≠ "java/lang/invoke/MethodHandle" ∧ yX1_planStations.cls ≠ "java/lang/invoke/VarHandle" ∧ (parseMethodDescriptor yX1_planStations.desc).map (fun d => d.parameters.length) = some 0 := by decide +kernel
set_option maxRecDepth 100000 in
set_option maxHeartbeats 4000000 in
theorem kX1_planStations (Θ : Tht) (F : Nat) (d0 d1 d2 d3 : Nat) (d_columns : Int32) (d_rows : Int32) (d_carrier : Int32) (d_partMarks : Int64) (d_linkMarks : Int64) (d_operations : Int32) (d_pilots : Int32) (d_settings : Nat → Int32) (d_facts : Nat → Int32) (d_cells : Nat → Int64) (ro : Int32) (hf : fX1_planStations F d_operations d_facts = some ro) : Fn Θ yX1_planStations (Cond.code yX1_planStations cX1_planStations 3 (some .int) :: GW) rmX1_planStations [.ref d0] (wX1 Θ d0 d1 d2 d3 d_columns d_rows d_carrier d_partMarks d_linkMarks d_operations d_pilots d_settings d_facts d_cells) (some (.int ro)) (wX1 Θ d0 d1 d2 d3 d_columns d_rows d_carrier d_partMarks d_linkMarks d_operations d_pilots d_settings d_facts d_cells) := by
  delta fX1_planStations at hf
  refine Fn.of (by decide +kernel) rfl (Nat.le_of_ble_eq_true rfl) (fun p e s m args below meth c A Q G K => ?_)
  show sw Θ p e rmX1_planStations s m args below meth c A Q 3 0 0 0 [(0, .ref d0)] [] (wX1 Θ d0 d1 d2 d3 d_columns d_rows d_carrier d_partMarks d_linkMarks d_operations d_pilots d_settings d_facts d_cells)
  refine sw_iconst 0 G (-1 : Int32) dX1_planStations_0 rfl ?_
  refine sw_istore_n 1 G [(1, .int (-1 : Int32)), (0, .ref d0)] dX1_planStations_1 (by decide) rfl ?_
  refine sw_iconst 2 G (0 : Int32) dX1_planStations_2 rfl ?_
  refine sw_istore_n 3 G [(2, .int (0 : Int32)), (1, .int (-1 : Int32)), (0, .ref d0)] dX1_planStations_3 (by decide) rfl ?_
  obtain ⟨v1, hl, hf⟩ := bd1_some hf
  have hx4_30 : sw Θ p e rmX1_planStations s m args below meth c A Q 3 0 0 30 [(1, .int v1)] [] (wX1 Θ d0 d1 d2 d3 d_columns d_rows d_carrier d_partMarks d_linkMarks d_operations d_pilots d_settings d_facts d_cells) := by
    refine sw_iload_n 30 G dX1_planStations_30 0 rfl ?_
    refine sw_iconst 31 G (1 : Int32) dX1_planStations_31 rfl ?_
    refine sw_iadd 32 G dX1_planStations_32 ?_
    cases hf
    exact sw_iret 33 G dX1_planStations_33 K
  refine sw_lv [(0, .ref d0), (1, .int (-1 : Int32)), (2, .int (0 : Int32))] [2, 1, 0] rfl ?_
  refine lp_walk (P := fun (t : Int32 × Int32) => sw Θ p e rmX1_planStations s m args below meth c A Q 3 0 0 4 [(0, .ref d0), (1, .int t.1), (2, .int t.2)] [] (wX1 Θ d0 d1 d2 d3 d_columns d_rows d_carrier d_partMarks d_linkMarks d_operations d_pilots d_settings d_facts d_cells)) hl (fun t4 y4 hf hin4 hex4 => ?_)
  obtain ⟨v2, v3⟩ := t4
  show sw Θ p e rmX1_planStations s m args below meth c A Q 3 0 0 4 [(0, .ref d0), (1, .int v2), (2, .int v3)] [] (wX1 Θ d0 d1 d2 d3 d_columns d_rows d_carrier d_partMarks d_linkMarks d_operations d_pilots d_settings d_facts d_cells)
  have hf := uc2_some (K := _) hf
  refine sw_iload_n 4 G dX1_planStations_4 2 rfl ?_
  refine sw_aload_n 5 G dX1_planStations_5 0 rfl ?_
  refine sw_get 6 G hnX1 0 5 dX1_planStations_6 vc1 (by decide) (List.mem_cons_of_mem _ lk_bded192f) rfl rfl ?_
  refine sw_icmp_ge 9 30 G dX1_planStations_9 rfl hf (fun hf => ?_) (fun hf => ?_)
  · cases hf
    cases hex4 _ rfl
    exact sw_lv _ [1] rfl hx4_30
  · refine sw_iload_n 12 G dX1_planStations_12 1 rfl ?_
    refine sw_aload_n 13 G dX1_planStations_13 0 rfl ?_
    refine sw_iload_n 14 G dX1_planStations_14 2 rfl ?_
    refine sw_bipush 15 G (6 : Int32) dX1_planStations_15 rfl ?_
    obtain ⟨r4, hg, hf⟩ := bd1_some hf
    refine sw_callV 17 G (wX1 Θ d0 d1 d2 d3 d_columns d_rows d_carrier d_partMarks d_linkMarks d_operations d_pilots d_settings d_facts d_cells) [0, 1, 2, 3] [] [0, 1, 2, 3] 2 dX1_planStations_17 (kX1_fact Θ d0 d1 d2 d3 d_columns d_rows d_carrier d_partMarks d_linkMarks d_operations d_pilots d_settings d_facts d_cells v3 (6 : Int32) r4 hg) (gwV lk_a9b0b2ed lk_e025dfb3 lk_773339a1 lk_cf66e99d lk_334ef9fb) rfl hvX1_fact ⟨rfl, rfl⟩ ⟨Nat.le_of_ble_eq_true rfl, Nat.le_of_ble_eq_true rfl⟩ ⟨Nat.zero_le _, Nat.zero_le _⟩ rfl rfl (Nat.le_of_ble_eq_true rfl) 0 rfl vc1 rfl rfl rfl rfl (by decide) ?_
    refine sw_mmax 20 G dX1_planStations_20 (List.mem_cons_of_mem _ lk_52555e7a) (List.mem_cons_of_mem _ lk_8b9497d0) (List.mem_cons_of_mem _ lk_544deca7) (List.mem_cons_of_mem _ lk_7292adb7) (Nat.le_of_ble_eq_true rfl) (Nat.le_of_ble_eq_true rfl) ⟨Nat.zero_le _, Nat.zero_le _⟩ ?_
    refine sw_nmi hf (fun v5 hf => ?_)
    refine sw_istore_n 23 G [(1, .int v5), (0, .ref d0), (2, .int v3)] dX1_planStations_23 (by decide) rfl ?_
    refine sw_iinc 24 G (v3 + (1 : Int32)) [(2, .int (v3 + (1 : Int32))), (1, .int v5), (0, .ref d0)] dX1_planStations_24 2 rfl rfl (by decide) rfl ?_
    refine sw_goto 27 G 4 dX1_planStations_27 rfl ?_
    cases hf
    have hb := hin4 _ rfl
    exact sw_lv _ [2, 1, 0] (by rfl) hb
abbrev rmX1_wholeValue : Room := { frames := 2, cells := 0, slots := 0, locals := 45 }
theorem hvX1_wholeValue : yX1_wholeValue.cls = RX1 ∧ yX1_wholeValue.cls ≠ "java/lang/invoke/MethodHandle" ∧ yX1_wholeValue.cls ≠ "java/lang/invoke/VarHandle" ∧ (parseMethodDescriptor yX1_wholeValue.desc).map (fun d => d.parameters.length) = some 1 := by decide +kernel
set_option maxRecDepth 100000 in
set_option maxHeartbeats 4000000 in
theorem kX1_wholeValue (Θ : Tht) (F : Nat) (d0 d1 d2 d3 : Nat) (d_columns : Int32) (d_rows : Int32) (d_carrier : Int32) (d_partMarks : Int64) (d_linkMarks : Int64) (d_operations : Int32) (d_pilots : Int32) (d_settings : Nat → Int32) (d_facts : Nat → Int32) (d_cells : Nat → Int64) (a0 : Int32) (ro : Int32) (hf : fX1_wholeValue F d_columns d_rows d_carrier d_operations d_settings d_facts a0 = some ro) : Fn Θ yX1_wholeValue (Cond.code yX1_wholeValue cX1_wholeValue 2 (some .int) :: GW) rmX1_wholeValue [.ref d0, .int a0] (wX1 Θ d0 d1 d2 d3 d_columns d_rows d_carrier d_partMarks d_linkMarks d_operations d_pilots d_settings d_facts d_cells) (some (.int ro)) (wX1 Θ d0 d1 d2 d3 d_columns d_rows d_carrier d_partMarks d_linkMarks d_operations d_pilots d_settings d_facts d_cells) := by
  delta fX1_wholeValue at hf
  refine Fn.of (by decide +kernel) rfl (Nat.le_of_ble_eq_true rfl) (fun p e s m args below meth c A Q G K => ?_)
  show sw Θ p e rmX1_wholeValue s m args below meth c A Q 2 0 0 0 [(0, .ref d0), (1, .int a0)] [] (wX1 Θ d0 d1 d2 d3 d_columns d_rows d_carrier d_partMarks d_linkMarks d_operations d_pilots d_settings d_facts d_cells)
  refine sw_iload_n 0 G dX1_wholeValue_0 1 rfl ?_
  refine sw_tsw 1 81 G dX1_wholeValue_1 rfl hf (fun hf => ?_) (fun j hj hf => ?_)
  · refine sw_aload_n 81 G dX1_wholeValue_81 0 rfl ?_
    refine sw_iload_n 82 G dX1_wholeValue_82 1 rfl ?_
    refine sw_iconst 83 G (3 : Int32) dX1_wholeValue_83 rfl ?_
    refine sw_isub 84 G dX1_wholeValue_84 ?_
    obtain ⟨r1, hg, hf⟩ := bd1_some hf
    refine sw_callV 85 G (wX1 Θ d0 d1 d2 d3 d_columns d_rows d_carrier d_partMarks d_linkMarks d_operations d_pilots d_settings d_facts d_cells) [0, 1, 2, 3] [] [0, 1, 2, 3] 1 dX1_wholeValue_85 (kX1_setting Θ d0 d1 d2 d3 d_columns d_rows d_carrier d_partMarks d_linkMarks d_operations d_pilots d_settings d_facts d_cells (a0 - (3 : Int32)) r1 hg) (gwV lk_837406b3 lk_6c5b2bed lk_42f14101 lk_cf66e99d lk_45fed558) rfl hvX1_setting ⟨rfl, rfl⟩ ⟨Nat.le_of_ble_eq_true rfl, Nat.le_of_ble_eq_true rfl⟩ ⟨Nat.zero_le _, Nat.zero_le _⟩ rfl rfl (Nat.le_of_ble_eq_true rfl) 0 rfl vc1 rfl rfl rfl rfl (by decide) ?_
    cases hf
    exact sw_iret 88 G dX1_wholeValue_88 K
  · rcases (show j = 0 ∨ j = 1 ∨ j = 2 ∨ j = 3 ∨ j = 4 ∨ j = 5 ∨ j = 6 ∨ j = 7 ∨ j = 8 ∨ j = 9 by omega) with rfl | rfl | rfl | rfl | rfl | rfl | rfl | rfl | rfl | rfl
    · refine ⟨55, 56, rfl, rfl, ?_⟩
      have hf := tc_0 hf
      refine sw_aload_n 56 G dX1_wholeValue_56 0 rfl ?_
      refine sw_get 57 G hnX1 0 0 dX1_wholeValue_57 vc1 (by decide) (List.mem_cons_of_mem _ lk_c5f4e1a9) rfl rfl ?_
      cases hf
      exact sw_iret 60 G dX1_wholeValue_60 K
    · refine ⟨60, 61, rfl, rfl, ?_⟩
      have hf := tc_1 hf
      refine sw_aload_n 61 G dX1_wholeValue_61 0 rfl ?_
      refine sw_get 62 G hnX1 0 1 dX1_wholeValue_62 vc1 (by decide) (List.mem_cons_of_mem _ lk_2d45b2b9) rfl rfl ?_
      cases hf
      exact sw_iret 65 G dX1_wholeValue_65 K
    · refine ⟨65, 66, rfl, rfl, ?_⟩
      have hf := tc_2 hf
      refine sw_aload_n 66 G dX1_wholeValue_66 0 rfl ?_
      refine sw_get 67 G hnX1 0 2 dX1_wholeValue_67 vc1 (by decide) (List.mem_cons_of_mem _ lk_a776837e) rfl rfl ?_
      cases hf
      exact sw_iret 70 G dX1_wholeValue_70 K
    · refine ⟨80, 81, rfl, rfl, ?_⟩
      have hf := tc_3 hf
      refine sw_aload_n 81 G dX1_wholeValue_81 0 rfl ?_
      refine sw_iload_n 82 G dX1_wholeValue_82 1 rfl ?_
      refine sw_iconst 83 G (3 : Int32) dX1_wholeValue_83 rfl ?_
      refine sw_isub 84 G dX1_wholeValue_84 ?_
      obtain ⟨r2, hg, hf⟩ := bd1_some hf
      refine sw_callV 85 G (wX1 Θ d0 d1 d2 d3 d_columns d_rows d_carrier d_partMarks d_linkMarks d_operations d_pilots d_settings d_facts d_cells) [0, 1, 2, 3] [] [0, 1, 2, 3] 1 dX1_wholeValue_85 (kX1_setting Θ d0 d1 d2 d3 d_columns d_rows d_carrier d_partMarks d_linkMarks d_operations d_pilots d_settings d_facts d_cells (a0 - (3 : Int32)) r2 hg) (gwV lk_837406b3 lk_6c5b2bed lk_42f14101 lk_cf66e99d lk_45fed558) rfl hvX1_setting ⟨rfl, rfl⟩ ⟨Nat.le_of_ble_eq_true rfl, Nat.le_of_ble_eq_true rfl⟩ ⟨Nat.zero_le _, Nat.zero_le _⟩ rfl rfl (Nat.le_of_ble_eq_true rfl) 0 rfl vc1 rfl rfl rfl rfl (by decide) ?_
      cases hf
      exact sw_iret 88 G dX1_wholeValue_88 K
    · refine ⟨80, 81, rfl, rfl, ?_⟩
      have hf := tc_4 hf
      refine sw_aload_n 81 G dX1_wholeValue_81 0 rfl ?_
      refine sw_iload_n 82 G dX1_wholeValue_82 1 rfl ?_
      refine sw_iconst 83 G (3 : Int32) dX1_wholeValue_83 rfl ?_
      refine sw_isub 84 G dX1_wholeValue_84 ?_
      obtain ⟨r3, hg, hf⟩ := bd1_some hf
      refine sw_callV 85 G (wX1 Θ d0 d1 d2 d3 d_columns d_rows d_carrier d_partMarks d_linkMarks d_operations d_pilots d_settings d_facts d_cells) [0, 1, 2, 3] [] [0, 1, 2, 3] 1 dX1_wholeValue_85 (kX1_setting Θ d0 d1 d2 d3 d_columns d_rows d_carrier d_partMarks d_linkMarks d_operations d_pilots d_settings d_facts d_cells (a0 - (3 : Int32)) r3 hg) (gwV lk_837406b3 lk_6c5b2bed lk_42f14101 lk_cf66e99d lk_45fed558) rfl hvX1_setting ⟨rfl, rfl⟩ ⟨Nat.le_of_ble_eq_true rfl, Nat.le_of_ble_eq_true rfl⟩ ⟨Nat.zero_le _, Nat.zero_le _⟩ rfl rfl (Nat.le_of_ble_eq_true rfl) 0 rfl vc1 rfl rfl rfl rfl (by decide) ?_
      cases hf
      exact sw_iret 88 G dX1_wholeValue_88 K
    · refine ⟨80, 81, rfl, rfl, ?_⟩
      have hf := tc_5 hf
      refine sw_aload_n 81 G dX1_wholeValue_81 0 rfl ?_
      refine sw_iload_n 82 G dX1_wholeValue_82 1 rfl ?_
      refine sw_iconst 83 G (3 : Int32) dX1_wholeValue_83 rfl ?_
      refine sw_isub 84 G dX1_wholeValue_84 ?_
      obtain ⟨r4, hg, hf⟩ := bd1_some hf
      refine sw_callV 85 G (wX1 Θ d0 d1 d2 d3 d_columns d_rows d_carrier d_partMarks d_linkMarks d_operations d_pilots d_settings d_facts d_cells) [0, 1, 2, 3] [] [0, 1, 2, 3] 1 dX1_wholeValue_85 (kX1_setting Θ d0 d1 d2 d3 d_columns d_rows d_carrier d_partMarks d_linkMarks d_operations d_pilots d_settings d_facts d_cells (a0 - (3 : Int32)) r4 hg) (gwV lk_837406b3 lk_6c5b2bed lk_42f14101 lk_cf66e99d lk_45fed558) rfl hvX1_setting ⟨rfl, rfl⟩ ⟨Nat.le_of_ble_eq_true rfl, Nat.le_of_ble_eq_true rfl⟩ ⟨Nat.zero_le _, Nat.zero_le _⟩ rfl rfl (Nat.le_of_ble_eq_true rfl) 0 rfl vc1 rfl rfl rfl rfl (by decide) ?_
      cases hf
      exact sw_iret 88 G dX1_wholeValue_88 K
    · refine ⟨80, 81, rfl, rfl, ?_⟩
      have hf := tc_6 hf
      refine sw_aload_n 81 G dX1_wholeValue_81 0 rfl ?_
      refine sw_iload_n 82 G dX1_wholeValue_82 1 rfl ?_
      refine sw_iconst 83 G (3 : Int32) dX1_wholeValue_83 rfl ?_
      refine sw_isub 84 G dX1_wholeValue_84 ?_
      obtain ⟨r5, hg, hf⟩ := bd1_some hf
      refine sw_callV 85 G (wX1 Θ d0 d1 d2 d3 d_columns d_rows d_carrier d_partMarks d_linkMarks d_operations d_pilots d_settings d_facts d_cells) [0, 1, 2, 3] [] [0, 1, 2, 3] 1 dX1_wholeValue_85 (kX1_setting Θ d0 d1 d2 d3 d_columns d_rows d_carrier d_partMarks d_linkMarks d_operations d_pilots d_settings d_facts d_cells (a0 - (3 : Int32)) r5 hg) (gwV lk_837406b3 lk_6c5b2bed lk_42f14101 lk_cf66e99d lk_45fed558) rfl hvX1_setting ⟨rfl, rfl⟩ ⟨Nat.le_of_ble_eq_true rfl, Nat.le_of_ble_eq_true rfl⟩ ⟨Nat.zero_le _, Nat.zero_le _⟩ rfl rfl (Nat.le_of_ble_eq_true rfl) 0 rfl vc1 rfl rfl rfl rfl (by decide) ?_
      cases hf
      exact sw_iret 88 G dX1_wholeValue_88 K
    · refine ⟨80, 81, rfl, rfl, ?_⟩
      have hf := tc_7 hf
      refine sw_aload_n 81 G dX1_wholeValue_81 0 rfl ?_
      refine sw_iload_n 82 G dX1_wholeValue_82 1 rfl ?_
      refine sw_iconst 83 G (3 : Int32) dX1_wholeValue_83 rfl ?_
      refine sw_isub 84 G dX1_wholeValue_84 ?_
      obtain ⟨r6, hg, hf⟩ := bd1_some hf
      refine sw_callV 85 G (wX1 Θ d0 d1 d2 d3 d_columns d_rows d_carrier d_partMarks d_linkMarks d_operations d_pilots d_settings d_facts d_cells) [0, 1, 2, 3] [] [0, 1, 2, 3] 1 dX1_wholeValue_85 (kX1_setting Θ d0 d1 d2 d3 d_columns d_rows d_carrier d_partMarks d_linkMarks d_operations d_pilots d_settings d_facts d_cells (a0 - (3 : Int32)) r6 hg) (gwV lk_837406b3 lk_6c5b2bed lk_42f14101 lk_cf66e99d lk_45fed558) rfl hvX1_setting ⟨rfl, rfl⟩ ⟨Nat.le_of_ble_eq_true rfl, Nat.le_of_ble_eq_true rfl⟩ ⟨Nat.zero_le _, Nat.zero_le _⟩ rfl rfl (Nat.le_of_ble_eq_true rfl) 0 rfl vc1 rfl rfl rfl rfl (by decide) ?_
      cases hf
      exact sw_iret 88 G dX1_wholeValue_88 K
    · refine ⟨70, 71, rfl, rfl, ?_⟩
      have hf := tc_8 hf
      refine sw_aload_n 71 G dX1_wholeValue_71 0 rfl ?_
      refine sw_get 72 G hnX1 0 5 dX1_wholeValue_72 vc1 (by decide) (List.mem_cons_of_mem _ lk_bded192f) rfl rfl ?_
      cases hf
      exact sw_iret 75 G dX1_wholeValue_75 K
    · refine ⟨75, 76, rfl, rfl, ?_⟩
      have hf := tc_9 hf
      refine sw_aload_n 76 G dX1_wholeValue_76 0 rfl ?_
      obtain ⟨r7, hg, hf⟩ := bd1_some hf
      refine sw_callV 77 G (wX1 Θ d0 d1 d2 d3 d_columns d_rows d_carrier d_partMarks d_linkMarks d_operations d_pilots d_settings d_facts d_cells) [0, 1, 2, 3] [] [0, 1, 2, 3] 0 dX1_wholeValue_77 (kX1_planStations Θ F d0 d1 d2 d3 d_columns d_rows d_carrier d_partMarks d_linkMarks d_operations d_pilots d_settings d_facts d_cells r7 hg) (gwV lk_f261dd89 lk_689cce7d lk_1bab9988 lk_cf66e99d lk_0742ede3) rfl hvX1_planStations ⟨rfl, rfl⟩ ⟨Nat.le_of_ble_eq_true rfl, Nat.le_of_ble_eq_true rfl⟩ ⟨Nat.zero_le _, Nat.zero_le _⟩ rfl rfl (Nat.le_of_ble_eq_true rfl) 0 rfl vc1 rfl rfl rfl rfl (by decide) ?_
      cases hf
      exact sw_iret 80 G dX1_wholeValue_80 K
abbrev rmX1_holds : Room := { frames := 0, cells := 0, slots := 0, locals := 0 }
theorem hvX1_holds : yX1_holds.cls = RX1 ∧ yX1_holds.cls ≠ "java/lang/invoke/MethodHandle" ∧ yX1_holds.cls ≠ "java/lang/invoke/VarHandle" ∧ (parseMethodDescriptor yX1_holds.desc).map (fun d => d.parameters.length) = some 4 := by decide +kernel
set_option maxRecDepth 100000 in
set_option maxHeartbeats 4000000 in
theorem kX1_holds (Θ : Tht) (d0 d1 d2 d3 : Nat) (d_columns : Int32) (d_rows : Int32) (d_carrier : Int32) (d_partMarks : Int64) (d_linkMarks : Int64) (d_operations : Int32) (d_pilots : Int32) (d_settings : Nat → Int32) (d_facts : Nat → Int32) (d_cells : Nat → Int64) (a0 : Int32) (a1 : Int32) (a2 : Int32) (a3 : Int32) (ro : Int32) (hf : fX1_holds d_columns d_rows a0 a1 a2 a3 = some ro) : Fn Θ yX1_holds (Cond.code yX1_holds cX1_holds 5 (some .boolean) :: GW) rmX1_holds [.ref d0, .int a0, .int a1, .int a2, .int a3] (wX1 Θ d0 d1 d2 d3 d_columns d_rows d_carrier d_partMarks d_linkMarks d_operations d_pilots d_settings d_facts d_cells) (some (.int ro)) (wX1 Θ d0 d1 d2 d3 d_columns d_rows d_carrier d_partMarks d_linkMarks d_operations d_pilots d_settings d_facts d_cells) := by
  delta fX1_holds at hf
  refine Fn.of (by decide +kernel) rfl (Nat.le_of_ble_eq_true rfl) (fun p e s m args below meth c A Q G K => ?_)
  show sw Θ p e rmX1_holds s m args below meth c A Q 5 0 0 0 [(0, .ref d0), (1, .int a0), (2, .int a1), (3, .int a2), (4, .int a3)] [] (wX1 Θ d0 d1 d2 d3 d_columns d_rows d_carrier d_partMarks d_linkMarks d_operations d_pilots d_settings d_facts d_cells)
  refine sw_iload_n 0 G dX1_holds_0 3 rfl ?_
  refine sw_iconst 1 G (1 : Int32) dX1_holds_1 rfl ?_
  refine sw_icmp_lt 2 61 G dX1_holds_2 rfl hf (fun hf => ?_) (fun hf => ?_)
  · refine sw_iconst 61 G (0 : Int32) dX1_holds_61 rfl ?_
    cases hf
    exact sw_zret 62 G dX1_holds_62 K rfl
  · refine sw_iload_n 5 G dX1_holds_5 3 rfl ?_
    refine sw_aload_n 6 G dX1_holds_6 0 rfl ?_
    refine sw_get 7 G hnX1 0 0 dX1_holds_7 vc1 (by decide) (List.mem_cons_of_mem _ lk_c5f4e1a9) rfl rfl ?_
    refine sw_icmp_gt 10 61 G dX1_holds_10 rfl hf (fun hf => ?_) (fun hf => ?_)
    · refine sw_iconst 61 G (0 : Int32) dX1_holds_61 rfl ?_
      cases hf
      exact sw_zret 62 G dX1_holds_62 K rfl
    · refine sw_iload 13 G dX1_holds_13 4 rfl ?_
      refine sw_iconst 15 G (1 : Int32) dX1_holds_15 rfl ?_
      refine sw_icmp_lt 16 61 G dX1_holds_16 rfl hf (fun hf => ?_) (fun hf => ?_)
      · refine sw_iconst 61 G (0 : Int32) dX1_holds_61 rfl ?_
        cases hf
        exact sw_zret 62 G dX1_holds_62 K rfl
      · refine sw_iload 19 G dX1_holds_19 4 rfl ?_
        refine sw_aload_n 21 G dX1_holds_21 0 rfl ?_
        refine sw_get 22 G hnX1 0 1 dX1_holds_22 vc1 (by decide) (List.mem_cons_of_mem _ lk_2d45b2b9) rfl rfl ?_
        refine sw_icmp_gt 25 61 G dX1_holds_25 rfl hf (fun hf => ?_) (fun hf => ?_)
        · refine sw_iconst 61 G (0 : Int32) dX1_holds_61 rfl ?_
          cases hf
          exact sw_zret 62 G dX1_holds_62 K rfl
        · refine sw_iload_n 28 G dX1_holds_28 1 rfl ?_
          refine sw_if_lt 29 61 G dX1_holds_29 rfl hf (fun hf => ?_) (fun hf => ?_)
          · refine sw_iconst 61 G (0 : Int32) dX1_holds_61 rfl ?_
            cases hf
            exact sw_zret 62 G dX1_holds_62 K rfl
          · refine sw_iload_n 32 G dX1_holds_32 1 rfl ?_
            refine sw_aload_n 33 G dX1_holds_33 0 rfl ?_
            refine sw_get 34 G hnX1 0 0 dX1_holds_34 vc1 (by decide) (List.mem_cons_of_mem _ lk_c5f4e1a9) rfl rfl ?_
            refine sw_iload_n 37 G dX1_holds_37 3 rfl ?_
            refine sw_isub 38 G dX1_holds_38 ?_
            refine sw_icmp_gt 39 61 G dX1_holds_39 rfl hf (fun hf => ?_) (fun hf => ?_)
            · refine sw_iconst 61 G (0 : Int32) dX1_holds_61 rfl ?_
              cases hf
              exact sw_zret 62 G dX1_holds_62 K rfl
            · refine sw_iload_n 42 G dX1_holds_42 2 rfl ?_
              refine sw_if_lt 43 61 G dX1_holds_43 rfl hf (fun hf => ?_) (fun hf => ?_)
              · refine sw_iconst 61 G (0 : Int32) dX1_holds_61 rfl ?_
                cases hf
                exact sw_zret 62 G dX1_holds_62 K rfl
              · refine sw_iload_n 46 G dX1_holds_46 2 rfl ?_
                refine sw_aload_n 47 G dX1_holds_47 0 rfl ?_
                refine sw_get 48 G hnX1 0 1 dX1_holds_48 vc1 (by decide) (List.mem_cons_of_mem _ lk_2d45b2b9) rfl rfl ?_
                refine sw_iload 51 G dX1_holds_51 4 rfl ?_
                refine sw_isub 53 G dX1_holds_53 ?_
                refine sw_icmp_gt 54 61 G dX1_holds_54 rfl hf (fun hf => ?_) (fun hf => ?_)
                · refine sw_iconst 61 G (0 : Int32) dX1_holds_61 rfl ?_
                  cases hf
                  exact sw_zret 62 G dX1_holds_62 K rfl
                · refine sw_iconst 57 G (1 : Int32) dX1_holds_57 rfl ?_
                  refine sw_goto 58 G 62 dX1_holds_58 rfl ?_
                  cases hf
                  exact sw_zret 62 G dX1_holds_62 K rfl
abbrev rmX1_rectangle : Room := { frames := 0, cells := 0, slots := 0, locals := 0 }
theorem hvX1_rectangle : yX1_rectangle.cls = RX1 ∧ yX1_rectangle.cls ≠ "java/lang/invoke/MethodHandle" ∧ yX1_rectangle.cls ≠ "java/lang/invoke/VarHandle" ∧ (parseMethodDescriptor yX1_rectangle.desc).map (fun d => d.parameters.length) = some 4 := by decide +kernel
set_option maxRecDepth 100000 in
set_option maxHeartbeats 4000000 in
theorem kX1_rectangle (Θ : Tht) (F : Nat) (d0 d1 d2 d3 : Nat) (d_columns : Int32) (d_rows : Int32) (d_carrier : Int32) (d_partMarks : Int64) (d_linkMarks : Int64) (d_operations : Int32) (d_pilots : Int32) (d_settings : Nat → Int32) (d_facts : Nat → Int32) (d_cells : Nat → Int64) (a0 : Int32) (a1 : Int32) (a2 : Int32) (a3 : Int32) (ro : Int64) (hf : fX1_rectangle F d_columns d_rows a0 a1 a2 a3 = some ro) : Fn Θ yX1_rectangle (Cond.code yX1_rectangle cX1_rectangle 10 (some .long) :: GW) rmX1_rectangle [.ref d0, .int a0, .int a1, .int a2, .int a3] (wX1 Θ d0 d1 d2 d3 d_columns d_rows d_carrier d_partMarks d_linkMarks d_operations d_pilots d_settings d_facts d_cells) (some (.long ro)) (wX1 Θ d0 d1 d2 d3 d_columns d_rows d_carrier d_partMarks d_linkMarks d_operations d_pilots d_settings d_facts d_cells) := by
  delta fX1_rectangle at hf
  refine Fn.of (by decide +kernel) rfl (Nat.le_of_ble_eq_true rfl) (fun p e s m args below meth c A Q G K => ?_)
  show sw Θ p e rmX1_rectangle s m args below meth c A Q 10 0 0 0 [(0, .ref d0), (1, .int a0), (2, .int a1), (3, .int a2), (4, .int a3)] [] (wX1 Θ d0 d1 d2 d3 d_columns d_rows d_carrier d_partMarks d_linkMarks d_operations d_pilots d_settings d_facts d_cells)
  refine sw_lconst 0 G (1 : Int64) dX1_rectangle_0 rfl ?_
  refine sw_iload_n 1 G dX1_rectangle_1 3 rfl ?_
  refine sw_lshl 2 G dX1_rectangle_2 ?_
  refine sw_lconst 3 G (1 : Int64) dX1_rectangle_3 rfl ?_
  refine sw_lsub 4 G dX1_rectangle_4 ?_
  refine sw_iload_n 5 G dX1_rectangle_5 1 rfl ?_
  refine sw_lshl 6 G dX1_rectangle_6 ?_
  refine sw_nml hf (fun v1 hf => ?_)
  refine sw_lstore 7 G [(5, .long v1), (0, .ref d0), (1, .int a0), (2, .int a1), (3, .int a2), (4, .int a3)] dX1_rectangle_7 (by decide) rfl ?_
  refine sw_lconst 9 G (0 : Int64) dX1_rectangle_9 rfl ?_
  refine sw_lstore 10 G [(7, .long (0 : Int64)), (5, .long v1), (0, .ref d0), (1, .int a0), (2, .int a1), (3, .int a2), (4, .int a3)] dX1_rectangle_10 (by decide) rfl ?_
  refine sw_iconst 12 G (0 : Int32) dX1_rectangle_12 rfl ?_
  refine sw_istore 13 G [(9, .int (0 : Int32)), (7, .long (0 : Int64)), (5, .long v1), (0, .ref d0), (1, .int a0), (2, .int a1), (3, .int a2), (4, .int a3)] dX1_rectangle_13 (by decide) rfl ?_
  obtain ⟨v2, hl, hf⟩ := bd1_some hf
  have hx15_54 : sw Θ p e rmX1_rectangle s m args below meth c A Q 10 0 0 54 [(7, .long v2)] [] (wX1 Θ d0 d1 d2 d3 d_columns d_rows d_carrier d_partMarks d_linkMarks d_operations d_pilots d_settings d_facts d_cells) := by
    refine sw_lload 54 G dX1_rectangle_54 0 rfl ?_
    cases hf
    exact sw_lret 56 G dX1_rectangle_56 K
  refine sw_lv [(0, .ref d0), (2, .int a1), (4, .int a3), (5, .long v1), (7, .long (0 : Int64)), (9, .int (0 : Int32))] [3, 5, 7, 2, 1, 0] rfl ?_
  refine lp_walk (P := fun (t : Int64 × Int32) => sw Θ p e rmX1_rectangle s m args below meth c A Q 10 0 0 15 [(0, .ref d0), (2, .int a1), (4, .int a3), (5, .long v1), (7, .long t.1), (9, .int t.2)] [] (wX1 Θ d0 d1 d2 d3 d_columns d_rows d_carrier d_partMarks d_linkMarks d_operations d_pilots d_settings d_facts d_cells)) hl (fun t15 y15 hf hin15 hex15 => ?_)
  obtain ⟨v3, v4⟩ := t15
  show sw Θ p e rmX1_rectangle s m args below meth c A Q 10 0 0 15 [(0, .ref d0), (2, .int a1), (4, .int a3), (5, .long v1), (7, .long v3), (9, .int v4)] [] (wX1 Θ d0 d1 d2 d3 d_columns d_rows d_carrier d_partMarks d_linkMarks d_operations d_pilots d_settings d_facts d_cells)
  have hf := uc2_some (K := _) hf
  refine sw_iload 15 G dX1_rectangle_15 5 rfl ?_
  refine sw_iload 17 G dX1_rectangle_17 2 rfl ?_
  refine sw_icmp_ge 19 54 G dX1_rectangle_19 rfl hf (fun hf => ?_) (fun hf => ?_)
  · cases hf
    cases hex15 _ rfl
    exact sw_lv _ [4] rfl hx15_54
  · refine sw_iload 22 G dX1_rectangle_22 5 rfl ?_
    refine sw_aload_n 24 G dX1_rectangle_24 0 rfl ?_
    refine sw_get 25 G hnX1 0 1 dX1_rectangle_25 vc1 (by decide) (List.mem_cons_of_mem _ lk_2d45b2b9) rfl rfl ?_
    refine sw_icmp_ge 28 54 G dX1_rectangle_28 rfl hf (fun hf => ?_) (fun hf => ?_)
    · cases hf
      cases hex15 _ rfl
      exact sw_lv _ [4] rfl hx15_54
    · refine sw_lload 31 G dX1_rectangle_31 4 rfl ?_
      refine sw_lload 33 G dX1_rectangle_33 3 rfl ?_
      refine sw_iload_n 35 G dX1_rectangle_35 1 rfl ?_
      refine sw_iload 36 G dX1_rectangle_36 5 rfl ?_
      refine sw_iadd 38 G dX1_rectangle_38 ?_
      refine sw_aload_n 39 G dX1_rectangle_39 0 rfl ?_
      refine sw_get 40 G hnX1 0 0 dX1_rectangle_40 vc1 (by decide) (List.mem_cons_of_mem _ lk_c5f4e1a9) rfl rfl ?_
      refine sw_imul 43 G dX1_rectangle_43 ?_
      refine sw_lshl 44 G dX1_rectangle_44 ?_
      refine sw_lor 45 G dX1_rectangle_45 ?_
      refine sw_nml hf (fun v5 hf => ?_)
      refine sw_lstore 46 G [(7, .long v5), (0, .ref d0), (2, .int a1), (4, .int a3), (5, .long v1), (9, .int v4)] dX1_rectangle_46 (by decide) rfl ?_
      refine sw_iinc 48 G (v4 + (1 : Int32)) [(9, .int (v4 + (1 : Int32))), (7, .long v5), (0, .ref d0), (2, .int a1), (4, .int a3), (5, .long v1)] dX1_rectangle_48 5 rfl rfl (by decide) rfl ?_
      refine sw_goto 51 G 15 dX1_rectangle_51 rfl ?_
      cases hf
      have hb := hin15 _ rfl
      exact sw_lv _ [2, 3, 4, 5, 1, 0] (by rfl) hb
abbrev rmX1_allCells : Room := { frames := 0, cells := 0, slots := 0, locals := 0 }
theorem hvX1_allCells : yX1_allCells.cls = RX1 ∧ yX1_allCells.cls ≠ "java/lang/invoke/MethodHandle" ∧ yX1_allCells.cls ≠ "java/lang/invoke/VarHandle" ∧ (parseMethodDescriptor yX1_allCells.desc).map (fun d => d.parameters.length) = some 0 := by decide +kernel
set_option maxRecDepth 100000 in
set_option maxHeartbeats 4000000 in
theorem kX1_allCells (Θ : Tht) (d0 d1 d2 d3 : Nat) (d_columns : Int32) (d_rows : Int32) (d_carrier : Int32) (d_partMarks : Int64) (d_linkMarks : Int64) (d_operations : Int32) (d_pilots : Int32) (d_settings : Nat → Int32) (d_facts : Nat → Int32) (d_cells : Nat → Int64) (ro : Int64) (hf : fX1_allCells d_columns d_rows = some ro) : Fn Θ yX1_allCells (Cond.code yX1_allCells cX1_allCells 1 (some .long) :: GW) rmX1_allCells [.ref d0] (wX1 Θ d0 d1 d2 d3 d_columns d_rows d_carrier d_partMarks d_linkMarks d_operations d_pilots d_settings d_facts d_cells) (some (.long ro)) (wX1 Θ d0 d1 d2 d3 d_columns d_rows d_carrier d_partMarks d_linkMarks d_operations d_pilots d_settings d_facts d_cells) := by
  delta fX1_allCells at hf
  refine Fn.of (by decide +kernel) rfl (Nat.le_of_ble_eq_true rfl) (fun p e s m args below meth c A Q G K => ?_)
  show sw Θ p e rmX1_allCells s m args below meth c A Q 1 0 0 0 [(0, .ref d0)] [] (wX1 Θ d0 d1 d2 d3 d_columns d_rows d_carrier d_partMarks d_linkMarks d_operations d_pilots d_settings d_facts d_cells)
  refine sw_lconst 0 G (1 : Int64) dX1_allCells_0 rfl ?_
  refine sw_aload_n 1 G dX1_allCells_1 0 rfl ?_
  refine sw_get 2 G hnX1 0 0 dX1_allCells_2 vc1 (by decide) (List.mem_cons_of_mem _ lk_c5f4e1a9) rfl rfl ?_
  refine sw_aload_n 5 G dX1_allCells_5 0 rfl ?_
  refine sw_get 6 G hnX1 0 1 dX1_allCells_6 vc1 (by decide) (List.mem_cons_of_mem _ lk_2d45b2b9) rfl rfl ?_
  refine sw_imul 9 G dX1_allCells_9 ?_
  refine sw_lshl 10 G dX1_allCells_10 ?_
  refine sw_lconst 11 G (1 : Int64) dX1_allCells_11 rfl ?_
  refine sw_lsub 12 G dX1_allCells_12 ?_
  cases hf
  exact sw_lret 13 G dX1_allCells_13 K
abbrev rmX1_markCells : Room := { frames := 1, cells := 0, slots := 0, locals := 21 }
theorem hvX1_markCells : yX1_markCells.cls = RX1 ∧ yX1_markCells.cls ≠ "java/lang/invoke/MethodHandle" ∧ yX1_markCells.cls ≠ "java/lang/invoke/VarHandle" ∧ (parseMethodDescriptor yX1_markCells.desc).map (fun d => d.parameters.length) = some 2 := by decide +kernel
set_option maxRecDepth 100000 in
set_option maxHeartbeats 4000000 in
theorem kX1_markCells (Θ : Tht) (d0 d1 d2 d3 : Nat) (d_columns : Int32) (d_rows : Int32) (d_carrier : Int32) (d_partMarks : Int64) (d_linkMarks : Int64) (d_operations : Int32) (d_pilots : Int32) (d_settings : Nat → Int32) (d_facts : Nat → Int32) (d_cells : Nat → Int64) (a0 : Int64) (a1 : Int32) (ro : Int32) (o_d_partMarks : Int64) (o_d_linkMarks : Int64) (hf : fX1_markCells d_partMarks d_linkMarks a0 a1 = some (ro, o_d_partMarks, o_d_linkMarks)) : Fn Θ yX1_markCells (Cond.code yX1_markCells cX1_markCells 10 (some .int) :: GW) rmX1_markCells [.ref d0, .long a0, .int a1] (wX1 Θ d0 d1 d2 d3 d_columns d_rows d_carrier d_partMarks d_linkMarks d_operations d_pilots d_settings d_facts d_cells) (some (.int ro)) (wX1 Θ d0 d1 d2 d3 d_columns d_rows d_carrier o_d_partMarks o_d_linkMarks d_operations d_pilots d_settings d_facts d_cells) := by
  delta fX1_markCells at hf
  refine Fn.of (by decide +kernel) rfl (Nat.le_of_ble_eq_true rfl) (fun p e s m args below meth c A Q G K => ?_)
  show sw Θ p e rmX1_markCells s m args below meth c A Q 10 0 0 0 [(0, .ref d0), (1, .long a0), (3, .int a1)] [] (wX1 Θ d0 d1 d2 d3 d_columns d_rows d_carrier d_partMarks d_linkMarks d_operations d_pilots d_settings d_facts d_cells)
  refine sw_iload_n 0 G dX1_markCells_0 2 rfl ?_
  refine sw_iconst 1 G (1 : Int32) dX1_markCells_1 rfl ?_
  obtain ⟨v1, hj, hf⟩ := bd1_some hf
  have hx24 : sw Θ p e rmX1_markCells s m args below meth c A Q 10 0 0 24 [(0, .ref d0), (1, .long a0), (3, .int a1)] [.long v1] (wX1 Θ d0 d1 d2 d3 d_columns d_rows d_carrier d_partMarks d_linkMarks d_operations d_pilots d_settings d_facts d_cells) := by
    refine sw_lstore 24 G [(4, .long v1), (0, .ref d0), (1, .long a0), (3, .int a1)] dX1_markCells_24 (by decide) rfl ?_
    refine sw_iload_n 26 G dX1_markCells_26 3 rfl ?_
    refine sw_iconst 27 G (2 : Int32) dX1_markCells_27 rfl ?_
    obtain ⟨v2, hj, hf⟩ := bd1_some hf
    have hx50 : sw Θ p e rmX1_markCells s m args below meth c A Q 10 0 0 50 [(0, .ref d0), (4, .long v1)] [.long v2] (wX1 Θ d0 d1 d2 d3 d_columns d_rows d_carrier d_partMarks d_linkMarks d_operations d_pilots d_settings d_facts d_cells) := by
      refine sw_lstore 50 G [(6, .long v2), (0, .ref d0), (4, .long v1)] dX1_markCells_50 (by decide) rfl ?_
      refine sw_lload 52 G dX1_markCells_52 2 rfl ?_
      refine sw_aload_n 54 G dX1_markCells_54 1 rfl ?_
      refine sw_get 55 G hnX1 0 3 dX1_markCells_55 vc1 (by decide) (List.mem_cons_of_mem _ lk_527a7e63) rfl rfl ?_
      refine sw_lxor 58 G dX1_markCells_58 ?_
      refine sw_lload 59 G dX1_markCells_59 0 rfl ?_
      refine sw_aload_n 61 G dX1_markCells_61 1 rfl ?_
      refine sw_get 62 G hnX1 0 4 dX1_markCells_62 vc1 (by decide) (List.mem_cons_of_mem _ lk_6f9393db) rfl rfl ?_
      refine sw_lxor 65 G dX1_markCells_65 ?_
      refine sw_lor 66 G dX1_markCells_66 ?_
      refine sw_nml hf (fun v3 hf => ?_)
      refine sw_lstore 67 G [(8, .long v3), (6, .long v2), (0, .ref d0), (4, .long v1)] dX1_markCells_67 (by decide) rfl ?_
      refine sw_aload_n 69 G dX1_markCells_69 2 rfl ?_
      refine sw_lload 70 G dX1_markCells_70 3 rfl ?_
      refine sw_put 72 G hnX1 tyX1_ok nmX1 0 3 (wX1 Θ d0 d1 d2 d3 d_columns d_rows d_carrier v1 d_linkMarks d_operations d_pilots d_settings d_facts d_cells) dX1_markCells_72 vc1 (by decide) (List.mem_cons_of_mem _ lk_527a7e63) rfl rfl (Nat.le_of_ble_eq_true rfl) (tyX1_ok 3 (by decide)) rfl rfl rfl ?_
      refine sw_aload_n 75 G dX1_markCells_75 2 rfl ?_
      refine sw_lload 76 G dX1_markCells_76 1 rfl ?_
      refine sw_put 78 G hnX1 tyX1_ok nmX1 0 4 (wX1 Θ d0 d1 d2 d3 d_columns d_rows d_carrier v1 v2 d_operations d_pilots d_settings d_facts d_cells) dX1_markCells_78 vc1 (by decide) (List.mem_cons_of_mem _ lk_6f9393db) rfl rfl (Nat.le_of_ble_eq_true rfl) (tyX1_ok 4 (by decide)) rfl rfl rfl ?_
      refine sw_lload 81 G dX1_markCells_81 0 rfl ?_
      obtain ⟨r4, hg, hf⟩ := bd1_some hf
      refine sw_callS 83 G (wX1 Θ d0 d1 d2 d3 d_columns d_rows d_carrier v1 v2 d_operations d_pilots d_settings d_facts d_cells) [] [0, 1, 2, 3] [0, 1, 2, 3] 1 dX1_markCells_83 (kJ13_bitCount_95d88 Θ v3 r4 hg) (gwS lk_fae29093 lk_6bfbc13d lk_b04e2cc5 lk_77169b53) rfl hsJ13_bitCount_95d88 ⟨rfl, rfl⟩ ⟨Nat.le_of_ble_eq_true rfl, Nat.le_of_ble_eq_true rfl⟩ ⟨Nat.zero_le _, Nat.zero_le _⟩ rfl rfl (Nat.le_of_ble_eq_true rfl) rfl rfl rfl (by decide) ?_
      cases hf
      exact sw_iret 86 G dX1_markCells_86 K
    clear hf
    have hf := hj
    clear hj
    refine sw_icmp_ne 28 40 G dX1_markCells_28 rfl hf (fun hf => ?_) (fun hf => ?_)
    · refine sw_aload_n 40 G dX1_markCells_40 1 rfl ?_
      refine sw_get 41 G hnX1 0 4 dX1_markCells_41 vc1 (by decide) (List.mem_cons_of_mem _ lk_6f9393db) rfl rfl ?_
      refine sw_lload_n 44 G dX1_markCells_44 2 rfl ?_
      refine sw_ldc2 45 G (List.mem_cons_of_mem _ lk_40d82051) dX1_markCells_45 ?_
      refine sw_lxor 48 G dX1_markCells_48 ?_
      refine sw_land 49 G dX1_markCells_49 ?_
      cases hf
      exact sw_lv _ [1, 0] rfl hx50
    · refine sw_aload_n 31 G dX1_markCells_31 1 rfl ?_
      refine sw_get 32 G hnX1 0 4 dX1_markCells_32 vc1 (by decide) (List.mem_cons_of_mem _ lk_6f9393db) rfl rfl ?_
      refine sw_lload_n 35 G dX1_markCells_35 2 rfl ?_
      refine sw_lor 36 G dX1_markCells_36 ?_
      refine sw_goto 37 G 50 dX1_markCells_37 rfl ?_
      cases hf
      exact sw_lv _ [1, 0] rfl hx50
  clear hf
  have hf := hj
  clear hj
  refine sw_icmp_ne 2 14 G dX1_markCells_2 rfl hf (fun hf => ?_) (fun hf => ?_)
  · refine sw_aload_n 14 G dX1_markCells_14 0 rfl ?_
    refine sw_get 15 G hnX1 0 3 dX1_markCells_15 vc1 (by decide) (List.mem_cons_of_mem _ lk_527a7e63) rfl rfl ?_
    refine sw_lload_n 18 G dX1_markCells_18 1 rfl ?_
    refine sw_ldc2 19 G (List.mem_cons_of_mem _ lk_40d82051) dX1_markCells_19 ?_
    refine sw_lxor 22 G dX1_markCells_22 ?_
    refine sw_land 23 G dX1_markCells_23 ?_
    cases hf
    exact sw_lv _ [0, 1, 2] rfl hx24
  · refine sw_aload_n 5 G dX1_markCells_5 0 rfl ?_
    refine sw_get 6 G hnX1 0 3 dX1_markCells_6 vc1 (by decide) (List.mem_cons_of_mem _ lk_527a7e63) rfl rfl ?_
    refine sw_lload_n 9 G dX1_markCells_9 1 rfl ?_
    refine sw_lor 10 G dX1_markCells_10 ?_
    refine sw_goto 11 G 24 dX1_markCells_11 rfl ?_
    cases hf
    exact sw_lv _ [0, 1, 2] rfl hx24
abbrev rmX1_carrierCells : Room := { frames := 0, cells := 0, slots := 0, locals := 0 }
theorem hvX1_carrierCells : yX1_carrierCells.cls = RX1 ∧ yX1_carrierCells.cls ≠ "java/lang/invoke/MethodHandle" ∧ yX1_carrierCells.cls ≠ "java/lang/invoke/VarHandle" ∧ (parseMethodDescriptor yX1_carrierCells.desc).map (fun d => d.parameters.length) = some 0 := by decide +kernel
set_option maxRecDepth 100000 in
set_option maxHeartbeats 4000000 in
theorem kX1_carrierCells (Θ : Tht) (d0 d1 d2 d3 : Nat) (d_columns : Int32) (d_rows : Int32) (d_carrier : Int32) (d_partMarks : Int64) (d_linkMarks : Int64) (d_operations : Int32) (d_pilots : Int32) (d_settings : Nat → Int32) (d_facts : Nat → Int32) (d_cells : Nat → Int64) (ro : Int64) (hf : fX1_carrierCells d_columns d_rows d_carrier = some ro) : Fn Θ yX1_carrierCells (Cond.code yX1_carrierCells cX1_carrierCells 5 (some .long) :: GW) rmX1_carrierCells [.ref d0] (wX1 Θ d0 d1 d2 d3 d_columns d_rows d_carrier d_partMarks d_linkMarks d_operations d_pilots d_settings d_facts d_cells) (some (.long ro)) (wX1 Θ d0 d1 d2 d3 d_columns d_rows d_carrier d_partMarks d_linkMarks d_operations d_pilots d_settings d_facts d_cells) := by
  delta fX1_carrierCells at hf
  refine Fn.of (by decide +kernel) rfl (Nat.le_of_ble_eq_true rfl) (fun p e s m args below meth c A Q G K => ?_)
  show sw Θ p e rmX1_carrierCells s m args below meth c A Q 5 0 0 0 [(0, .ref d0)] [] (wX1 Θ d0 d1 d2 d3 d_columns d_rows d_carrier d_partMarks d_linkMarks d_operations d_pilots d_settings d_facts d_cells)
  refine sw_lconst 0 G (1 : Int64) dX1_carrierCells_0 rfl ?_
  refine sw_aload_n 1 G dX1_carrierCells_1 0 rfl ?_
  refine sw_get 2 G hnX1 0 0 dX1_carrierCells_2 vc1 (by decide) (List.mem_cons_of_mem _ lk_c5f4e1a9) rfl rfl ?_
  refine sw_lshl 5 G dX1_carrierCells_5 ?_
  refine sw_lconst 6 G (1 : Int64) dX1_carrierCells_6 rfl ?_
  refine sw_lsub 7 G dX1_carrierCells_7 ?_
  refine sw_nml hf (fun v1 hf => ?_)
  refine sw_lstore_n 8 G [(1, .long v1), (0, .ref d0)] dX1_carrierCells_8 (by decide) rfl ?_
  refine sw_lload_n 9 G dX1_carrierCells_9 0 rfl ?_
  refine sw_aload_n 10 G dX1_carrierCells_10 1 rfl ?_
  refine sw_get 11 G hnX1 0 1 dX1_carrierCells_11 vc1 (by decide) (List.mem_cons_of_mem _ lk_2d45b2b9) rfl rfl ?_
  refine sw_iconst 14 G (1 : Int32) dX1_carrierCells_14 rfl ?_
  refine sw_isub 15 G dX1_carrierCells_15 ?_
  refine sw_aload_n 16 G dX1_carrierCells_16 1 rfl ?_
  refine sw_get 17 G hnX1 0 0 dX1_carrierCells_17 vc1 (by decide) (List.mem_cons_of_mem _ lk_c5f4e1a9) rfl rfl ?_
  refine sw_imul 20 G dX1_carrierCells_20 ?_
  refine sw_lshl 21 G dX1_carrierCells_21 ?_
  refine sw_nml hf (fun v2 hf => ?_)
  refine sw_lstore_n 22 G [(3, .long v2), (1, .long v1), (0, .ref d0)] dX1_carrierCells_22 (by decide) rfl ?_
  refine sw_aload_n 23 G dX1_carrierCells_23 2 rfl ?_
  refine sw_get 24 G hnX1 0 2 dX1_carrierCells_24 vc1 (by decide) (List.mem_cons_of_mem _ lk_a776837e) rfl rfl ?_
  refine sw_iconst 27 G (2 : Int32) dX1_carrierCells_27 rfl ?_
  refine sw_icmp_ne 28 35 G dX1_carrierCells_28 rfl hf (fun hf => ?_) (fun hf => ?_)
  · refine sw_aload_n 35 G dX1_carrierCells_35 2 rfl ?_
    refine sw_get 36 G hnX1 0 2 dX1_carrierCells_36 vc1 (by decide) (List.mem_cons_of_mem _ lk_a776837e) rfl rfl ?_
    refine sw_if_ne 39 46 G dX1_carrierCells_39 rfl hf (fun hf => ?_) (fun hf => ?_)
    · refine sw_lload_n 46 G dX1_carrierCells_46 0 rfl ?_
      cases hf
      exact sw_lret 47 G dX1_carrierCells_47 K
    · refine sw_lload_n 42 G dX1_carrierCells_42 1 rfl ?_
      refine sw_goto 43 G 47 dX1_carrierCells_43 rfl ?_
      cases hf
      exact sw_lret 47 G dX1_carrierCells_47 K
  · refine sw_lload_n 31 G dX1_carrierCells_31 1 rfl ?_
    refine sw_lload_n 32 G dX1_carrierCells_32 0 rfl ?_
    refine sw_lor 33 G dX1_carrierCells_33 ?_
    cases hf
    exact sw_lret 34 G dX1_carrierCells_34 K
abbrev rmX1_partCells : Room := { frames := 1, cells := 0, slots := 0, locals := 24 }
theorem hvX1_partCells : yX1_partCells.cls = RX1 ∧ yX1_partCells.cls ≠ "java/lang/invoke/MethodHandle" ∧ yX1_partCells.cls ≠ "java/lang/invoke/VarHandle" ∧ (parseMethodDescriptor yX1_partCells.desc).map (fun d => d.parameters.length) = some 0 := by decide +kernel
set_option maxRecDepth 100000 in
set_option maxHeartbeats 4000000 in
theorem kX1_partCells (Θ : Tht) (d0 d1 d2 d3 : Nat) (d_columns : Int32) (d_rows : Int32) (d_carrier : Int32) (d_partMarks : Int64) (d_linkMarks : Int64) (d_operations : Int32) (d_pilots : Int32) (d_settings : Nat → Int32) (d_facts : Nat → Int32) (d_cells : Nat → Int64) (ro : Int64) (hf : fX1_partCells d_columns d_rows d_carrier d_partMarks = some ro) : Fn Θ yX1_partCells (Cond.code yX1_partCells cX1_partCells 1 (some .long) :: GW) rmX1_partCells [.ref d0] (wX1 Θ d0 d1 d2 d3 d_columns d_rows d_carrier d_partMarks d_linkMarks d_operations d_pilots d_settings d_facts d_cells) (some (.long ro)) (wX1 Θ d0 d1 d2 d3 d_columns d_rows d_carrier d_partMarks d_linkMarks d_operations d_pilots d_settings d_facts d_cells) := by
  delta fX1_partCells at hf
  refine Fn.of (by decide +kernel) rfl (Nat.le_of_ble_eq_true rfl) (fun p e s m args below meth c A Q G K => ?_)
  show sw Θ p e rmX1_partCells s m args below meth c A Q 1 0 0 0 [(0, .ref d0)] [] (wX1 Θ d0 d1 d2 d3 d_columns d_rows d_carrier d_partMarks d_linkMarks d_operations d_pilots d_settings d_facts d_cells)
  refine sw_aload_n 0 G dX1_partCells_0 0 rfl ?_
  refine sw_get 1 G hnX1 0 3 dX1_partCells_1 vc1 (by decide) (List.mem_cons_of_mem _ lk_527a7e63) rfl rfl ?_
  refine sw_aload_n 4 G dX1_partCells_4 0 rfl ?_
  obtain ⟨r1, hg, hf⟩ := bd1_some hf
  refine sw_callV 5 G (wX1 Θ d0 d1 d2 d3 d_columns d_rows d_carrier d_partMarks d_linkMarks d_operations d_pilots d_settings d_facts d_cells) [0, 1, 2, 3] [] [0, 1, 2, 3] 0 dX1_partCells_5 (kX1_carrierCells Θ d0 d1 d2 d3 d_columns d_rows d_carrier d_partMarks d_linkMarks d_operations d_pilots d_settings d_facts d_cells r1 hg) (gwV lk_16edabff lk_447df895 lk_ce1f32b3 lk_cf66e99d lk_03889728) rfl hvX1_carrierCells ⟨rfl, rfl⟩ ⟨Nat.le_of_ble_eq_true rfl, Nat.le_of_ble_eq_true rfl⟩ ⟨Nat.zero_le _, Nat.zero_le _⟩ rfl rfl (Nat.le_of_ble_eq_true rfl) 0 rfl vc1 rfl rfl rfl rfl (by decide) ?_
  refine sw_ldc2 8 G (List.mem_cons_of_mem _ lk_40d82051) dX1_partCells_8 ?_
  refine sw_lxor 11 G dX1_partCells_11 ?_
  refine sw_land 12 G dX1_partCells_12 ?_
  cases hf
  exact sw_lret 13 G dX1_partCells_13 K
abbrev rmX1_linkCells : Room := { frames := 1, cells := 0, slots := 0, locals := 24 }
theorem hvX1_linkCells : yX1_linkCells.cls = RX1 ∧ yX1_linkCells.cls ≠ "java/lang/invoke/MethodHandle" ∧ yX1_linkCells.cls ≠ "java/lang/invoke/VarHandle" ∧ (parseMethodDescriptor yX1_linkCells.desc).map (fun d => d.parameters.length) = some 0 := by decide +kernel
set_option maxRecDepth 100000 in
set_option maxHeartbeats 4000000 in
theorem kX1_linkCells (Θ : Tht) (d0 d1 d2 d3 : Nat) (d_columns : Int32) (d_rows : Int32) (d_carrier : Int32) (d_partMarks : Int64) (d_linkMarks : Int64) (d_operations : Int32) (d_pilots : Int32) (d_settings : Nat → Int32) (d_facts : Nat → Int32) (d_cells : Nat → Int64) (ro : Int64) (hf : fX1_linkCells d_columns d_rows d_carrier d_linkMarks = some ro) : Fn Θ yX1_linkCells (Cond.code yX1_linkCells cX1_linkCells 1 (some .long) :: GW) rmX1_linkCells [.ref d0] (wX1 Θ d0 d1 d2 d3 d_columns d_rows d_carrier d_partMarks d_linkMarks d_operations d_pilots d_settings d_facts d_cells) (some (.long ro)) (wX1 Θ d0 d1 d2 d3 d_columns d_rows d_carrier d_partMarks d_linkMarks d_operations d_pilots d_settings d_facts d_cells) := by
  delta fX1_linkCells at hf
  refine Fn.of (by decide +kernel) rfl (Nat.le_of_ble_eq_true rfl) (fun p e s m args below meth c A Q G K => ?_)
  show sw Θ p e rmX1_linkCells s m args below meth c A Q 1 0 0 0 [(0, .ref d0)] [] (wX1 Θ d0 d1 d2 d3 d_columns d_rows d_carrier d_partMarks d_linkMarks d_operations d_pilots d_settings d_facts d_cells)
  refine sw_aload_n 0 G dX1_linkCells_0 0 rfl ?_
  refine sw_get 1 G hnX1 0 4 dX1_linkCells_1 vc1 (by decide) (List.mem_cons_of_mem _ lk_6f9393db) rfl rfl ?_
  refine sw_aload_n 4 G dX1_linkCells_4 0 rfl ?_
  obtain ⟨r1, hg, hf⟩ := bd1_some hf
  refine sw_callV 5 G (wX1 Θ d0 d1 d2 d3 d_columns d_rows d_carrier d_partMarks d_linkMarks d_operations d_pilots d_settings d_facts d_cells) [0, 1, 2, 3] [] [0, 1, 2, 3] 0 dX1_linkCells_5 (kX1_carrierCells Θ d0 d1 d2 d3 d_columns d_rows d_carrier d_partMarks d_linkMarks d_operations d_pilots d_settings d_facts d_cells r1 hg) (gwV lk_16edabff lk_447df895 lk_ce1f32b3 lk_cf66e99d lk_03889728) rfl hvX1_carrierCells ⟨rfl, rfl⟩ ⟨Nat.le_of_ble_eq_true rfl, Nat.le_of_ble_eq_true rfl⟩ ⟨Nat.zero_le _, Nat.zero_le _⟩ rfl rfl (Nat.le_of_ble_eq_true rfl) 0 rfl vc1 rfl rfl rfl rfl (by decide) ?_
  refine sw_ldc2 8 G (List.mem_cons_of_mem _ lk_40d82051) dX1_linkCells_8 ?_
  refine sw_lxor 11 G dX1_linkCells_11 ?_
  refine sw_land 12 G dX1_linkCells_12 ?_
  cases hf
  exact sw_lret 13 G dX1_linkCells_13 K
abbrev rmX1_wasteCells : Room := { frames := 1, cells := 0, slots := 0, locals := 24 }
theorem hvX1_wasteCells : yX1_wasteCells.cls = RX1 ∧ yX1_wasteCells.cls ≠ "java/lang/invoke/MethodHandle" ∧ yX1_wasteCells.cls ≠ "java/lang/invoke/VarHandle" ∧ (parseMethodDescriptor yX1_wasteCells.desc).map (fun d => d.parameters.length) = some 0 := by decide +kernel
set_option maxRecDepth 100000 in
set_option maxHeartbeats 4000000 in
theorem kX1_wasteCells (Θ : Tht) (d0 d1 d2 d3 : Nat) (d_columns : Int32) (d_rows : Int32) (d_carrier : Int32) (d_partMarks : Int64) (d_linkMarks : Int64) (d_operations : Int32) (d_pilots : Int32) (d_settings : Nat → Int32) (d_facts : Nat → Int32) (d_cells : Nat → Int64) (ro : Int64) (hf : fX1_wasteCells d_columns d_rows d_carrier d_partMarks d_linkMarks = some ro) : Fn Θ yX1_wasteCells (Cond.code yX1_wasteCells cX1_wasteCells 1 (some .long) :: GW) rmX1_wasteCells [.ref d0] (wX1 Θ d0 d1 d2 d3 d_columns d_rows d_carrier d_partMarks d_linkMarks d_operations d_pilots d_settings d_facts d_cells) (some (.long ro)) (wX1 Θ d0 d1 d2 d3 d_columns d_rows d_carrier d_partMarks d_linkMarks d_operations d_pilots d_settings d_facts d_cells) := by
  delta fX1_wasteCells at hf
  refine Fn.of (by decide +kernel) rfl (Nat.le_of_ble_eq_true rfl) (fun p e s m args below meth c A Q G K => ?_)
  show sw Θ p e rmX1_wasteCells s m args below meth c A Q 1 0 0 0 [(0, .ref d0)] [] (wX1 Θ d0 d1 d2 d3 d_columns d_rows d_carrier d_partMarks d_linkMarks d_operations d_pilots d_settings d_facts d_cells)
  refine sw_aload_n 0 G dX1_wasteCells_0 0 rfl ?_
  obtain ⟨r1, hg, hf⟩ := bd1_some hf
  refine sw_callV 1 G (wX1 Θ d0 d1 d2 d3 d_columns d_rows d_carrier d_partMarks d_linkMarks d_operations d_pilots d_settings d_facts d_cells) [0, 1, 2, 3] [] [0, 1, 2, 3] 0 dX1_wasteCells_1 (kX1_allCells Θ d0 d1 d2 d3 d_columns d_rows d_carrier d_partMarks d_linkMarks d_operations d_pilots d_settings d_facts d_cells r1 hg) (gwV lk_14b6b9f3 lk_d46b963c lk_bc6f34fe lk_cf66e99d lk_d819ec8a) rfl hvX1_allCells ⟨rfl, rfl⟩ ⟨Nat.le_of_ble_eq_true rfl, Nat.le_of_ble_eq_true rfl⟩ ⟨Nat.zero_le _, Nat.zero_le _⟩ rfl rfl (Nat.le_of_ble_eq_true rfl) 0 rfl vc1 rfl rfl rfl rfl (by decide) ?_
  refine sw_aload_n 4 G dX1_wasteCells_4 0 rfl ?_
  refine sw_get 5 G hnX1 0 3 dX1_wasteCells_5 vc1 (by decide) (List.mem_cons_of_mem _ lk_527a7e63) rfl rfl ?_
  refine sw_aload_n 8 G dX1_wasteCells_8 0 rfl ?_
  refine sw_get 9 G hnX1 0 4 dX1_wasteCells_9 vc1 (by decide) (List.mem_cons_of_mem _ lk_6f9393db) rfl rfl ?_
  refine sw_lor 12 G dX1_wasteCells_12 ?_
  refine sw_aload_n 13 G dX1_wasteCells_13 0 rfl ?_
  obtain ⟨r2, hg, hf⟩ := bd1_some hf
  refine sw_callV 14 G (wX1 Θ d0 d1 d2 d3 d_columns d_rows d_carrier d_partMarks d_linkMarks d_operations d_pilots d_settings d_facts d_cells) [0, 1, 2, 3] [] [0, 1, 2, 3] 0 dX1_wasteCells_14 (kX1_carrierCells Θ d0 d1 d2 d3 d_columns d_rows d_carrier d_partMarks d_linkMarks d_operations d_pilots d_settings d_facts d_cells r2 hg) (gwV lk_16edabff lk_447df895 lk_ce1f32b3 lk_cf66e99d lk_03889728) rfl hvX1_carrierCells ⟨rfl, rfl⟩ ⟨Nat.le_of_ble_eq_true rfl, Nat.le_of_ble_eq_true rfl⟩ ⟨Nat.zero_le _, Nat.zero_le _⟩ rfl rfl (Nat.le_of_ble_eq_true rfl) 0 rfl vc1 rfl rfl rfl rfl (by decide) ?_
  refine sw_lor 17 G dX1_wasteCells_17 ?_
  refine sw_ldc2 18 G (List.mem_cons_of_mem _ lk_40d82051) dX1_wasteCells_18 ?_
  refine sw_lxor 21 G dX1_wasteCells_21 ?_
  refine sw_land 22 G dX1_wasteCells_22 ?_
  cases hf
  exact sw_lret 23 G dX1_wasteCells_23 K
abbrev rmX1_cellsOf : Room := { frames := 0, cells := 0, slots := 0, locals := 0 }
theorem hvX1_cellsOf : yX1_cellsOf.cls = RX1 ∧ yX1_cellsOf.cls ≠ "java/lang/invoke/MethodHandle" ∧ yX1_cellsOf.cls ≠ "java/lang/invoke/VarHandle" ∧ (parseMethodDescriptor yX1_cellsOf.desc).map (fun d => d.parameters.length) = some 1 := by decide +kernel
set_option maxRecDepth 100000 in
set_option maxHeartbeats 4000000 in
theorem kX1_cellsOf (Θ : Tht) (d0 d1 d2 d3 : Nat) (d_columns : Int32) (d_rows : Int32) (d_carrier : Int32) (d_partMarks : Int64) (d_linkMarks : Int64) (d_operations : Int32) (d_pilots : Int32) (d_settings : Nat → Int32) (d_facts : Nat → Int32) (d_cells : Nat → Int64) (a0 : Int32) (ro : Int64) (hf : fX1_cellsOf d_cells a0 = some ro) : Fn Θ yX1_cellsOf (Cond.code yX1_cellsOf cX1_cellsOf 2 (some .long) :: GW) rmX1_cellsOf [.ref d0, .int a0] (wX1 Θ d0 d1 d2 d3 d_columns d_rows d_carrier d_partMarks d_linkMarks d_operations d_pilots d_settings d_facts d_cells) (some (.long ro)) (wX1 Θ d0 d1 d2 d3 d_columns d_rows d_carrier d_partMarks d_linkMarks d_operations d_pilots d_settings d_facts d_cells) := by
  delta fX1_cellsOf at hf
  refine Fn.of (by decide +kernel) rfl (Nat.le_of_ble_eq_true rfl) (fun p e s m args below meth c A Q G K => ?_)
  show sw Θ p e rmX1_cellsOf s m args below meth c A Q 2 0 0 0 [(0, .ref d0), (1, .int a0)] [] (wX1 Θ d0 d1 d2 d3 d_columns d_rows d_carrier d_partMarks d_linkMarks d_operations d_pilots d_settings d_facts d_cells)
  refine sw_iload_n 0 G dX1_cellsOf_0 1 rfl ?_
  refine sw_if_lt 1 22 G dX1_cellsOf_1 rfl hf (fun hf => ?_) (fun hf => ?_)
  · refine sw_lconst 22 G (0 : Int64) dX1_cellsOf_22 rfl ?_
    cases hf
    exact sw_lret 23 G dX1_cellsOf_23 K
  · refine sw_iload_n 4 G dX1_cellsOf_4 1 rfl ?_
    refine sw_aload_n 5 G dX1_cellsOf_5 0 rfl ?_
    refine sw_get 6 G hnX1 0 9 dX1_cellsOf_6 vc1 (by decide) (List.mem_cons_of_mem _ lk_7d3903e7) rfl rfl ?_
    refine sw_alen 9 G 3 2 (6 : Int32) dX1_cellsOf_9 rfl rfl rfl ?_
    refine sw_icmp_ge 10 22 G dX1_cellsOf_10 rfl hf (fun hf => ?_) (fun hf => ?_)
    · refine sw_lconst 22 G (0 : Int64) dX1_cellsOf_22 rfl ?_
      cases hf
      exact sw_lret 23 G dX1_cellsOf_23 K
    · refine sw_aload_n 13 G dX1_cellsOf_13 0 rfl ?_
      refine sw_get 14 G hnX1 0 9 dX1_cellsOf_14 vc1 (by decide) (List.mem_cons_of_mem _ lk_7d3903e7) rfl rfl ?_
      refine sw_iload_n 17 G dX1_cellsOf_17 1 rfl ?_
      refine sw_lald 18 G 3 dX1_cellsOf_18 rfl hf (fun hf => ?_)
      refine sw_goto 19 G 23 dX1_cellsOf_19 rfl ?_
      cases hf
      exact sw_lret 23 G dX1_cellsOf_23 K
abbrev rmX1_cellsOfKind : Room := { frames := 1, cells := 0, slots := 0, locals := 23 }
theorem hvX1_cellsOfKind : yX1_cellsOfKind.cls = RX1 ∧ yX1_cellsOfKind.cls ≠ "java/lang/invoke/MethodHandle" ∧ yX1_cellsOfKind.cls ≠ "java/lang/invoke/VarHandle" ∧ (parseMethodDescriptor yX1_cellsOfKind.desc).map (fun d => d.parameters.length) = some 1 := by decide +kernel
set_option maxRecDepth 100000 in
set_option maxHeartbeats 4000000 in
theorem kX1_cellsOfKind (Θ : Tht) (F : Nat) (d0 d1 d2 d3 : Nat) (d_columns : Int32) (d_rows : Int32) (d_carrier : Int32) (d_partMarks : Int64) (d_linkMarks : Int64) (d_operations : Int32) (d_pilots : Int32) (d_settings : Nat → Int32) (d_facts : Nat → Int32) (d_cells : Nat → Int64) (a0 : Int32) (ro : Int64) (hf : fX1_cellsOfKind F d_operations d_facts d_cells a0 = some ro) : Fn Θ yX1_cellsOfKind (Cond.code yX1_cellsOfKind cX1_cellsOfKind 5 (some .long) :: GW) rmX1_cellsOfKind [.ref d0, .int a0] (wX1 Θ d0 d1 d2 d3 d_columns d_rows d_carrier d_partMarks d_linkMarks d_operations d_pilots d_settings d_facts d_cells) (some (.long ro)) (wX1 Θ d0 d1 d2 d3 d_columns d_rows d_carrier d_partMarks d_linkMarks d_operations d_pilots d_settings d_facts d_cells) := by
  delta fX1_cellsOfKind at hf
  refine Fn.of (by decide +kernel) rfl (Nat.le_of_ble_eq_true rfl) (fun p e s m args below meth c A Q G K => ?_)
  show sw Θ p e rmX1_cellsOfKind s m args below meth c A Q 5 0 0 0 [(0, .ref d0), (1, .int a0)] [] (wX1 Θ d0 d1 d2 d3 d_columns d_rows d_carrier d_partMarks d_linkMarks d_operations d_pilots d_settings d_facts d_cells)
  refine sw_lconst 0 G (0 : Int64) dX1_cellsOfKind_0 rfl ?_
  refine sw_lstore_n 1 G [(2, .long (0 : Int64)), (0, .ref d0), (1, .int a0)] dX1_cellsOfKind_1 (by decide) rfl ?_
  refine sw_iconst 2 G (0 : Int32) dX1_cellsOfKind_2 rfl ?_
  refine sw_istore 3 G [(4, .int (0 : Int32)), (2, .long (0 : Int64)), (0, .ref d0), (1, .int a0)] dX1_cellsOfKind_3 (by decide) rfl ?_
  obtain ⟨v1, hl, hf⟩ := bd1_some hf
  have hx5_40 : sw Θ p e rmX1_cellsOfKind s m args below meth c A Q 5 0 0 40 [(2, .long v1)] [] (wX1 Θ d0 d1 d2 d3 d_columns d_rows d_carrier d_partMarks d_linkMarks d_operations d_pilots d_settings d_facts d_cells) := by
    refine sw_lload_n 40 G dX1_cellsOfKind_40 0 rfl ?_
    cases hf
    exact sw_lret 41 G dX1_cellsOfKind_41 K
  refine sw_lv [(0, .ref d0), (1, .int a0), (2, .long (0 : Int64)), (4, .int (0 : Int32))] [2, 3, 1, 0] rfl ?_
  refine lp_walk (P := fun (t : Int64 × Int32) => sw Θ p e rmX1_cellsOfKind s m args below meth c A Q 5 0 0 5 [(0, .ref d0), (1, .int a0), (2, .long t.1), (4, .int t.2)] [] (wX1 Θ d0 d1 d2 d3 d_columns d_rows d_carrier d_partMarks d_linkMarks d_operations d_pilots d_settings d_facts d_cells)) hl (fun t5 y5 hf hin5 hex5 => ?_)
  obtain ⟨v2, v3⟩ := t5
  show sw Θ p e rmX1_cellsOfKind s m args below meth c A Q 5 0 0 5 [(0, .ref d0), (1, .int a0), (2, .long v2), (4, .int v3)] [] (wX1 Θ d0 d1 d2 d3 d_columns d_rows d_carrier d_partMarks d_linkMarks d_operations d_pilots d_settings d_facts d_cells)
  have hf := uc2_some (K := _) hf
  refine sw_iload 5 G dX1_cellsOfKind_5 3 rfl ?_
  refine sw_aload_n 7 G dX1_cellsOfKind_7 0 rfl ?_
  refine sw_get 8 G hnX1 0 5 dX1_cellsOfKind_8 vc1 (by decide) (List.mem_cons_of_mem _ lk_bded192f) rfl rfl ?_
  refine sw_icmp_ge 11 40 G dX1_cellsOfKind_11 rfl hf (fun hf => ?_) (fun hf => ?_)
  · cases hf
    cases hex5 _ rfl
    exact sw_lv _ [2] rfl hx5_40
  · refine sw_aload_n 14 G dX1_cellsOfKind_14 0 rfl ?_
    refine sw_iload 15 G dX1_cellsOfKind_15 3 rfl ?_
    refine sw_iconst 17 G (0 : Int32) dX1_cellsOfKind_17 rfl ?_
    obtain ⟨r4, hg, hf⟩ := bd1_some hf
    refine sw_callV 18 G (wX1 Θ d0 d1 d2 d3 d_columns d_rows d_carrier d_partMarks d_linkMarks d_operations d_pilots d_settings d_facts d_cells) [0, 1, 2, 3] [] [0, 1, 2, 3] 2 dX1_cellsOfKind_18 (kX1_fact Θ d0 d1 d2 d3 d_columns d_rows d_carrier d_partMarks d_linkMarks d_operations d_pilots d_settings d_facts d_cells v3 (0 : Int32) r4 hg) (gwV lk_a9b0b2ed lk_e025dfb3 lk_773339a1 lk_cf66e99d lk_334ef9fb) rfl hvX1_fact ⟨rfl, rfl⟩ ⟨Nat.le_of_ble_eq_true rfl, Nat.le_of_ble_eq_true rfl⟩ ⟨Nat.zero_le _, Nat.zero_le _⟩ rfl rfl (Nat.le_of_ble_eq_true rfl) 0 rfl vc1 rfl rfl rfl rfl (by decide) ?_
    refine sw_iload_n 21 G dX1_cellsOfKind_21 1 rfl ?_
    obtain ⟨v5, hj, hf⟩ := bd1_some hf
    have hx34 : sw Θ p e rmX1_cellsOfKind s m args below meth c A Q 5 0 0 34 [(0, .ref d0), (1, .int a0), (2, .long v5), (4, .int v3)] [] (wX1 Θ d0 d1 d2 d3 d_columns d_rows d_carrier d_partMarks d_linkMarks d_operations d_pilots d_settings d_facts d_cells) := by
      refine sw_iinc 34 G (v3 + (1 : Int32)) [(4, .int (v3 + (1 : Int32))), (0, .ref d0), (1, .int a0), (2, .long v5)] dX1_cellsOfKind_34 3 rfl rfl (by decide) rfl ?_
      refine sw_goto 37 G 5 dX1_cellsOfKind_37 rfl ?_
      cases hf
      have hb := hin5 _ rfl
      exact sw_lv _ [1, 2, 3, 0] (by rfl) hb
    clear hf
    have hf := hj
    clear hj
    refine sw_icmp_ne 22 34 G dX1_cellsOfKind_22 rfl hf (fun hf => ?_) (fun hf => ?_)
    · cases hf
      exact sw_lv _ [0, 1, 2, 3] rfl hx34
    · refine sw_lload_n 25 G dX1_cellsOfKind_25 2 rfl ?_
      refine sw_aload_n 26 G dX1_cellsOfKind_26 0 rfl ?_
      refine sw_iload 27 G dX1_cellsOfKind_27 3 rfl ?_
      obtain ⟨r6, hg, hf⟩ := bd1_some hf
      refine sw_callV 29 G (wX1 Θ d0 d1 d2 d3 d_columns d_rows d_carrier d_partMarks d_linkMarks d_operations d_pilots d_settings d_facts d_cells) [0, 1, 2, 3] [] [0, 1, 2, 3] 1 dX1_cellsOfKind_29 (kX1_cellsOf Θ d0 d1 d2 d3 d_columns d_rows d_carrier d_partMarks d_linkMarks d_operations d_pilots d_settings d_facts d_cells v3 r6 hg) (gwV lk_4b47e753 lk_cd5fd627 lk_1ac25e50 lk_cf66e99d lk_f58614fb) rfl hvX1_cellsOf ⟨rfl, rfl⟩ ⟨Nat.le_of_ble_eq_true rfl, Nat.le_of_ble_eq_true rfl⟩ ⟨Nat.zero_le _, Nat.zero_le _⟩ rfl rfl (Nat.le_of_ble_eq_true rfl) 0 rfl vc1 rfl rfl rfl rfl (by decide) ?_
      refine sw_lor 32 G dX1_cellsOfKind_32 ?_
      refine sw_nml hf (fun v7 hf => ?_)
      refine sw_lstore_n 33 G [(2, .long v7), (0, .ref d0), (1, .int a0), (4, .int v3)] dX1_cellsOfKind_33 (by decide) rfl ?_
      cases hf
      exact sw_lv _ [1, 2, 0, 3] rfl hx34
abbrev rmX1_forgottenCells : Room := { frames := 2, cells := 0, slots := 0, locals := 47 }
theorem hvX1_forgottenCells : yX1_forgottenCells.cls = RX1 ∧ yX1_forgottenCells.cls ≠ "java/lang/invoke/MethodHandle" ∧ yX1_forgottenCells.cls ≠ "java/lang/invoke/VarHandle" ∧ (parseMethodDescriptor yX1_forgottenCells.desc).map (fun d => d.parameters.length) = some 0 := by decide +kernel
set_option maxRecDepth 100000 in
set_option maxHeartbeats 4000000 in
theorem kX1_forgottenCells (Θ : Tht) (F : Nat) (d0 d1 d2 d3 : Nat) (d_columns : Int32) (d_rows : Int32) (d_carrier : Int32) (d_partMarks : Int64) (d_linkMarks : Int64) (d_operations : Int32) (d_pilots : Int32) (d_settings : Nat → Int32) (d_facts : Nat → Int32) (d_cells : Nat → Int64) (ro : Int64) (hf : fX1_forgottenCells F d_columns d_rows d_carrier d_partMarks d_linkMarks d_operations d_facts d_cells = some ro) : Fn Θ yX1_forgottenCells (Cond.code yX1_forgottenCells cX1_forgottenCells 1 (some .long) :: GW) rmX1_forgottenCells [.ref d0] (wX1 Θ d0 d1 d2 d3 d_columns d_rows d_carrier d_partMarks d_linkMarks d_operations d_pilots d_settings d_facts d_cells) (some (.long ro)) (wX1 Θ d0 d1 d2 d3 d_columns d_rows d_carrier d_partMarks d_linkMarks d_operations d_pilots d_settings d_facts d_cells) := by
  delta fX1_forgottenCells at hf
  refine Fn.of (by decide +kernel) rfl (Nat.le_of_ble_eq_true rfl) (fun p e s m args below meth c A Q G K => ?_)
  show sw Θ p e rmX1_forgottenCells s m args below meth c A Q 1 0 0 0 [(0, .ref d0)] [] (wX1 Θ d0 d1 d2 d3 d_columns d_rows d_carrier d_partMarks d_linkMarks d_operations d_pilots d_settings d_facts d_cells)
  refine sw_aload_n 0 G dX1_forgottenCells_0 0 rfl ?_
  obtain ⟨r1, hg, hf⟩ := bd1_some hf
  refine sw_callV 1 G (wX1 Θ d0 d1 d2 d3 d_columns d_rows d_carrier d_partMarks d_linkMarks d_operations d_pilots d_settings d_facts d_cells) [0, 1, 2, 3] [] [0, 1, 2, 3] 0 dX1_forgottenCells_1 (kX1_wasteCells Θ d0 d1 d2 d3 d_columns d_rows d_carrier d_partMarks d_linkMarks d_operations d_pilots d_settings d_facts d_cells r1 hg) (gwV lk_f7b69b15 lk_202d8319 lk_d82e9ee9 lk_cf66e99d lk_69461565) rfl hvX1_wasteCells ⟨rfl, rfl⟩ ⟨Nat.le_of_ble_eq_true rfl, Nat.le_of_ble_eq_true rfl⟩ ⟨Nat.zero_le _, Nat.zero_le _⟩ rfl rfl (Nat.le_of_ble_eq_true rfl) 0 rfl vc1 rfl rfl rfl rfl (by decide) ?_
  refine sw_aload_n 4 G dX1_forgottenCells_4 0 rfl ?_
  refine sw_iconst 5 G (0 : Int32) dX1_forgottenCells_5 rfl ?_
  obtain ⟨r2, hg, hf⟩ := bd1_some hf
  refine sw_callV 6 G (wX1 Θ d0 d1 d2 d3 d_columns d_rows d_carrier d_partMarks d_linkMarks d_operations d_pilots d_settings d_facts d_cells) [0, 1, 2, 3] [] [0, 1, 2, 3] 1 dX1_forgottenCells_6 (kX1_cellsOfKind Θ F d0 d1 d2 d3 d_columns d_rows d_carrier d_partMarks d_linkMarks d_operations d_pilots d_settings d_facts d_cells (0 : Int32) r2 hg) (gwV lk_9d44e7ac lk_0f6337fc lk_1dbc5789 lk_cf66e99d lk_9bdedb27) rfl hvX1_cellsOfKind ⟨rfl, rfl⟩ ⟨Nat.le_of_ble_eq_true rfl, Nat.le_of_ble_eq_true rfl⟩ ⟨Nat.zero_le _, Nat.zero_le _⟩ rfl rfl (Nat.le_of_ble_eq_true rfl) 0 rfl vc1 rfl rfl rfl rfl (by decide) ?_
  refine sw_ldc2 9 G (List.mem_cons_of_mem _ lk_40d82051) dX1_forgottenCells_9 ?_
  refine sw_lxor 12 G dX1_forgottenCells_12 ?_
  refine sw_land 13 G dX1_forgottenCells_13 ?_
  cases hf
  exact sw_lret 14 G dX1_forgottenCells_14 K
abbrev rmX1_neighbors : Room := { frames := 1, cells := 0, slots := 0, locals := 29 }
theorem hvX1_neighbors : yX1_neighbors.cls = RX1 ∧ yX1_neighbors.cls ≠ "java/lang/invoke/MethodHandle" ∧ yX1_neighbors.cls ≠ "java/lang/invoke/VarHandle" ∧ (parseMethodDescriptor yX1_neighbors.desc).map (fun d => d.parameters.length) = some 1 := by decide +kernel
set_option maxRecDepth 100000 in
set_option maxHeartbeats 4000000 in
theorem kX1_neighbors (Θ : Tht) (F : Nat) (d0 d1 d2 d3 : Nat) (d_columns : Int32) (d_rows : Int32) (d_carrier : Int32) (d_partMarks : Int64) (d_linkMarks : Int64) (d_operations : Int32) (d_pilots : Int32) (d_settings : Nat → Int32) (d_facts : Nat → Int32) (d_cells : Nat → Int64) (a0 : Int64) (ro : Int64) (hf : fX1_neighbors F d_columns d_rows a0 = some ro) : Fn Θ yX1_neighbors (Cond.code yX1_neighbors cX1_neighbors 11 (some .long) :: GW) rmX1_neighbors [.ref d0, .long a0] (wX1 Θ d0 d1 d2 d3 d_columns d_rows d_carrier d_partMarks d_linkMarks d_operations d_pilots d_settings d_facts d_cells) (some (.long ro)) (wX1 Θ d0 d1 d2 d3 d_columns d_rows d_carrier d_partMarks d_linkMarks d_operations d_pilots d_settings d_facts d_cells) := by
  delta fX1_neighbors at hf
  refine Fn.of (by decide +kernel) rfl (Nat.le_of_ble_eq_true rfl) (fun p e s m args below meth c A Q G K => ?_)
  show sw Θ p e rmX1_neighbors s m args below meth c A Q 11 0 0 0 [(0, .ref d0), (1, .long a0)] [] (wX1 Θ d0 d1 d2 d3 d_columns d_rows d_carrier d_partMarks d_linkMarks d_operations d_pilots d_settings d_facts d_cells)
  refine sw_aload_n 0 G dX1_neighbors_0 0 rfl ?_
  refine sw_iconst 1 G (0 : Int32) dX1_neighbors_1 rfl ?_
  refine sw_iconst 2 G (0 : Int32) dX1_neighbors_2 rfl ?_
  refine sw_iconst 3 G (1 : Int32) dX1_neighbors_3 rfl ?_
  refine sw_aload_n 4 G dX1_neighbors_4 0 rfl ?_
  refine sw_get 5 G hnX1 0 1 dX1_neighbors_5 vc1 (by decide) (List.mem_cons_of_mem _ lk_2d45b2b9) rfl rfl ?_
  obtain ⟨r1, hg, hf⟩ := bd1_some hf
  refine sw_callV 8 G (wX1 Θ d0 d1 d2 d3 d_columns d_rows d_carrier d_partMarks d_linkMarks d_operations d_pilots d_settings d_facts d_cells) [0, 1, 2, 3] [] [0, 1, 2, 3] 4 dX1_neighbors_8 (kX1_rectangle Θ F d0 d1 d2 d3 d_columns d_rows d_carrier d_partMarks d_linkMarks d_operations d_pilots d_settings d_facts d_cells (0 : Int32) (0 : Int32) (1 : Int32) d_rows r1 hg) (gwV lk_08222165 lk_78a614ff lk_2de1bfb6 lk_cf66e99d lk_cb7364a8) rfl hvX1_rectangle ⟨rfl, rfl⟩ ⟨Nat.le_of_ble_eq_true rfl, Nat.le_of_ble_eq_true rfl⟩ ⟨Nat.zero_le _, Nat.zero_le _⟩ rfl rfl (Nat.le_of_ble_eq_true rfl) 0 rfl vc1 rfl rfl rfl rfl (by decide) ?_
  refine sw_lstore_n 11 G [(3, .long r1), (0, .ref d0), (1, .long a0)] dX1_neighbors_11 (by decide) rfl ?_
  refine sw_lload_n 12 G dX1_neighbors_12 0 rfl ?_
  refine sw_aload_n 13 G dX1_neighbors_13 1 rfl ?_
  refine sw_get 14 G hnX1 0 0 dX1_neighbors_14 vc1 (by decide) (List.mem_cons_of_mem _ lk_c5f4e1a9) rfl rfl ?_
  refine sw_iconst 17 G (1 : Int32) dX1_neighbors_17 rfl ?_
  refine sw_isub 18 G dX1_neighbors_18 ?_
  refine sw_lshl 19 G dX1_neighbors_19 ?_
  refine sw_nml hf (fun v2 hf => ?_)
  refine sw_lstore 20 G [(5, .long v2), (3, .long r1), (0, .ref d0), (1, .long a0)] dX1_neighbors_20 (by decide) rfl ?_
  refine sw_lload_n 22 G dX1_neighbors_22 3 rfl ?_
  refine sw_lload 23 G dX1_neighbors_23 0 rfl ?_
  refine sw_ldc2 25 G (List.mem_cons_of_mem _ lk_40d82051) dX1_neighbors_25 ?_
  refine sw_lxor 28 G dX1_neighbors_28 ?_
  refine sw_land 29 G dX1_neighbors_29 ?_
  refine sw_iconst 30 G (1 : Int32) dX1_neighbors_30 rfl ?_
  refine sw_lshl 31 G dX1_neighbors_31 ?_
  refine sw_lload_n 32 G dX1_neighbors_32 3 rfl ?_
  refine sw_lload_n 33 G dX1_neighbors_33 1 rfl ?_
  refine sw_ldc2 34 G (List.mem_cons_of_mem _ lk_40d82051) dX1_neighbors_34 ?_
  refine sw_lxor 37 G dX1_neighbors_37 ?_
  refine sw_land 38 G dX1_neighbors_38 ?_
  refine sw_iconst 39 G (1 : Int32) dX1_neighbors_39 rfl ?_
  refine sw_lushr 40 G dX1_neighbors_40 ?_
  refine sw_lor 41 G dX1_neighbors_41 ?_
  refine sw_nml hf (fun v3 hf => ?_)
  refine sw_lstore 42 G [(7, .long v3), (5, .long v2), (3, .long r1), (0, .ref d0), (1, .long a0)] dX1_neighbors_42 (by decide) rfl ?_
  refine sw_lload_n 44 G dX1_neighbors_44 4 rfl ?_
  refine sw_aload_n 45 G dX1_neighbors_45 3 rfl ?_
  refine sw_get 46 G hnX1 0 0 dX1_neighbors_46 vc1 (by decide) (List.mem_cons_of_mem _ lk_c5f4e1a9) rfl rfl ?_
  refine sw_lshl 49 G dX1_neighbors_49 ?_
  refine sw_lload_n 50 G dX1_neighbors_50 4 rfl ?_
  refine sw_aload_n 51 G dX1_neighbors_51 3 rfl ?_
  refine sw_get 52 G hnX1 0 0 dX1_neighbors_52 vc1 (by decide) (List.mem_cons_of_mem _ lk_c5f4e1a9) rfl rfl ?_
  refine sw_lushr 55 G dX1_neighbors_55 ?_
  refine sw_lor 56 G dX1_neighbors_56 ?_
  refine sw_nml hf (fun v4 hf => ?_)
  refine sw_lstore 57 G [(9, .long v4), (7, .long v3), (5, .long v2), (3, .long r1), (0, .ref d0), (1, .long a0)] dX1_neighbors_57 (by decide) rfl ?_
  refine sw_lload 59 G dX1_neighbors_59 1 rfl ?_
  refine sw_lload 61 G dX1_neighbors_61 0 rfl ?_
  refine sw_lor 63 G dX1_neighbors_63 ?_
  refine sw_aload_n 64 G dX1_neighbors_64 4 rfl ?_
  obtain ⟨r5, hg, hf⟩ := bd1_some hf
  refine sw_callV 65 G (wX1 Θ d0 d1 d2 d3 d_columns d_rows d_carrier d_partMarks d_linkMarks d_operations d_pilots d_settings d_facts d_cells) [0, 1, 2, 3] [] [0, 1, 2, 3] 0 dX1_neighbors_65 (kX1_allCells Θ d0 d1 d2 d3 d_columns d_rows d_carrier d_partMarks d_linkMarks d_operations d_pilots d_settings d_facts d_cells r5 hg) (gwV lk_14b6b9f3 lk_d46b963c lk_bc6f34fe lk_cf66e99d lk_d819ec8a) rfl hvX1_allCells ⟨rfl, rfl⟩ ⟨Nat.le_of_ble_eq_true rfl, Nat.le_of_ble_eq_true rfl⟩ ⟨Nat.zero_le _, Nat.zero_le _⟩ rfl rfl (Nat.le_of_ble_eq_true rfl) 0 rfl vc1 rfl rfl rfl rfl (by decide) ?_
  refine sw_land 68 G dX1_neighbors_68 ?_
  cases hf
  exact sw_lret 69 G dX1_neighbors_69 K
abbrev rmX1_looseCells : Room := { frames := 2, cells := 0, slots := 0, locals := 59 }
theorem hvX1_looseCells : yX1_looseCells.cls = RX1 ∧ yX1_looseCells.cls ≠ "java/lang/invoke/MethodHandle" ∧ yX1_looseCells.cls ≠ "java/lang/invoke/VarHandle" ∧ (parseMethodDescriptor yX1_looseCells.desc).map (fun d => d.parameters.length) = some 0 := by decide +kernel
set_option maxRecDepth 100000 in
set_option maxHeartbeats 4000000 in
theorem kX1_looseCells (Θ : Tht) (F : Nat) (d0 d1 d2 d3 : Nat) (d_columns : Int32) (d_rows : Int32) (d_carrier : Int32) (d_partMarks : Int64) (d_linkMarks : Int64) (d_operations : Int32) (d_pilots : Int32) (d_settings : Nat → Int32) (d_facts : Nat → Int32) (d_cells : Nat → Int64) (ro : Int64) (hf : fX1_looseCells F d_columns d_rows d_carrier d_partMarks d_linkMarks = some ro) : Fn Θ yX1_looseCells (Cond.code yX1_looseCells cX1_looseCells 8 (some .long) :: GW) rmX1_looseCells [.ref d0] (wX1 Θ d0 d1 d2 d3 d_columns d_rows d_carrier d_partMarks d_linkMarks d_operations d_pilots d_settings d_facts d_cells) (some (.long ro)) (wX1 Θ d0 d1 d2 d3 d_columns d_rows d_carrier d_partMarks d_linkMarks d_operations d_pilots d_settings d_facts d_cells) := by
  delta fX1_looseCells at hf
  refine Fn.of (by decide +kernel) rfl (Nat.le_of_ble_eq_true rfl) (fun p e s m args below meth c A Q G K => ?_)
  show sw Θ p e rmX1_looseCells s m args below meth c A Q 8 0 0 0 [(0, .ref d0)] [] (wX1 Θ d0 d1 d2 d3 d_columns d_rows d_carrier d_partMarks d_linkMarks d_operations d_pilots d_settings d_facts d_cells)
  refine sw_aload_n 0 G dX1_looseCells_0 0 rfl ?_
  obtain ⟨r1, hg, hf⟩ := bd1_some hf
  refine sw_callV 1 G (wX1 Θ d0 d1 d2 d3 d_columns d_rows d_carrier d_partMarks d_linkMarks d_operations d_pilots d_settings d_facts d_cells) [0, 1, 2, 3] [] [0, 1, 2, 3] 0 dX1_looseCells_1 (kX1_carrierCells Θ d0 d1 d2 d3 d_columns d_rows d_carrier d_partMarks d_linkMarks d_operations d_pilots d_settings d_facts d_cells r1 hg) (gwV lk_16edabff lk_447df895 lk_ce1f32b3 lk_cf66e99d lk_03889728) rfl hvX1_carrierCells ⟨rfl, rfl⟩ ⟨Nat.le_of_ble_eq_true rfl, Nat.le_of_ble_eq_true rfl⟩ ⟨Nat.zero_le _, Nat.zero_le _⟩ rfl rfl (Nat.le_of_ble_eq_true rfl) 0 rfl vc1 rfl rfl rfl rfl (by decide) ?_
  refine sw_lstore_n 4 G [(1, .long r1), (0, .ref d0)] dX1_looseCells_4 (by decide) rfl ?_
  refine sw_aload_n 5 G dX1_looseCells_5 1 rfl ?_
  refine sw_get 6 G hnX1 0 3 dX1_looseCells_6 vc1 (by decide) (List.mem_cons_of_mem _ lk_527a7e63) rfl rfl ?_
  refine sw_aload_n 9 G dX1_looseCells_9 1 rfl ?_
  refine sw_get 10 G hnX1 0 4 dX1_looseCells_10 vc1 (by decide) (List.mem_cons_of_mem _ lk_6f9393db) rfl rfl ?_
  refine sw_lor 13 G dX1_looseCells_13 ?_
  refine sw_lload_n 14 G dX1_looseCells_14 0 rfl ?_
  refine sw_lor 15 G dX1_looseCells_15 ?_
  refine sw_nml hf (fun v2 hf => ?_)
  refine sw_lstore_n 16 G [(3, .long v2), (1, .long r1), (0, .ref d0)] dX1_looseCells_16 (by decide) rfl ?_
  refine sw_iconst 17 G (0 : Int32) dX1_looseCells_17 rfl ?_
  refine sw_istore 18 G [(5, .int (0 : Int32)), (3, .long v2), (1, .long r1), (0, .ref d0)] dX1_looseCells_18 (by decide) rfl ?_
  obtain ⟨v3, hl, hf⟩ := bd1_some hf
  have hx20_57 : sw Θ p e rmX1_looseCells s m args below meth c A Q 8 0 0 57 [(0, .ref d0), (1, .long v3)] [] (wX1 Θ d0 d1 d2 d3 d_columns d_rows d_carrier d_partMarks d_linkMarks d_operations d_pilots d_settings d_facts d_cells) := by
    refine sw_aload_n 57 G dX1_looseCells_57 0 rfl ?_
    obtain ⟨r4, hg, hf⟩ := bd1_some hf
    refine sw_callV 58 G (wX1 Θ d0 d1 d2 d3 d_columns d_rows d_carrier d_partMarks d_linkMarks d_operations d_pilots d_settings d_facts d_cells) [0, 1, 2, 3] [] [0, 1, 2, 3] 0 dX1_looseCells_58 (kX1_partCells Θ d0 d1 d2 d3 d_columns d_rows d_carrier d_partMarks d_linkMarks d_operations d_pilots d_settings d_facts d_cells r4 hg) (gwV lk_6f417c90 lk_c137cc36 lk_24905df5 lk_cf66e99d lk_e39ae260) rfl hvX1_partCells ⟨rfl, rfl⟩ ⟨Nat.le_of_ble_eq_true rfl, Nat.le_of_ble_eq_true rfl⟩ ⟨Nat.zero_le _, Nat.zero_le _⟩ rfl rfl (Nat.le_of_ble_eq_true rfl) 0 rfl vc1 rfl rfl rfl rfl (by decide) ?_
    refine sw_lload_n 61 G dX1_looseCells_61 1 rfl ?_
    refine sw_ldc2 62 G (List.mem_cons_of_mem _ lk_40d82051) dX1_looseCells_62 ?_
    refine sw_lxor 65 G dX1_looseCells_65 ?_
    refine sw_land 66 G dX1_looseCells_66 ?_
    cases hf
    exact sw_lret 67 G dX1_looseCells_67 K
  refine sw_lv [(0, .ref d0), (1, .long r1), (3, .long v2), (5, .int (0 : Int32))] [3, 2, 1, 0] rfl ?_
  refine lp_walk (P := fun (t : Int64 × Int32) => sw Θ p e rmX1_looseCells s m args below meth c A Q 8 0 0 20 [(0, .ref d0), (1, .long t.1), (3, .long v2), (5, .int t.2)] [] (wX1 Θ d0 d1 d2 d3 d_columns d_rows d_carrier d_partMarks d_linkMarks d_operations d_pilots d_settings d_facts d_cells)) hl (fun t20 y20 hf hin20 hex20 => ?_)
  obtain ⟨v5, v6⟩ := t20
  show sw Θ p e rmX1_looseCells s m args below meth c A Q 8 0 0 20 [(0, .ref d0), (1, .long v5), (3, .long v2), (5, .int v6)] [] (wX1 Θ d0 d1 d2 d3 d_columns d_rows d_carrier d_partMarks d_linkMarks d_operations d_pilots d_settings d_facts d_cells)
  have hf := uc2_some (K := _) hf
  refine sw_iload 20 G dX1_looseCells_20 3 rfl ?_
  refine sw_bipush 22 G (60 : Int32) dX1_looseCells_22 rfl ?_
  refine sw_icmp_ge 24 57 G dX1_looseCells_24 rfl hf (fun hf => ?_) (fun hf => ?_)
  · cases hf
    cases hex20 _ rfl
    exact sw_lv _ [0, 1] rfl hx20_57
  · refine sw_lload_n 27 G dX1_looseCells_27 1 rfl ?_
    refine sw_aload_n 28 G dX1_looseCells_28 0 rfl ?_
    refine sw_lload_n 29 G dX1_looseCells_29 1 rfl ?_
    obtain ⟨r7, hg, hf⟩ := bd1_some hf
    refine sw_callV 30 G (wX1 Θ d0 d1 d2 d3 d_columns d_rows d_carrier d_partMarks d_linkMarks d_operations d_pilots d_settings d_facts d_cells) [0, 1, 2, 3] [] [0, 1, 2, 3] 1 dX1_looseCells_30 (kX1_neighbors Θ F d0 d1 d2 d3 d_columns d_rows d_carrier d_partMarks d_linkMarks d_operations d_pilots d_settings d_facts d_cells v5 r7 hg) (gwV lk_9ca1ea2f lk_04959273 lk_00a8d77f lk_cf66e99d lk_5fb96ec6) rfl hvX1_neighbors ⟨rfl, rfl⟩ ⟨Nat.le_of_ble_eq_true rfl, Nat.le_of_ble_eq_true rfl⟩ ⟨Nat.zero_le _, Nat.zero_le _⟩ rfl rfl (Nat.le_of_ble_eq_true rfl) 0 rfl vc1 rfl rfl rfl rfl (by decide) ?_
    refine sw_lload_n 33 G dX1_looseCells_33 2 rfl ?_
    refine sw_land 34 G dX1_looseCells_34 ?_
    refine sw_lor 35 G dX1_looseCells_35 ?_
    refine sw_nml hf (fun v8 hf => ?_)
    refine sw_lstore 36 G [(6, .long v8), (0, .ref d0), (1, .long v5), (3, .long v2), (5, .int v6)] dX1_looseCells_36 (by decide) rfl ?_
    refine sw_lload 38 G dX1_looseCells_38 0 rfl ?_
    refine sw_lload_n 40 G dX1_looseCells_40 2 rfl ?_
    refine sw_lcmp 41 G dX1_looseCells_41 ?_
    refine sw_if_ne 42 48 G dX1_looseCells_42 rfl hf (fun hf => ?_) (fun hf => ?_)
    · refine sw_lload 48 G dX1_looseCells_48 0 rfl ?_
      refine sw_lstore_n 50 G [(1, .long v8), (6, .long v8), (0, .ref d0), (3, .long v2), (5, .int v6)] dX1_looseCells_50 (by decide) rfl ?_
      refine sw_iinc 51 G (v6 + (1 : Int32)) [(5, .int (v6 + (1 : Int32))), (1, .long v8), (6, .long v8), (0, .ref d0), (3, .long v2)] dX1_looseCells_51 4 rfl rfl (by decide) rfl ?_
      refine sw_goto 54 G 20 dX1_looseCells_54 rfl ?_
      cases hf
      have hb := hin20 _ rfl
      exact sw_lv _ [3, 1, 4, 0] (by rfl) hb
    · refine sw_goto 45 G 57 dX1_looseCells_45 rfl ?_
      cases hf
      cases hex20 _ rfl
      exact sw_lv _ [1, 2] rfl hx20_57
abbrev rmX1_halfTurned : Room := { frames := 0, cells := 0, slots := 0, locals := 0 }
theorem hvX1_halfTurned : yX1_halfTurned.cls = RX1 ∧ yX1_halfTurned.cls ≠ "java/lang/invoke/MethodHandle" ∧ yX1_halfTurned.cls ≠ "java/lang/invoke/VarHandle" ∧ (parseMethodDescriptor yX1_halfTurned.desc).map (fun d => d.parameters.length) = some 1 := by decide +kernel
set_option maxRecDepth 100000 in
set_option maxHeartbeats 4000000 in
theorem kX1_halfTurned (Θ : Tht) (F : Nat) (d0 d1 d2 d3 : Nat) (d_columns : Int32) (d_rows : Int32) (d_carrier : Int32) (d_partMarks : Int64) (d_linkMarks : Int64) (d_operations : Int32) (d_pilots : Int32) (d_settings : Nat → Int32) (d_facts : Nat → Int32) (d_cells : Nat → Int64) (a0 : Int64) (ro : Int64) (hf : fX1_halfTurned F d_columns d_rows a0 = some ro) : Fn Θ yX1_halfTurned (Cond.code yX1_halfTurned cX1_halfTurned 7 (some .long) :: GW) rmX1_halfTurned [.ref d0, .long a0] (wX1 Θ d0 d1 d2 d3 d_columns d_rows d_carrier d_partMarks d_linkMarks d_operations d_pilots d_settings d_facts d_cells) (some (.long ro)) (wX1 Θ d0 d1 d2 d3 d_columns d_rows d_carrier d_partMarks d_linkMarks d_operations d_pilots d_settings d_facts d_cells) := by
  delta fX1_halfTurned at hf
  refine Fn.of (by decide +kernel) rfl (Nat.le_of_ble_eq_true rfl) (fun p e s m args below meth c A Q G K => ?_)
  show sw Θ p e rmX1_halfTurned s m args below meth c A Q 7 0 0 0 [(0, .ref d0), (1, .long a0)] [] (wX1 Θ d0 d1 d2 d3 d_columns d_rows d_carrier d_partMarks d_linkMarks d_operations d_pilots d_settings d_facts d_cells)
  refine sw_aload_n 0 G dX1_halfTurned_0 0 rfl ?_
  refine sw_get 1 G hnX1 0 0 dX1_halfTurned_1 vc1 (by decide) (List.mem_cons_of_mem _ lk_c5f4e1a9) rfl rfl ?_
  refine sw_aload_n 4 G dX1_halfTurned_4 0 rfl ?_
  refine sw_get 5 G hnX1 0 1 dX1_halfTurned_5 vc1 (by decide) (List.mem_cons_of_mem _ lk_2d45b2b9) rfl rfl ?_
  refine sw_imul 8 G dX1_halfTurned_8 ?_
  refine sw_iconst 9 G (1 : Int32) dX1_halfTurned_9 rfl ?_
  refine sw_isub 10 G dX1_halfTurned_10 ?_
  refine sw_nmi hf (fun v1 hf => ?_)
  refine sw_istore_n 11 G [(3, .int v1), (0, .ref d0), (1, .long a0)] dX1_halfTurned_11 (by decide) rfl ?_
  refine sw_lconst 12 G (0 : Int64) dX1_halfTurned_12 rfl ?_
  refine sw_lstore 13 G [(4, .long (0 : Int64)), (3, .int v1), (0, .ref d0), (1, .long a0)] dX1_halfTurned_13 (by decide) rfl ?_
  refine sw_iconst 15 G (0 : Int32) dX1_halfTurned_15 rfl ?_
  refine sw_istore 16 G [(6, .int (0 : Int32)), (4, .long (0 : Int64)), (3, .int v1), (0, .ref d0), (1, .long a0)] dX1_halfTurned_16 (by decide) rfl ?_
  obtain ⟨v2, hl, hf⟩ := bd1_some hf
  have hx18_46 : sw Θ p e rmX1_halfTurned s m args below meth c A Q 7 0 0 46 [(4, .long v2)] [] (wX1 Θ d0 d1 d2 d3 d_columns d_rows d_carrier d_partMarks d_linkMarks d_operations d_pilots d_settings d_facts d_cells) := by
    refine sw_lload 46 G dX1_halfTurned_46 0 rfl ?_
    cases hf
    exact sw_lret 48 G dX1_halfTurned_48 K
  refine sw_lv [(1, .long a0), (3, .int v1), (4, .long (0 : Int64)), (6, .int (0 : Int32))] [4, 2, 1, 0] rfl ?_
  refine lp_walk (P := fun (t : Int64 × Int32) => sw Θ p e rmX1_halfTurned s m args below meth c A Q 7 0 0 18 [(1, .long a0), (3, .int v1), (4, .long t.1), (6, .int t.2)] [] (wX1 Θ d0 d1 d2 d3 d_columns d_rows d_carrier d_partMarks d_linkMarks d_operations d_pilots d_settings d_facts d_cells)) hl (fun t18 y18 hf hin18 hex18 => ?_)
  obtain ⟨v3, v4⟩ := t18
  show sw Θ p e rmX1_halfTurned s m args below meth c A Q 7 0 0 18 [(1, .long a0), (3, .int v1), (4, .long v3), (6, .int v4)] [] (wX1 Θ d0 d1 d2 d3 d_columns d_rows d_carrier d_partMarks d_linkMarks d_operations d_pilots d_settings d_facts d_cells)
  have hf := uc2_some (K := _) hf
  refine sw_iload 18 G dX1_halfTurned_18 3 rfl ?_
  refine sw_iload_n 20 G dX1_halfTurned_20 1 rfl ?_
  refine sw_icmp_gt 21 46 G dX1_halfTurned_21 rfl hf (fun hf => ?_) (fun hf => ?_)
  · cases hf
    cases hex18 _ rfl
    exact sw_lv _ [2] rfl hx18_46
  · refine sw_lload 24 G dX1_halfTurned_24 2 rfl ?_
    refine sw_lload_n 26 G dX1_halfTurned_26 0 rfl ?_
    refine sw_iload 27 G dX1_halfTurned_27 3 rfl ?_
    refine sw_lushr 29 G dX1_halfTurned_29 ?_
    refine sw_lconst 30 G (1 : Int64) dX1_halfTurned_30 rfl ?_
    refine sw_land 31 G dX1_halfTurned_31 ?_
    refine sw_iload_n 32 G dX1_halfTurned_32 1 rfl ?_
    refine sw_iload 33 G dX1_halfTurned_33 3 rfl ?_
    refine sw_isub 35 G dX1_halfTurned_35 ?_
    refine sw_lshl 36 G dX1_halfTurned_36 ?_
    refine sw_lor 37 G dX1_halfTurned_37 ?_
    refine sw_nml hf (fun v5 hf => ?_)
    refine sw_lstore 38 G [(4, .long v5), (1, .long a0), (3, .int v1), (6, .int v4)] dX1_halfTurned_38 (by decide) rfl ?_
    refine sw_iinc 40 G (v4 + (1 : Int32)) [(6, .int (v4 + (1 : Int32))), (4, .long v5), (1, .long a0), (3, .int v1)] dX1_halfTurned_40 3 rfl rfl (by decide) rfl ?_
    refine sw_goto 43 G 18 dX1_halfTurned_43 rfl ?_
    cases hf
    have hb := hin18 _ rfl
    exact sw_lv _ [2, 3, 1, 0] (by rfl) hb
abbrev rmX1_hasPlaceForSecond : Room := { frames := 2, cells := 0, slots := 0, locals := 59 }
theorem hvX1_hasPlaceForSecond : yX1_hasPlaceForSecond.cls = RX1 ∧ yX1_hasPlaceForSecond.cls ≠ "java/lang/invoke/MethodHandle" ∧ yX1_hasPlaceForSecond.cls ≠ "java/lang/invoke/VarHandle" ∧ (parseMethodDescriptor yX1_hasPlaceForSecond.desc).map (fun d => d.parameters.length) = some 0 := by decide +kernel
set_option maxRecDepth 100000 in
set_option maxHeartbeats 4000000 in
theorem kX1_hasPlaceForSecond (Θ : Tht) (F : Nat) (d0 d1 d2 d3 : Nat) (d_columns : Int32) (d_rows : Int32) (d_carrier : Int32) (d_partMarks : Int64) (d_linkMarks : Int64) (d_operations : Int32) (d_pilots : Int32) (d_settings : Nat → Int32) (d_facts : Nat → Int32) (d_cells : Nat → Int64) (ro : Int32) (hf : fX1_hasPlaceForSecond F d_columns d_rows d_carrier d_partMarks = some ro) : Fn Θ yX1_hasPlaceForSecond (Cond.code yX1_hasPlaceForSecond cX1_hasPlaceForSecond 5 (some .boolean) :: GW) rmX1_hasPlaceForSecond [.ref d0] (wX1 Θ d0 d1 d2 d3 d_columns d_rows d_carrier d_partMarks d_linkMarks d_operations d_pilots d_settings d_facts d_cells) (some (.int ro)) (wX1 Θ d0 d1 d2 d3 d_columns d_rows d_carrier d_partMarks d_linkMarks d_operations d_pilots d_settings d_facts d_cells) := by
  delta fX1_hasPlaceForSecond at hf
  refine Fn.of (by decide +kernel) rfl (Nat.le_of_ble_eq_true rfl) (fun p e s m args below meth c A Q G K => ?_)
  show sw Θ p e rmX1_hasPlaceForSecond s m args below meth c A Q 5 0 0 0 [(0, .ref d0)] [] (wX1 Θ d0 d1 d2 d3 d_columns d_rows d_carrier d_partMarks d_linkMarks d_operations d_pilots d_settings d_facts d_cells)
  refine sw_aload_n 0 G dX1_hasPlaceForSecond_0 0 rfl ?_
  obtain ⟨r1, hg, hf⟩ := bd1_some hf
  refine sw_callV 1 G (wX1 Θ d0 d1 d2 d3 d_columns d_rows d_carrier d_partMarks d_linkMarks d_operations d_pilots d_settings d_facts d_cells) [0, 1, 2, 3] [] [0, 1, 2, 3] 0 dX1_hasPlaceForSecond_1 (kX1_partCells Θ d0 d1 d2 d3 d_columns d_rows d_carrier d_partMarks d_linkMarks d_operations d_pilots d_settings d_facts d_cells r1 hg) (gwV lk_6f417c90 lk_c137cc36 lk_24905df5 lk_cf66e99d lk_e39ae260) rfl hvX1_partCells ⟨rfl, rfl⟩ ⟨Nat.le_of_ble_eq_true rfl, Nat.le_of_ble_eq_true rfl⟩ ⟨Nat.zero_le _, Nat.zero_le _⟩ rfl rfl (Nat.le_of_ble_eq_true rfl) 0 rfl vc1 rfl rfl rfl rfl (by decide) ?_
  refine sw_lstore_n 4 G [(1, .long r1), (0, .ref d0)] dX1_hasPlaceForSecond_4 (by decide) rfl ?_
  refine sw_aload_n 5 G dX1_hasPlaceForSecond_5 1 rfl ?_
  refine sw_lload_n 6 G dX1_hasPlaceForSecond_6 0 rfl ?_
  obtain ⟨r2, hg, hf⟩ := bd1_some hf
  refine sw_callV 7 G (wX1 Θ d0 d1 d2 d3 d_columns d_rows d_carrier d_partMarks d_linkMarks d_operations d_pilots d_settings d_facts d_cells) [0, 1, 2, 3] [] [0, 1, 2, 3] 1 dX1_hasPlaceForSecond_7 (kX1_halfTurned Θ F d0 d1 d2 d3 d_columns d_rows d_carrier d_partMarks d_linkMarks d_operations d_pilots d_settings d_facts d_cells r1 r2 hg) (gwV lk_e8874138 lk_a39fed8d lk_c5d04b60 lk_cf66e99d lk_c58ba0d7) rfl hvX1_halfTurned ⟨rfl, rfl⟩ ⟨Nat.le_of_ble_eq_true rfl, Nat.le_of_ble_eq_true rfl⟩ ⟨Nat.zero_le _, Nat.zero_le _⟩ rfl rfl (Nat.le_of_ble_eq_true rfl) 0 rfl vc1 rfl rfl rfl rfl (by decide) ?_
  refine sw_lstore_n 10 G [(3, .long r2), (1, .long r1), (0, .ref d0)] dX1_hasPlaceForSecond_10 (by decide) rfl ?_
  refine sw_lload_n 11 G dX1_hasPlaceForSecond_11 1 rfl ?_
  refine sw_lconst 12 G (0 : Int64) dX1_hasPlaceForSecond_12 rfl ?_
  refine sw_lcmp 13 G dX1_hasPlaceForSecond_13 ?_
  refine sw_if_eq 14 40 G dX1_hasPlaceForSecond_14 rfl hf (fun hf => ?_) (fun hf => ?_)
  · refine sw_iconst 40 G (0 : Int32) dX1_hasPlaceForSecond_40 rfl ?_
    cases hf
    exact sw_zret 41 G dX1_hasPlaceForSecond_41 K rfl
  · refine sw_lload_n 17 G dX1_hasPlaceForSecond_17 0 rfl ?_
    refine sw_aload_n 18 G dX1_hasPlaceForSecond_18 2 rfl ?_
    obtain ⟨r3, hg, hf⟩ := bd1_some hf
    refine sw_callV 19 G (wX1 Θ d0 d1 d2 d3 d_columns d_rows d_carrier d_partMarks d_linkMarks d_operations d_pilots d_settings d_facts d_cells) [0, 1, 2, 3] [] [0, 1, 2, 3] 0 dX1_hasPlaceForSecond_19 (kX1_carrierCells Θ d0 d1 d2 d3 d_columns d_rows d_carrier d_partMarks d_linkMarks d_operations d_pilots d_settings d_facts d_cells r3 hg) (gwV lk_16edabff lk_447df895 lk_ce1f32b3 lk_cf66e99d lk_03889728) rfl hvX1_carrierCells ⟨rfl, rfl⟩ ⟨Nat.le_of_ble_eq_true rfl, Nat.le_of_ble_eq_true rfl⟩ ⟨Nat.zero_le _, Nat.zero_le _⟩ rfl rfl (Nat.le_of_ble_eq_true rfl) 0 rfl vc1 rfl rfl rfl rfl (by decide) ?_
    refine sw_lload_n 22 G dX1_hasPlaceForSecond_22 1 rfl ?_
    refine sw_lor 23 G dX1_hasPlaceForSecond_23 ?_
    refine sw_aload_n 24 G dX1_hasPlaceForSecond_24 2 rfl ?_
    refine sw_lload_n 25 G dX1_hasPlaceForSecond_25 1 rfl ?_
    obtain ⟨r4, hg, hf⟩ := bd1_some hf
    refine sw_callV 26 G (wX1 Θ d0 d1 d2 d3 d_columns d_rows d_carrier d_partMarks d_linkMarks d_operations d_pilots d_settings d_facts d_cells) [0, 1, 2, 3] [] [0, 1, 2, 3] 1 dX1_hasPlaceForSecond_26 (kX1_neighbors Θ F d0 d1 d2 d3 d_columns d_rows d_carrier d_partMarks d_linkMarks d_operations d_pilots d_settings d_facts d_cells r1 r4 hg) (gwV lk_9ca1ea2f lk_04959273 lk_00a8d77f lk_cf66e99d lk_5fb96ec6) rfl hvX1_neighbors ⟨rfl, rfl⟩ ⟨Nat.le_of_ble_eq_true rfl, Nat.le_of_ble_eq_true rfl⟩ ⟨Nat.zero_le _, Nat.zero_le _⟩ rfl rfl (Nat.le_of_ble_eq_true rfl) 0 rfl vc1 rfl rfl rfl rfl (by decide) ?_
    refine sw_lor 29 G dX1_hasPlaceForSecond_29 ?_
    refine sw_land 30 G dX1_hasPlaceForSecond_30 ?_
    refine sw_lconst 31 G (0 : Int64) dX1_hasPlaceForSecond_31 rfl ?_
    refine sw_lcmp 32 G dX1_hasPlaceForSecond_32 ?_
    refine sw_if_ne 33 40 G dX1_hasPlaceForSecond_33 rfl hf (fun hf => ?_) (fun hf => ?_)
    · refine sw_iconst 40 G (0 : Int32) dX1_hasPlaceForSecond_40 rfl ?_
      cases hf
      exact sw_zret 41 G dX1_hasPlaceForSecond_41 K rfl
    · refine sw_iconst 36 G (1 : Int32) dX1_hasPlaceForSecond_36 rfl ?_
      refine sw_goto 37 G 41 dX1_hasPlaceForSecond_37 rfl ?_
      cases hf
      exact sw_zret 41 G dX1_hasPlaceForSecond_41 K rfl
abbrev rmX1_faultOfDie : Room := { frames := 3, cells := 0, slots := 0, locals := 86 }
theorem hvX1_faultOfDie : yX1_faultOfDie.cls = RX1 ∧ yX1_faultOfDie.cls ≠ "java/lang/invoke/MethodHandle" ∧ yX1_faultOfDie.cls ≠ "java/lang/invoke/VarHandle" ∧ (parseMethodDescriptor yX1_faultOfDie.desc).map (fun d => d.parameters.length) = some 0 := by decide +kernel
set_option maxRecDepth 100000 in
set_option maxHeartbeats 4000000 in
theorem kX1_faultOfDie (Θ : Tht) (F : Nat) (d0 d1 d2 d3 : Nat) (d_columns : Int32) (d_rows : Int32) (d_carrier : Int32) (d_partMarks : Int64) (d_linkMarks : Int64) (d_operations : Int32) (d_pilots : Int32) (d_settings : Nat → Int32) (d_facts : Nat → Int32) (d_cells : Nat → Int64) (ro : Int32) (hf : fX1_faultOfDie F d_columns d_rows d_carrier d_partMarks d_linkMarks d_operations d_facts d_cells = some ro) : Fn Θ yX1_faultOfDie (Cond.code yX1_faultOfDie cX1_faultOfDie 5 (some .int) :: GW) rmX1_faultOfDie [.ref d0] (wX1 Θ d0 d1 d2 d3 d_columns d_rows d_carrier d_partMarks d_linkMarks d_operations d_pilots d_settings d_facts d_cells) (some (.int ro)) (wX1 Θ d0 d1 d2 d3 d_columns d_rows d_carrier d_partMarks d_linkMarks d_operations d_pilots d_settings d_facts d_cells) := by
  delta fX1_faultOfDie at hf
  refine Fn.of (by decide +kernel) rfl (Nat.le_of_ble_eq_true rfl) (fun p e s m args below meth c A Q G K => ?_)
  show sw Θ p e rmX1_faultOfDie s m args below meth c A Q 5 0 0 0 [(0, .ref d0)] [] (wX1 Θ d0 d1 d2 d3 d_columns d_rows d_carrier d_partMarks d_linkMarks d_operations d_pilots d_settings d_facts d_cells)
  refine sw_aload_n 0 G dX1_faultOfDie_0 0 rfl ?_
  obtain ⟨r1, hg, hf⟩ := bd1_some hf
  refine sw_callV 1 G (wX1 Θ d0 d1 d2 d3 d_columns d_rows d_carrier d_partMarks d_linkMarks d_operations d_pilots d_settings d_facts d_cells) [0, 1, 2, 3] [] [0, 1, 2, 3] 0 dX1_faultOfDie_1 (kX1_partCells Θ d0 d1 d2 d3 d_columns d_rows d_carrier d_partMarks d_linkMarks d_operations d_pilots d_settings d_facts d_cells r1 hg) (gwV lk_6f417c90 lk_c137cc36 lk_24905df5 lk_cf66e99d lk_e39ae260) rfl hvX1_partCells ⟨rfl, rfl⟩ ⟨Nat.le_of_ble_eq_true rfl, Nat.le_of_ble_eq_true rfl⟩ ⟨Nat.zero_le _, Nat.zero_le _⟩ rfl rfl (Nat.le_of_ble_eq_true rfl) 0 rfl vc1 rfl rfl rfl rfl (by decide) ?_
  refine sw_lstore_n 4 G [(1, .long r1), (0, .ref d0)] dX1_faultOfDie_4 (by decide) rfl ?_
  refine sw_aload_n 5 G dX1_faultOfDie_5 1 rfl ?_
  refine sw_iconst 6 G (0 : Int32) dX1_faultOfDie_6 rfl ?_
  obtain ⟨r2, hg, hf⟩ := bd1_some hf
  refine sw_callV 7 G (wX1 Θ d0 d1 d2 d3 d_columns d_rows d_carrier d_partMarks d_linkMarks d_operations d_pilots d_settings d_facts d_cells) [0, 1, 2, 3] [] [0, 1, 2, 3] 1 dX1_faultOfDie_7 (kX1_cellsOfKind Θ F d0 d1 d2 d3 d_columns d_rows d_carrier d_partMarks d_linkMarks d_operations d_pilots d_settings d_facts d_cells (0 : Int32) r2 hg) (gwV lk_9d44e7ac lk_0f6337fc lk_1dbc5789 lk_cf66e99d lk_9bdedb27) rfl hvX1_cellsOfKind ⟨rfl, rfl⟩ ⟨Nat.le_of_ble_eq_true rfl, Nat.le_of_ble_eq_true rfl⟩ ⟨Nat.zero_le _, Nat.zero_le _⟩ rfl rfl (Nat.le_of_ble_eq_true rfl) 0 rfl vc1 rfl rfl rfl rfl (by decide) ?_
  refine sw_lstore_n 10 G [(3, .long r2), (1, .long r1), (0, .ref d0)] dX1_faultOfDie_10 (by decide) rfl ?_
  refine sw_lload_n 11 G dX1_faultOfDie_11 1 rfl ?_
  refine sw_lconst 12 G (0 : Int64) dX1_faultOfDie_12 rfl ?_
  refine sw_lcmp 13 G dX1_faultOfDie_13 ?_
  refine sw_if_ne 14 19 G dX1_faultOfDie_14 rfl hf (fun hf => ?_) (fun hf => ?_)
  · refine sw_lload_n 19 G dX1_faultOfDie_19 0 rfl ?_
    refine sw_lload_n 20 G dX1_faultOfDie_20 1 rfl ?_
    refine sw_aload_n 21 G dX1_faultOfDie_21 2 rfl ?_
    obtain ⟨r3, hg, hf⟩ := bd1_some hf
    refine sw_callV 22 G (wX1 Θ d0 d1 d2 d3 d_columns d_rows d_carrier d_partMarks d_linkMarks d_operations d_pilots d_settings d_facts d_cells) [0, 1, 2, 3] [] [0, 1, 2, 3] 0 dX1_faultOfDie_22 (kX1_linkCells Θ d0 d1 d2 d3 d_columns d_rows d_carrier d_partMarks d_linkMarks d_operations d_pilots d_settings d_facts d_cells r3 hg) (gwV lk_1878167d lk_7f41af12 lk_aa25bded lk_cf66e99d lk_d7dcb1b0) rfl hvX1_linkCells ⟨rfl, rfl⟩ ⟨Nat.le_of_ble_eq_true rfl, Nat.le_of_ble_eq_true rfl⟩ ⟨Nat.zero_le _, Nat.zero_le _⟩ rfl rfl (Nat.le_of_ble_eq_true rfl) 0 rfl vc1 rfl rfl rfl rfl (by decide) ?_
    refine sw_lor 25 G dX1_faultOfDie_25 ?_
    refine sw_land 26 G dX1_faultOfDie_26 ?_
    refine sw_lconst 27 G (0 : Int64) dX1_faultOfDie_27 rfl ?_
    refine sw_lcmp 28 G dX1_faultOfDie_28 ?_
    refine sw_if_eq 29 34 G dX1_faultOfDie_29 rfl hf (fun hf => ?_) (fun hf => ?_)
    · refine sw_lload_n 34 G dX1_faultOfDie_34 0 rfl ?_
      refine sw_aload_n 35 G dX1_faultOfDie_35 2 rfl ?_
      obtain ⟨r4, hg, hf⟩ := bd1_some hf
      refine sw_callV 36 G (wX1 Θ d0 d1 d2 d3 d_columns d_rows d_carrier d_partMarks d_linkMarks d_operations d_pilots d_settings d_facts d_cells) [0, 1, 2, 3] [] [0, 1, 2, 3] 0 dX1_faultOfDie_36 (kX1_carrierCells Θ d0 d1 d2 d3 d_columns d_rows d_carrier d_partMarks d_linkMarks d_operations d_pilots d_settings d_facts d_cells r4 hg) (gwV lk_16edabff lk_447df895 lk_ce1f32b3 lk_cf66e99d lk_03889728) rfl hvX1_carrierCells ⟨rfl, rfl⟩ ⟨Nat.le_of_ble_eq_true rfl, Nat.le_of_ble_eq_true rfl⟩ ⟨Nat.zero_le _, Nat.zero_le _⟩ rfl rfl (Nat.le_of_ble_eq_true rfl) 0 rfl vc1 rfl rfl rfl rfl (by decide) ?_
      refine sw_land 39 G dX1_faultOfDie_39 ?_
      refine sw_lconst 40 G (0 : Int64) dX1_faultOfDie_40 rfl ?_
      refine sw_lcmp 41 G dX1_faultOfDie_41 ?_
      refine sw_if_eq 42 47 G dX1_faultOfDie_42 rfl hf (fun hf => ?_) (fun hf => ?_)
      · refine sw_aload_n 47 G dX1_faultOfDie_47 2 rfl ?_
        refine sw_iconst 48 G (1 : Int32) dX1_faultOfDie_48 rfl ?_
        obtain ⟨r5, hg, hf⟩ := bd1_some hf
        refine sw_callV 49 G (wX1 Θ d0 d1 d2 d3 d_columns d_rows d_carrier d_partMarks d_linkMarks d_operations d_pilots d_settings d_facts d_cells) [0, 1, 2, 3] [] [0, 1, 2, 3] 1 dX1_faultOfDie_49 (kX1_cellsOfKind Θ F d0 d1 d2 d3 d_columns d_rows d_carrier d_partMarks d_linkMarks d_operations d_pilots d_settings d_facts d_cells (1 : Int32) r5 hg) (gwV lk_9d44e7ac lk_0f6337fc lk_1dbc5789 lk_cf66e99d lk_9bdedb27) rfl hvX1_cellsOfKind ⟨rfl, rfl⟩ ⟨Nat.le_of_ble_eq_true rfl, Nat.le_of_ble_eq_true rfl⟩ ⟨Nat.zero_le _, Nat.zero_le _⟩ rfl rfl (Nat.le_of_ble_eq_true rfl) 0 rfl vc1 rfl rfl rfl rfl (by decide) ?_
        refine sw_lload_n 52 G dX1_faultOfDie_52 1 rfl ?_
        refine sw_ldc2 53 G (List.mem_cons_of_mem _ lk_40d82051) dX1_faultOfDie_53 ?_
        refine sw_lxor 56 G dX1_faultOfDie_56 ?_
        refine sw_land 57 G dX1_faultOfDie_57 ?_
        refine sw_lconst 58 G (0 : Int64) dX1_faultOfDie_58 rfl ?_
        refine sw_lcmp 59 G dX1_faultOfDie_59 ?_
        refine sw_if_eq 60 65 G dX1_faultOfDie_60 rfl hf (fun hf => ?_) (fun hf => ?_)
        · refine sw_aload_n 65 G dX1_faultOfDie_65 2 rfl ?_
          obtain ⟨r6, hg, hf⟩ := bd1_some hf
          refine sw_callV 66 G (wX1 Θ d0 d1 d2 d3 d_columns d_rows d_carrier d_partMarks d_linkMarks d_operations d_pilots d_settings d_facts d_cells) [0, 1, 2, 3] [] [0, 1, 2, 3] 0 dX1_faultOfDie_66 (kX1_forgottenCells Θ F d0 d1 d2 d3 d_columns d_rows d_carrier d_partMarks d_linkMarks d_operations d_pilots d_settings d_facts d_cells r6 hg) (gwV lk_bcfabb84 lk_80cb1769 lk_6663014f lk_cf66e99d lk_5ec6c11a) rfl hvX1_forgottenCells ⟨rfl, rfl⟩ ⟨Nat.le_of_ble_eq_true rfl, Nat.le_of_ble_eq_true rfl⟩ ⟨Nat.zero_le _, Nat.zero_le _⟩ rfl rfl (Nat.le_of_ble_eq_true rfl) 0 rfl vc1 rfl rfl rfl rfl (by decide) ?_
          refine sw_lconst 69 G (0 : Int64) dX1_faultOfDie_69 rfl ?_
          refine sw_lcmp 70 G dX1_faultOfDie_70 ?_
          refine sw_if_eq 71 76 G dX1_faultOfDie_71 rfl hf (fun hf => ?_) (fun hf => ?_)
          · refine sw_aload_n 76 G dX1_faultOfDie_76 2 rfl ?_
            obtain ⟨r7, hg, hf⟩ := bd1_some hf
            refine sw_callV 77 G (wX1 Θ d0 d1 d2 d3 d_columns d_rows d_carrier d_partMarks d_linkMarks d_operations d_pilots d_settings d_facts d_cells) [0, 1, 2, 3] [] [0, 1, 2, 3] 0 dX1_faultOfDie_77 (kX1_looseCells Θ F d0 d1 d2 d3 d_columns d_rows d_carrier d_partMarks d_linkMarks d_operations d_pilots d_settings d_facts d_cells r7 hg) (gwV lk_f968db28 lk_966126ed lk_5701239d lk_cf66e99d lk_6d4184c7) rfl hvX1_looseCells ⟨rfl, rfl⟩ ⟨Nat.le_of_ble_eq_true rfl, Nat.le_of_ble_eq_true rfl⟩ ⟨Nat.zero_le _, Nat.zero_le _⟩ rfl rfl (Nat.le_of_ble_eq_true rfl) 0 rfl vc1 rfl rfl rfl rfl (by decide) ?_
            refine sw_lconst 80 G (0 : Int64) dX1_faultOfDie_80 rfl ?_
            refine sw_lcmp 81 G dX1_faultOfDie_81 ?_
            refine sw_if_eq 82 90 G dX1_faultOfDie_82 rfl hf (fun hf => ?_) (fun hf => ?_)
            · refine sw_iconst 90 G (0 : Int32) dX1_faultOfDie_90 rfl ?_
              cases hf
              exact sw_iret 91 G dX1_faultOfDie_91 K
            · refine sw_bipush 85 G (6 : Int32) dX1_faultOfDie_85 rfl ?_
              refine sw_goto 87 G 91 dX1_faultOfDie_87 rfl ?_
              cases hf
              exact sw_iret 91 G dX1_faultOfDie_91 K
          · refine sw_iconst 74 G (5 : Int32) dX1_faultOfDie_74 rfl ?_
            cases hf
            exact sw_iret 75 G dX1_faultOfDie_75 K
        · refine sw_iconst 63 G (4 : Int32) dX1_faultOfDie_63 rfl ?_
          cases hf
          exact sw_iret 64 G dX1_faultOfDie_64 K
      · refine sw_iconst 45 G (3 : Int32) dX1_faultOfDie_45 rfl ?_
        cases hf
        exact sw_iret 46 G dX1_faultOfDie_46 K
    · refine sw_iconst 32 G (2 : Int32) dX1_faultOfDie_32 rfl ?_
      cases hf
      exact sw_iret 33 G dX1_faultOfDie_33 K
  · refine sw_iconst 17 G (1 : Int32) dX1_faultOfDie_17 rfl ?_
    cases hf
    exact sw_iret 18 G dX1_faultOfDie_18 K
abbrev rmX1_isFull : Room := { frames := 0, cells := 0, slots := 0, locals := 0 }
theorem hvX1_isFull : yX1_isFull.cls = RX1 ∧ yX1_isFull.cls ≠ "java/lang/invoke/MethodHandle" ∧ yX1_isFull.cls ≠ "java/lang/invoke/VarHandle" ∧ (parseMethodDescriptor yX1_isFull.desc).map (fun d => d.parameters.length) = some 0 := by decide +kernel
set_option maxRecDepth 100000 in
set_option maxHeartbeats 4000000 in
theorem kX1_isFull (Θ : Tht) (d0 d1 d2 d3 : Nat) (d_columns : Int32) (d_rows : Int32) (d_carrier : Int32) (d_partMarks : Int64) (d_linkMarks : Int64) (d_operations : Int32) (d_pilots : Int32) (d_settings : Nat → Int32) (d_facts : Nat → Int32) (d_cells : Nat → Int64) (ro : Int32) (hf : fX1_isFull d_operations = some ro) : Fn Θ yX1_isFull (Cond.code yX1_isFull cX1_isFull 1 (some .boolean) :: GW) rmX1_isFull [.ref d0] (wX1 Θ d0 d1 d2 d3 d_columns d_rows d_carrier d_partMarks d_linkMarks d_operations d_pilots d_settings d_facts d_cells) (some (.int ro)) (wX1 Θ d0 d1 d2 d3 d_columns d_rows d_carrier d_partMarks d_linkMarks d_operations d_pilots d_settings d_facts d_cells) := by
  delta fX1_isFull at hf
  refine Fn.of (by decide +kernel) rfl (Nat.le_of_ble_eq_true rfl) (fun p e s m args below meth c A Q G K => ?_)
  show sw Θ p e rmX1_isFull s m args below meth c A Q 1 0 0 0 [(0, .ref d0)] [] (wX1 Θ d0 d1 d2 d3 d_columns d_rows d_carrier d_partMarks d_linkMarks d_operations d_pilots d_settings d_facts d_cells)
  refine sw_aload_n 0 G dX1_isFull_0 0 rfl ?_
  refine sw_get 1 G hnX1 0 5 dX1_isFull_1 vc1 (by decide) (List.mem_cons_of_mem _ lk_bded192f) rfl rfl ?_
  refine sw_bipush 4 G (6 : Int32) dX1_isFull_4 rfl ?_
  refine sw_icmp_lt 6 13 G dX1_isFull_6 rfl hf (fun hf => ?_) (fun hf => ?_)
  · refine sw_iconst 13 G (0 : Int32) dX1_isFull_13 rfl ?_
    cases hf
    exact sw_zret 14 G dX1_isFull_14 K rfl
  · refine sw_iconst 9 G (1 : Int32) dX1_isFull_9 rfl ?_
    refine sw_goto 10 G 14 dX1_isFull_10 rfl ?_
    cases hf
    exact sw_zret 14 G dX1_isFull_14 K rfl
abbrev rmX1_hasOperation : Room := { frames := 0, cells := 0, slots := 0, locals := 0 }
theorem hvX1_hasOperation : yX1_hasOperation.cls = RX1 ∧ yX1_hasOperation.cls ≠ "java/lang/invoke/MethodHandle" ∧ yX1_hasOperation.cls ≠ "java/lang/invoke/VarHandle" ∧ (parseMethodDescriptor yX1_hasOperation.desc).map (fun d => d.parameters.length) = some 1 := by decide +kernel
set_option maxRecDepth 100000 in
set_option maxHeartbeats 4000000 in
theorem kX1_hasOperation (Θ : Tht) (d0 d1 d2 d3 : Nat) (d_columns : Int32) (d_rows : Int32) (d_carrier : Int32) (d_partMarks : Int64) (d_linkMarks : Int64) (d_operations : Int32) (d_pilots : Int32) (d_settings : Nat → Int32) (d_facts : Nat → Int32) (d_cells : Nat → Int64) (a0 : Int32) (ro : Int32) (hf : fX1_hasOperation d_operations a0 = some ro) : Fn Θ yX1_hasOperation (Cond.code yX1_hasOperation cX1_hasOperation 2 (some .boolean) :: GW) rmX1_hasOperation [.ref d0, .int a0] (wX1 Θ d0 d1 d2 d3 d_columns d_rows d_carrier d_partMarks d_linkMarks d_operations d_pilots d_settings d_facts d_cells) (some (.int ro)) (wX1 Θ d0 d1 d2 d3 d_columns d_rows d_carrier d_partMarks d_linkMarks d_operations d_pilots d_settings d_facts d_cells) := by
  delta fX1_hasOperation at hf
  refine Fn.of (by decide +kernel) rfl (Nat.le_of_ble_eq_true rfl) (fun p e s m args below meth c A Q G K => ?_)
  show sw Θ p e rmX1_hasOperation s m args below meth c A Q 2 0 0 0 [(0, .ref d0), (1, .int a0)] [] (wX1 Θ d0 d1 d2 d3 d_columns d_rows d_carrier d_partMarks d_linkMarks d_operations d_pilots d_settings d_facts d_cells)
  refine sw_iload_n 0 G dX1_hasOperation_0 1 rfl ?_
  refine sw_if_lt 1 16 G dX1_hasOperation_1 rfl hf (fun hf => ?_) (fun hf => ?_)
  · refine sw_iconst 16 G (0 : Int32) dX1_hasOperation_16 rfl ?_
    cases hf
    exact sw_zret 17 G dX1_hasOperation_17 K rfl
  · refine sw_iload_n 4 G dX1_hasOperation_4 1 rfl ?_
    refine sw_aload_n 5 G dX1_hasOperation_5 0 rfl ?_
    refine sw_get 6 G hnX1 0 5 dX1_hasOperation_6 vc1 (by decide) (List.mem_cons_of_mem _ lk_bded192f) rfl rfl ?_
    refine sw_icmp_ge 9 16 G dX1_hasOperation_9 rfl hf (fun hf => ?_) (fun hf => ?_)
    · refine sw_iconst 16 G (0 : Int32) dX1_hasOperation_16 rfl ?_
      cases hf
      exact sw_zret 17 G dX1_hasOperation_17 K rfl
    · refine sw_iconst 12 G (1 : Int32) dX1_hasOperation_12 rfl ?_
      refine sw_goto 13 G 17 dX1_hasOperation_13 rfl ?_
      cases hf
      exact sw_zret 17 G dX1_hasOperation_17 K rfl
abbrev rmX1_changeFact : Room := { frames := 0, cells := 0, slots := 0, locals := 0 }
theorem hvX1_changeFact : yX1_changeFact.cls = RX1 ∧ yX1_changeFact.cls ≠ "java/lang/invoke/MethodHandle" ∧ yX1_changeFact.cls ≠ "java/lang/invoke/VarHandle" ∧ (parseMethodDescriptor yX1_changeFact.desc).map (fun d => d.parameters.length) = some 3 := by decide +kernel
set_option maxRecDepth 100000 in
set_option maxHeartbeats 4000000 in
theorem kX1_changeFact (Θ : Tht) (d0 d1 d2 d3 : Nat) (d_columns : Int32) (d_rows : Int32) (d_carrier : Int32) (d_partMarks : Int64) (d_linkMarks : Int64) (d_operations : Int32) (d_pilots : Int32) (d_settings : Nat → Int32) (d_facts : Nat → Int32) (d_cells : Nat → Int64) (a0 : Int32) (a1 : Int32) (a2 : Int32) (o_d_facts : Nat → Int32) (hf : fX1_changeFact d_facts a0 a1 a2 = some o_d_facts) : Fn Θ yX1_changeFact (Cond.code yX1_changeFact cX1_changeFact 5 none :: GW) rmX1_changeFact [.ref d0, .int a0, .int a1, .int a2] (wX1 Θ d0 d1 d2 d3 d_columns d_rows d_carrier d_partMarks d_linkMarks d_operations d_pilots d_settings d_facts d_cells) none (wX1 Θ d0 d1 d2 d3 d_columns d_rows d_carrier d_partMarks d_linkMarks d_operations d_pilots d_settings o_d_facts d_cells) := by
  delta fX1_changeFact at hf
  refine Fn.of (by decide +kernel) rfl (Nat.le_of_ble_eq_true rfl) (fun p e s m args below meth c A Q G K => ?_)
  show sw Θ p e rmX1_changeFact s m args below meth c A Q 5 0 0 0 [(0, .ref d0), (1, .int a0), (2, .int a1), (3, .int a2)] [] (wX1 Θ d0 d1 d2 d3 d_columns d_rows d_carrier d_partMarks d_linkMarks d_operations d_pilots d_settings d_facts d_cells)
  refine sw_iload_n 0 G dX1_changeFact_0 1 rfl ?_
  refine sw_bipush 1 G (7 : Int32) dX1_changeFact_1 rfl ?_
  refine sw_imul 3 G dX1_changeFact_3 ?_
  refine sw_iload_n 4 G dX1_changeFact_4 2 rfl ?_
  refine sw_iadd 5 G dX1_changeFact_5 ?_
  refine sw_nmi hf (fun v1 hf => ?_)
  refine sw_istore 6 G [(4, .int v1), (0, .ref d0), (1, .int a0), (2, .int a1), (3, .int a2)] dX1_changeFact_6 (by decide) rfl ?_
  refine sw_iload 8 G dX1_changeFact_8 0 rfl ?_
  refine sw_if_lt 10 31 G dX1_changeFact_10 rfl hf (fun hf => ?_) (fun hf => ?_)
  · cases hf
    exact sw_vret 31 G dX1_changeFact_31 K
  · refine sw_iload 13 G dX1_changeFact_13 0 rfl ?_
    refine sw_aload_n 15 G dX1_changeFact_15 1 rfl ?_
    refine sw_get 16 G hnX1 0 8 dX1_changeFact_16 vc1 (by decide) (List.mem_cons_of_mem _ lk_d228bcbb) rfl rfl ?_
    refine sw_alen 19 G 2 1 (42 : Int32) dX1_changeFact_19 rfl rfl rfl ?_
    refine sw_icmp_ge 20 31 G dX1_changeFact_20 rfl hf (fun hf => ?_) (fun hf => ?_)
    · cases hf
      exact sw_vret 31 G dX1_changeFact_31 K
    · refine sw_aload_n 23 G dX1_changeFact_23 1 rfl ?_
      refine sw_get 24 G hnX1 0 8 dX1_changeFact_24 vc1 (by decide) (List.mem_cons_of_mem _ lk_d228bcbb) rfl rfl ?_
      refine sw_iload 27 G dX1_changeFact_27 0 rfl ?_
      refine sw_iload_n 29 G dX1_changeFact_29 4 rfl ?_
      refine sw_iast 30 G 2 (wX1 Θ d0 d1 d2 d3 d_columns d_rows d_carrier d_partMarks d_linkMarks d_operations d_pilots d_settings (upd d_facts v1.toNatClampNeg a2) d_cells) dX1_changeFact_30 rfl rfl hf (fun hf => ?_)
      cases hf
      exact sw_vret 31 G dX1_changeFact_31 K
abbrev rmX1_changeCells : Room := { frames := 0, cells := 0, slots := 0, locals := 0 }
theorem hvX1_changeCells : yX1_changeCells.cls = RX1 ∧ yX1_changeCells.cls ≠ "java/lang/invoke/MethodHandle" ∧ yX1_changeCells.cls ≠ "java/lang/invoke/VarHandle" ∧ (parseMethodDescriptor yX1_changeCells.desc).map (fun d => d.parameters.length) = some 2 := by decide +kernel
set_option maxRecDepth 100000 in
set_option maxHeartbeats 4000000 in
theorem kX1_changeCells (Θ : Tht) (d0 d1 d2 d3 : Nat) (d_columns : Int32) (d_rows : Int32) (d_carrier : Int32) (d_partMarks : Int64) (d_linkMarks : Int64) (d_operations : Int32) (d_pilots : Int32) (d_settings : Nat → Int32) (d_facts : Nat → Int32) (d_cells : Nat → Int64) (a0 : Int32) (a1 : Int64) (o_d_cells : Nat → Int64) (hf : fX1_changeCells d_cells a0 a1 = some o_d_cells) : Fn Θ yX1_changeCells (Cond.code yX1_changeCells cX1_changeCells 4 none :: GW) rmX1_changeCells [.ref d0, .int a0, .long a1] (wX1 Θ d0 d1 d2 d3 d_columns d_rows d_carrier d_partMarks d_linkMarks d_operations d_pilots d_settings d_facts d_cells) none (wX1 Θ d0 d1 d2 d3 d_columns d_rows d_carrier d_partMarks d_linkMarks d_operations d_pilots d_settings d_facts o_d_cells) := by
  delta fX1_changeCells at hf
  refine Fn.of (by decide +kernel) rfl (Nat.le_of_ble_eq_true rfl) (fun p e s m args below meth c A Q G K => ?_)
  show sw Θ p e rmX1_changeCells s m args below meth c A Q 4 0 0 0 [(0, .ref d0), (1, .int a0), (2, .long a1)] [] (wX1 Θ d0 d1 d2 d3 d_columns d_rows d_carrier d_partMarks d_linkMarks d_operations d_pilots d_settings d_facts d_cells)
  refine sw_iload_n 0 G dX1_changeCells_0 1 rfl ?_
  refine sw_if_lt 1 20 G dX1_changeCells_1 rfl hf (fun hf => ?_) (fun hf => ?_)
  · cases hf
    exact sw_vret 20 G dX1_changeCells_20 K
  · refine sw_iload_n 4 G dX1_changeCells_4 1 rfl ?_
    refine sw_aload_n 5 G dX1_changeCells_5 0 rfl ?_
    refine sw_get 6 G hnX1 0 9 dX1_changeCells_6 vc1 (by decide) (List.mem_cons_of_mem _ lk_7d3903e7) rfl rfl ?_
    refine sw_alen 9 G 3 2 (6 : Int32) dX1_changeCells_9 rfl rfl rfl ?_
    refine sw_icmp_ge 10 20 G dX1_changeCells_10 rfl hf (fun hf => ?_) (fun hf => ?_)
    · cases hf
      exact sw_vret 20 G dX1_changeCells_20 K
    · refine sw_aload_n 13 G dX1_changeCells_13 0 rfl ?_
      refine sw_get 14 G hnX1 0 9 dX1_changeCells_14 vc1 (by decide) (List.mem_cons_of_mem _ lk_7d3903e7) rfl rfl ?_
      refine sw_iload_n 17 G dX1_changeCells_17 1 rfl ?_
      refine sw_lload_n 18 G dX1_changeCells_18 2 rfl ?_
      refine sw_last 19 G 3 (wX1 Θ d0 d1 d2 d3 d_columns d_rows d_carrier d_partMarks d_linkMarks d_operations d_pilots d_settings d_facts (vp_updL d_cells a0.toNatClampNeg a1)) dX1_changeCells_19 rfl rfl hf (fun hf => ?_)
      cases hf
      exact sw_vret 20 G dX1_changeCells_20 K
abbrev rmX1_append : Room := { frames := 1, cells := 0, slots := 0, locals := 29 }
theorem hvX1_append : yX1_append.cls = RX1 ∧ yX1_append.cls ≠ "java/lang/invoke/MethodHandle" ∧ yX1_append.cls ≠ "java/lang/invoke/VarHandle" ∧ (parseMethodDescriptor yX1_append.desc).map (fun d => d.parameters.length) = some 5 := by decide +kernel
set_option maxRecDepth 100000 in
set_option maxHeartbeats 4000000 in
theorem kX1_append (Θ : Tht) (F : Nat) (d0 d1 d2 d3 : Nat) (d_columns : Int32) (d_rows : Int32) (d_carrier : Int32) (d_partMarks : Int64) (d_linkMarks : Int64) (d_operations : Int32) (d_pilots : Int32) (d_settings : Nat → Int32) (d_facts : Nat → Int32) (d_cells : Nat → Int64) (a0 : Int32) (a1 : Int32) (a2 : Int32) (a3 : Int32) (a4 : Int32) (ro : Int32) (o_d_operations : Int32) (o_d_facts : Nat → Int32) (o_d_cells : Nat → Int64) (hf : fX1_append F d_columns d_rows d_operations d_facts d_cells a0 a1 a2 a3 a4 = some (ro, o_d_operations, o_d_facts, o_d_cells)) : Fn Θ yX1_append (Cond.code yX1_append cX1_append 7 (some .int) :: GW) rmX1_append [.ref d0, .int a0, .int a1, .int a2, .int a3, .int a4] (wX1 Θ d0 d1 d2 d3 d_columns d_rows d_carrier d_partMarks d_linkMarks d_operations d_pilots d_settings d_facts d_cells) (some (.int ro)) (wX1 Θ d0 d1 d2 d3 d_columns d_rows d_carrier d_partMarks d_linkMarks o_d_operations d_pilots d_settings o_d_facts o_d_cells) := by
  delta fX1_append at hf
  refine Fn.of (by decide +kernel) rfl (Nat.le_of_ble_eq_true rfl) (fun p e s m args below meth c A Q G K => ?_)
  show sw Θ p e rmX1_append s m args below meth c A Q 7 0 0 0 [(0, .ref d0), (1, .int a0), (2, .int a1), (3, .int a2), (4, .int a3), (5, .int a4)] [] (wX1 Θ d0 d1 d2 d3 d_columns d_rows d_carrier d_partMarks d_linkMarks d_operations d_pilots d_settings d_facts d_cells)
  refine sw_aload_n 0 G dX1_append_0 0 rfl ?_
  refine sw_get 1 G hnX1 0 5 dX1_append_1 vc1 (by decide) (List.mem_cons_of_mem _ lk_bded192f) rfl rfl ?_
  refine sw_istore 4 G [(6, .int d_operations), (0, .ref d0), (1, .int a0), (2, .int a1), (3, .int a2), (4, .int a3), (5, .int a4)] dX1_append_4 (by decide) rfl ?_
  refine sw_aload_n 6 G dX1_append_6 1 rfl ?_
  refine sw_iload 7 G dX1_append_7 0 rfl ?_
  refine sw_iconst 9 G (0 : Int32) dX1_append_9 rfl ?_
  refine sw_iload_n 10 G dX1_append_10 2 rfl ?_
  obtain ⟨u1, hg, hf⟩ := bd1_some hf
  refine sw_callV 11 G (wX1 Θ d0 d1 d2 d3 d_columns d_rows d_carrier d_partMarks d_linkMarks d_operations d_pilots d_settings u1 d_cells) [0, 1, 2, 3] [] [0, 1, 2, 3] 3 dX1_append_11 (kX1_changeFact Θ d0 d1 d2 d3 d_columns d_rows d_carrier d_partMarks d_linkMarks d_operations d_pilots d_settings d_facts d_cells d_operations (0 : Int32) a0 u1 hg) (gwV lk_6be7292b lk_96ca5489 lk_0b461f27 lk_cf66e99d lk_e5cced47) rfl hvX1_changeFact ⟨rfl, rfl⟩ ⟨Nat.le_of_ble_eq_true rfl, Nat.le_of_ble_eq_true rfl⟩ ⟨Nat.zero_le _, Nat.zero_le _⟩ rfl rfl (Nat.le_of_ble_eq_true rfl) 0 rfl vc1 rfl rfl rfl rfl (by decide) ?_
  refine sw_aload_n 14 G dX1_append_14 1 rfl ?_
  refine sw_iload 15 G dX1_append_15 0 rfl ?_
  refine sw_iconst 17 G (1 : Int32) dX1_append_17 rfl ?_
  refine sw_iload_n 18 G dX1_append_18 3 rfl ?_
  obtain ⟨u2, hg, hf⟩ := bd1_some hf
  refine sw_callV 19 G (wX1 Θ d0 d1 d2 d3 d_columns d_rows d_carrier d_partMarks d_linkMarks d_operations d_pilots d_settings u2 d_cells) [0, 1, 2, 3] [] [0, 1, 2, 3] 3 dX1_append_19 (kX1_changeFact Θ d0 d1 d2 d3 d_columns d_rows d_carrier d_partMarks d_linkMarks d_operations d_pilots d_settings u1 d_cells d_operations (1 : Int32) a1 u2 hg) (gwV lk_6be7292b lk_96ca5489 lk_0b461f27 lk_cf66e99d lk_e5cced47) rfl hvX1_changeFact ⟨rfl, rfl⟩ ⟨Nat.le_of_ble_eq_true rfl, Nat.le_of_ble_eq_true rfl⟩ ⟨Nat.zero_le _, Nat.zero_le _⟩ rfl rfl (Nat.le_of_ble_eq_true rfl) 0 rfl vc1 rfl rfl rfl rfl (by decide) ?_
  refine sw_aload_n 22 G dX1_append_22 1 rfl ?_
  refine sw_iload 23 G dX1_append_23 0 rfl ?_
  refine sw_iconst 25 G (2 : Int32) dX1_append_25 rfl ?_
  refine sw_iload_n 26 G dX1_append_26 4 rfl ?_
  obtain ⟨u3, hg, hf⟩ := bd1_some hf
  refine sw_callV 27 G (wX1 Θ d0 d1 d2 d3 d_columns d_rows d_carrier d_partMarks d_linkMarks d_operations d_pilots d_settings u3 d_cells) [0, 1, 2, 3] [] [0, 1, 2, 3] 3 dX1_append_27 (kX1_changeFact Θ d0 d1 d2 d3 d_columns d_rows d_carrier d_partMarks d_linkMarks d_operations d_pilots d_settings u2 d_cells d_operations (2 : Int32) a2 u3 hg) (gwV lk_6be7292b lk_96ca5489 lk_0b461f27 lk_cf66e99d lk_e5cced47) rfl hvX1_changeFact ⟨rfl, rfl⟩ ⟨Nat.le_of_ble_eq_true rfl, Nat.le_of_ble_eq_true rfl⟩ ⟨Nat.zero_le _, Nat.zero_le _⟩ rfl rfl (Nat.le_of_ble_eq_true rfl) 0 rfl vc1 rfl rfl rfl rfl (by decide) ?_
  refine sw_aload_n 30 G dX1_append_30 1 rfl ?_
  refine sw_iload 31 G dX1_append_31 0 rfl ?_
  refine sw_iconst 33 G (3 : Int32) dX1_append_33 rfl ?_
  refine sw_iload 34 G dX1_append_34 5 rfl ?_
  obtain ⟨u4, hg, hf⟩ := bd1_some hf
  refine sw_callV 36 G (wX1 Θ d0 d1 d2 d3 d_columns d_rows d_carrier d_partMarks d_linkMarks d_operations d_pilots d_settings u4 d_cells) [0, 1, 2, 3] [] [0, 1, 2, 3] 3 dX1_append_36 (kX1_changeFact Θ d0 d1 d2 d3 d_columns d_rows d_carrier d_partMarks d_linkMarks d_operations d_pilots d_settings u3 d_cells d_operations (3 : Int32) a3 u4 hg) (gwV lk_6be7292b lk_96ca5489 lk_0b461f27 lk_cf66e99d lk_e5cced47) rfl hvX1_changeFact ⟨rfl, rfl⟩ ⟨Nat.le_of_ble_eq_true rfl, Nat.le_of_ble_eq_true rfl⟩ ⟨Nat.zero_le _, Nat.zero_le _⟩ rfl rfl (Nat.le_of_ble_eq_true rfl) 0 rfl vc1 rfl rfl rfl rfl (by decide) ?_
  refine sw_aload_n 39 G dX1_append_39 1 rfl ?_
  refine sw_iload 40 G dX1_append_40 0 rfl ?_
  refine sw_iconst 42 G (4 : Int32) dX1_append_42 rfl ?_
  refine sw_iload 43 G dX1_append_43 6 rfl ?_
  obtain ⟨u5, hg, hf⟩ := bd1_some hf
  refine sw_callV 45 G (wX1 Θ d0 d1 d2 d3 d_columns d_rows d_carrier d_partMarks d_linkMarks d_operations d_pilots d_settings u5 d_cells) [0, 1, 2, 3] [] [0, 1, 2, 3] 3 dX1_append_45 (kX1_changeFact Θ d0 d1 d2 d3 d_columns d_rows d_carrier d_partMarks d_linkMarks d_operations d_pilots d_settings u4 d_cells d_operations (4 : Int32) a4 u5 hg) (gwV lk_6be7292b lk_96ca5489 lk_0b461f27 lk_cf66e99d lk_e5cced47) rfl hvX1_changeFact ⟨rfl, rfl⟩ ⟨Nat.le_of_ble_eq_true rfl, Nat.le_of_ble_eq_true rfl⟩ ⟨Nat.zero_le _, Nat.zero_le _⟩ rfl rfl (Nat.le_of_ble_eq_true rfl) 0 rfl vc1 rfl rfl rfl rfl (by decide) ?_
  refine sw_aload_n 48 G dX1_append_48 1 rfl ?_
  refine sw_iload 49 G dX1_append_49 0 rfl ?_
  refine sw_iconst 51 G (5 : Int32) dX1_append_51 rfl ?_
  refine sw_iload_n 52 G dX1_append_52 2 rfl ?_
  obtain ⟨v6, hj, hf⟩ := bd1_some hf
  have hx68 : sw Θ p e rmX1_append s m args below meth c A Q 7 0 0 68 [(0, .ref d0), (2, .int a1), (3, .int a2), (4, .int a3), (5, .int a4), (6, .int d_operations)] [.int v6, .int (5 : Int32), .int d_operations, .ref d0] (wX1 Θ d0 d1 d2 d3 d_columns d_rows d_carrier d_partMarks d_linkMarks d_operations d_pilots d_settings u5 d_cells) := by
    obtain ⟨u7, hg, hf⟩ := bd1_some hf
    refine sw_callV 68 G (wX1 Θ d0 d1 d2 d3 d_columns d_rows d_carrier d_partMarks d_linkMarks d_operations d_pilots d_settings u7 d_cells) [0, 1, 2, 3] [] [0, 1, 2, 3] 3 dX1_append_68 (kX1_changeFact Θ d0 d1 d2 d3 d_columns d_rows d_carrier d_partMarks d_linkMarks d_operations d_pilots d_settings u5 d_cells d_operations (5 : Int32) v6 u7 hg) (gwV lk_6be7292b lk_96ca5489 lk_0b461f27 lk_cf66e99d lk_e5cced47) rfl hvX1_changeFact ⟨rfl, rfl⟩ ⟨Nat.le_of_ble_eq_true rfl, Nat.le_of_ble_eq_true rfl⟩ ⟨Nat.zero_le _, Nat.zero_le _⟩ rfl rfl (Nat.le_of_ble_eq_true rfl) 0 rfl vc1 rfl rfl rfl rfl (by decide) ?_
    refine sw_aload_n 71 G dX1_append_71 0 rfl ?_
    refine sw_iload 72 G dX1_append_72 5 rfl ?_
    refine sw_bipush 74 G (6 : Int32) dX1_append_74 rfl ?_
    refine sw_iconst 76 G (-1 : Int32) dX1_append_76 rfl ?_
    obtain ⟨u8, hg, hf⟩ := bd1_some hf
    refine sw_callV 77 G (wX1 Θ d0 d1 d2 d3 d_columns d_rows d_carrier d_partMarks d_linkMarks d_operations d_pilots d_settings u8 d_cells) [0, 1, 2, 3] [] [0, 1, 2, 3] 3 dX1_append_77 (kX1_changeFact Θ d0 d1 d2 d3 d_columns d_rows d_carrier d_partMarks d_linkMarks d_operations d_pilots d_settings u7 d_cells d_operations (6 : Int32) (-1 : Int32) u8 hg) (gwV lk_6be7292b lk_96ca5489 lk_0b461f27 lk_cf66e99d lk_e5cced47) rfl hvX1_changeFact ⟨rfl, rfl⟩ ⟨Nat.le_of_ble_eq_true rfl, Nat.le_of_ble_eq_true rfl⟩ ⟨Nat.zero_le _, Nat.zero_le _⟩ rfl rfl (Nat.le_of_ble_eq_true rfl) 0 rfl vc1 rfl rfl rfl rfl (by decide) ?_
    refine sw_aload_n 80 G dX1_append_80 0 rfl ?_
    refine sw_iload 81 G dX1_append_81 5 rfl ?_
    refine sw_aload_n 83 G dX1_append_83 0 rfl ?_
    refine sw_iload_n 84 G dX1_append_84 1 rfl ?_
    refine sw_iload_n 85 G dX1_append_85 2 rfl ?_
    refine sw_iload 86 G dX1_append_86 3 rfl ?_
    refine sw_iload 88 G dX1_append_88 4 rfl ?_
    obtain ⟨r9, hg, hf⟩ := bd1_some hf
    refine sw_callV 90 G (wX1 Θ d0 d1 d2 d3 d_columns d_rows d_carrier d_partMarks d_linkMarks d_operations d_pilots d_settings u8 d_cells) [0, 1, 2, 3] [] [0, 1, 2, 3] 4 dX1_append_90 (kX1_rectangle Θ F d0 d1 d2 d3 d_columns d_rows d_carrier d_partMarks d_linkMarks d_operations d_pilots d_settings u8 d_cells a1 a2 a3 a4 r9 hg) (gwV lk_08222165 lk_78a614ff lk_2de1bfb6 lk_cf66e99d lk_cb7364a8) rfl hvX1_rectangle ⟨rfl, rfl⟩ ⟨Nat.le_of_ble_eq_true rfl, Nat.le_of_ble_eq_true rfl⟩ ⟨Nat.zero_le _, Nat.zero_le _⟩ rfl rfl (Nat.le_of_ble_eq_true rfl) 0 rfl vc1 rfl rfl rfl rfl (by decide) ?_
    obtain ⟨u10, hg, hf⟩ := bd1_some hf
    refine sw_callV 93 G (wX1 Θ d0 d1 d2 d3 d_columns d_rows d_carrier d_partMarks d_linkMarks d_operations d_pilots d_settings u8 u10) [0, 1, 2, 3] [] [0, 1, 2, 3] 2 dX1_append_93 (kX1_changeCells Θ d0 d1 d2 d3 d_columns d_rows d_carrier d_partMarks d_linkMarks d_operations d_pilots d_settings u8 d_cells d_operations r9 u10 hg) (gwV lk_ef41266c lk_1f0dcee0 lk_2d957587 lk_cf66e99d lk_d9787207) rfl hvX1_changeCells ⟨rfl, rfl⟩ ⟨Nat.le_of_ble_eq_true rfl, Nat.le_of_ble_eq_true rfl⟩ ⟨Nat.zero_le _, Nat.zero_le _⟩ rfl rfl (Nat.le_of_ble_eq_true rfl) 0 rfl vc1 rfl rfl rfl rfl (by decide) ?_
    refine sw_aload_n 96 G dX1_append_96 0 rfl ?_
    refine sw_dup 97 G dX1_append_97 rfl ?_
    refine sw_get 98 G hnX1 0 5 dX1_append_98 vc1 (by decide) (List.mem_cons_of_mem _ lk_bded192f) rfl rfl ?_
    refine sw_iconst 101 G (1 : Int32) dX1_append_101 rfl ?_
    refine sw_iadd 102 G dX1_append_102 ?_
    refine sw_nmi hf (fun v11 hf => ?_)
    refine sw_put 103 G hnX1 tyX1_ok nmX1 0 5 (wX1 Θ d0 d1 d2 d3 d_columns d_rows d_carrier d_partMarks d_linkMarks v11 d_pilots d_settings u8 u10) dX1_append_103 vc1 (by decide) (List.mem_cons_of_mem _ lk_bded192f) rfl rfl (Nat.le_of_ble_eq_true rfl) (tyX1_ok 5 (by decide)) rfl rfl rfl ?_
    refine sw_iload 106 G dX1_append_106 5 rfl ?_
    cases hf
    exact sw_iret 108 G dX1_append_108 K
  clear hf
  have hf := hj
  clear hj
  refine sw_if_ne 53 66 G dX1_append_53 rfl hf (fun hf => ?_) (fun hf => ?_)
  · refine sw_iload 66 G dX1_append_66 5 rfl ?_
    cases hf
    exact sw_lv _ [1, 3, 4, 5, 6, 0] rfl hx68
  · refine sw_iconst 56 G (2 : Int32) dX1_append_56 rfl ?_
    refine sw_iload 57 G dX1_append_57 5 rfl ?_
    refine sw_iload 59 G dX1_append_59 6 rfl ?_
    refine sw_iadd 61 G dX1_append_61 ?_
    refine sw_imul 62 G dX1_append_62 ?_
    refine sw_goto 63 G 68 dX1_append_63 rfl ?_
    cases hf
    exact sw_lv _ [1, 3, 4, 5, 6, 0] rfl hx68
abbrev rmX1_remove : Room := { frames := 1, cells := 0, slots := 0, locals := 24 }
theorem hvX1_remove : yX1_remove.cls = RX1 ∧ yX1_remove.cls ≠ "java/lang/invoke/MethodHandle" ∧ yX1_remove.cls ≠ "java/lang/invoke/VarHandle" ∧ (parseMethodDescriptor yX1_remove.desc).map (fun d => d.parameters.length) = some 1 := by decide +kernel
set_option maxRecDepth 100000 in
set_option maxHeartbeats 4000000 in
theorem kX1_remove (Θ : Tht) (F : Nat) (d0 d1 d2 d3 : Nat) (d_columns : Int32) (d_rows : Int32) (d_carrier : Int32) (d_partMarks : Int64) (d_linkMarks : Int64) (d_operations : Int32) (d_pilots : Int32) (d_settings : Nat → Int32) (d_facts : Nat → Int32) (d_cells : Nat → Int64) (a0 : Int32) (o_d_operations : Int32) (o_d_facts : Nat → Int32) (o_d_cells : Nat → Int64) (hf : fX1_remove F d_operations d_facts d_cells a0 = some (o_d_operations, o_d_facts, o_d_cells)) : Fn Θ yX1_remove (Cond.code yX1_remove cX1_remove 4 none :: GW) rmX1_remove [.ref d0, .int a0] (wX1 Θ d0 d1 d2 d3 d_columns d_rows d_carrier d_partMarks d_linkMarks d_operations d_pilots d_settings d_facts d_cells) none (wX1 Θ d0 d1 d2 d3 d_columns d_rows d_carrier d_partMarks d_linkMarks o_d_operations d_pilots d_settings o_d_facts o_d_cells) := by
  delta fX1_remove at hf
  refine Fn.of (by decide +kernel) rfl (Nat.le_of_ble_eq_true rfl) (fun p e s m args below meth c A Q G K => ?_)
  show sw Θ p e rmX1_remove s m args below meth c A Q 4 0 0 0 [(0, .ref d0), (1, .int a0)] [] (wX1 Θ d0 d1 d2 d3 d_columns d_rows d_carrier d_partMarks d_linkMarks d_operations d_pilots d_settings d_facts d_cells)
  refine sw_iload_n 0 G dX1_remove_0 1 rfl ?_
  refine sw_istore_n 1 G [(2, .int a0), (0, .ref d0), (1, .int a0)] dX1_remove_1 (by decide) rfl ?_
  obtain ⟨v1, v2, hl, hf⟩ := bd2_some hf
  have hx2_58 : sw Θ p e rmX1_remove s m args below meth c A Q 4 0 0 58 [(0, .ref d0)] [] (wX1 Θ d0 d1 d2 d3 d_columns d_rows d_carrier d_partMarks d_linkMarks d_operations d_pilots d_settings v1 v2) := by
    refine sw_aload_n 58 G dX1_remove_58 0 rfl ?_
    refine sw_dup 59 G dX1_remove_59 rfl ?_
    refine sw_get 60 G hnX1 0 5 dX1_remove_60 vc1 (by decide) (List.mem_cons_of_mem _ lk_bded192f) rfl rfl ?_
    refine sw_iconst 63 G (1 : Int32) dX1_remove_63 rfl ?_
    refine sw_isub 64 G dX1_remove_64 ?_
    refine sw_nmi hf (fun v3 hf => ?_)
    refine sw_put 65 G hnX1 tyX1_ok nmX1 0 5 (wX1 Θ d0 d1 d2 d3 d_columns d_rows d_carrier d_partMarks d_linkMarks v3 d_pilots d_settings v1 v2) dX1_remove_65 vc1 (by decide) (List.mem_cons_of_mem _ lk_bded192f) rfl rfl (Nat.le_of_ble_eq_true rfl) (tyX1_ok 5 (by decide)) rfl rfl rfl ?_
    cases hf
    exact sw_vret 68 G dX1_remove_68 K
  refine sw_lv [(0, .ref d0), (2, .int a0)] [1, 0] rfl ?_
  refine lp_walk (P := fun (t : Int32 × (Nat → Int32) × (Nat → Int64)) => sw Θ p e rmX1_remove s m args below meth c A Q 4 0 0 2 [(0, .ref d0), (2, .int t.1)] [] (wX1 Θ d0 d1 d2 d3 d_columns d_rows d_carrier d_partMarks d_linkMarks d_operations d_pilots d_settings t.2.1 t.2.2)) hl (fun t2 y2 hf hin2 hex2 => ?_)
  obtain ⟨v4, v5, v6⟩ := t2
  show sw Θ p e rmX1_remove s m args below meth c A Q 4 0 0 2 [(0, .ref d0), (2, .int v4)] [] (wX1 Θ d0 d1 d2 d3 d_columns d_rows d_carrier d_partMarks d_linkMarks d_operations d_pilots d_settings v5 v6)
  have hf := uc3_some (K := _) hf
  refine sw_iload_n 2 G dX1_remove_2 1 rfl ?_
  refine sw_aload_n 3 G dX1_remove_3 0 rfl ?_
  refine sw_get 4 G hnX1 0 5 dX1_remove_4 vc1 (by decide) (List.mem_cons_of_mem _ lk_bded192f) rfl rfl ?_
  refine sw_iconst 7 G (1 : Int32) dX1_remove_7 rfl ?_
  refine sw_isub 8 G dX1_remove_8 ?_
  refine sw_icmp_ge 9 58 G dX1_remove_9 rfl hf (fun hf => ?_) (fun hf => ?_)
  · cases hf
    cases hex2 _ rfl
    exact sw_lv _ [0] rfl hx2_58
  · refine sw_iconst 12 G (0 : Int32) dX1_remove_12 rfl ?_
    refine sw_istore_n 13 G [(3, .int (0 : Int32)), (0, .ref d0), (2, .int v4)] dX1_remove_13 (by decide) rfl ?_
    obtain ⟨v7, hl, hf⟩ := bd1_some hf
    have hx14_40 : sw Θ p e rmX1_remove s m args below meth c A Q 4 0 0 40 [(0, .ref d0), (2, .int v4)] [] (wX1 Θ d0 d1 d2 d3 d_columns d_rows d_carrier d_partMarks d_linkMarks d_operations d_pilots d_settings v7 v6) := by
      refine sw_aload_n 40 G dX1_remove_40 0 rfl ?_
      refine sw_iload_n 41 G dX1_remove_41 1 rfl ?_
      refine sw_aload_n 42 G dX1_remove_42 0 rfl ?_
      refine sw_iload_n 43 G dX1_remove_43 1 rfl ?_
      refine sw_iconst 44 G (1 : Int32) dX1_remove_44 rfl ?_
      refine sw_iadd 45 G dX1_remove_45 ?_
      obtain ⟨r8, hg, hf⟩ := bd1_some hf
      refine sw_callV 46 G (wX1 Θ d0 d1 d2 d3 d_columns d_rows d_carrier d_partMarks d_linkMarks d_operations d_pilots d_settings v7 v6) [0, 1, 2, 3] [] [0, 1, 2, 3] 1 dX1_remove_46 (kX1_cellsOf Θ d0 d1 d2 d3 d_columns d_rows d_carrier d_partMarks d_linkMarks d_operations d_pilots d_settings v7 v6 (v4 + (1 : Int32)) r8 hg) (gwV lk_4b47e753 lk_cd5fd627 lk_1ac25e50 lk_cf66e99d lk_f58614fb) rfl hvX1_cellsOf ⟨rfl, rfl⟩ ⟨Nat.le_of_ble_eq_true rfl, Nat.le_of_ble_eq_true rfl⟩ ⟨Nat.zero_le _, Nat.zero_le _⟩ rfl rfl (Nat.le_of_ble_eq_true rfl) 0 rfl vc1 rfl rfl rfl rfl (by decide) ?_
      obtain ⟨u9, hg, hf⟩ := bd1_some hf
      refine sw_callV 49 G (wX1 Θ d0 d1 d2 d3 d_columns d_rows d_carrier d_partMarks d_linkMarks d_operations d_pilots d_settings v7 u9) [0, 1, 2, 3] [] [0, 1, 2, 3] 2 dX1_remove_49 (kX1_changeCells Θ d0 d1 d2 d3 d_columns d_rows d_carrier d_partMarks d_linkMarks d_operations d_pilots d_settings v7 v6 v4 r8 u9 hg) (gwV lk_ef41266c lk_1f0dcee0 lk_2d957587 lk_cf66e99d lk_d9787207) rfl hvX1_changeCells ⟨rfl, rfl⟩ ⟨Nat.le_of_ble_eq_true rfl, Nat.le_of_ble_eq_true rfl⟩ ⟨Nat.zero_le _, Nat.zero_le _⟩ rfl rfl (Nat.le_of_ble_eq_true rfl) 0 rfl vc1 rfl rfl rfl rfl (by decide) ?_
      refine sw_iinc 52 G (v4 + (1 : Int32)) [(2, .int (v4 + (1 : Int32))), (0, .ref d0)] dX1_remove_52 1 rfl rfl (by decide) rfl ?_
      refine sw_goto 55 G 2 dX1_remove_55 rfl ?_
      cases hf
      have hb := hin2 _ rfl
      exact sw_lv _ [1, 0] (by rfl) hb
    refine sw_lv [(0, .ref d0), (2, .int v4), (3, .int (0 : Int32))] [1, 2, 0] rfl ?_
    refine lp_walk (P := fun (t : Int32 × (Nat → Int32)) => sw Θ p e rmX1_remove s m args below meth c A Q 4 0 0 14 [(0, .ref d0), (2, .int v4), (3, .int t.1)] [] (wX1 Θ d0 d1 d2 d3 d_columns d_rows d_carrier d_partMarks d_linkMarks d_operations d_pilots d_settings t.2 v6)) hl (fun t14 y14 hf hin14 hex14 => ?_)
    obtain ⟨v10, v11⟩ := t14
    show sw Θ p e rmX1_remove s m args below meth c A Q 4 0 0 14 [(0, .ref d0), (2, .int v4), (3, .int v10)] [] (wX1 Θ d0 d1 d2 d3 d_columns d_rows d_carrier d_partMarks d_linkMarks d_operations d_pilots d_settings v11 v6)
    have hf := uc2_some (K := _) hf
    refine sw_iload_n 14 G dX1_remove_14 2 rfl ?_
    refine sw_bipush 15 G (7 : Int32) dX1_remove_15 rfl ?_
    refine sw_icmp_ge 17 40 G dX1_remove_17 rfl hf (fun hf => ?_) (fun hf => ?_)
    · cases hf
      cases hex14 _ rfl
      exact sw_lv _ [0, 1] rfl hx14_40
    · refine sw_aload_n 20 G dX1_remove_20 0 rfl ?_
      refine sw_iload_n 21 G dX1_remove_21 1 rfl ?_
      refine sw_iload_n 22 G dX1_remove_22 2 rfl ?_
      refine sw_aload_n 23 G dX1_remove_23 0 rfl ?_
      refine sw_iload_n 24 G dX1_remove_24 1 rfl ?_
      refine sw_iconst 25 G (1 : Int32) dX1_remove_25 rfl ?_
      refine sw_iadd 26 G dX1_remove_26 ?_
      refine sw_iload_n 27 G dX1_remove_27 2 rfl ?_
      obtain ⟨r12, hg, hf⟩ := bd1_some hf
      refine sw_callV 28 G (wX1 Θ d0 d1 d2 d3 d_columns d_rows d_carrier d_partMarks d_linkMarks d_operations d_pilots d_settings v11 v6) [0, 1, 2, 3] [] [0, 1, 2, 3] 2 dX1_remove_28 (kX1_fact Θ d0 d1 d2 d3 d_columns d_rows d_carrier d_partMarks d_linkMarks d_operations d_pilots d_settings v11 v6 (v4 + (1 : Int32)) v10 r12 hg) (gwV lk_a9b0b2ed lk_e025dfb3 lk_773339a1 lk_cf66e99d lk_334ef9fb) rfl hvX1_fact ⟨rfl, rfl⟩ ⟨Nat.le_of_ble_eq_true rfl, Nat.le_of_ble_eq_true rfl⟩ ⟨Nat.zero_le _, Nat.zero_le _⟩ rfl rfl (Nat.le_of_ble_eq_true rfl) 0 rfl vc1 rfl rfl rfl rfl (by decide) ?_
      obtain ⟨u13, hg, hf⟩ := bd1_some hf
      refine sw_callV 31 G (wX1 Θ d0 d1 d2 d3 d_columns d_rows d_carrier d_partMarks d_linkMarks d_operations d_pilots d_settings u13 v6) [0, 1, 2, 3] [] [0, 1, 2, 3] 3 dX1_remove_31 (kX1_changeFact Θ d0 d1 d2 d3 d_columns d_rows d_carrier d_partMarks d_linkMarks d_operations d_pilots d_settings v11 v6 v4 v10 r12 u13 hg) (gwV lk_6be7292b lk_96ca5489 lk_0b461f27 lk_cf66e99d lk_e5cced47) rfl hvX1_changeFact ⟨rfl, rfl⟩ ⟨Nat.le_of_ble_eq_true rfl, Nat.le_of_ble_eq_true rfl⟩ ⟨Nat.zero_le _, Nat.zero_le _⟩ rfl rfl (Nat.le_of_ble_eq_true rfl) 0 rfl vc1 rfl rfl rfl rfl (by decide) ?_
      refine sw_iinc 34 G (v10 + (1 : Int32)) [(3, .int (v10 + (1 : Int32))), (0, .ref d0), (2, .int v4)] dX1_remove_34 2 rfl rfl (by decide) rfl ?_
      refine sw_goto 37 G 14 dX1_remove_37 rfl ?_
      cases hf
      have hb := hin14 _ rfl
      exact sw_lv _ [1, 2, 0] (by rfl) hb
abbrev rmX1_touching : Room := { frames := 2, cells := 0, slots := 0, locals := 59 }
theorem hvX1_touching : yX1_touching.cls = RX1 ∧ yX1_touching.cls ≠ "java/lang/invoke/MethodHandle" ∧ yX1_touching.cls ≠ "java/lang/invoke/VarHandle" ∧ (parseMethodDescriptor yX1_touching.desc).map (fun d => d.parameters.length) = some 1 := by decide +kernel
set_option maxRecDepth 100000 in
set_option maxHeartbeats 4000000 in
theorem kX1_touching (Θ : Tht) (F : Nat) (d0 d1 d2 d3 : Nat) (d_columns : Int32) (d_rows : Int32) (d_carrier : Int32) (d_partMarks : Int64) (d_linkMarks : Int64) (d_operations : Int32) (d_pilots : Int32) (d_settings : Nat → Int32) (d_facts : Nat → Int32) (d_cells : Nat → Int64) (a0 : Int32) (ro : Int32) (hf : fX1_touching F d_columns d_rows d_operations d_cells a0 = some ro) : Fn Θ yX1_touching (Cond.code yX1_touching cX1_touching 6 (some .int) :: GW) rmX1_touching [.ref d0, .int a0] (wX1 Θ d0 d1 d2 d3 d_columns d_rows d_carrier d_partMarks d_linkMarks d_operations d_pilots d_settings d_facts d_cells) (some (.int ro)) (wX1 Θ d0 d1 d2 d3 d_columns d_rows d_carrier d_partMarks d_linkMarks d_operations d_pilots d_settings d_facts d_cells) := by
  delta fX1_touching at hf
  refine Fn.of (by decide +kernel) rfl (Nat.le_of_ble_eq_true rfl) (fun p e s m args below meth c A Q G K => ?_)
  show sw Θ p e rmX1_touching s m args below meth c A Q 6 0 0 0 [(0, .ref d0), (1, .int a0)] [] (wX1 Θ d0 d1 d2 d3 d_columns d_rows d_carrier d_partMarks d_linkMarks d_operations d_pilots d_settings d_facts d_cells)
  refine sw_aload_n 0 G dX1_touching_0 0 rfl ?_
  refine sw_iload_n 1 G dX1_touching_1 1 rfl ?_
  obtain ⟨r1, hg, hf⟩ := bd1_some hf
  refine sw_callV 2 G (wX1 Θ d0 d1 d2 d3 d_columns d_rows d_carrier d_partMarks d_linkMarks d_operations d_pilots d_settings d_facts d_cells) [0, 1, 2, 3] [] [0, 1, 2, 3] 1 dX1_touching_2 (kX1_cellsOf Θ d0 d1 d2 d3 d_columns d_rows d_carrier d_partMarks d_linkMarks d_operations d_pilots d_settings d_facts d_cells a0 r1 hg) (gwV lk_4b47e753 lk_cd5fd627 lk_1ac25e50 lk_cf66e99d lk_f58614fb) rfl hvX1_cellsOf ⟨rfl, rfl⟩ ⟨Nat.le_of_ble_eq_true rfl, Nat.le_of_ble_eq_true rfl⟩ ⟨Nat.zero_le _, Nat.zero_le _⟩ rfl rfl (Nat.le_of_ble_eq_true rfl) 0 rfl vc1 rfl rfl rfl rfl (by decide) ?_
  refine sw_aload_n 5 G dX1_touching_5 0 rfl ?_
  refine sw_aload_n 6 G dX1_touching_6 0 rfl ?_
  refine sw_iload_n 7 G dX1_touching_7 1 rfl ?_
  obtain ⟨r2, hg, hf⟩ := bd1_some hf
  refine sw_callV 8 G (wX1 Θ d0 d1 d2 d3 d_columns d_rows d_carrier d_partMarks d_linkMarks d_operations d_pilots d_settings d_facts d_cells) [0, 1, 2, 3] [] [0, 1, 2, 3] 1 dX1_touching_8 (kX1_cellsOf Θ d0 d1 d2 d3 d_columns d_rows d_carrier d_partMarks d_linkMarks d_operations d_pilots d_settings d_facts d_cells a0 r2 hg) (gwV lk_4b47e753 lk_cd5fd627 lk_1ac25e50 lk_cf66e99d lk_f58614fb) rfl hvX1_cellsOf ⟨rfl, rfl⟩ ⟨Nat.le_of_ble_eq_true rfl, Nat.le_of_ble_eq_true rfl⟩ ⟨Nat.zero_le _, Nat.zero_le _⟩ rfl rfl (Nat.le_of_ble_eq_true rfl) 0 rfl vc1 rfl rfl rfl rfl (by decide) ?_
  obtain ⟨r3, hg, hf⟩ := bd1_some hf
  refine sw_callV 11 G (wX1 Θ d0 d1 d2 d3 d_columns d_rows d_carrier d_partMarks d_linkMarks d_operations d_pilots d_settings d_facts d_cells) [0, 1, 2, 3] [] [0, 1, 2, 3] 1 dX1_touching_11 (kX1_neighbors Θ F d0 d1 d2 d3 d_columns d_rows d_carrier d_partMarks d_linkMarks d_operations d_pilots d_settings d_facts d_cells r2 r3 hg) (gwV lk_9ca1ea2f lk_04959273 lk_00a8d77f lk_cf66e99d lk_5fb96ec6) rfl hvX1_neighbors ⟨rfl, rfl⟩ ⟨Nat.le_of_ble_eq_true rfl, Nat.le_of_ble_eq_true rfl⟩ ⟨Nat.zero_le _, Nat.zero_le _⟩ rfl rfl (Nat.le_of_ble_eq_true rfl) 0 rfl vc1 rfl rfl rfl rfl (by decide) ?_
  refine sw_lor 14 G dX1_touching_14 ?_
  refine sw_nml hf (fun v4 hf => ?_)
  refine sw_lstore_n 15 G [(2, .long v4), (0, .ref d0), (1, .int a0)] dX1_touching_15 (by decide) rfl ?_
  refine sw_iconst 16 G (0 : Int32) dX1_touching_16 rfl ?_
  refine sw_istore 17 G [(4, .int (0 : Int32)), (2, .long v4), (0, .ref d0), (1, .int a0)] dX1_touching_17 (by decide) rfl ?_
  refine sw_iconst 19 G (0 : Int32) dX1_touching_19 rfl ?_
  refine sw_istore 20 G [(5, .int (0 : Int32)), (4, .int (0 : Int32)), (2, .long v4), (0, .ref d0), (1, .int a0)] dX1_touching_20 (by decide) rfl ?_
  obtain ⟨v5, hl, hf⟩ := bd1_some hf
  have hx22_65 : sw Θ p e rmX1_touching s m args below meth c A Q 6 0 0 65 [(4, .int v5)] [] (wX1 Θ d0 d1 d2 d3 d_columns d_rows d_carrier d_partMarks d_linkMarks d_operations d_pilots d_settings d_facts d_cells) := by
    refine sw_iload 65 G dX1_touching_65 0 rfl ?_
    cases hf
    exact sw_iret 67 G dX1_touching_67 K
  refine sw_lv [(0, .ref d0), (1, .int a0), (2, .long v4), (4, .int (0 : Int32)), (5, .int (0 : Int32))] [3, 4, 2, 1, 0] rfl ?_
  refine lp_walk (P := fun (t : Int32 × Int32) => sw Θ p e rmX1_touching s m args below meth c A Q 6 0 0 22 [(0, .ref d0), (1, .int a0), (2, .long v4), (4, .int t.1), (5, .int t.2)] [] (wX1 Θ d0 d1 d2 d3 d_columns d_rows d_carrier d_partMarks d_linkMarks d_operations d_pilots d_settings d_facts d_cells)) hl (fun t22 y22 hf hin22 hex22 => ?_)
  obtain ⟨v6, v7⟩ := t22
  show sw Θ p e rmX1_touching s m args below meth c A Q 6 0 0 22 [(0, .ref d0), (1, .int a0), (2, .long v4), (4, .int v6), (5, .int v7)] [] (wX1 Θ d0 d1 d2 d3 d_columns d_rows d_carrier d_partMarks d_linkMarks d_operations d_pilots d_settings d_facts d_cells)
  have hf := uc2_some (K := _) hf
  refine sw_iload 22 G dX1_touching_22 4 rfl ?_
  refine sw_aload_n 24 G dX1_touching_24 0 rfl ?_
  refine sw_get 25 G hnX1 0 5 dX1_touching_25 vc1 (by decide) (List.mem_cons_of_mem _ lk_bded192f) rfl rfl ?_
  refine sw_icmp_ge 28 65 G dX1_touching_28 rfl hf (fun hf => ?_) (fun hf => ?_)
  · cases hf
    cases hex22 _ rfl
    exact sw_lv _ [3] rfl hx22_65
  · refine sw_iload 31 G dX1_touching_31 4 rfl ?_
    refine sw_iload_n 33 G dX1_touching_33 1 rfl ?_
    obtain ⟨v8, hj, hf⟩ := bd1_some hf
    have hx59 : sw Θ p e rmX1_touching s m args below meth c A Q 6 0 0 59 [(0, .ref d0), (1, .int a0), (2, .long v4), (4, .int v8), (5, .int v7)] [] (wX1 Θ d0 d1 d2 d3 d_columns d_rows d_carrier d_partMarks d_linkMarks d_operations d_pilots d_settings d_facts d_cells) := by
      refine sw_iinc 59 G (v7 + (1 : Int32)) [(5, .int (v7 + (1 : Int32))), (0, .ref d0), (1, .int a0), (2, .long v4), (4, .int v8)] dX1_touching_59 4 rfl rfl (by decide) rfl ?_
      refine sw_goto 62 G 22 dX1_touching_62 rfl ?_
      cases hf
      have hb := hin22 _ rfl
      exact sw_lv _ [1, 2, 3, 4, 0] (by rfl) hb
    clear hf
    have hf := hj
    clear hj
    refine sw_icmp_eq 34 59 G dX1_touching_34 rfl hf (fun hf => ?_) (fun hf => ?_)
    · cases hf
      exact sw_lv _ [0, 1, 2, 3, 4] rfl hx59
    · refine sw_lload_n 37 G dX1_touching_37 2 rfl ?_
      refine sw_aload_n 38 G dX1_touching_38 0 rfl ?_
      refine sw_iload 39 G dX1_touching_39 4 rfl ?_
      obtain ⟨r9, hg, hf⟩ := bd1_some hf
      refine sw_callV 41 G (wX1 Θ d0 d1 d2 d3 d_columns d_rows d_carrier d_partMarks d_linkMarks d_operations d_pilots d_settings d_facts d_cells) [0, 1, 2, 3] [] [0, 1, 2, 3] 1 dX1_touching_41 (kX1_cellsOf Θ d0 d1 d2 d3 d_columns d_rows d_carrier d_partMarks d_linkMarks d_operations d_pilots d_settings d_facts d_cells v7 r9 hg) (gwV lk_4b47e753 lk_cd5fd627 lk_1ac25e50 lk_cf66e99d lk_f58614fb) rfl hvX1_cellsOf ⟨rfl, rfl⟩ ⟨Nat.le_of_ble_eq_true rfl, Nat.le_of_ble_eq_true rfl⟩ ⟨Nat.zero_le _, Nat.zero_le _⟩ rfl rfl (Nat.le_of_ble_eq_true rfl) 0 rfl vc1 rfl rfl rfl rfl (by decide) ?_
      refine sw_land 44 G dX1_touching_44 ?_
      refine sw_lconst 45 G (0 : Int64) dX1_touching_45 rfl ?_
      refine sw_lcmp 46 G dX1_touching_46 ?_
      refine sw_if_eq 47 59 G dX1_touching_47 rfl hf (fun hf => ?_) (fun hf => ?_)
      · cases hf
        exact sw_lv _ [0, 1, 2, 3, 4] rfl hx59
      · refine sw_iload 50 G dX1_touching_50 3 rfl ?_
        refine sw_iconst 52 G (1 : Int32) dX1_touching_52 rfl ?_
        refine sw_iload 53 G dX1_touching_53 4 rfl ?_
        refine sw_ishl 55 G dX1_touching_55 ?_
        refine sw_ior 56 G dX1_touching_56 ?_
        refine sw_nmi hf (fun v10 hf => ?_)
        refine sw_istore 57 G [(4, .int v10), (0, .ref d0), (1, .int a0), (2, .long v4), (5, .int v7)] dX1_touching_57 (by decide) rfl ?_
        cases hf
        exact sw_lv _ [1, 2, 3, 0, 4] rfl hx59
abbrev rmX1_operationsAt : Room := { frames := 1, cells := 0, slots := 0, locals := 23 }
theorem hvX1_operationsAt : yX1_operationsAt.cls = RX1 ∧ yX1_operationsAt.cls ≠ "java/lang/invoke/MethodHandle" ∧ yX1_operationsAt.cls ≠ "java/lang/invoke/VarHandle" ∧ (parseMethodDescriptor yX1_operationsAt.desc).map (fun d => d.parameters.length) = some 1 := by decide +kernel
set_option maxRecDepth 100000 in
set_option maxHeartbeats 4000000 in
theorem kX1_operationsAt (Θ : Tht) (F : Nat) (d0 d1 d2 d3 : Nat) (d_columns : Int32) (d_rows : Int32) (d_carrier : Int32) (d_partMarks : Int64) (d_linkMarks : Int64) (d_operations : Int32) (d_pilots : Int32) (d_settings : Nat → Int32) (d_facts : Nat → Int32) (d_cells : Nat → Int64) (a0 : Int32) (ro : Int32) (hf : fX1_operationsAt F d_operations d_facts a0 = some ro) : Fn Θ yX1_operationsAt (Cond.code yX1_operationsAt cX1_operationsAt 4 (some .int) :: GW) rmX1_operationsAt [.ref d0, .int a0] (wX1 Θ d0 d1 d2 d3 d_columns d_rows d_carrier d_partMarks d_linkMarks d_operations d_pilots d_settings d_facts d_cells) (some (.int ro)) (wX1 Θ d0 d1 d2 d3 d_columns d_rows d_carrier d_partMarks d_linkMarks d_operations d_pilots d_settings d_facts d_cells) := by
  delta fX1_operationsAt at hf
  refine Fn.of (by decide +kernel) rfl (Nat.le_of_ble_eq_true rfl) (fun p e s m args below meth c A Q G K => ?_)
  show sw Θ p e rmX1_operationsAt s m args below meth c A Q 4 0 0 0 [(0, .ref d0), (1, .int a0)] [] (wX1 Θ d0 d1 d2 d3 d_columns d_rows d_carrier d_partMarks d_linkMarks d_operations d_pilots d_settings d_facts d_cells)
  refine sw_iconst 0 G (0 : Int32) dX1_operationsAt_0 rfl ?_
  refine sw_istore_n 1 G [(2, .int (0 : Int32)), (0, .ref d0), (1, .int a0)] dX1_operationsAt_1 (by decide) rfl ?_
  refine sw_iconst 2 G (0 : Int32) dX1_operationsAt_2 rfl ?_
  refine sw_istore_n 3 G [(3, .int (0 : Int32)), (2, .int (0 : Int32)), (0, .ref d0), (1, .int a0)] dX1_operationsAt_3 (by decide) rfl ?_
  obtain ⟨v1, hl, hf⟩ := bd1_some hf
  have hx4_35 : sw Θ p e rmX1_operationsAt s m args below meth c A Q 4 0 0 35 [(2, .int v1)] [] (wX1 Θ d0 d1 d2 d3 d_columns d_rows d_carrier d_partMarks d_linkMarks d_operations d_pilots d_settings d_facts d_cells) := by
    refine sw_iload_n 35 G dX1_operationsAt_35 0 rfl ?_
    cases hf
    exact sw_iret 36 G dX1_operationsAt_36 K
  refine sw_lv [(0, .ref d0), (1, .int a0), (2, .int (0 : Int32)), (3, .int (0 : Int32))] [2, 3, 1, 0] rfl ?_
  refine lp_walk (P := fun (t : Int32 × Int32) => sw Θ p e rmX1_operationsAt s m args below meth c A Q 4 0 0 4 [(0, .ref d0), (1, .int a0), (2, .int t.1), (3, .int t.2)] [] (wX1 Θ d0 d1 d2 d3 d_columns d_rows d_carrier d_partMarks d_linkMarks d_operations d_pilots d_settings d_facts d_cells)) hl (fun t4 y4 hf hin4 hex4 => ?_)
  obtain ⟨v2, v3⟩ := t4
  show sw Θ p e rmX1_operationsAt s m args below meth c A Q 4 0 0 4 [(0, .ref d0), (1, .int a0), (2, .int v2), (3, .int v3)] [] (wX1 Θ d0 d1 d2 d3 d_columns d_rows d_carrier d_partMarks d_linkMarks d_operations d_pilots d_settings d_facts d_cells)
  have hf := uc2_some (K := _) hf
  refine sw_iload_n 4 G dX1_operationsAt_4 3 rfl ?_
  refine sw_aload_n 5 G dX1_operationsAt_5 0 rfl ?_
  refine sw_get 6 G hnX1 0 5 dX1_operationsAt_6 vc1 (by decide) (List.mem_cons_of_mem _ lk_bded192f) rfl rfl ?_
  refine sw_icmp_ge 9 35 G dX1_operationsAt_9 rfl hf (fun hf => ?_) (fun hf => ?_)
  · cases hf
    cases hex4 _ rfl
    exact sw_lv _ [2] rfl hx4_35
  · refine sw_aload_n 12 G dX1_operationsAt_12 0 rfl ?_
    refine sw_iload_n 13 G dX1_operationsAt_13 3 rfl ?_
    refine sw_bipush 14 G (6 : Int32) dX1_operationsAt_14 rfl ?_
    obtain ⟨r4, hg, hf⟩ := bd1_some hf
    refine sw_callV 16 G (wX1 Θ d0 d1 d2 d3 d_columns d_rows d_carrier d_partMarks d_linkMarks d_operations d_pilots d_settings d_facts d_cells) [0, 1, 2, 3] [] [0, 1, 2, 3] 2 dX1_operationsAt_16 (kX1_fact Θ d0 d1 d2 d3 d_columns d_rows d_carrier d_partMarks d_linkMarks d_operations d_pilots d_settings d_facts d_cells v3 (6 : Int32) r4 hg) (gwV lk_a9b0b2ed lk_e025dfb3 lk_773339a1 lk_cf66e99d lk_334ef9fb) rfl hvX1_fact ⟨rfl, rfl⟩ ⟨Nat.le_of_ble_eq_true rfl, Nat.le_of_ble_eq_true rfl⟩ ⟨Nat.zero_le _, Nat.zero_le _⟩ rfl rfl (Nat.le_of_ble_eq_true rfl) 0 rfl vc1 rfl rfl rfl rfl (by decide) ?_
    refine sw_iload_n 19 G dX1_operationsAt_19 1 rfl ?_
    obtain ⟨v5, hj, hf⟩ := bd1_some hf
    have hx29 : sw Θ p e rmX1_operationsAt s m args below meth c A Q 4 0 0 29 [(0, .ref d0), (1, .int a0), (2, .int v5), (3, .int v3)] [] (wX1 Θ d0 d1 d2 d3 d_columns d_rows d_carrier d_partMarks d_linkMarks d_operations d_pilots d_settings d_facts d_cells) := by
      refine sw_iinc 29 G (v3 + (1 : Int32)) [(3, .int (v3 + (1 : Int32))), (0, .ref d0), (1, .int a0), (2, .int v5)] dX1_operationsAt_29 3 rfl rfl (by decide) rfl ?_
      refine sw_goto 32 G 4 dX1_operationsAt_32 rfl ?_
      cases hf
      have hb := hin4 _ rfl
      exact sw_lv _ [1, 2, 3, 0] (by rfl) hb
    clear hf
    have hf := hj
    clear hj
    refine sw_icmp_ne 20 29 G dX1_operationsAt_20 rfl hf (fun hf => ?_) (fun hf => ?_)
    · cases hf
      exact sw_lv _ [0, 1, 2, 3] rfl hx29
    · refine sw_iload_n 23 G dX1_operationsAt_23 2 rfl ?_
      refine sw_iconst 24 G (1 : Int32) dX1_operationsAt_24 rfl ?_
      refine sw_iload_n 25 G dX1_operationsAt_25 3 rfl ?_
      refine sw_ishl 26 G dX1_operationsAt_26 ?_
      refine sw_ior 27 G dX1_operationsAt_27 ?_
      refine sw_nmi hf (fun v6 hf => ?_)
      refine sw_istore_n 28 G [(2, .int v6), (0, .ref d0), (1, .int a0), (3, .int v3)] dX1_operationsAt_28 (by decide) rfl ?_
      cases hf
      exact sw_lv _ [1, 2, 0, 3] rfl hx29
abbrev rmX1_forceAt : Room := { frames := 1, cells := 0, slots := 0, locals := 23 }
theorem hvX1_forceAt : yX1_forceAt.cls = RX1 ∧ yX1_forceAt.cls ≠ "java/lang/invoke/MethodHandle" ∧ yX1_forceAt.cls ≠ "java/lang/invoke/VarHandle" ∧ (parseMethodDescriptor yX1_forceAt.desc).map (fun d => d.parameters.length) = some 1 := by decide +kernel
set_option maxRecDepth 100000 in
set_option maxHeartbeats 4000000 in
theorem kX1_forceAt (Θ : Tht) (F : Nat) (d0 d1 d2 d3 : Nat) (d_columns : Int32) (d_rows : Int32) (d_carrier : Int32) (d_partMarks : Int64) (d_linkMarks : Int64) (d_operations : Int32) (d_pilots : Int32) (d_settings : Nat → Int32) (d_facts : Nat → Int32) (d_cells : Nat → Int64) (a0 : Int32) (ro : Int32) (hf : fX1_forceAt F d_operations d_facts a0 = some ro) : Fn Θ yX1_forceAt (Cond.code yX1_forceAt cX1_forceAt 4 (some .int) :: GW) rmX1_forceAt [.ref d0, .int a0] (wX1 Θ d0 d1 d2 d3 d_columns d_rows d_carrier d_partMarks d_linkMarks d_operations d_pilots d_settings d_facts d_cells) (some (.int ro)) (wX1 Θ d0 d1 d2 d3 d_columns d_rows d_carrier d_partMarks d_linkMarks d_operations d_pilots d_settings d_facts d_cells) := by
  delta fX1_forceAt at hf
  refine Fn.of (by decide +kernel) rfl (Nat.le_of_ble_eq_true rfl) (fun p e s m args below meth c A Q G K => ?_)
  show sw Θ p e rmX1_forceAt s m args below meth c A Q 4 0 0 0 [(0, .ref d0), (1, .int a0)] [] (wX1 Θ d0 d1 d2 d3 d_columns d_rows d_carrier d_partMarks d_linkMarks d_operations d_pilots d_settings d_facts d_cells)
  refine sw_iconst 0 G (0 : Int32) dX1_forceAt_0 rfl ?_
  refine sw_istore_n 1 G [(2, .int (0 : Int32)), (0, .ref d0), (1, .int a0)] dX1_forceAt_1 (by decide) rfl ?_
  refine sw_iconst 2 G (0 : Int32) dX1_forceAt_2 rfl ?_
  refine sw_istore_n 3 G [(3, .int (0 : Int32)), (2, .int (0 : Int32)), (0, .ref d0), (1, .int a0)] dX1_forceAt_3 (by decide) rfl ?_
  obtain ⟨v1, hl, hf⟩ := bd1_some hf
  have hx4_38 : sw Θ p e rmX1_forceAt s m args below meth c A Q 4 0 0 38 [(2, .int v1)] [] (wX1 Θ d0 d1 d2 d3 d_columns d_rows d_carrier d_partMarks d_linkMarks d_operations d_pilots d_settings d_facts d_cells) := by
    refine sw_iload_n 38 G dX1_forceAt_38 0 rfl ?_
    cases hf
    exact sw_iret 39 G dX1_forceAt_39 K
  refine sw_lv [(0, .ref d0), (1, .int a0), (2, .int (0 : Int32)), (3, .int (0 : Int32))] [2, 3, 1, 0] rfl ?_
  refine lp_walk (P := fun (t : Int32 × Int32) => sw Θ p e rmX1_forceAt s m args below meth c A Q 4 0 0 4 [(0, .ref d0), (1, .int a0), (2, .int t.1), (3, .int t.2)] [] (wX1 Θ d0 d1 d2 d3 d_columns d_rows d_carrier d_partMarks d_linkMarks d_operations d_pilots d_settings d_facts d_cells)) hl (fun t4 y4 hf hin4 hex4 => ?_)
  obtain ⟨v2, v3⟩ := t4
  show sw Θ p e rmX1_forceAt s m args below meth c A Q 4 0 0 4 [(0, .ref d0), (1, .int a0), (2, .int v2), (3, .int v3)] [] (wX1 Θ d0 d1 d2 d3 d_columns d_rows d_carrier d_partMarks d_linkMarks d_operations d_pilots d_settings d_facts d_cells)
  have hf := uc2_some (K := _) hf
  refine sw_iload_n 4 G dX1_forceAt_4 3 rfl ?_
  refine sw_aload_n 5 G dX1_forceAt_5 0 rfl ?_
  refine sw_get 6 G hnX1 0 5 dX1_forceAt_6 vc1 (by decide) (List.mem_cons_of_mem _ lk_bded192f) rfl rfl ?_
  refine sw_icmp_ge 9 38 G dX1_forceAt_9 rfl hf (fun hf => ?_) (fun hf => ?_)
  · cases hf
    cases hex4 _ rfl
    exact sw_lv _ [2] rfl hx4_38
  · refine sw_aload_n 12 G dX1_forceAt_12 0 rfl ?_
    refine sw_iload_n 13 G dX1_forceAt_13 3 rfl ?_
    refine sw_bipush 14 G (6 : Int32) dX1_forceAt_14 rfl ?_
    obtain ⟨r4, hg, hf⟩ := bd1_some hf
    refine sw_callV 16 G (wX1 Θ d0 d1 d2 d3 d_columns d_rows d_carrier d_partMarks d_linkMarks d_operations d_pilots d_settings d_facts d_cells) [0, 1, 2, 3] [] [0, 1, 2, 3] 2 dX1_forceAt_16 (kX1_fact Θ d0 d1 d2 d3 d_columns d_rows d_carrier d_partMarks d_linkMarks d_operations d_pilots d_settings d_facts d_cells v3 (6 : Int32) r4 hg) (gwV lk_a9b0b2ed lk_e025dfb3 lk_773339a1 lk_cf66e99d lk_334ef9fb) rfl hvX1_fact ⟨rfl, rfl⟩ ⟨Nat.le_of_ble_eq_true rfl, Nat.le_of_ble_eq_true rfl⟩ ⟨Nat.zero_le _, Nat.zero_le _⟩ rfl rfl (Nat.le_of_ble_eq_true rfl) 0 rfl vc1 rfl rfl rfl rfl (by decide) ?_
    refine sw_iload_n 19 G dX1_forceAt_19 1 rfl ?_
    obtain ⟨v5, hj, hf⟩ := bd1_some hf
    have hx32 : sw Θ p e rmX1_forceAt s m args below meth c A Q 4 0 0 32 [(0, .ref d0), (1, .int a0), (2, .int v5), (3, .int v3)] [] (wX1 Θ d0 d1 d2 d3 d_columns d_rows d_carrier d_partMarks d_linkMarks d_operations d_pilots d_settings d_facts d_cells) := by
      refine sw_iinc 32 G (v3 + (1 : Int32)) [(3, .int (v3 + (1 : Int32))), (0, .ref d0), (1, .int a0), (2, .int v5)] dX1_forceAt_32 3 rfl rfl (by decide) rfl ?_
      refine sw_goto 35 G 4 dX1_forceAt_35 rfl ?_
      cases hf
      have hb := hin4 _ rfl
      exact sw_lv _ [1, 2, 3, 0] (by rfl) hb
    clear hf
    have hf := hj
    clear hj
    refine sw_icmp_ne 20 32 G dX1_forceAt_20 rfl hf (fun hf => ?_) (fun hf => ?_)
    · cases hf
      exact sw_lv _ [0, 1, 2, 3] rfl hx32
    · refine sw_iload_n 23 G dX1_forceAt_23 2 rfl ?_
      refine sw_aload_n 24 G dX1_forceAt_24 0 rfl ?_
      refine sw_iload_n 25 G dX1_forceAt_25 3 rfl ?_
      refine sw_iconst 26 G (5 : Int32) dX1_forceAt_26 rfl ?_
      obtain ⟨r6, hg, hf⟩ := bd1_some hf
      refine sw_callV 27 G (wX1 Θ d0 d1 d2 d3 d_columns d_rows d_carrier d_partMarks d_linkMarks d_operations d_pilots d_settings d_facts d_cells) [0, 1, 2, 3] [] [0, 1, 2, 3] 2 dX1_forceAt_27 (kX1_fact Θ d0 d1 d2 d3 d_columns d_rows d_carrier d_partMarks d_linkMarks d_operations d_pilots d_settings d_facts d_cells v3 (5 : Int32) r6 hg) (gwV lk_a9b0b2ed lk_e025dfb3 lk_773339a1 lk_cf66e99d lk_334ef9fb) rfl hvX1_fact ⟨rfl, rfl⟩ ⟨Nat.le_of_ble_eq_true rfl, Nat.le_of_ble_eq_true rfl⟩ ⟨Nat.zero_le _, Nat.zero_le _⟩ rfl rfl (Nat.le_of_ble_eq_true rfl) 0 rfl vc1 rfl rfl rfl rfl (by decide) ?_
      refine sw_iadd 30 G dX1_forceAt_30 ?_
      refine sw_nmi hf (fun v7 hf => ?_)
      refine sw_istore_n 31 G [(2, .int v7), (0, .ref d0), (1, .int a0), (3, .int v3)] dX1_forceAt_31 (by decide) rfl ?_
      cases hf
      exact sw_lv _ [1, 2, 0, 3] rfl hx32
abbrev rmX1_isTooEarly : Room := { frames := 3, cells := 0, slots := 0, locals := 84 }
theorem hvX1_isTooEarly : yX1_isTooEarly.cls = RX1 ∧ yX1_isTooEarly.cls ≠ "java/lang/invoke/MethodHandle" ∧ yX1_isTooEarly.cls ≠ "java/lang/invoke/VarHandle" ∧ (parseMethodDescriptor yX1_isTooEarly.desc).map (fun d => d.parameters.length) = some 1 := by decide +kernel
set_option maxRecDepth 100000 in
set_option maxHeartbeats 4000000 in
theorem kX1_isTooEarly (Θ : Tht) (F : Nat) (d0 d1 d2 d3 : Nat) (d_columns : Int32) (d_rows : Int32) (d_carrier : Int32) (d_partMarks : Int64) (d_linkMarks : Int64) (d_operations : Int32) (d_pilots : Int32) (d_settings : Nat → Int32) (d_facts : Nat → Int32) (d_cells : Nat → Int64) (a0 : Int32) (ro : Int32) (hf : fX1_isTooEarly F d_columns d_rows d_operations d_settings d_facts d_cells a0 = some ro) : Fn Θ yX1_isTooEarly (Cond.code yX1_isTooEarly cX1_isTooEarly 5 (some .boolean) :: GW) rmX1_isTooEarly [.ref d0, .int a0] (wX1 Θ d0 d1 d2 d3 d_columns d_rows d_carrier d_partMarks d_linkMarks d_operations d_pilots d_settings d_facts d_cells) (some (.int ro)) (wX1 Θ d0 d1 d2 d3 d_columns d_rows d_carrier d_partMarks d_linkMarks d_operations d_pilots d_settings d_facts d_cells) := by
  delta fX1_isTooEarly at hf
  refine Fn.of (by decide +kernel) rfl (Nat.le_of_ble_eq_true rfl) (fun p e s m args below meth c A Q G K => ?_)
  show sw Θ p e rmX1_isTooEarly s m args below meth c A Q 5 0 0 0 [(0, .ref d0), (1, .int a0)] [] (wX1 Θ d0 d1 d2 d3 d_columns d_rows d_carrier d_partMarks d_linkMarks d_operations d_pilots d_settings d_facts d_cells)
  refine sw_aload_n 0 G dX1_isTooEarly_0 0 rfl ?_
  refine sw_iload_n 1 G dX1_isTooEarly_1 1 rfl ?_
  obtain ⟨r1, hg, hf⟩ := bd1_some hf
  refine sw_callV 2 G (wX1 Θ d0 d1 d2 d3 d_columns d_rows d_carrier d_partMarks d_linkMarks d_operations d_pilots d_settings d_facts d_cells) [0, 1, 2, 3] [] [0, 1, 2, 3] 1 dX1_isTooEarly_2 (kX1_touching Θ F d0 d1 d2 d3 d_columns d_rows d_carrier d_partMarks d_linkMarks d_operations d_pilots d_settings d_facts d_cells a0 r1 hg) (gwV lk_54b2452c lk_fbf09312 lk_32ac6146 lk_cf66e99d lk_4d7935db) rfl hvX1_touching ⟨rfl, rfl⟩ ⟨Nat.le_of_ble_eq_true rfl, Nat.le_of_ble_eq_true rfl⟩ ⟨Nat.zero_le _, Nat.zero_le _⟩ rfl rfl (Nat.le_of_ble_eq_true rfl) 0 rfl vc1 rfl rfl rfl rfl (by decide) ?_
  refine sw_istore_n 5 G [(2, .int r1), (0, .ref d0), (1, .int a0)] dX1_isTooEarly_5 (by decide) rfl ?_
  refine sw_iconst 6 G (0 : Int32) dX1_isTooEarly_6 rfl ?_
  refine sw_istore_n 7 G [(3, .int (0 : Int32)), (2, .int r1), (0, .ref d0), (1, .int a0)] dX1_isTooEarly_7 (by decide) rfl ?_
  obtain ⟨w8, hl, hf0, hf1⟩ := bdS2_some hf
  have hx8_70 : w8 = .inl () → sw Θ p e rmX1_isTooEarly s m args below meth c A Q 5 0 0 70 [] [] (wX1 Θ d0 d1 d2 d3 d_columns d_rows d_carrier d_partMarks d_linkMarks d_operations d_pilots d_settings d_facts d_cells) := by
    intro  hw
    have hf := uc0_some (hf0 _ hw)
    refine sw_iconst 70 G (1 : Int32) dX1_isTooEarly_70 rfl ?_
    cases hf
    exact sw_zret 71 G dX1_isTooEarly_71 K rfl
  have hx8_78 : w8 = .inr (()) → sw Θ p e rmX1_isTooEarly s m args below meth c A Q 5 0 0 78 [] [] (wX1 Θ d0 d1 d2 d3 d_columns d_rows d_carrier d_partMarks d_linkMarks d_operations d_pilots d_settings d_facts d_cells) := by
    intro  hw
    have hf := uc0_some (hf1 _ hw)
    refine sw_iconst 78 G (0 : Int32) dX1_isTooEarly_78 rfl ?_
    cases hf
    exact sw_zret 79 G dX1_isTooEarly_79 K rfl
  refine sw_lv [(0, .ref d0), (1, .int a0), (2, .int r1), (3, .int (0 : Int32))] [2, 3, 1, 0] rfl ?_
  refine lp_walk (P := fun (t : Int32) => sw Θ p e rmX1_isTooEarly s m args below meth c A Q 5 0 0 8 [(0, .ref d0), (1, .int a0), (2, .int r1), (3, .int t)] [] (wX1 Θ d0 d1 d2 d3 d_columns d_rows d_carrier d_partMarks d_linkMarks d_operations d_pilots d_settings d_facts d_cells)) hl (fun t8 y8 hf hin8 hex8 => ?_)
  obtain ⟨v2, rfl⟩ : ∃ z, z = t8 := ⟨_, rfl⟩
  show sw Θ p e rmX1_isTooEarly s m args below meth c A Q 5 0 0 8 [(0, .ref d0), (1, .int a0), (2, .int r1), (3, .int v2)] [] (wX1 Θ d0 d1 d2 d3 d_columns d_rows d_carrier d_partMarks d_linkMarks d_operations d_pilots d_settings d_facts d_cells)
  have hf := uc1_some (K := _) hf
  refine sw_iload_n 8 G dX1_isTooEarly_8 3 rfl ?_
  refine sw_aload_n 9 G dX1_isTooEarly_9 0 rfl ?_
  refine sw_get 10 G hnX1 0 5 dX1_isTooEarly_10 vc1 (by decide) (List.mem_cons_of_mem _ lk_bded192f) rfl rfl ?_
  refine sw_icmp_ge 13 78 G dX1_isTooEarly_13 rfl hf (fun hf => ?_) (fun hf => ?_)
  · cases hf
    exact sw_lv _ [] rfl (hx8_78  (hex8 _ rfl).symm)
  · refine sw_iload_n 16 G dX1_isTooEarly_16 2 rfl ?_
    refine sw_iload_n 17 G dX1_isTooEarly_17 3 rfl ?_
    obtain ⟨r3, hg, hf⟩ := bd1_some hf
    refine sw_callSN 18 G (wX1 Θ d0 d1 d2 d3 d_columns d_rows d_carrier d_partMarks d_linkMarks d_operations d_pilots d_settings d_facts d_cells) [] [0, 1, 2, 3] [0, 1, 2, 3] 2 dX1_isTooEarly_18 (kX5_isIn Θ r1 v2 r3 hg) (gwN lk_9805779a) (List.mem_of_getElem? (i := 10) rfl) (List.mem_cons_of_mem _ lk_17fb23dc) (List.mem_cons_of_mem _ lk_b26544b5) rfl hsX5_isIn ⟨rfl, rfl⟩ ⟨Nat.le_of_ble_eq_true rfl, Nat.le_of_ble_eq_true rfl⟩ ⟨Nat.zero_le _, Nat.zero_le _⟩ rfl rfl (Nat.le_of_ble_eq_true rfl) rfl rfl rfl (by decide) ?_
    obtain ⟨v4, hj, hf⟩ := bd1_some hf
    have hx38 : sw Θ p e rmX1_isTooEarly s m args below meth c A Q 5 0 0 38 [(0, .ref d0), (1, .int a0), (2, .int r1), (3, .int v2)] [.int v4] (wX1 Θ d0 d1 d2 d3 d_columns d_rows d_carrier d_partMarks d_linkMarks d_operations d_pilots d_settings d_facts d_cells) := by
      refine sw_istore 38 G [(4, .int v4), (0, .ref d0), (1, .int a0), (2, .int r1), (3, .int v2)] dX1_isTooEarly_38 (by decide) rfl ?_
      refine sw_iload 40 G dX1_isTooEarly_40 0 rfl ?_
      refine sw_if_eq 42 72 G dX1_isTooEarly_42 rfl hf (fun hf => ?_) (fun hf => ?_)
      · refine sw_iinc 72 G (v2 + (1 : Int32)) [(3, .int (v2 + (1 : Int32))), (4, .int v4), (0, .ref d0), (1, .int a0), (2, .int r1)] dX1_isTooEarly_72 4 rfl rfl (by decide) rfl ?_
        refine sw_goto 75 G 8 dX1_isTooEarly_75 rfl ?_
        cases hf
        have hb := hin8 _ rfl
        exact sw_lv _ [2, 3, 4, 0] (by rfl) hb
      · refine sw_aload_n 45 G dX1_isTooEarly_45 1 rfl ?_
        refine sw_iload_n 46 G dX1_isTooEarly_46 2 rfl ?_
        refine sw_bipush 47 G (6 : Int32) dX1_isTooEarly_47 rfl ?_
        obtain ⟨r6, hg, hf⟩ := bd1_some hf
        refine sw_callV 49 G (wX1 Θ d0 d1 d2 d3 d_columns d_rows d_carrier d_partMarks d_linkMarks d_operations d_pilots d_settings d_facts d_cells) [0, 1, 2, 3] [] [0, 1, 2, 3] 2 dX1_isTooEarly_49 (kX1_fact Θ d0 d1 d2 d3 d_columns d_rows d_carrier d_partMarks d_linkMarks d_operations d_pilots d_settings d_facts d_cells a0 (6 : Int32) r6 hg) (gwV lk_a9b0b2ed lk_e025dfb3 lk_773339a1 lk_cf66e99d lk_334ef9fb) rfl hvX1_fact ⟨rfl, rfl⟩ ⟨Nat.le_of_ble_eq_true rfl, Nat.le_of_ble_eq_true rfl⟩ ⟨Nat.zero_le _, Nat.zero_le _⟩ rfl rfl (Nat.le_of_ble_eq_true rfl) 0 rfl vc1 rfl rfl rfl rfl (by decide) ?_
        refine sw_aload_n 52 G dX1_isTooEarly_52 1 rfl ?_
        refine sw_iload_n 53 G dX1_isTooEarly_53 4 rfl ?_
        refine sw_bipush 54 G (6 : Int32) dX1_isTooEarly_54 rfl ?_
        obtain ⟨r7, hg, hf⟩ := bd1_some hf
        refine sw_callV 56 G (wX1 Θ d0 d1 d2 d3 d_columns d_rows d_carrier d_partMarks d_linkMarks d_operations d_pilots d_settings d_facts d_cells) [0, 1, 2, 3] [] [0, 1, 2, 3] 2 dX1_isTooEarly_56 (kX1_fact Θ d0 d1 d2 d3 d_columns d_rows d_carrier d_partMarks d_linkMarks d_operations d_pilots d_settings d_facts d_cells v2 (6 : Int32) r7 hg) (gwV lk_a9b0b2ed lk_e025dfb3 lk_773339a1 lk_cf66e99d lk_334ef9fb) rfl hvX1_fact ⟨rfl, rfl⟩ ⟨Nat.le_of_ble_eq_true rfl, Nat.le_of_ble_eq_true rfl⟩ ⟨Nat.zero_le _, Nat.zero_le _⟩ rfl rfl (Nat.le_of_ble_eq_true rfl) 0 rfl vc1 rfl rfl rfl rfl (by decide) ?_
        refine sw_iconst 59 G (1 : Int32) dX1_isTooEarly_59 rfl ?_
        refine sw_iadd 60 G dX1_isTooEarly_60 ?_
        refine sw_aload_n 61 G dX1_isTooEarly_61 1 rfl ?_
        refine sw_iconst 62 G (1 : Int32) dX1_isTooEarly_62 rfl ?_
        obtain ⟨r8, hg, hf⟩ := bd1_some hf
        refine sw_callV 63 G (wX1 Θ d0 d1 d2 d3 d_columns d_rows d_carrier d_partMarks d_linkMarks d_operations d_pilots d_settings d_facts d_cells) [0, 1, 2, 3] [] [0, 1, 2, 3] 1 dX1_isTooEarly_63 (kX1_setting Θ d0 d1 d2 d3 d_columns d_rows d_carrier d_partMarks d_linkMarks d_operations d_pilots d_settings d_facts d_cells (1 : Int32) r8 hg) (gwV lk_837406b3 lk_6c5b2bed lk_42f14101 lk_cf66e99d lk_45fed558) rfl hvX1_setting ⟨rfl, rfl⟩ ⟨Nat.le_of_ble_eq_true rfl, Nat.le_of_ble_eq_true rfl⟩ ⟨Nat.zero_le _, Nat.zero_le _⟩ rfl rfl (Nat.le_of_ble_eq_true rfl) 0 rfl vc1 rfl rfl rfl rfl (by decide) ?_
        refine sw_iadd 66 G dX1_isTooEarly_66 ?_
        refine sw_icmp_ge 67 72 G dX1_isTooEarly_67 rfl hf (fun hf => ?_) (fun hf => ?_)
        · refine sw_iinc 72 G (v2 + (1 : Int32)) [(3, .int (v2 + (1 : Int32))), (4, .int v4), (0, .ref d0), (1, .int a0), (2, .int r1)] dX1_isTooEarly_72 4 rfl rfl (by decide) rfl ?_
          refine sw_goto 75 G 8 dX1_isTooEarly_75 rfl ?_
          cases hf
          have hb := hin8 _ rfl
          exact sw_lv _ [2, 3, 4, 0] (by rfl) hb
        · cases hf
          exact sw_lv _ [] rfl (hx8_70  (hex8 _ rfl).symm)
    clear hf
    have hf := hj
    clear hj
    refine sw_if_eq 21 37 G dX1_isTooEarly_21 rfl hf (fun hf => ?_) (fun hf => ?_)
    · refine sw_iconst 37 G (0 : Int32) dX1_isTooEarly_37 rfl ?_
      cases hf
      exact sw_lv _ [0, 1, 2, 3] rfl hx38
    · refine sw_aload_n 24 G dX1_isTooEarly_24 0 rfl ?_
      refine sw_iload_n 25 G dX1_isTooEarly_25 3 rfl ?_
      refine sw_iconst 26 G (0 : Int32) dX1_isTooEarly_26 rfl ?_
      obtain ⟨r5, hg, hf⟩ := bd1_some hf
      refine sw_callV 27 G (wX1 Θ d0 d1 d2 d3 d_columns d_rows d_carrier d_partMarks d_linkMarks d_operations d_pilots d_settings d_facts d_cells) [0, 1, 2, 3] [] [0, 1, 2, 3] 2 dX1_isTooEarly_27 (kX1_fact Θ d0 d1 d2 d3 d_columns d_rows d_carrier d_partMarks d_linkMarks d_operations d_pilots d_settings d_facts d_cells v2 (0 : Int32) r5 hg) (gwV lk_a9b0b2ed lk_e025dfb3 lk_773339a1 lk_cf66e99d lk_334ef9fb) rfl hvX1_fact ⟨rfl, rfl⟩ ⟨Nat.le_of_ble_eq_true rfl, Nat.le_of_ble_eq_true rfl⟩ ⟨Nat.zero_le _, Nat.zero_le _⟩ rfl rfl (Nat.le_of_ble_eq_true rfl) 0 rfl vc1 rfl rfl rfl rfl (by decide) ?_
      refine sw_if_ne 30 37 G dX1_isTooEarly_30 rfl hf (fun hf => ?_) (fun hf => ?_)
      · refine sw_iconst 37 G (0 : Int32) dX1_isTooEarly_37 rfl ?_
        cases hf
        exact sw_lv _ [0, 1, 2, 3] rfl hx38
      · refine sw_iconst 33 G (1 : Int32) dX1_isTooEarly_33 rfl ?_
        refine sw_goto 34 G 38 dX1_isTooEarly_34 rfl ?_
        cases hf
        exact sw_lv _ [0, 1, 2, 3] rfl hx38
abbrev rmX1_faultOfPlan : Room := { frames := 4, cells := 0, slots := 0, locals := 108 }
theorem hvX1_faultOfPlan : yX1_faultOfPlan.cls = RX1 ∧ yX1_faultOfPlan.cls ≠ "java/lang/invoke/MethodHandle" ∧ yX1_faultOfPlan.cls ≠ "java/lang/invoke/VarHandle" ∧ (parseMethodDescriptor yX1_faultOfPlan.desc).map (fun d => d.parameters.length) = some 0 := by decide +kernel
set_option maxRecDepth 100000 in
set_option maxHeartbeats 4000000 in
theorem kX1_faultOfPlan (Θ : Tht) (F : Nat) (d0 d1 d2 d3 : Nat) (d_columns : Int32) (d_rows : Int32) (d_carrier : Int32) (d_partMarks : Int64) (d_linkMarks : Int64) (d_operations : Int32) (d_pilots : Int32) (d_settings : Nat → Int32) (d_facts : Nat → Int32) (d_cells : Nat → Int64) (ro : Int32) (hf : fX1_faultOfPlan F d_columns d_rows d_operations d_settings d_facts d_cells = some ro) : Fn Θ yX1_faultOfPlan (Cond.code yX1_faultOfPlan cX1_faultOfPlan 2 (some .int) :: GW) rmX1_faultOfPlan [.ref d0] (wX1 Θ d0 d1 d2 d3 d_columns d_rows d_carrier d_partMarks d_linkMarks d_operations d_pilots d_settings d_facts d_cells) (some (.int ro)) (wX1 Θ d0 d1 d2 d3 d_columns d_rows d_carrier d_partMarks d_linkMarks d_operations d_pilots d_settings d_facts d_cells) := by
  delta fX1_faultOfPlan at hf
  refine Fn.of (by decide +kernel) rfl (Nat.le_of_ble_eq_true rfl) (fun p e s m args below meth c A Q G K => ?_)
  show sw Θ p e rmX1_faultOfPlan s m args below meth c A Q 2 0 0 0 [(0, .ref d0)] [] (wX1 Θ d0 d1 d2 d3 d_columns d_rows d_carrier d_partMarks d_linkMarks d_operations d_pilots d_settings d_facts d_cells)
  refine sw_aload_n 0 G dX1_faultOfPlan_0 0 rfl ?_
  refine sw_iconst 1 G (-1 : Int32) dX1_faultOfPlan_1 rfl ?_
  obtain ⟨r1, hg, hf⟩ := bd1_some hf
  refine sw_callV 2 G (wX1 Θ d0 d1 d2 d3 d_columns d_rows d_carrier d_partMarks d_linkMarks d_operations d_pilots d_settings d_facts d_cells) [0, 1, 2, 3] [] [0, 1, 2, 3] 1 dX1_faultOfPlan_2 (kX1_operationsAt Θ F d0 d1 d2 d3 d_columns d_rows d_carrier d_partMarks d_linkMarks d_operations d_pilots d_settings d_facts d_cells (-1 : Int32) r1 hg) (gwV lk_1f300ea4 lk_755282a1 lk_63c36857 lk_cf66e99d lk_02bf5acd) rfl hvX1_operationsAt ⟨rfl, rfl⟩ ⟨Nat.le_of_ble_eq_true rfl, Nat.le_of_ble_eq_true rfl⟩ ⟨Nat.zero_le _, Nat.zero_le _⟩ rfl rfl (Nat.le_of_ble_eq_true rfl) 0 rfl vc1 rfl rfl rfl rfl (by decide) ?_
  refine sw_if_eq 5 10 G dX1_faultOfPlan_5 rfl hf (fun hf => ?_) (fun hf => ?_)
  · refine sw_iconst 10 G (0 : Int32) dX1_faultOfPlan_10 rfl ?_
    refine sw_istore_n 11 G [(1, .int (0 : Int32)), (0, .ref d0)] dX1_faultOfPlan_11 (by decide) rfl ?_
    obtain ⟨w12, hl, hf0, hf1⟩ := bdS2_some hf
    have hx12_31 : w12 = .inl () → sw Θ p e rmX1_faultOfPlan s m args below meth c A Q 2 0 0 31 [] [] (wX1 Θ d0 d1 d2 d3 d_columns d_rows d_carrier d_partMarks d_linkMarks d_operations d_pilots d_settings d_facts d_cells) := by
      intro  hw
      have hf := uc0_some (hf0 _ hw)
      refine sw_iconst 31 G (2 : Int32) dX1_faultOfPlan_31 rfl ?_
      cases hf
      exact sw_iret 32 G dX1_faultOfPlan_32 K
    have hx12_39 : w12 = .inr (()) → sw Θ p e rmX1_faultOfPlan s m args below meth c A Q 2 0 0 39 [(0, .ref d0)] [] (wX1 Θ d0 d1 d2 d3 d_columns d_rows d_carrier d_partMarks d_linkMarks d_operations d_pilots d_settings d_facts d_cells) := by
      intro  hw
      have hf := uc0_some (hf1 _ hw)
      refine sw_iconst 39 G (0 : Int32) dX1_faultOfPlan_39 rfl ?_
      refine sw_istore_n 40 G [(1, .int (0 : Int32)), (0, .ref d0)] dX1_faultOfPlan_40 (by decide) rfl ?_
      obtain ⟨w41, hl, hf0, hf1⟩ := bdS2_some hf
      have hx41_69 : w41 = .inl () → sw Θ p e rmX1_faultOfPlan s m args below meth c A Q 2 0 0 69 [] [] (wX1 Θ d0 d1 d2 d3 d_columns d_rows d_carrier d_partMarks d_linkMarks d_operations d_pilots d_settings d_facts d_cells) := by
        intro  hw
        have hf := uc0_some (hf0 _ hw)
        refine sw_iconst 69 G (3 : Int32) dX1_faultOfPlan_69 rfl ?_
        cases hf
        exact sw_iret 70 G dX1_faultOfPlan_70 K
      have hx41_77 : w41 = .inr (()) → sw Θ p e rmX1_faultOfPlan s m args below meth c A Q 2 0 0 77 [(0, .ref d0)] [] (wX1 Θ d0 d1 d2 d3 d_columns d_rows d_carrier d_partMarks d_linkMarks d_operations d_pilots d_settings d_facts d_cells) := by
        intro  hw
        have hf := uc0_some (hf1 _ hw)
        refine sw_iconst 77 G (0 : Int32) dX1_faultOfPlan_77 rfl ?_
        refine sw_istore_n 78 G [(1, .int (0 : Int32)), (0, .ref d0)] dX1_faultOfPlan_78 (by decide) rfl ?_
        obtain ⟨w79, hl, hf0, hf1⟩ := bdS2_some hf
        have hx79_105 : w79 = .inl () → sw Θ p e rmX1_faultOfPlan s m args below meth c A Q 2 0 0 105 [] [] (wX1 Θ d0 d1 d2 d3 d_columns d_rows d_carrier d_partMarks d_linkMarks d_operations d_pilots d_settings d_facts d_cells) := by
          intro  hw
          have hf := uc0_some (hf0 _ hw)
          refine sw_iconst 105 G (4 : Int32) dX1_faultOfPlan_105 rfl ?_
          cases hf
          exact sw_iret 106 G dX1_faultOfPlan_106 K
        have hx79_113 : w79 = .inr (()) → sw Θ p e rmX1_faultOfPlan s m args below meth c A Q 2 0 0 113 [] [] (wX1 Θ d0 d1 d2 d3 d_columns d_rows d_carrier d_partMarks d_linkMarks d_operations d_pilots d_settings d_facts d_cells) := by
          intro  hw
          have hf := uc0_some (hf1 _ hw)
          refine sw_iconst 113 G (0 : Int32) dX1_faultOfPlan_113 rfl ?_
          cases hf
          exact sw_iret 114 G dX1_faultOfPlan_114 K
        refine sw_lv [(0, .ref d0), (1, .int (0 : Int32))] [1, 0] rfl ?_
        refine lp_walk (P := fun (t : Int32) => sw Θ p e rmX1_faultOfPlan s m args below meth c A Q 2 0 0 79 [(0, .ref d0), (1, .int t)] [] (wX1 Θ d0 d1 d2 d3 d_columns d_rows d_carrier d_partMarks d_linkMarks d_operations d_pilots d_settings d_facts d_cells)) hl (fun t79 y79 hf hin79 hex79 => ?_)
        obtain ⟨v2, rfl⟩ : ∃ z, z = t79 := ⟨_, rfl⟩
        show sw Θ p e rmX1_faultOfPlan s m args below meth c A Q 2 0 0 79 [(0, .ref d0), (1, .int v2)] [] (wX1 Θ d0 d1 d2 d3 d_columns d_rows d_carrier d_partMarks d_linkMarks d_operations d_pilots d_settings d_facts d_cells)
        have hf := uc1_some (K := _) hf
        refine sw_iload_n 79 G dX1_faultOfPlan_79 1 rfl ?_
        refine sw_aload_n 80 G dX1_faultOfPlan_80 0 rfl ?_
        refine sw_get 81 G hnX1 0 5 dX1_faultOfPlan_81 vc1 (by decide) (List.mem_cons_of_mem _ lk_bded192f) rfl rfl ?_
        refine sw_icmp_ge 84 113 G dX1_faultOfPlan_84 rfl hf (fun hf => ?_) (fun hf => ?_)
        · cases hf
          exact sw_lv _ [] rfl (hx79_113  (hex79 _ rfl).symm)
        · refine sw_aload_n 87 G dX1_faultOfPlan_87 0 rfl ?_
          refine sw_iload_n 88 G dX1_faultOfPlan_88 1 rfl ?_
          refine sw_iconst 89 G (0 : Int32) dX1_faultOfPlan_89 rfl ?_
          obtain ⟨r3, hg, hf⟩ := bd1_some hf
          refine sw_callV 90 G (wX1 Θ d0 d1 d2 d3 d_columns d_rows d_carrier d_partMarks d_linkMarks d_operations d_pilots d_settings d_facts d_cells) [0, 1, 2, 3] [] [0, 1, 2, 3] 2 dX1_faultOfPlan_90 (kX1_fact Θ d0 d1 d2 d3 d_columns d_rows d_carrier d_partMarks d_linkMarks d_operations d_pilots d_settings d_facts d_cells v2 (0 : Int32) r3 hg) (gwV lk_a9b0b2ed lk_e025dfb3 lk_773339a1 lk_cf66e99d lk_334ef9fb) rfl hvX1_fact ⟨rfl, rfl⟩ ⟨Nat.le_of_ble_eq_true rfl, Nat.le_of_ble_eq_true rfl⟩ ⟨Nat.zero_le _, Nat.zero_le _⟩ rfl rfl (Nat.le_of_ble_eq_true rfl) 0 rfl vc1 rfl rfl rfl rfl (by decide) ?_
          refine sw_iconst 93 G (1 : Int32) dX1_faultOfPlan_93 rfl ?_
          refine sw_icmp_ne 94 107 G dX1_faultOfPlan_94 rfl hf (fun hf => ?_) (fun hf => ?_)
          · refine sw_iinc 107 G (v2 + (1 : Int32)) [(1, .int (v2 + (1 : Int32))), (0, .ref d0)] dX1_faultOfPlan_107 1 rfl rfl (by decide) rfl ?_
            refine sw_goto 110 G 79 dX1_faultOfPlan_110 rfl ?_
            cases hf
            have hb := hin79 _ rfl
            exact sw_lv _ [1, 0] (by rfl) hb
          · refine sw_aload_n 97 G dX1_faultOfPlan_97 0 rfl ?_
            refine sw_iload_n 98 G dX1_faultOfPlan_98 1 rfl ?_
            obtain ⟨r4, hg, hf⟩ := bd1_some hf
            refine sw_callV 99 G (wX1 Θ d0 d1 d2 d3 d_columns d_rows d_carrier d_partMarks d_linkMarks d_operations d_pilots d_settings d_facts d_cells) [0, 1, 2, 3] [] [0, 1, 2, 3] 1 dX1_faultOfPlan_99 (kX1_isTooEarly Θ F d0 d1 d2 d3 d_columns d_rows d_carrier d_partMarks d_linkMarks d_operations d_pilots d_settings d_facts d_cells v2 r4 hg) (gwV lk_35b095f6 lk_87820e90 lk_a680ffb8 lk_cf66e99d lk_e58679f8) rfl hvX1_isTooEarly ⟨rfl, rfl⟩ ⟨Nat.le_of_ble_eq_true rfl, Nat.le_of_ble_eq_true rfl⟩ ⟨Nat.zero_le _, Nat.zero_le _⟩ rfl rfl (Nat.le_of_ble_eq_true rfl) 0 rfl vc1 rfl rfl rfl rfl (by decide) ?_
            refine sw_if_eq 102 107 G dX1_faultOfPlan_102 rfl hf (fun hf => ?_) (fun hf => ?_)
            · refine sw_iinc 107 G (v2 + (1 : Int32)) [(1, .int (v2 + (1 : Int32))), (0, .ref d0)] dX1_faultOfPlan_107 1 rfl rfl (by decide) rfl ?_
              refine sw_goto 110 G 79 dX1_faultOfPlan_110 rfl ?_
              cases hf
              have hb := hin79 _ rfl
              exact sw_lv _ [1, 0] (by rfl) hb
            · cases hf
              exact sw_lv _ [] rfl (hx79_105  (hex79 _ rfl).symm)
      refine sw_lv [(0, .ref d0), (1, .int (0 : Int32))] [1, 0] rfl ?_
      refine lp_walk (P := fun (t : Int32) => sw Θ p e rmX1_faultOfPlan s m args below meth c A Q 2 0 0 41 [(0, .ref d0), (1, .int t)] [] (wX1 Θ d0 d1 d2 d3 d_columns d_rows d_carrier d_partMarks d_linkMarks d_operations d_pilots d_settings d_facts d_cells)) hl (fun t41 y41 hf hin41 hex41 => ?_)
      obtain ⟨v5, rfl⟩ : ∃ z, z = t41 := ⟨_, rfl⟩
      show sw Θ p e rmX1_faultOfPlan s m args below meth c A Q 2 0 0 41 [(0, .ref d0), (1, .int v5)] [] (wX1 Θ d0 d1 d2 d3 d_columns d_rows d_carrier d_partMarks d_linkMarks d_operations d_pilots d_settings d_facts d_cells)
      have hf := uc1_some (K := _) hf
      refine sw_iload_n 41 G dX1_faultOfPlan_41 1 rfl ?_
      refine sw_aload_n 42 G dX1_faultOfPlan_42 0 rfl ?_
      refine sw_get 43 G hnX1 0 5 dX1_faultOfPlan_43 vc1 (by decide) (List.mem_cons_of_mem _ lk_bded192f) rfl rfl ?_
      refine sw_icmp_ge 46 77 G dX1_faultOfPlan_46 rfl hf (fun hf => ?_) (fun hf => ?_)
      · cases hf
        exact sw_lv _ [0] rfl (hx41_77  (hex41 _ rfl).symm)
      · refine sw_aload_n 49 G dX1_faultOfPlan_49 0 rfl ?_
        refine sw_iload_n 50 G dX1_faultOfPlan_50 1 rfl ?_
        obtain ⟨r6, hg, hf⟩ := bd1_some hf
        refine sw_callV 51 G (wX1 Θ d0 d1 d2 d3 d_columns d_rows d_carrier d_partMarks d_linkMarks d_operations d_pilots d_settings d_facts d_cells) [0, 1, 2, 3] [] [0, 1, 2, 3] 1 dX1_faultOfPlan_51 (kX1_touching Θ F d0 d1 d2 d3 d_columns d_rows d_carrier d_partMarks d_linkMarks d_operations d_pilots d_settings d_facts d_cells v5 r6 hg) (gwV lk_54b2452c lk_fbf09312 lk_32ac6146 lk_cf66e99d lk_4d7935db) rfl hvX1_touching ⟨rfl, rfl⟩ ⟨Nat.le_of_ble_eq_true rfl, Nat.le_of_ble_eq_true rfl⟩ ⟨Nat.zero_le _, Nat.zero_le _⟩ rfl rfl (Nat.le_of_ble_eq_true rfl) 0 rfl vc1 rfl rfl rfl rfl (by decide) ?_
        refine sw_aload_n 54 G dX1_faultOfPlan_54 0 rfl ?_
        refine sw_aload_n 55 G dX1_faultOfPlan_55 0 rfl ?_
        refine sw_iload_n 56 G dX1_faultOfPlan_56 1 rfl ?_
        refine sw_bipush 57 G (6 : Int32) dX1_faultOfPlan_57 rfl ?_
        obtain ⟨r7, hg, hf⟩ := bd1_some hf
        refine sw_callV 59 G (wX1 Θ d0 d1 d2 d3 d_columns d_rows d_carrier d_partMarks d_linkMarks d_operations d_pilots d_settings d_facts d_cells) [0, 1, 2, 3] [] [0, 1, 2, 3] 2 dX1_faultOfPlan_59 (kX1_fact Θ d0 d1 d2 d3 d_columns d_rows d_carrier d_partMarks d_linkMarks d_operations d_pilots d_settings d_facts d_cells v5 (6 : Int32) r7 hg) (gwV lk_a9b0b2ed lk_e025dfb3 lk_773339a1 lk_cf66e99d lk_334ef9fb) rfl hvX1_fact ⟨rfl, rfl⟩ ⟨Nat.le_of_ble_eq_true rfl, Nat.le_of_ble_eq_true rfl⟩ ⟨Nat.zero_le _, Nat.zero_le _⟩ rfl rfl (Nat.le_of_ble_eq_true rfl) 0 rfl vc1 rfl rfl rfl rfl (by decide) ?_
        obtain ⟨r8, hg, hf⟩ := bd1_some hf
        refine sw_callV 62 G (wX1 Θ d0 d1 d2 d3 d_columns d_rows d_carrier d_partMarks d_linkMarks d_operations d_pilots d_settings d_facts d_cells) [0, 1, 2, 3] [] [0, 1, 2, 3] 1 dX1_faultOfPlan_62 (kX1_operationsAt Θ F d0 d1 d2 d3 d_columns d_rows d_carrier d_partMarks d_linkMarks d_operations d_pilots d_settings d_facts d_cells r7 r8 hg) (gwV lk_1f300ea4 lk_755282a1 lk_63c36857 lk_cf66e99d lk_02bf5acd) rfl hvX1_operationsAt ⟨rfl, rfl⟩ ⟨Nat.le_of_ble_eq_true rfl, Nat.le_of_ble_eq_true rfl⟩ ⟨Nat.zero_le _, Nat.zero_le _⟩ rfl rfl (Nat.le_of_ble_eq_true rfl) 0 rfl vc1 rfl rfl rfl rfl (by decide) ?_
        refine sw_iand 65 G dX1_faultOfPlan_65 ?_
        refine sw_if_eq 66 71 G dX1_faultOfPlan_66 rfl hf (fun hf => ?_) (fun hf => ?_)
        · refine sw_iinc 71 G (v5 + (1 : Int32)) [(1, .int (v5 + (1 : Int32))), (0, .ref d0)] dX1_faultOfPlan_71 1 rfl rfl (by decide) rfl ?_
          refine sw_goto 74 G 41 dX1_faultOfPlan_74 rfl ?_
          cases hf
          have hb := hin41 _ rfl
          exact sw_lv _ [1, 0] (by rfl) hb
        · cases hf
          exact sw_lv _ [] rfl (hx41_69  (hex41 _ rfl).symm)
    refine sw_lv [(0, .ref d0), (1, .int (0 : Int32))] [1, 0] rfl ?_
    refine lp_walk (P := fun (t : Int32) => sw Θ p e rmX1_faultOfPlan s m args below meth c A Q 2 0 0 12 [(0, .ref d0), (1, .int t)] [] (wX1 Θ d0 d1 d2 d3 d_columns d_rows d_carrier d_partMarks d_linkMarks d_operations d_pilots d_settings d_facts d_cells)) hl (fun t12 y12 hf hin12 hex12 => ?_)
    obtain ⟨v9, rfl⟩ : ∃ z, z = t12 := ⟨_, rfl⟩
    show sw Θ p e rmX1_faultOfPlan s m args below meth c A Q 2 0 0 12 [(0, .ref d0), (1, .int v9)] [] (wX1 Θ d0 d1 d2 d3 d_columns d_rows d_carrier d_partMarks d_linkMarks d_operations d_pilots d_settings d_facts d_cells)
    have hf := uc1_some (K := _) hf
    refine sw_iload_n 12 G dX1_faultOfPlan_12 1 rfl ?_
    refine sw_bipush 13 G (8 : Int32) dX1_faultOfPlan_13 rfl ?_
    refine sw_icmp_ge 15 39 G dX1_faultOfPlan_15 rfl hf (fun hf => ?_) (fun hf => ?_)
    · cases hf
      exact sw_lv _ [0] rfl (hx12_39  (hex12 _ rfl).symm)
    · refine sw_aload_n 18 G dX1_faultOfPlan_18 0 rfl ?_
      refine sw_iload_n 19 G dX1_faultOfPlan_19 1 rfl ?_
      obtain ⟨r10, hg, hf⟩ := bd1_some hf
      refine sw_callV 20 G (wX1 Θ d0 d1 d2 d3 d_columns d_rows d_carrier d_partMarks d_linkMarks d_operations d_pilots d_settings d_facts d_cells) [0, 1, 2, 3] [] [0, 1, 2, 3] 1 dX1_faultOfPlan_20 (kX1_forceAt Θ F d0 d1 d2 d3 d_columns d_rows d_carrier d_partMarks d_linkMarks d_operations d_pilots d_settings d_facts d_cells v9 r10 hg) (gwV lk_cff7b005 lk_9a0099b1 lk_44a81cc4 lk_cf66e99d lk_54499c2d) rfl hvX1_forceAt ⟨rfl, rfl⟩ ⟨Nat.le_of_ble_eq_true rfl, Nat.le_of_ble_eq_true rfl⟩ ⟨Nat.zero_le _, Nat.zero_le _⟩ rfl rfl (Nat.le_of_ble_eq_true rfl) 0 rfl vc1 rfl rfl rfl rfl (by decide) ?_
      refine sw_aload_n 23 G dX1_faultOfPlan_23 0 rfl ?_
      refine sw_iconst 24 G (0 : Int32) dX1_faultOfPlan_24 rfl ?_
      obtain ⟨r11, hg, hf⟩ := bd1_some hf
      refine sw_callV 25 G (wX1 Θ d0 d1 d2 d3 d_columns d_rows d_carrier d_partMarks d_linkMarks d_operations d_pilots d_settings d_facts d_cells) [0, 1, 2, 3] [] [0, 1, 2, 3] 1 dX1_faultOfPlan_25 (kX1_setting Θ d0 d1 d2 d3 d_columns d_rows d_carrier d_partMarks d_linkMarks d_operations d_pilots d_settings d_facts d_cells (0 : Int32) r11 hg) (gwV lk_837406b3 lk_6c5b2bed lk_42f14101 lk_cf66e99d lk_45fed558) rfl hvX1_setting ⟨rfl, rfl⟩ ⟨Nat.le_of_ble_eq_true rfl, Nat.le_of_ble_eq_true rfl⟩ ⟨Nat.zero_le _, Nat.zero_le _⟩ rfl rfl (Nat.le_of_ble_eq_true rfl) 0 rfl vc1 rfl rfl rfl rfl (by decide) ?_
      refine sw_icmp_le 28 33 G dX1_faultOfPlan_28 rfl hf (fun hf => ?_) (fun hf => ?_)
      · refine sw_iinc 33 G (v9 + (1 : Int32)) [(1, .int (v9 + (1 : Int32))), (0, .ref d0)] dX1_faultOfPlan_33 1 rfl rfl (by decide) rfl ?_
        refine sw_goto 36 G 12 dX1_faultOfPlan_36 rfl ?_
        cases hf
        have hb := hin12 _ rfl
        exact sw_lv _ [1, 0] (by rfl) hb
      · cases hf
        exact sw_lv _ [] rfl (hx12_31  (hex12 _ rfl).symm)
  · refine sw_iconst 8 G (1 : Int32) dX1_faultOfPlan_8 rfl ?_
    cases hf
    exact sw_iret 9 G dX1_faultOfPlan_9 K
