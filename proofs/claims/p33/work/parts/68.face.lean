abbrev rmX5_cellSet : Room := { frames := 3, cells := 0, slots := 0, locals := 86 }
theorem hvX5_cellSet : yX5_cellSet.cls = RX5 ∧ yX5_cellSet.cls ≠ "java/lang/invoke/MethodHandle" ∧ yX5_cellSet.cls ≠ "java/lang/invoke/VarHandle" ∧ (parseMethodDescriptor yX5_cellSet.desc).map (fun d => d.parameters.length) = some 1 := by decide +kernel
set_option maxRecDepth 100000 in
set_option maxHeartbeats 4000000 in
theorem kX5_cellSet (Θ : Tht) (F : Nat) (x0 n0 d0 d1 d2 d3 v0 t0 l0 c0 p0 : Nat) (x_oldestSaved : Int32) (x_savedStates : Int32) (d_columns : Int32) (d_rows : Int32) (d_carrier : Int32) (d_partMarks : Int64) (d_linkMarks : Int64) (d_operations : Int32) (d_pilots : Int32) (d_settings : Nat → Int32) (d_facts : Nat → Int32) (d_cells : Nat → Int64) (a0 : Int32) (ro : Int64) (hf : fX5_cellSet F d_columns d_rows d_carrier d_partMarks d_linkMarks d_operations d_facts d_cells a0 = some ro) : Fn Θ yX5_cellSet (Cond.code yX5_cellSet cX5_cellSet 2 (some .long) :: GW) rmX5_cellSet [.ref x0, .int a0] ([(x0, .inr (5, [.ref n0, .ref v0, .int x_oldestSaved, .int x_savedStates, .ref t0, .ref l0, .ref c0]))] ++ [(n0, .inr (4, [.ref d0, .ref p0]))] ++ wX1 Θ d0 d1 d2 d3 d_columns d_rows d_carrier d_partMarks d_linkMarks d_operations d_pilots d_settings d_facts d_cells) (some (.long ro)) ([(x0, .inr (5, [.ref n0, .ref v0, .int x_oldestSaved, .int x_savedStates, .ref t0, .ref l0, .ref c0]))] ++ [(n0, .inr (4, [.ref d0, .ref p0]))] ++ wX1 Θ d0 d1 d2 d3 d_columns d_rows d_carrier d_partMarks d_linkMarks d_operations d_pilots d_settings d_facts d_cells) := by
  delta fX5_cellSet at hf
  refine Fn.of (by decide +kernel) rfl (Nat.le_of_ble_eq_true rfl) (fun p e s m args below meth c A Q G K => ?_)
  show sw Θ p e rmX5_cellSet s m args below meth c A Q 2 0 0 0 [(0, .ref x0), (1, .int a0)] [] ([(x0, .inr (5, [.ref n0, .ref v0, .int x_oldestSaved, .int x_savedStates, .ref t0, .ref l0, .ref c0]))] ++ [(n0, .inr (4, [.ref d0, .ref p0]))] ++ wX1 Θ d0 d1 d2 d3 d_columns d_rows d_carrier d_partMarks d_linkMarks d_operations d_pilots d_settings d_facts d_cells)
  refine sw_iload_n 0 G dX5_cellSet_0 1 rfl ?_
  refine sw_tsw 1 107 G dX5_cellSet_1 rfl hf (fun hf => ?_) (fun j hj hf => ?_)
  · cases hf
  · rcases (show j = 0 ∨ j = 1 ∨ j = 2 ∨ j = 3 ∨ j = 4 ∨ j = 5 by omega) with rfl | rfl | rfl | rfl | rfl | rfl
    · refine ⟨39, 40, rfl, rfl, ?_⟩
      have hf := tc_0 hf
      refine sw_aload_n 40 G dX5_cellSet_40 0 rfl ?_
      refine sw_get 41 G hnX5 0 0 dX5_cellSet_41 vc5 (by decide) (List.mem_cons_of_mem _ lk_c6576e33) rfl rfl ?_
      refine sw_get 44 G hnX4 1 0 dX5_cellSet_44 vc4 (by decide) (List.mem_cons_of_mem _ lk_b490f9e6) rfl rfl ?_
      obtain ⟨r1, hg, hf⟩ := bd1_some hf
      refine sw_callV 47 G ([(x0, .inr (5, [.ref n0, .ref v0, .int x_oldestSaved, .int x_savedStates, .ref t0, .ref l0, .ref c0]))] ++ [(n0, .inr (4, [.ref d0, .ref p0]))] ++ wX1 Θ d0 d1 d2 d3 d_columns d_rows d_carrier d_partMarks d_linkMarks d_operations d_pilots d_settings d_facts d_cells) [2, 3, 4, 5] [0, 1] [0, 1, 2, 3, 4, 5] 0 dX5_cellSet_47 (kX1_partCells Θ d0 d1 d2 d3 d_columns d_rows d_carrier d_partMarks d_linkMarks d_operations d_pilots d_settings d_facts d_cells r1 hg) (gwV lk_489fbd0f lk_c137cc36 lk_24905df5 lk_cf66e99d lk_e39ae260) rfl hvX1_partCells ⟨rfl, rfl⟩ ⟨Nat.le_of_ble_eq_true rfl, Nat.le_of_ble_eq_true rfl⟩ ⟨Nat.zero_le _, Nat.zero_le _⟩ rfl rfl (Nat.le_of_ble_eq_true rfl) 0 rfl vc1 rfl rfl rfl rfl (by decide) ?_
      cases hf
      exact sw_lret 50 G dX5_cellSet_50 K
    · refine ⟨50, 51, rfl, rfl, ?_⟩
      have hf := tc_1 hf
      refine sw_aload_n 51 G dX5_cellSet_51 0 rfl ?_
      refine sw_get 52 G hnX5 0 0 dX5_cellSet_52 vc5 (by decide) (List.mem_cons_of_mem _ lk_c6576e33) rfl rfl ?_
      refine sw_get 55 G hnX4 1 0 dX5_cellSet_55 vc4 (by decide) (List.mem_cons_of_mem _ lk_b490f9e6) rfl rfl ?_
      obtain ⟨r2, hg, hf⟩ := bd1_some hf
      refine sw_callV 58 G ([(x0, .inr (5, [.ref n0, .ref v0, .int x_oldestSaved, .int x_savedStates, .ref t0, .ref l0, .ref c0]))] ++ [(n0, .inr (4, [.ref d0, .ref p0]))] ++ wX1 Θ d0 d1 d2 d3 d_columns d_rows d_carrier d_partMarks d_linkMarks d_operations d_pilots d_settings d_facts d_cells) [2, 3, 4, 5] [0, 1] [0, 1, 2, 3, 4, 5] 0 dX5_cellSet_58 (kX1_linkCells Θ d0 d1 d2 d3 d_columns d_rows d_carrier d_partMarks d_linkMarks d_operations d_pilots d_settings d_facts d_cells r2 hg) (gwV lk_465a6537 lk_7f41af12 lk_aa25bded lk_cf66e99d lk_d7dcb1b0) rfl hvX1_linkCells ⟨rfl, rfl⟩ ⟨Nat.le_of_ble_eq_true rfl, Nat.le_of_ble_eq_true rfl⟩ ⟨Nat.zero_le _, Nat.zero_le _⟩ rfl rfl (Nat.le_of_ble_eq_true rfl) 0 rfl vc1 rfl rfl rfl rfl (by decide) ?_
      cases hf
      exact sw_lret 61 G dX5_cellSet_61 K
    · refine ⟨61, 62, rfl, rfl, ?_⟩
      have hf := tc_2 hf
      refine sw_aload_n 62 G dX5_cellSet_62 0 rfl ?_
      refine sw_get 63 G hnX5 0 0 dX5_cellSet_63 vc5 (by decide) (List.mem_cons_of_mem _ lk_c6576e33) rfl rfl ?_
      refine sw_get 66 G hnX4 1 0 dX5_cellSet_66 vc4 (by decide) (List.mem_cons_of_mem _ lk_b490f9e6) rfl rfl ?_
      obtain ⟨r3, hg, hf⟩ := bd1_some hf
      refine sw_callV 69 G ([(x0, .inr (5, [.ref n0, .ref v0, .int x_oldestSaved, .int x_savedStates, .ref t0, .ref l0, .ref c0]))] ++ [(n0, .inr (4, [.ref d0, .ref p0]))] ++ wX1 Θ d0 d1 d2 d3 d_columns d_rows d_carrier d_partMarks d_linkMarks d_operations d_pilots d_settings d_facts d_cells) [2, 3, 4, 5] [0, 1] [0, 1, 2, 3, 4, 5] 0 dX5_cellSet_69 (kX1_carrierCells Θ d0 d1 d2 d3 d_columns d_rows d_carrier d_partMarks d_linkMarks d_operations d_pilots d_settings d_facts d_cells r3 hg) (gwV lk_3c7e3d62 lk_447df895 lk_ce1f32b3 lk_cf66e99d lk_03889728) rfl hvX1_carrierCells ⟨rfl, rfl⟩ ⟨Nat.le_of_ble_eq_true rfl, Nat.le_of_ble_eq_true rfl⟩ ⟨Nat.zero_le _, Nat.zero_le _⟩ rfl rfl (Nat.le_of_ble_eq_true rfl) 0 rfl vc1 rfl rfl rfl rfl (by decide) ?_
      cases hf
      exact sw_lret 72 G dX5_cellSet_72 K
    · refine ⟨72, 73, rfl, rfl, ?_⟩
      have hf := tc_3 hf
      refine sw_aload_n 73 G dX5_cellSet_73 0 rfl ?_
      refine sw_get 74 G hnX5 0 0 dX5_cellSet_74 vc5 (by decide) (List.mem_cons_of_mem _ lk_c6576e33) rfl rfl ?_
      refine sw_get 77 G hnX4 1 0 dX5_cellSet_77 vc4 (by decide) (List.mem_cons_of_mem _ lk_b490f9e6) rfl rfl ?_
      refine sw_iconst 80 G (0 : Int32) dX5_cellSet_80 rfl ?_
      obtain ⟨r4, hg, hf⟩ := bd1_some hf
      refine sw_callV 81 G ([(x0, .inr (5, [.ref n0, .ref v0, .int x_oldestSaved, .int x_savedStates, .ref t0, .ref l0, .ref c0]))] ++ [(n0, .inr (4, [.ref d0, .ref p0]))] ++ wX1 Θ d0 d1 d2 d3 d_columns d_rows d_carrier d_partMarks d_linkMarks d_operations d_pilots d_settings d_facts d_cells) [2, 3, 4, 5] [0, 1] [0, 1, 2, 3, 4, 5] 1 dX5_cellSet_81 (kX1_cellsOfKind Θ F d0 d1 d2 d3 d_columns d_rows d_carrier d_partMarks d_linkMarks d_operations d_pilots d_settings d_facts d_cells (0 : Int32) r4 hg) (gwV lk_253e5515 lk_0f6337fc lk_1dbc5789 lk_cf66e99d lk_9bdedb27) rfl hvX1_cellsOfKind ⟨rfl, rfl⟩ ⟨Nat.le_of_ble_eq_true rfl, Nat.le_of_ble_eq_true rfl⟩ ⟨Nat.zero_le _, Nat.zero_le _⟩ rfl rfl (Nat.le_of_ble_eq_true rfl) 0 rfl vc1 rfl rfl rfl rfl (by decide) ?_
      cases hf
      exact sw_lret 84 G dX5_cellSet_84 K
    · refine ⟨84, 85, rfl, rfl, ?_⟩
      have hf := tc_4 hf
      refine sw_aload_n 85 G dX5_cellSet_85 0 rfl ?_
      refine sw_get 86 G hnX5 0 0 dX5_cellSet_86 vc5 (by decide) (List.mem_cons_of_mem _ lk_c6576e33) rfl rfl ?_
      refine sw_get 89 G hnX4 1 0 dX5_cellSet_89 vc4 (by decide) (List.mem_cons_of_mem _ lk_b490f9e6) rfl rfl ?_
      obtain ⟨r5, hg, hf⟩ := bd1_some hf
      refine sw_callV 92 G ([(x0, .inr (5, [.ref n0, .ref v0, .int x_oldestSaved, .int x_savedStates, .ref t0, .ref l0, .ref c0]))] ++ [(n0, .inr (4, [.ref d0, .ref p0]))] ++ wX1 Θ d0 d1 d2 d3 d_columns d_rows d_carrier d_partMarks d_linkMarks d_operations d_pilots d_settings d_facts d_cells) [2, 3, 4, 5] [0, 1] [0, 1, 2, 3, 4, 5] 0 dX5_cellSet_92 (kX1_forgottenCells Θ F d0 d1 d2 d3 d_columns d_rows d_carrier d_partMarks d_linkMarks d_operations d_pilots d_settings d_facts d_cells r5 hg) (gwV lk_9b1e2633 lk_80cb1769 lk_6663014f lk_cf66e99d lk_5ec6c11a) rfl hvX1_forgottenCells ⟨rfl, rfl⟩ ⟨Nat.le_of_ble_eq_true rfl, Nat.le_of_ble_eq_true rfl⟩ ⟨Nat.zero_le _, Nat.zero_le _⟩ rfl rfl (Nat.le_of_ble_eq_true rfl) 0 rfl vc1 rfl rfl rfl rfl (by decide) ?_
      cases hf
      exact sw_lret 95 G dX5_cellSet_95 K
    · refine ⟨95, 96, rfl, rfl, ?_⟩
      have hf := tc_5 hf
      refine sw_aload_n 96 G dX5_cellSet_96 0 rfl ?_
      refine sw_get 97 G hnX5 0 0 dX5_cellSet_97 vc5 (by decide) (List.mem_cons_of_mem _ lk_c6576e33) rfl rfl ?_
      refine sw_get 100 G hnX4 1 0 dX5_cellSet_100 vc4 (by decide) (List.mem_cons_of_mem _ lk_b490f9e6) rfl rfl ?_
      obtain ⟨r6, hg, hf⟩ := bd1_some hf
      refine sw_callV 103 G ([(x0, .inr (5, [.ref n0, .ref v0, .int x_oldestSaved, .int x_savedStates, .ref t0, .ref l0, .ref c0]))] ++ [(n0, .inr (4, [.ref d0, .ref p0]))] ++ wX1 Θ d0 d1 d2 d3 d_columns d_rows d_carrier d_partMarks d_linkMarks d_operations d_pilots d_settings d_facts d_cells) [2, 3, 4, 5] [0, 1] [0, 1, 2, 3, 4, 5] 0 dX5_cellSet_103 (kX1_looseCells Θ F d0 d1 d2 d3 d_columns d_rows d_carrier d_partMarks d_linkMarks d_operations d_pilots d_settings d_facts d_cells r6 hg) (gwV lk_956de946 lk_966126ed lk_5701239d lk_cf66e99d lk_6d4184c7) rfl hvX1_looseCells ⟨rfl, rfl⟩ ⟨Nat.le_of_ble_eq_true rfl, Nat.le_of_ble_eq_true rfl⟩ ⟨Nat.zero_le _, Nat.zero_le _⟩ rfl rfl (Nat.le_of_ble_eq_true rfl) 0 rfl vc1 rfl rfl rfl rfl (by decide) ?_
      cases hf
      exact sw_lret 106 G dX5_cellSet_106 K
abbrev rmX5_operation : Room := { frames := 3, cells := 0, slots := 0, locals := 84 }
theorem hvX5_operation : yX5_operation.cls = RX5 ∧ yX5_operation.cls ≠ "java/lang/invoke/MethodHandle" ∧ yX5_operation.cls ≠ "java/lang/invoke/VarHandle" ∧ (parseMethodDescriptor yX5_operation.desc).map (fun d => d.parameters.length) = some 2 := by decide +kernel
set_option maxRecDepth 100000 in
set_option maxHeartbeats 4000000 in
theorem kX5_operation (Θ : Tht) (F : Nat) (x0 n0 d0 d1 d2 d3 v0 t0 l0 c0 p0 : Nat) (x_oldestSaved : Int32) (x_savedStates : Int32) (d_columns : Int32) (d_rows : Int32) (d_carrier : Int32) (d_partMarks : Int64) (d_linkMarks : Int64) (d_operations : Int32) (d_pilots : Int32) (d_settings : Nat → Int32) (d_facts : Nat → Int32) (d_cells : Nat → Int64) (a0 : Int32) (a1 : Int32) (ro : Int32) (hf : fX5_operation F d_columns d_rows d_operations d_facts d_cells a0 a1 = some ro) : Fn Θ yX5_operation (Cond.code yX5_operation cX5_operation 3 (some .int) :: GW) rmX5_operation [.ref x0, .int a0, .int a1] ([(x0, .inr (5, [.ref n0, .ref v0, .int x_oldestSaved, .int x_savedStates, .ref t0, .ref l0, .ref c0]))] ++ [(n0, .inr (4, [.ref d0, .ref p0]))] ++ wX1 Θ d0 d1 d2 d3 d_columns d_rows d_carrier d_partMarks d_linkMarks d_operations d_pilots d_settings d_facts d_cells) (some (.int ro)) ([(x0, .inr (5, [.ref n0, .ref v0, .int x_oldestSaved, .int x_savedStates, .ref t0, .ref l0, .ref c0]))] ++ [(n0, .inr (4, [.ref d0, .ref p0]))] ++ wX1 Θ d0 d1 d2 d3 d_columns d_rows d_carrier d_partMarks d_linkMarks d_operations d_pilots d_settings d_facts d_cells) := by
  delta fX5_operation at hf
  refine Fn.of (by decide +kernel) rfl (Nat.le_of_ble_eq_true rfl) (fun p e s m args below meth c A Q G K => ?_)
  show sw Θ p e rmX5_operation s m args below meth c A Q 3 0 0 0 [(0, .ref x0), (1, .int a0), (2, .int a1)] [] ([(x0, .inr (5, [.ref n0, .ref v0, .int x_oldestSaved, .int x_savedStates, .ref t0, .ref l0, .ref c0]))] ++ [(n0, .inr (4, [.ref d0, .ref p0]))] ++ wX1 Θ d0 d1 d2 d3 d_columns d_rows d_carrier d_partMarks d_linkMarks d_operations d_pilots d_settings d_facts d_cells)
  refine sw_aload_n 0 G dX5_operation_0 0 rfl ?_
  refine sw_get 1 G hnX5 0 0 dX5_operation_1 vc5 (by decide) (List.mem_cons_of_mem _ lk_c6576e33) rfl rfl ?_
  refine sw_get 4 G hnX4 1 0 dX5_operation_4 vc4 (by decide) (List.mem_cons_of_mem _ lk_b490f9e6) rfl rfl ?_
  refine sw_iload_n 7 G dX5_operation_7 1 rfl ?_
  obtain ⟨r1, hg, hf⟩ := bd1_some hf
  refine sw_callV 8 G ([(x0, .inr (5, [.ref n0, .ref v0, .int x_oldestSaved, .int x_savedStates, .ref t0, .ref l0, .ref c0]))] ++ [(n0, .inr (4, [.ref d0, .ref p0]))] ++ wX1 Θ d0 d1 d2 d3 d_columns d_rows d_carrier d_partMarks d_linkMarks d_operations d_pilots d_settings d_facts d_cells) [2, 3, 4, 5] [0, 1] [0, 1, 2, 3, 4, 5] 1 dX5_operation_8 (kX1_hasOperation Θ d0 d1 d2 d3 d_columns d_rows d_carrier d_partMarks d_linkMarks d_operations d_pilots d_settings d_facts d_cells a0 r1 hg) (gwV lk_02fe585c lk_bab4024f lk_df64b95a lk_cf66e99d lk_740542d2) rfl hvX1_hasOperation ⟨rfl, rfl⟩ ⟨Nat.le_of_ble_eq_true rfl, Nat.le_of_ble_eq_true rfl⟩ ⟨Nat.zero_le _, Nat.zero_le _⟩ rfl rfl (Nat.le_of_ble_eq_true rfl) 0 rfl vc1 rfl rfl rfl rfl (by decide) ?_
  refine sw_if_ne 11 24 G dX5_operation_11 rfl hf (fun hf => ?_) (fun hf => ?_)
  · refine sw_iload_n 24 G dX5_operation_24 2 rfl ?_
    refine sw_if_lt 25 34 G dX5_operation_25 rfl hf (fun hf => ?_) (fun hf => ?_)
    · cases hf
    · refine sw_iload_n 28 G dX5_operation_28 2 rfl ?_
      refine sw_bipush 29 G (7 : Int32) dX5_operation_29 rfl ?_
      refine sw_icmp_le 31 44 G dX5_operation_31 rfl hf (fun hf => ?_) (fun hf => ?_)
      · refine sw_iload_n 44 G dX5_operation_44 2 rfl ?_
        refine sw_bipush 45 G (7 : Int32) dX5_operation_45 rfl ?_
        refine sw_icmp_ne 47 64 G dX5_operation_47 rfl hf (fun hf => ?_) (fun hf => ?_)
        · refine sw_aload_n 64 G dX5_operation_64 0 rfl ?_
          refine sw_get 65 G hnX5 0 0 dX5_operation_65 vc5 (by decide) (List.mem_cons_of_mem _ lk_c6576e33) rfl rfl ?_
          refine sw_get 68 G hnX4 1 0 dX5_operation_68 vc4 (by decide) (List.mem_cons_of_mem _ lk_b490f9e6) rfl rfl ?_
          refine sw_iload_n 71 G dX5_operation_71 1 rfl ?_
          refine sw_iload_n 72 G dX5_operation_72 2 rfl ?_
          obtain ⟨r2, hg, hf⟩ := bd1_some hf
          refine sw_callV 73 G ([(x0, .inr (5, [.ref n0, .ref v0, .int x_oldestSaved, .int x_savedStates, .ref t0, .ref l0, .ref c0]))] ++ [(n0, .inr (4, [.ref d0, .ref p0]))] ++ wX1 Θ d0 d1 d2 d3 d_columns d_rows d_carrier d_partMarks d_linkMarks d_operations d_pilots d_settings d_facts d_cells) [2, 3, 4, 5] [0, 1] [0, 1, 2, 3, 4, 5] 2 dX5_operation_73 (kX1_fact Θ d0 d1 d2 d3 d_columns d_rows d_carrier d_partMarks d_linkMarks d_operations d_pilots d_settings d_facts d_cells a0 a1 r2 hg) (gwV lk_7da35f5b lk_e025dfb3 lk_773339a1 lk_cf66e99d lk_334ef9fb) rfl hvX1_fact ⟨rfl, rfl⟩ ⟨Nat.le_of_ble_eq_true rfl, Nat.le_of_ble_eq_true rfl⟩ ⟨Nat.zero_le _, Nat.zero_le _⟩ rfl rfl (Nat.le_of_ble_eq_true rfl) 0 rfl vc1 rfl rfl rfl rfl (by decide) ?_
          cases hf
          exact sw_iret 76 G dX5_operation_76 K
        · refine sw_aload_n 50 G dX5_operation_50 0 rfl ?_
          refine sw_get 51 G hnX5 0 0 dX5_operation_51 vc5 (by decide) (List.mem_cons_of_mem _ lk_c6576e33) rfl rfl ?_
          refine sw_get 54 G hnX4 1 0 dX5_operation_54 vc4 (by decide) (List.mem_cons_of_mem _ lk_b490f9e6) rfl rfl ?_
          refine sw_iload_n 57 G dX5_operation_57 1 rfl ?_
          obtain ⟨r3, hg, hf⟩ := bd1_some hf
          refine sw_callV 58 G ([(x0, .inr (5, [.ref n0, .ref v0, .int x_oldestSaved, .int x_savedStates, .ref t0, .ref l0, .ref c0]))] ++ [(n0, .inr (4, [.ref d0, .ref p0]))] ++ wX1 Θ d0 d1 d2 d3 d_columns d_rows d_carrier d_partMarks d_linkMarks d_operations d_pilots d_settings d_facts d_cells) [2, 3, 4, 5] [0, 1] [0, 1, 2, 3, 4, 5] 1 dX5_operation_58 (kX1_touching Θ F d0 d1 d2 d3 d_columns d_rows d_carrier d_partMarks d_linkMarks d_operations d_pilots d_settings d_facts d_cells a0 r3 hg) (gwV lk_3fc5db96 lk_fbf09312 lk_32ac6146 lk_cf66e99d lk_4d7935db) rfl hvX1_touching ⟨rfl, rfl⟩ ⟨Nat.le_of_ble_eq_true rfl, Nat.le_of_ble_eq_true rfl⟩ ⟨Nat.zero_le _, Nat.zero_le _⟩ rfl rfl (Nat.le_of_ble_eq_true rfl) 0 rfl vc1 rfl rfl rfl rfl (by decide) ?_
          refine sw_goto 61 G 76 dX5_operation_61 rfl ?_
          cases hf
          exact sw_iret 76 G dX5_operation_76 K
      · cases hf
  · cases hf
abbrev rmX5_station : Room := { frames := 2, cells := 0, slots := 0, locals := 46 }
theorem hvX5_station : yX5_station.cls = RX5 ∧ yX5_station.cls ≠ "java/lang/invoke/MethodHandle" ∧ yX5_station.cls ≠ "java/lang/invoke/VarHandle" ∧ (parseMethodDescriptor yX5_station.desc).map (fun d => d.parameters.length) = some 2 := by decide +kernel
set_option maxRecDepth 100000 in
set_option maxHeartbeats 4000000 in
theorem kX5_station (Θ : Tht) (F : Nat) (x0 n0 d0 d1 d2 d3 p0 p1 p2 p3 v0 t0 l0 c0 : Nat) (x_oldestSaved : Int32) (x_savedStates : Int32) (d_columns : Int32) (d_rows : Int32) (d_carrier : Int32) (d_partMarks : Int64) (d_linkMarks : Int64) (d_operations : Int32) (d_pilots : Int32) (d_settings : Nat → Int32) (d_facts : Nat → Int32) (d_cells : Nat → Int64) (p_pitches : Int32) (p_spoiled : Int32) (p_cells : Nat → Int64) (p_bends : Nat → Int32) (p_offsets : Nat → Int32) (p_strokes : Int32) (p_goodParts : Int32) (p_badParts : Int32) (p_slugs : Int32) (a0 : Int32) (a1 : Int32) (ro : Int32) (hf : fX5_station F d_operations d_pilots d_facts p_pitches a0 a1 = some ro) : Fn Θ yX5_station (Cond.code yX5_station cX5_station 3 (some .int) :: GW) rmX5_station [.ref x0, .int a0, .int a1] ([(x0, .inr (5, [.ref n0, .ref v0, .int x_oldestSaved, .int x_savedStates, .ref t0, .ref l0, .ref c0]))] ++ [(n0, .inr (4, [.ref d0, .ref p0]))] ++ wX1 Θ d0 d1 d2 d3 d_columns d_rows d_carrier d_partMarks d_linkMarks d_operations d_pilots d_settings d_facts d_cells ++ wX3 Θ p0 p1 p2 p3 p_pitches p_spoiled p_cells p_bends p_offsets p_strokes p_goodParts p_badParts p_slugs) (some (.int ro)) ([(x0, .inr (5, [.ref n0, .ref v0, .int x_oldestSaved, .int x_savedStates, .ref t0, .ref l0, .ref c0]))] ++ [(n0, .inr (4, [.ref d0, .ref p0]))] ++ wX1 Θ d0 d1 d2 d3 d_columns d_rows d_carrier d_partMarks d_linkMarks d_operations d_pilots d_settings d_facts d_cells ++ wX3 Θ p0 p1 p2 p3 p_pitches p_spoiled p_cells p_bends p_offsets p_strokes p_goodParts p_badParts p_slugs) := by
  delta fX5_station at hf
  refine Fn.of (by decide +kernel) rfl (Nat.le_of_ble_eq_true rfl) (fun p e s m args below meth c A Q G K => ?_)
  show sw Θ p e rmX5_station s m args below meth c A Q 3 0 0 0 [(0, .ref x0), (1, .int a0), (2, .int a1)] [] ([(x0, .inr (5, [.ref n0, .ref v0, .int x_oldestSaved, .int x_savedStates, .ref t0, .ref l0, .ref c0]))] ++ [(n0, .inr (4, [.ref d0, .ref p0]))] ++ wX1 Θ d0 d1 d2 d3 d_columns d_rows d_carrier d_partMarks d_linkMarks d_operations d_pilots d_settings d_facts d_cells ++ wX3 Θ p0 p1 p2 p3 p_pitches p_spoiled p_cells p_bends p_offsets p_strokes p_goodParts p_badParts p_slugs)
  refine sw_iload_n 0 G dX5_station_0 1 rfl ?_
  obtain ⟨r1, hg, hf⟩ := bd1_some hf
  refine sw_callS 1 G ([(x0, .inr (5, [.ref n0, .ref v0, .int x_oldestSaved, .int x_savedStates, .ref t0, .ref l0, .ref c0]))] ++ [(n0, .inr (4, [.ref d0, .ref p0]))] ++ wX1 Θ d0 d1 d2 d3 d_columns d_rows d_carrier d_partMarks d_linkMarks d_operations d_pilots d_settings d_facts d_cells ++ wX3 Θ p0 p1 p2 p3 p_pitches p_spoiled p_cells p_bends p_offsets p_strokes p_goodParts p_badParts p_slugs) [] [0, 1, 2, 3, 4, 5, 6, 7, 8, 9] [0, 1, 2, 3, 4, 5, 6, 7, 8, 9] 1 dX5_station_1 (kX5_isStation Θ a0 r1 hg) (gwS lk_e51f5f2c lk_69b39882 lk_01b5d93a lk_08337533) rfl hsX5_isStation ⟨rfl, rfl⟩ ⟨Nat.le_of_ble_eq_true rfl, Nat.le_of_ble_eq_true rfl⟩ ⟨Nat.zero_le _, Nat.zero_le _⟩ rfl rfl (Nat.le_of_ble_eq_true rfl) rfl rfl rfl (by decide) ?_
  refine sw_if_ne 4 17 G dX5_station_4 rfl hf (fun hf => ?_) (fun hf => ?_)
  · refine sw_iload_n 17 G dX5_station_17 2 rfl ?_
    refine sw_tsw 18 112 G dX5_station_18 rfl hf (fun hf => ?_) (fun j hj hf => ?_)
    · cases hf
    · rcases (show j = 0 ∨ j = 1 ∨ j = 2 ∨ j = 3 by omega) with rfl | rfl | rfl | rfl
      · refine ⟨30, 48, rfl, rfl, ?_⟩
        have hf := tc_0 hf
        refine sw_aload_n 48 G dX5_station_48 0 rfl ?_
        refine sw_get 49 G hnX5 0 0 dX5_station_49 vc5 (by decide) (List.mem_cons_of_mem _ lk_c6576e33) rfl rfl ?_
        refine sw_get 52 G hnX4 1 0 dX5_station_52 vc4 (by decide) (List.mem_cons_of_mem _ lk_b490f9e6) rfl rfl ?_
        refine sw_iload_n 55 G dX5_station_55 1 rfl ?_
        obtain ⟨r2, hg, hf⟩ := bd1_some hf
        refine sw_callV 56 G ([(x0, .inr (5, [.ref n0, .ref v0, .int x_oldestSaved, .int x_savedStates, .ref t0, .ref l0, .ref c0]))] ++ [(n0, .inr (4, [.ref d0, .ref p0]))] ++ wX1 Θ d0 d1 d2 d3 d_columns d_rows d_carrier d_partMarks d_linkMarks d_operations d_pilots d_settings d_facts d_cells ++ wX3 Θ p0 p1 p2 p3 p_pitches p_spoiled p_cells p_bends p_offsets p_strokes p_goodParts p_badParts p_slugs) [2, 3, 4, 5] [0, 1, 6, 7, 8, 9] [0, 1, 6, 7, 8, 9, 2, 3, 4, 5] 1 dX5_station_56 (kX1_operationsAt Θ F d0 d1 d2 d3 d_columns d_rows d_carrier d_partMarks d_linkMarks d_operations d_pilots d_settings d_facts d_cells a0 r2 hg) (gwV lk_aece8587 lk_755282a1 lk_63c36857 lk_cf66e99d lk_02bf5acd) rfl hvX1_operationsAt ⟨rfl, rfl⟩ ⟨Nat.le_of_ble_eq_true rfl, Nat.le_of_ble_eq_true rfl⟩ ⟨Nat.zero_le _, Nat.zero_le _⟩ rfl rfl (Nat.le_of_ble_eq_true rfl) 0 rfl vc1 rfl rfl rfl rfl (by decide) ?_
        cases hf
        exact sw_iret 59 G dX5_station_59 K
      · refine ⟨42, 60, rfl, rfl, ?_⟩
        have hf := tc_1 hf
        refine sw_aload_n 60 G dX5_station_60 0 rfl ?_
        refine sw_get 61 G hnX5 0 0 dX5_station_61 vc5 (by decide) (List.mem_cons_of_mem _ lk_c6576e33) rfl rfl ?_
        refine sw_get 64 G hnX4 1 0 dX5_station_64 vc4 (by decide) (List.mem_cons_of_mem _ lk_b490f9e6) rfl rfl ?_
        refine sw_iload_n 67 G dX5_station_67 1 rfl ?_
        obtain ⟨r3, hg, hf⟩ := bd1_some hf
        refine sw_callV 68 G ([(x0, .inr (5, [.ref n0, .ref v0, .int x_oldestSaved, .int x_savedStates, .ref t0, .ref l0, .ref c0]))] ++ [(n0, .inr (4, [.ref d0, .ref p0]))] ++ wX1 Θ d0 d1 d2 d3 d_columns d_rows d_carrier d_partMarks d_linkMarks d_operations d_pilots d_settings d_facts d_cells ++ wX3 Θ p0 p1 p2 p3 p_pitches p_spoiled p_cells p_bends p_offsets p_strokes p_goodParts p_badParts p_slugs) [2, 3, 4, 5] [0, 1, 6, 7, 8, 9] [0, 1, 6, 7, 8, 9, 2, 3, 4, 5] 1 dX5_station_68 (kX1_forceAt Θ F d0 d1 d2 d3 d_columns d_rows d_carrier d_partMarks d_linkMarks d_operations d_pilots d_settings d_facts d_cells a0 r3 hg) (gwV lk_8804cf1a lk_9a0099b1 lk_44a81cc4 lk_cf66e99d lk_54499c2d) rfl hvX1_forceAt ⟨rfl, rfl⟩ ⟨Nat.le_of_ble_eq_true rfl, Nat.le_of_ble_eq_true rfl⟩ ⟨Nat.zero_le _, Nat.zero_le _⟩ rfl rfl (Nat.le_of_ble_eq_true rfl) 0 rfl vc1 rfl rfl rfl rfl (by decide) ?_
        cases hf
        exact sw_iret 71 G dX5_station_71 K
      · refine ⟨54, 72, rfl, rfl, ?_⟩
        have hf := tc_2 hf
        refine sw_aload_n 72 G dX5_station_72 0 rfl ?_
        refine sw_get 73 G hnX5 0 0 dX5_station_73 vc5 (by decide) (List.mem_cons_of_mem _ lk_c6576e33) rfl rfl ?_
        refine sw_get 76 G hnX4 1 0 dX5_station_76 vc4 (by decide) (List.mem_cons_of_mem _ lk_b490f9e6) rfl rfl ?_
        refine sw_iload_n 79 G dX5_station_79 1 rfl ?_
        obtain ⟨r4, hg, hf⟩ := bd1_some hf
        refine sw_callV 80 G ([(x0, .inr (5, [.ref n0, .ref v0, .int x_oldestSaved, .int x_savedStates, .ref t0, .ref l0, .ref c0]))] ++ [(n0, .inr (4, [.ref d0, .ref p0]))] ++ wX1 Θ d0 d1 d2 d3 d_columns d_rows d_carrier d_partMarks d_linkMarks d_operations d_pilots d_settings d_facts d_cells ++ wX3 Θ p0 p1 p2 p3 p_pitches p_spoiled p_cells p_bends p_offsets p_strokes p_goodParts p_badParts p_slugs) [2, 3, 4, 5] [0, 1, 6, 7, 8, 9] [0, 1, 6, 7, 8, 9, 2, 3, 4, 5] 1 dX5_station_80 (kX1_hasPilot Θ d0 d1 d2 d3 d_columns d_rows d_carrier d_partMarks d_linkMarks d_operations d_pilots d_settings d_facts d_cells a0 r4 hg) (gwV lk_98e56b6a lk_6e2a4471 lk_e8fc0f0c lk_cf66e99d lk_e36d835c) rfl hvX1_hasPilot ⟨rfl, rfl⟩ ⟨Nat.le_of_ble_eq_true rfl, Nat.le_of_ble_eq_true rfl⟩ ⟨Nat.zero_le _, Nat.zero_le _⟩ rfl rfl (Nat.le_of_ble_eq_true rfl) 0 rfl vc1 rfl rfl rfl rfl (by decide) ?_
        refine sw_if_eq 83 90 G dX5_station_83 rfl hf (fun hf => ?_) (fun hf => ?_)
        · refine sw_iconst 90 G (0 : Int32) dX5_station_90 rfl ?_
          cases hf
          exact sw_iret 91 G dX5_station_91 K
        · refine sw_iconst 86 G (1 : Int32) dX5_station_86 rfl ?_
          refine sw_goto 87 G 91 dX5_station_87 rfl ?_
          cases hf
          exact sw_iret 91 G dX5_station_91 K
      · refine ⟨74, 92, rfl, rfl, ?_⟩
        have hf := tc_3 hf
        refine sw_aload_n 92 G dX5_station_92 0 rfl ?_
        refine sw_get 93 G hnX5 0 0 dX5_station_93 vc5 (by decide) (List.mem_cons_of_mem _ lk_c6576e33) rfl rfl ?_
        refine sw_get 96 G hnX4 1 1 dX5_station_96 vc4 (by decide) (List.mem_cons_of_mem _ lk_3ac9de3e) rfl rfl ?_
        refine sw_iload_n 99 G dX5_station_99 1 rfl ?_
        obtain ⟨r5, hg, hf⟩ := bd1_some hf
        refine sw_callV 100 G ([(x0, .inr (5, [.ref n0, .ref v0, .int x_oldestSaved, .int x_savedStates, .ref t0, .ref l0, .ref c0]))] ++ [(n0, .inr (4, [.ref d0, .ref p0]))] ++ wX1 Θ d0 d1 d2 d3 d_columns d_rows d_carrier d_partMarks d_linkMarks d_operations d_pilots d_settings d_facts d_cells ++ wX3 Θ p0 p1 p2 p3 p_pitches p_spoiled p_cells p_bends p_offsets p_strokes p_goodParts p_badParts p_slugs) [6, 7, 8, 9] [0, 1, 2, 3, 4, 5] [0, 1, 2, 3, 4, 5, 6, 7, 8, 9] 1 dX5_station_100 (kX3_hasPitch Θ p0 p1 p2 p3 p_pitches p_spoiled p_cells p_bends p_offsets p_strokes p_goodParts p_badParts p_slugs a0 r5 hg) (gwV lk_a6808fa9 lk_fd3c2946 lk_50272c2a lk_106b7259 lk_6e102d63) rfl hvX3_hasPitch ⟨rfl, rfl⟩ ⟨Nat.le_of_ble_eq_true rfl, Nat.le_of_ble_eq_true rfl⟩ ⟨Nat.zero_le _, Nat.zero_le _⟩ rfl rfl (Nat.le_of_ble_eq_true rfl) 0 rfl vc3 rfl rfl rfl rfl (by decide) ?_
        refine sw_if_eq 103 110 G dX5_station_103 rfl hf (fun hf => ?_) (fun hf => ?_)
        · refine sw_iconst 110 G (0 : Int32) dX5_station_110 rfl ?_
          cases hf
          exact sw_iret 111 G dX5_station_111 K
        · refine sw_iconst 106 G (1 : Int32) dX5_station_106 rfl ?_
          refine sw_goto 107 G 111 dX5_station_107 rfl ?_
          cases hf
          exact sw_iret 111 G dX5_station_111 K
  · cases hf
abbrev rmX5_pitch : Room := { frames := 2, cells := 0, slots := 0, locals := 43 }
theorem hvX5_pitch : yX5_pitch.cls = RX5 ∧ yX5_pitch.cls ≠ "java/lang/invoke/MethodHandle" ∧ yX5_pitch.cls ≠ "java/lang/invoke/VarHandle" ∧ (parseMethodDescriptor yX5_pitch.desc).map (fun d => d.parameters.length) = some 2 := by decide +kernel
set_option maxRecDepth 100000 in
set_option maxHeartbeats 4000000 in
theorem kX5_pitch (Θ : Tht) (x0 n0 p0 p1 p2 p3 v0 t0 l0 c0 d0 : Nat) (x_oldestSaved : Int32) (x_savedStates : Int32) (p_pitches : Int32) (p_spoiled : Int32) (p_cells : Nat → Int64) (p_bends : Nat → Int32) (p_offsets : Nat → Int32) (p_strokes : Int32) (p_goodParts : Int32) (p_badParts : Int32) (p_slugs : Int32) (a0 : Int32) (a1 : Int32) (ro : Int32) (hf : fX5_pitch p_pitches p_spoiled p_cells p_bends p_offsets a0 a1 = some ro) : Fn Θ yX5_pitch (Cond.code yX5_pitch cX5_pitch 3 (some .int) :: GW) rmX5_pitch [.ref x0, .int a0, .int a1] ([(x0, .inr (5, [.ref n0, .ref v0, .int x_oldestSaved, .int x_savedStates, .ref t0, .ref l0, .ref c0]))] ++ [(n0, .inr (4, [.ref d0, .ref p0]))] ++ wX3 Θ p0 p1 p2 p3 p_pitches p_spoiled p_cells p_bends p_offsets p_strokes p_goodParts p_badParts p_slugs) (some (.int ro)) ([(x0, .inr (5, [.ref n0, .ref v0, .int x_oldestSaved, .int x_savedStates, .ref t0, .ref l0, .ref c0]))] ++ [(n0, .inr (4, [.ref d0, .ref p0]))] ++ wX3 Θ p0 p1 p2 p3 p_pitches p_spoiled p_cells p_bends p_offsets p_strokes p_goodParts p_badParts p_slugs) := by
  delta fX5_pitch at hf
  refine Fn.of (by decide +kernel) rfl (Nat.le_of_ble_eq_true rfl) (fun p e s m args below meth c A Q G K => ?_)
  show sw Θ p e rmX5_pitch s m args below meth c A Q 3 0 0 0 [(0, .ref x0), (1, .int a0), (2, .int a1)] [] ([(x0, .inr (5, [.ref n0, .ref v0, .int x_oldestSaved, .int x_savedStates, .ref t0, .ref l0, .ref c0]))] ++ [(n0, .inr (4, [.ref d0, .ref p0]))] ++ wX3 Θ p0 p1 p2 p3 p_pitches p_spoiled p_cells p_bends p_offsets p_strokes p_goodParts p_badParts p_slugs)
  refine sw_iload_n 0 G dX5_pitch_0 1 rfl ?_
  obtain ⟨r1, hg, hf⟩ := bd1_some hf
  refine sw_callS 1 G ([(x0, .inr (5, [.ref n0, .ref v0, .int x_oldestSaved, .int x_savedStates, .ref t0, .ref l0, .ref c0]))] ++ [(n0, .inr (4, [.ref d0, .ref p0]))] ++ wX3 Θ p0 p1 p2 p3 p_pitches p_spoiled p_cells p_bends p_offsets p_strokes p_goodParts p_badParts p_slugs) [] [0, 1, 2, 3, 4, 5] [0, 1, 2, 3, 4, 5] 1 dX5_pitch_1 (kX5_isStation Θ a0 r1 hg) (gwS lk_e51f5f2c lk_69b39882 lk_01b5d93a lk_08337533) rfl hsX5_isStation ⟨rfl, rfl⟩ ⟨Nat.le_of_ble_eq_true rfl, Nat.le_of_ble_eq_true rfl⟩ ⟨Nat.zero_le _, Nat.zero_le _⟩ rfl rfl (Nat.le_of_ble_eq_true rfl) rfl rfl rfl (by decide) ?_
  refine sw_if_eq 4 16 G dX5_pitch_4 rfl hf (fun hf => ?_) (fun hf => ?_)
  · cases hf
  · refine sw_iload_n 7 G dX5_pitch_7 2 rfl ?_
    refine sw_if_lt 8 16 G dX5_pitch_8 rfl hf (fun hf => ?_) (fun hf => ?_)
    · cases hf
    · refine sw_iload_n 11 G dX5_pitch_11 2 rfl ?_
      refine sw_iconst 12 G (3 : Int32) dX5_pitch_12 rfl ?_
      refine sw_icmp_le 13 26 G dX5_pitch_13 rfl hf (fun hf => ?_) (fun hf => ?_)
      · refine sw_aload_n 26 G dX5_pitch_26 0 rfl ?_
        refine sw_get 27 G hnX5 0 0 dX5_pitch_27 vc5 (by decide) (List.mem_cons_of_mem _ lk_c6576e33) rfl rfl ?_
        refine sw_get 30 G hnX4 1 1 dX5_pitch_30 vc4 (by decide) (List.mem_cons_of_mem _ lk_3ac9de3e) rfl rfl ?_
        refine sw_iload_n 33 G dX5_pitch_33 1 rfl ?_
        obtain ⟨r2, hg, hf⟩ := bd1_some hf
        refine sw_callV 34 G ([(x0, .inr (5, [.ref n0, .ref v0, .int x_oldestSaved, .int x_savedStates, .ref t0, .ref l0, .ref c0]))] ++ [(n0, .inr (4, [.ref d0, .ref p0]))] ++ wX3 Θ p0 p1 p2 p3 p_pitches p_spoiled p_cells p_bends p_offsets p_strokes p_goodParts p_badParts p_slugs) [2, 3, 4, 5] [0, 1] [0, 1, 2, 3, 4, 5] 1 dX5_pitch_34 (kX3_hasPitch Θ p0 p1 p2 p3 p_pitches p_spoiled p_cells p_bends p_offsets p_strokes p_goodParts p_badParts p_slugs a0 r2 hg) (gwV lk_a6808fa9 lk_fd3c2946 lk_50272c2a lk_106b7259 lk_6e102d63) rfl hvX3_hasPitch ⟨rfl, rfl⟩ ⟨Nat.le_of_ble_eq_true rfl, Nat.le_of_ble_eq_true rfl⟩ ⟨Nat.zero_le _, Nat.zero_le _⟩ rfl rfl (Nat.le_of_ble_eq_true rfl) 0 rfl vc3 rfl rfl rfl rfl (by decide) ?_
        refine sw_if_eq 37 55 G dX5_pitch_37 rfl hf (fun hf => ?_) (fun hf => ?_)
        · refine sw_iconst 55 G (-1 : Int32) dX5_pitch_55 rfl ?_
          cases hf
          exact sw_iret 56 G dX5_pitch_56 K
        · refine sw_aload_n 40 G dX5_pitch_40 0 rfl ?_
          refine sw_get 41 G hnX5 0 0 dX5_pitch_41 vc5 (by decide) (List.mem_cons_of_mem _ lk_c6576e33) rfl rfl ?_
          refine sw_get 44 G hnX4 1 1 dX5_pitch_44 vc4 (by decide) (List.mem_cons_of_mem _ lk_3ac9de3e) rfl rfl ?_
          refine sw_iload_n 47 G dX5_pitch_47 1 rfl ?_
          refine sw_iload_n 48 G dX5_pitch_48 2 rfl ?_
          obtain ⟨r3, hg, hf⟩ := bd1_some hf
          refine sw_callV 49 G ([(x0, .inr (5, [.ref n0, .ref v0, .int x_oldestSaved, .int x_savedStates, .ref t0, .ref l0, .ref c0]))] ++ [(n0, .inr (4, [.ref d0, .ref p0]))] ++ wX3 Θ p0 p1 p2 p3 p_pitches p_spoiled p_cells p_bends p_offsets p_strokes p_goodParts p_badParts p_slugs) [2, 3, 4, 5] [0, 1] [0, 1, 2, 3, 4, 5] 2 dX5_pitch_49 (kX3_valueOf Θ p0 p1 p2 p3 p_pitches p_spoiled p_cells p_bends p_offsets p_strokes p_goodParts p_badParts p_slugs a0 a1 r3 hg) (gwV lk_94aace7d lk_a0ac316f lk_77840524 lk_106b7259 lk_245db28e) rfl hvX3_valueOf ⟨rfl, rfl⟩ ⟨Nat.le_of_ble_eq_true rfl, Nat.le_of_ble_eq_true rfl⟩ ⟨Nat.zero_le _, Nat.zero_le _⟩ rfl rfl (Nat.le_of_ble_eq_true rfl) 0 rfl vc3 rfl rfl rfl rfl (by decide) ?_
          refine sw_goto 52 G 56 dX5_pitch_52 rfl ?_
          cases hf
          exact sw_iret 56 G dX5_pitch_56 K
      · cases hf
abbrev rmX5_left : Room := { frames := 2, cells := 0, slots := 0, locals := 42 }
theorem hvX5_left : yX5_left.cls = RX5 ∧ yX5_left.cls ≠ "java/lang/invoke/MethodHandle" ∧ yX5_left.cls ≠ "java/lang/invoke/VarHandle" ∧ (parseMethodDescriptor yX5_left.desc).map (fun d => d.parameters.length) = some 1 := by decide +kernel
set_option maxRecDepth 100000 in
set_option maxHeartbeats 4000000 in
theorem kX5_left (Θ : Tht) (x0 n0 p0 p1 p2 p3 v0 t0 l0 c0 d0 : Nat) (x_oldestSaved : Int32) (x_savedStates : Int32) (p_pitches : Int32) (p_spoiled : Int32) (p_cells : Nat → Int64) (p_bends : Nat → Int32) (p_offsets : Nat → Int32) (p_strokes : Int32) (p_goodParts : Int32) (p_badParts : Int32) (p_slugs : Int32) (a0 : Int32) (ro : Int64) (hf : fX5_left p_pitches p_cells a0 = some ro) : Fn Θ yX5_left (Cond.code yX5_left cX5_left 2 (some .long) :: GW) rmX5_left [.ref x0, .int a0] ([(x0, .inr (5, [.ref n0, .ref v0, .int x_oldestSaved, .int x_savedStates, .ref t0, .ref l0, .ref c0]))] ++ [(n0, .inr (4, [.ref d0, .ref p0]))] ++ wX3 Θ p0 p1 p2 p3 p_pitches p_spoiled p_cells p_bends p_offsets p_strokes p_goodParts p_badParts p_slugs) (some (.long ro)) ([(x0, .inr (5, [.ref n0, .ref v0, .int x_oldestSaved, .int x_savedStates, .ref t0, .ref l0, .ref c0]))] ++ [(n0, .inr (4, [.ref d0, .ref p0]))] ++ wX3 Θ p0 p1 p2 p3 p_pitches p_spoiled p_cells p_bends p_offsets p_strokes p_goodParts p_badParts p_slugs) := by
  delta fX5_left at hf
  refine Fn.of (by decide +kernel) rfl (Nat.le_of_ble_eq_true rfl) (fun p e s m args below meth c A Q G K => ?_)
  show sw Θ p e rmX5_left s m args below meth c A Q 2 0 0 0 [(0, .ref x0), (1, .int a0)] [] ([(x0, .inr (5, [.ref n0, .ref v0, .int x_oldestSaved, .int x_savedStates, .ref t0, .ref l0, .ref c0]))] ++ [(n0, .inr (4, [.ref d0, .ref p0]))] ++ wX3 Θ p0 p1 p2 p3 p_pitches p_spoiled p_cells p_bends p_offsets p_strokes p_goodParts p_badParts p_slugs)
  refine sw_iload_n 0 G dX5_left_0 1 rfl ?_
  obtain ⟨r1, hg, hf⟩ := bd1_some hf
  refine sw_callS 1 G ([(x0, .inr (5, [.ref n0, .ref v0, .int x_oldestSaved, .int x_savedStates, .ref t0, .ref l0, .ref c0]))] ++ [(n0, .inr (4, [.ref d0, .ref p0]))] ++ wX3 Θ p0 p1 p2 p3 p_pitches p_spoiled p_cells p_bends p_offsets p_strokes p_goodParts p_badParts p_slugs) [] [0, 1, 2, 3, 4, 5] [0, 1, 2, 3, 4, 5] 1 dX5_left_1 (kX5_isStation Θ a0 r1 hg) (gwS lk_e51f5f2c lk_69b39882 lk_01b5d93a lk_08337533) rfl hsX5_isStation ⟨rfl, rfl⟩ ⟨Nat.le_of_ble_eq_true rfl, Nat.le_of_ble_eq_true rfl⟩ ⟨Nat.zero_le _, Nat.zero_le _⟩ rfl rfl (Nat.le_of_ble_eq_true rfl) rfl rfl rfl (by decide) ?_
  refine sw_if_ne 4 17 G dX5_left_4 rfl hf (fun hf => ?_) (fun hf => ?_)
  · refine sw_aload_n 17 G dX5_left_17 0 rfl ?_
    refine sw_get 18 G hnX5 0 0 dX5_left_18 vc5 (by decide) (List.mem_cons_of_mem _ lk_c6576e33) rfl rfl ?_
    refine sw_get 21 G hnX4 1 1 dX5_left_21 vc4 (by decide) (List.mem_cons_of_mem _ lk_3ac9de3e) rfl rfl ?_
    refine sw_iload_n 24 G dX5_left_24 1 rfl ?_
    obtain ⟨r2, hg, hf⟩ := bd1_some hf
    refine sw_callV 25 G ([(x0, .inr (5, [.ref n0, .ref v0, .int x_oldestSaved, .int x_savedStates, .ref t0, .ref l0, .ref c0]))] ++ [(n0, .inr (4, [.ref d0, .ref p0]))] ++ wX3 Θ p0 p1 p2 p3 p_pitches p_spoiled p_cells p_bends p_offsets p_strokes p_goodParts p_badParts p_slugs) [2, 3, 4, 5] [0, 1] [0, 1, 2, 3, 4, 5] 1 dX5_left_25 (kX3_hasPitch Θ p0 p1 p2 p3 p_pitches p_spoiled p_cells p_bends p_offsets p_strokes p_goodParts p_badParts p_slugs a0 r2 hg) (gwV lk_a6808fa9 lk_fd3c2946 lk_50272c2a lk_106b7259 lk_6e102d63) rfl hvX3_hasPitch ⟨rfl, rfl⟩ ⟨Nat.le_of_ble_eq_true rfl, Nat.le_of_ble_eq_true rfl⟩ ⟨Nat.zero_le _, Nat.zero_le _⟩ rfl rfl (Nat.le_of_ble_eq_true rfl) 0 rfl vc3 rfl rfl rfl rfl (by decide) ?_
    refine sw_if_eq 28 45 G dX5_left_28 rfl hf (fun hf => ?_) (fun hf => ?_)
    · refine sw_lconst 45 G (0 : Int64) dX5_left_45 rfl ?_
      cases hf
      exact sw_lret 46 G dX5_left_46 K
    · refine sw_aload_n 31 G dX5_left_31 0 rfl ?_
      refine sw_get 32 G hnX5 0 0 dX5_left_32 vc5 (by decide) (List.mem_cons_of_mem _ lk_c6576e33) rfl rfl ?_
      refine sw_get 35 G hnX4 1 1 dX5_left_35 vc4 (by decide) (List.mem_cons_of_mem _ lk_3ac9de3e) rfl rfl ?_
      refine sw_iload_n 38 G dX5_left_38 1 rfl ?_
      obtain ⟨r3, hg, hf⟩ := bd1_some hf
      refine sw_callV 39 G ([(x0, .inr (5, [.ref n0, .ref v0, .int x_oldestSaved, .int x_savedStates, .ref t0, .ref l0, .ref c0]))] ++ [(n0, .inr (4, [.ref d0, .ref p0]))] ++ wX3 Θ p0 p1 p2 p3 p_pitches p_spoiled p_cells p_bends p_offsets p_strokes p_goodParts p_badParts p_slugs) [2, 3, 4, 5] [0, 1] [0, 1, 2, 3, 4, 5] 1 dX5_left_39 (kX3_cellsAt Θ p0 p1 p2 p3 p_pitches p_spoiled p_cells p_bends p_offsets p_strokes p_goodParts p_badParts p_slugs a0 r3 hg) (gwV lk_b2736ece lk_efd6e65a lk_d5dc047d lk_106b7259 lk_cecdbcae) rfl hvX3_cellsAt ⟨rfl, rfl⟩ ⟨Nat.le_of_ble_eq_true rfl, Nat.le_of_ble_eq_true rfl⟩ ⟨Nat.zero_le _, Nat.zero_le _⟩ rfl rfl (Nat.le_of_ble_eq_true rfl) 0 rfl vc3 rfl rfl rfl rfl (by decide) ?_
      refine sw_goto 42 G 46 dX5_left_42 rfl ?_
      cases hf
      exact sw_lret 46 G dX5_left_46 K
  · cases hf
abbrev rmX5_whole : Room := { frames := 3, cells := 0, slots := 0, locals := 66 }
theorem hvX5_whole : yX5_whole.cls = RX5 ∧ yX5_whole.cls ≠ "java/lang/invoke/MethodHandle" ∧ yX5_whole.cls ≠ "java/lang/invoke/VarHandle" ∧ (parseMethodDescriptor yX5_whole.desc).map (fun d => d.parameters.length) = some 1 := by decide +kernel
set_option maxRecDepth 100000 in
set_option maxHeartbeats 4000000 in
theorem kX5_whole (Θ : Tht) (F : Nat) (x0 n0 d0 d1 d2 d3 p0 p1 p2 p3 c0 c1 c2 v0 t0 l0 : Nat) (x_oldestSaved : Int32) (x_savedStates : Int32) (d_columns : Int32) (d_rows : Int32) (d_carrier : Int32) (d_partMarks : Int64) (d_linkMarks : Int64) (d_operations : Int32) (d_pilots : Int32) (d_settings : Nat → Int32) (d_facts : Nat → Int32) (d_cells : Nat → Int64) (p_pitches : Int32) (p_spoiled : Int32) (p_cells : Nat → Int64) (p_bends : Nat → Int32) (p_offsets : Nat → Int32) (p_strokes : Int32) (p_goodParts : Int32) (p_badParts : Int32) (p_slugs : Int32) (c_bytes : Nat → Int32) (c_numbers : Nat → Int32) (c_length : Int32) (c_at : Int32) (c_word : Int32) (a0 : Int32) (ro : Int32) (hf : fX5_whole F d_columns d_rows d_carrier d_operations d_pilots d_settings d_facts p_pitches p_strokes p_goodParts p_badParts p_slugs c_length a0 = some ro) : Fn Θ yX5_whole (Cond.code yX5_whole cX5_whole 2 (some .int) :: GW) rmX5_whole [.ref x0, .int a0] ([(x0, .inr (5, [.ref n0, .ref v0, .int x_oldestSaved, .int x_savedStates, .ref t0, .ref l0, .ref c0]))] ++ [(n0, .inr (4, [.ref d0, .ref p0]))] ++ wX1 Θ d0 d1 d2 d3 d_columns d_rows d_carrier d_partMarks d_linkMarks d_operations d_pilots d_settings d_facts d_cells ++ wX3 Θ p0 p1 p2 p3 p_pitches p_spoiled p_cells p_bends p_offsets p_strokes p_goodParts p_badParts p_slugs ++ wX0 Θ c0 c1 c2 c_bytes c_numbers c_length c_at c_word) (some (.int ro)) ([(x0, .inr (5, [.ref n0, .ref v0, .int x_oldestSaved, .int x_savedStates, .ref t0, .ref l0, .ref c0]))] ++ [(n0, .inr (4, [.ref d0, .ref p0]))] ++ wX1 Θ d0 d1 d2 d3 d_columns d_rows d_carrier d_partMarks d_linkMarks d_operations d_pilots d_settings d_facts d_cells ++ wX3 Θ p0 p1 p2 p3 p_pitches p_spoiled p_cells p_bends p_offsets p_strokes p_goodParts p_badParts p_slugs ++ wX0 Θ c0 c1 c2 c_bytes c_numbers c_length c_at c_word) := by
  delta fX5_whole at hf
  refine Fn.of (by decide +kernel) rfl (Nat.le_of_ble_eq_true rfl) (fun p e s m args below meth c A Q G K => ?_)
  show sw Θ p e rmX5_whole s m args below meth c A Q 2 0 0 0 [(0, .ref x0), (1, .int a0)] [] ([(x0, .inr (5, [.ref n0, .ref v0, .int x_oldestSaved, .int x_savedStates, .ref t0, .ref l0, .ref c0]))] ++ [(n0, .inr (4, [.ref d0, .ref p0]))] ++ wX1 Θ d0 d1 d2 d3 d_columns d_rows d_carrier d_partMarks d_linkMarks d_operations d_pilots d_settings d_facts d_cells ++ wX3 Θ p0 p1 p2 p3 p_pitches p_spoiled p_cells p_bends p_offsets p_strokes p_goodParts p_badParts p_slugs ++ wX0 Θ c0 c1 c2 c_bytes c_numbers c_length c_at c_word)
  refine sw_iload_n 0 G dX5_whole_0 1 rfl ?_
  refine sw_if_lt 1 10 G dX5_whole_1 rfl hf (fun hf => ?_) (fun hf => ?_)
  · cases hf
  · refine sw_iload_n 4 G dX5_whole_4 1 rfl ?_
    refine sw_bipush 5 G (16 : Int32) dX5_whole_5 rfl ?_
    refine sw_icmp_le 7 20 G dX5_whole_7 rfl hf (fun hf => ?_) (fun hf => ?_)
    · refine sw_iload_n 20 G dX5_whole_20 1 rfl ?_
      refine sw_bipush 21 G (10 : Int32) dX5_whole_21 rfl ?_
      refine sw_icmp_ge 23 38 G dX5_whole_23 rfl hf (fun hf => ?_) (fun hf => ?_)
      · refine sw_iload_n 38 G dX5_whole_38 1 rfl ?_
        refine sw_bipush 39 G (15 : Int32) dX5_whole_39 rfl ?_
        refine sw_icmp_ne 41 58 G dX5_whole_41 rfl hf (fun hf => ?_) (fun hf => ?_)
        · refine sw_iload_n 58 G dX5_whole_58 1 rfl ?_
          refine sw_bipush 59 G (16 : Int32) dX5_whole_59 rfl ?_
          refine sw_icmp_ne 61 74 G dX5_whole_61 rfl hf (fun hf => ?_) (fun hf => ?_)
          · refine sw_aload_n 74 G dX5_whole_74 0 rfl ?_
            refine sw_get 75 G hnX5 0 0 dX5_whole_75 vc5 (by decide) (List.mem_cons_of_mem _ lk_c6576e33) rfl rfl ?_
            refine sw_get 78 G hnX4 1 1 dX5_whole_78 vc4 (by decide) (List.mem_cons_of_mem _ lk_3ac9de3e) rfl rfl ?_
            refine sw_iload_n 81 G dX5_whole_81 1 rfl ?_
            obtain ⟨r1, hg, hf⟩ := bd1_some hf
            refine sw_callV 82 G ([(x0, .inr (5, [.ref n0, .ref v0, .int x_oldestSaved, .int x_savedStates, .ref t0, .ref l0, .ref c0]))] ++ [(n0, .inr (4, [.ref d0, .ref p0]))] ++ wX1 Θ d0 d1 d2 d3 d_columns d_rows d_carrier d_partMarks d_linkMarks d_operations d_pilots d_settings d_facts d_cells ++ wX3 Θ p0 p1 p2 p3 p_pitches p_spoiled p_cells p_bends p_offsets p_strokes p_goodParts p_badParts p_slugs ++ wX0 Θ c0 c1 c2 c_bytes c_numbers c_length c_at c_word) [6, 7, 8, 9] [0, 1, 2, 3, 4, 5, 10, 11, 12] [0, 1, 2, 3, 4, 5, 9, 10, 11, 12, 6, 7, 8] 1 dX5_whole_82 (kX3_wholeValue Θ p0 p1 p2 p3 p_pitches p_spoiled p_cells p_bends p_offsets p_strokes p_goodParts p_badParts p_slugs a0 r1 hg) (gwV lk_c4eb7bcf lk_30e824c5 lk_90f33f44 lk_106b7259 lk_5baeb57b) rfl hvX3_wholeValue ⟨rfl, rfl⟩ ⟨Nat.le_of_ble_eq_true rfl, Nat.le_of_ble_eq_true rfl⟩ ⟨Nat.zero_le _, Nat.zero_le _⟩ rfl rfl (Nat.le_of_ble_eq_true rfl) 0 rfl vc3 rfl rfl rfl rfl (by decide) ?_
            cases hf
            exact sw_iret 85 G dX5_whole_85 K
          · refine sw_aload_n 64 G dX5_whole_64 0 rfl ?_
            refine sw_get 65 G hnX5 0 6 dX5_whole_65 vc5 (by decide) (List.mem_cons_of_mem _ lk_0b6ebd02) rfl rfl ?_
            refine sw_get 68 G hnX0 10 2 dX5_whole_68 vc0 (by decide) (List.mem_cons_of_mem _ lk_daf6e5e6) rfl rfl ?_
            refine sw_goto 71 G 85 dX5_whole_71 rfl ?_
            cases hf
            exact sw_iret 85 G dX5_whole_85 K
        · refine sw_aload_n 44 G dX5_whole_44 0 rfl ?_
          refine sw_get 45 G hnX5 0 0 dX5_whole_45 vc5 (by decide) (List.mem_cons_of_mem _ lk_c6576e33) rfl rfl ?_
          refine sw_get 48 G hnX4 1 0 dX5_whole_48 vc4 (by decide) (List.mem_cons_of_mem _ lk_b490f9e6) rfl rfl ?_
          refine sw_get 51 G hnX1 2 6 dX5_whole_51 vc1 (by decide) (List.mem_cons_of_mem _ lk_4a34e39d) rfl rfl ?_
          obtain ⟨r2, hg, hf⟩ := bd1_some hf
          refine sw_callS 54 G ([(x0, .inr (5, [.ref n0, .ref v0, .int x_oldestSaved, .int x_savedStates, .ref t0, .ref l0, .ref c0]))] ++ [(n0, .inr (4, [.ref d0, .ref p0]))] ++ wX1 Θ d0 d1 d2 d3 d_columns d_rows d_carrier d_partMarks d_linkMarks d_operations d_pilots d_settings d_facts d_cells ++ wX3 Θ p0 p1 p2 p3 p_pitches p_spoiled p_cells p_bends p_offsets p_strokes p_goodParts p_badParts p_slugs ++ wX0 Θ c0 c1 c2 c_bytes c_numbers c_length c_at c_word) [] [0, 1, 2, 3, 4, 5, 6, 7, 8, 9, 10, 11, 12] [0, 1, 2, 3, 4, 5, 6, 7, 8, 9, 10, 11, 12] 1 dX5_whole_54 (kJ6_bitCount_0f7a4 Θ d_pilots r2 hg) (gwS lk_fe1a3ea6 lk_d625a12f lk_2df2c76b lk_723f897f) rfl hsJ6_bitCount_0f7a4 ⟨rfl, rfl⟩ ⟨Nat.le_of_ble_eq_true rfl, Nat.le_of_ble_eq_true rfl⟩ ⟨Nat.zero_le _, Nat.zero_le _⟩ rfl rfl (Nat.le_of_ble_eq_true rfl) rfl rfl rfl (by decide) ?_
          cases hf
          exact sw_iret 57 G dX5_whole_57 K
      · refine sw_aload_n 26 G dX5_whole_26 0 rfl ?_
        refine sw_get 27 G hnX5 0 0 dX5_whole_27 vc5 (by decide) (List.mem_cons_of_mem _ lk_c6576e33) rfl rfl ?_
        refine sw_get 30 G hnX4 1 0 dX5_whole_30 vc4 (by decide) (List.mem_cons_of_mem _ lk_b490f9e6) rfl rfl ?_
        refine sw_iload_n 33 G dX5_whole_33 1 rfl ?_
        obtain ⟨r3, hg, hf⟩ := bd1_some hf
        refine sw_callV 34 G ([(x0, .inr (5, [.ref n0, .ref v0, .int x_oldestSaved, .int x_savedStates, .ref t0, .ref l0, .ref c0]))] ++ [(n0, .inr (4, [.ref d0, .ref p0]))] ++ wX1 Θ d0 d1 d2 d3 d_columns d_rows d_carrier d_partMarks d_linkMarks d_operations d_pilots d_settings d_facts d_cells ++ wX3 Θ p0 p1 p2 p3 p_pitches p_spoiled p_cells p_bends p_offsets p_strokes p_goodParts p_badParts p_slugs ++ wX0 Θ c0 c1 c2 c_bytes c_numbers c_length c_at c_word) [2, 3, 4, 5] [0, 1, 6, 7, 8, 9, 10, 11, 12] [0, 1, 9, 10, 11, 12, 2, 3, 4, 5, 6, 7, 8] 1 dX5_whole_34 (kX1_wholeValue Θ F d0 d1 d2 d3 d_columns d_rows d_carrier d_partMarks d_linkMarks d_operations d_pilots d_settings d_facts d_cells a0 r3 hg) (gwV lk_9cd43eef lk_7bf3da9c lk_b2d34458 lk_cf66e99d lk_61bb7644) rfl hvX1_wholeValue ⟨rfl, rfl⟩ ⟨Nat.le_of_ble_eq_true rfl, Nat.le_of_ble_eq_true rfl⟩ ⟨Nat.zero_le _, Nat.zero_le _⟩ rfl rfl (Nat.le_of_ble_eq_true rfl) 0 rfl vc1 rfl rfl rfl rfl (by decide) ?_
        cases hf
        exact sw_iret 37 G dX5_whole_37 K
    · cases hf
abbrev rmX5_planned : Room := { frames := 5, cells := 0, slots := 0, locals := 128 }
theorem hvX5_planned : yX5_planned.cls = RX5 ∧ yX5_planned.cls ≠ "java/lang/invoke/MethodHandle" ∧ yX5_planned.cls ≠ "java/lang/invoke/VarHandle" ∧ (parseMethodDescriptor yX5_planned.desc).map (fun d => d.parameters.length) = some 1 := by decide +kernel
set_option maxRecDepth 100000 in
set_option maxHeartbeats 4000000 in
theorem kX5_planned (Θ : Tht) (F : Nat) (x0 n0 d0 d1 d2 d3 l0 l1 l2 l3 v0 t0 c0 p0 : Nat) (x_oldestSaved : Int32) (x_savedStates : Int32) (d_columns : Int32) (d_rows : Int32) (d_carrier : Int32) (d_partMarks : Int64) (d_linkMarks : Int64) (d_operations : Int32) (d_pilots : Int32) (d_settings : Nat → Int32) (d_facts : Nat → Int32) (d_cells : Nat → Int64) (l_operations : Int32) (l_limit : Int32) (l_gap : Int32) (l_bends : Int32) (l_greatestForce : Int32) (l_chosen : Nat → Int32) (l_touching : Nat → Int32) (l_forces : Nat → Int32) (a0 : Int32) (ro : Int32) (o_l_operations : Int32) (o_l_limit : Int32) (o_l_gap : Int32) (o_l_bends : Int32) (o_l_greatestForce : Int32) (o_l_chosen : Nat → Int32) (o_l_touching : Nat → Int32) (o_l_forces : Nat → Int32) (hf : fX5_planned F d_columns d_rows d_operations d_settings d_facts d_cells l_chosen l_touching l_forces a0 = some (ro, o_l_operations, o_l_limit, o_l_gap, o_l_bends, o_l_greatestForce, o_l_chosen, o_l_touching, o_l_forces)) : Fn Θ yX5_planned (Cond.code yX5_planned cX5_planned 3 (some .int) :: GW) rmX5_planned [.ref x0, .int a0] ([(x0, .inr (5, [.ref n0, .ref v0, .int x_oldestSaved, .int x_savedStates, .ref t0, .ref l0, .ref c0]))] ++ [(n0, .inr (4, [.ref d0, .ref p0]))] ++ wX1 Θ d0 d1 d2 d3 d_columns d_rows d_carrier d_partMarks d_linkMarks d_operations d_pilots d_settings d_facts d_cells ++ wX2 Θ l0 l1 l2 l3 l_operations l_limit l_gap l_bends l_greatestForce l_chosen l_touching l_forces) (some (.int ro)) ([(x0, .inr (5, [.ref n0, .ref v0, .int x_oldestSaved, .int x_savedStates, .ref t0, .ref l0, .ref c0]))] ++ [(n0, .inr (4, [.ref d0, .ref p0]))] ++ wX1 Θ d0 d1 d2 d3 d_columns d_rows d_carrier d_partMarks d_linkMarks d_operations d_pilots d_settings d_facts d_cells ++ wX2 Θ l0 l1 l2 l3 o_l_operations o_l_limit o_l_gap o_l_bends o_l_greatestForce o_l_chosen o_l_touching o_l_forces) := by
  delta fX5_planned at hf
  refine Fn.of (by decide +kernel) rfl (Nat.le_of_ble_eq_true rfl) (fun p e s m args below meth c A Q G K => ?_)
  show sw Θ p e rmX5_planned s m args below meth c A Q 3 0 0 0 [(0, .ref x0), (1, .int a0)] [] ([(x0, .inr (5, [.ref n0, .ref v0, .int x_oldestSaved, .int x_savedStates, .ref t0, .ref l0, .ref c0]))] ++ [(n0, .inr (4, [.ref d0, .ref p0]))] ++ wX1 Θ d0 d1 d2 d3 d_columns d_rows d_carrier d_partMarks d_linkMarks d_operations d_pilots d_settings d_facts d_cells ++ wX2 Θ l0 l1 l2 l3 l_operations l_limit l_gap l_bends l_greatestForce l_chosen l_touching l_forces)
  refine sw_iload_n 0 G dX5_planned_0 1 rfl ?_
  refine sw_iconst 1 G (-1 : Int32) dX5_planned_1 rfl ?_
  refine sw_icmp_eq 2 29 G dX5_planned_2 rfl hf (fun hf => ?_) (fun hf => ?_)
  · refine sw_aload_n 29 G dX5_planned_29 0 rfl ?_
    refine sw_get 30 G hnX5 0 5 dX5_planned_30 vc5 (by decide) (List.mem_cons_of_mem _ lk_a45d4547) rfl rfl ?_
    refine sw_aload_n 33 G dX5_planned_33 0 rfl ?_
    refine sw_get 34 G hnX5 0 0 dX5_planned_34 vc5 (by decide) (List.mem_cons_of_mem _ lk_c6576e33) rfl rfl ?_
    refine sw_get 37 G hnX4 1 0 dX5_planned_37 vc4 (by decide) (List.mem_cons_of_mem _ lk_b490f9e6) rfl rfl ?_
    obtain ⟨r1, u2, u3, u4, u5, u6, u7, u8, u9, hg, hf⟩ := bd9_some hf
    refine sw_callV 40 G ([(x0, .inr (5, [.ref n0, .ref v0, .int x_oldestSaved, .int x_savedStates, .ref t0, .ref l0, .ref c0]))] ++ [(n0, .inr (4, [.ref d0, .ref p0]))] ++ wX1 Θ d0 d1 d2 d3 d_columns d_rows d_carrier d_partMarks d_linkMarks d_operations d_pilots d_settings d_facts d_cells ++ wX2 Θ l0 l1 l2 l3 u2 u3 u4 u5 u6 u7 u8 u9) [6, 7, 8, 9, 2, 3, 4, 5] [0, 1] [0, 1, 6, 7, 8, 9, 2, 3, 4, 5] 1 dX5_planned_40 (kX2_findBest Θ F l0 l1 l2 l3 d0 d1 d2 d3 l_operations l_limit l_gap l_bends l_greatestForce l_chosen l_touching l_forces d_columns d_rows d_carrier d_partMarks d_linkMarks d_operations d_pilots d_settings d_facts d_cells r1 u2 u3 u4 u5 u6 u7 u8 u9 hg) (gwV lk_86176403 lk_2e86f8d8 lk_ce5cd719 lk_d27e9d3e lk_1f104a63) rfl hvX2_findBest ⟨rfl, rfl⟩ ⟨Nat.le_of_ble_eq_true rfl, Nat.le_of_ble_eq_true rfl⟩ ⟨Nat.zero_le _, Nat.zero_le _⟩ rfl rfl (Nat.le_of_ble_eq_true rfl) 0 rfl vc2 rfl rfl rfl rfl (by decide) ?_
    refine sw_istore_n 43 G [(2, .int r1), (0, .ref x0), (1, .int a0)] dX5_planned_43 (by decide) rfl ?_
    refine sw_iload_n 44 G dX5_planned_44 0 rfl ?_
    refine sw_iconst 45 G (-1 : Int32) dX5_planned_45 rfl ?_
    refine sw_icmp_eq 46 54 G dX5_planned_46 rfl hf (fun hf => ?_) (fun hf => ?_)
    · refine sw_iload_n 54 G dX5_planned_54 0 rfl ?_
      cases hf
      exact sw_iret 55 G dX5_planned_55 K
    · refine sw_iload_n 49 G dX5_planned_49 2 rfl ?_
      refine sw_iconst 50 G (-1 : Int32) dX5_planned_50 rfl ?_
      refine sw_icmp_ne 51 56 G dX5_planned_51 rfl hf (fun hf => ?_) (fun hf => ?_)
      · refine sw_aload_n 56 G dX5_planned_56 1 rfl ?_
        refine sw_get 57 G hnX5 0 5 dX5_planned_57 vc5 (by decide) (List.mem_cons_of_mem _ lk_a45d4547) rfl rfl ?_
        refine sw_iload_n 60 G dX5_planned_60 2 rfl ?_
        obtain ⟨r10, hg, hf⟩ := bd1_some hf
        refine sw_callV 61 G ([(x0, .inr (5, [.ref n0, .ref v0, .int x_oldestSaved, .int x_savedStates, .ref t0, .ref l0, .ref c0]))] ++ [(n0, .inr (4, [.ref d0, .ref p0]))] ++ wX1 Θ d0 d1 d2 d3 d_columns d_rows d_carrier d_partMarks d_linkMarks d_operations d_pilots d_settings d_facts d_cells ++ wX2 Θ l0 l1 l2 l3 u2 u3 u4 u5 u6 u7 u8 u9) [6, 7, 8, 9] [0, 1, 2, 3, 4, 5] [0, 1, 2, 3, 4, 5, 6, 7, 8, 9] 1 dX5_planned_61 (kX2_chosenFor Θ l0 l1 l2 l3 u2 u3 u4 u5 u6 u7 u8 u9 a0 r10 hg) (gwV lk_8b18a6a1 lk_9c20c1cc lk_2820cf9c lk_d27e9d3e lk_b042b34b) rfl hvX2_chosenFor ⟨rfl, rfl⟩ ⟨Nat.le_of_ble_eq_true rfl, Nat.le_of_ble_eq_true rfl⟩ ⟨Nat.zero_le _, Nat.zero_le _⟩ rfl rfl (Nat.le_of_ble_eq_true rfl) 0 rfl vc2 rfl rfl rfl rfl (by decide) ?_
        cases hf
        exact sw_iret 64 G dX5_planned_64 K
      · refine sw_iload_n 54 G dX5_planned_54 0 rfl ?_
        cases hf
        exact sw_iret 55 G dX5_planned_55 K
  · refine sw_aload_n 5 G dX5_planned_5 0 rfl ?_
    refine sw_get 6 G hnX5 0 0 dX5_planned_6 vc5 (by decide) (List.mem_cons_of_mem _ lk_c6576e33) rfl rfl ?_
    refine sw_get 9 G hnX4 1 0 dX5_planned_9 vc4 (by decide) (List.mem_cons_of_mem _ lk_b490f9e6) rfl rfl ?_
    refine sw_iload_n 12 G dX5_planned_12 1 rfl ?_
    obtain ⟨r11, hg, hf⟩ := bd1_some hf
    refine sw_callV 13 G ([(x0, .inr (5, [.ref n0, .ref v0, .int x_oldestSaved, .int x_savedStates, .ref t0, .ref l0, .ref c0]))] ++ [(n0, .inr (4, [.ref d0, .ref p0]))] ++ wX1 Θ d0 d1 d2 d3 d_columns d_rows d_carrier d_partMarks d_linkMarks d_operations d_pilots d_settings d_facts d_cells ++ wX2 Θ l0 l1 l2 l3 l_operations l_limit l_gap l_bends l_greatestForce l_chosen l_touching l_forces) [2, 3, 4, 5] [0, 1, 6, 7, 8, 9] [0, 1, 6, 7, 8, 9, 2, 3, 4, 5] 1 dX5_planned_13 (kX1_hasOperation Θ d0 d1 d2 d3 d_columns d_rows d_carrier d_partMarks d_linkMarks d_operations d_pilots d_settings d_facts d_cells a0 r11 hg) (gwV lk_02fe585c lk_bab4024f lk_df64b95a lk_cf66e99d lk_740542d2) rfl hvX1_hasOperation ⟨rfl, rfl⟩ ⟨Nat.le_of_ble_eq_true rfl, Nat.le_of_ble_eq_true rfl⟩ ⟨Nat.zero_le _, Nat.zero_le _⟩ rfl rfl (Nat.le_of_ble_eq_true rfl) 0 rfl vc1 rfl rfl rfl rfl (by decide) ?_
    refine sw_if_ne 16 29 G dX5_planned_16 rfl hf (fun hf => ?_) (fun hf => ?_)
    · refine sw_aload_n 29 G dX5_planned_29 0 rfl ?_
      refine sw_get 30 G hnX5 0 5 dX5_planned_30 vc5 (by decide) (List.mem_cons_of_mem _ lk_a45d4547) rfl rfl ?_
      refine sw_aload_n 33 G dX5_planned_33 0 rfl ?_
      refine sw_get 34 G hnX5 0 0 dX5_planned_34 vc5 (by decide) (List.mem_cons_of_mem _ lk_c6576e33) rfl rfl ?_
      refine sw_get 37 G hnX4 1 0 dX5_planned_37 vc4 (by decide) (List.mem_cons_of_mem _ lk_b490f9e6) rfl rfl ?_
      obtain ⟨r12, u13, u14, u15, u16, u17, u18, u19, u20, hg, hf⟩ := bd9_some hf
      refine sw_callV 40 G ([(x0, .inr (5, [.ref n0, .ref v0, .int x_oldestSaved, .int x_savedStates, .ref t0, .ref l0, .ref c0]))] ++ [(n0, .inr (4, [.ref d0, .ref p0]))] ++ wX1 Θ d0 d1 d2 d3 d_columns d_rows d_carrier d_partMarks d_linkMarks d_operations d_pilots d_settings d_facts d_cells ++ wX2 Θ l0 l1 l2 l3 u13 u14 u15 u16 u17 u18 u19 u20) [6, 7, 8, 9, 2, 3, 4, 5] [0, 1] [0, 1, 6, 7, 8, 9, 2, 3, 4, 5] 1 dX5_planned_40 (kX2_findBest Θ F l0 l1 l2 l3 d0 d1 d2 d3 l_operations l_limit l_gap l_bends l_greatestForce l_chosen l_touching l_forces d_columns d_rows d_carrier d_partMarks d_linkMarks d_operations d_pilots d_settings d_facts d_cells r12 u13 u14 u15 u16 u17 u18 u19 u20 hg) (gwV lk_86176403 lk_2e86f8d8 lk_ce5cd719 lk_d27e9d3e lk_1f104a63) rfl hvX2_findBest ⟨rfl, rfl⟩ ⟨Nat.le_of_ble_eq_true rfl, Nat.le_of_ble_eq_true rfl⟩ ⟨Nat.zero_le _, Nat.zero_le _⟩ rfl rfl (Nat.le_of_ble_eq_true rfl) 0 rfl vc2 rfl rfl rfl rfl (by decide) ?_
      refine sw_istore_n 43 G [(2, .int r12), (0, .ref x0), (1, .int a0)] dX5_planned_43 (by decide) rfl ?_
      refine sw_iload_n 44 G dX5_planned_44 0 rfl ?_
      refine sw_iconst 45 G (-1 : Int32) dX5_planned_45 rfl ?_
      refine sw_icmp_eq 46 54 G dX5_planned_46 rfl hf (fun hf => ?_) (fun hf => ?_)
      · refine sw_iload_n 54 G dX5_planned_54 0 rfl ?_
        cases hf
        exact sw_iret 55 G dX5_planned_55 K
      · refine sw_iload_n 49 G dX5_planned_49 2 rfl ?_
        refine sw_iconst 50 G (-1 : Int32) dX5_planned_50 rfl ?_
        refine sw_icmp_ne 51 56 G dX5_planned_51 rfl hf (fun hf => ?_) (fun hf => ?_)
        · refine sw_aload_n 56 G dX5_planned_56 1 rfl ?_
          refine sw_get 57 G hnX5 0 5 dX5_planned_57 vc5 (by decide) (List.mem_cons_of_mem _ lk_a45d4547) rfl rfl ?_
          refine sw_iload_n 60 G dX5_planned_60 2 rfl ?_
          obtain ⟨r21, hg, hf⟩ := bd1_some hf
          refine sw_callV 61 G ([(x0, .inr (5, [.ref n0, .ref v0, .int x_oldestSaved, .int x_savedStates, .ref t0, .ref l0, .ref c0]))] ++ [(n0, .inr (4, [.ref d0, .ref p0]))] ++ wX1 Θ d0 d1 d2 d3 d_columns d_rows d_carrier d_partMarks d_linkMarks d_operations d_pilots d_settings d_facts d_cells ++ wX2 Θ l0 l1 l2 l3 u13 u14 u15 u16 u17 u18 u19 u20) [6, 7, 8, 9] [0, 1, 2, 3, 4, 5] [0, 1, 2, 3, 4, 5, 6, 7, 8, 9] 1 dX5_planned_61 (kX2_chosenFor Θ l0 l1 l2 l3 u13 u14 u15 u16 u17 u18 u19 u20 a0 r21 hg) (gwV lk_8b18a6a1 lk_9c20c1cc lk_2820cf9c lk_d27e9d3e lk_b042b34b) rfl hvX2_chosenFor ⟨rfl, rfl⟩ ⟨Nat.le_of_ble_eq_true rfl, Nat.le_of_ble_eq_true rfl⟩ ⟨Nat.zero_le _, Nat.zero_le _⟩ rfl rfl (Nat.le_of_ble_eq_true rfl) 0 rfl vc2 rfl rfl rfl rfl (by decide) ?_
          cases hf
          exact sw_iret 64 G dX5_planned_64 K
        · refine sw_iload_n 54 G dX5_planned_54 0 rfl ?_
          cases hf
          exact sw_iret 55 G dX5_planned_55 K
    · cases hf
