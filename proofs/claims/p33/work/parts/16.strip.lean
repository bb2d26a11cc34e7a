abbrev rmX4_copyFrom : Room := { frames := 2, cells := 0, slots := 0, locals := 43 }
theorem hvX4_copyFrom : yX4_copyFrom.cls = RX4 ∧ yX4_copyFrom.cls ≠ "java/lang/invoke/MethodHandle" ∧ yX4_copyFrom.cls ≠ "java/lang/invoke/VarHandle" ∧ (parseMethodDescriptor yX4_copyFrom.desc).map (fun d => d.parameters.length) = some 1 := by decide +kernel
set_option maxRecDepth 100000 in
set_option maxHeartbeats 4000000 in
theorem kX4_copyFrom (Θ : Tht) (F : Nat) (n0 d0 d1 d2 d3 p0 p1 p2 p3 on0 od0 od1 od2 od3 op0 op1 op2 op3 : Nat) (d_columns : Int32) (d_rows : Int32) (d_carrier : Int32) (d_partMarks : Int64) (d_linkMarks : Int64) (d_operations : Int32) (d_pilots : Int32) (d_settings : Nat → Int32) (d_facts : Nat → Int32) (d_cells : Nat → Int64) (p_pitches : Int32) (p_spoiled : Int32) (p_cells : Nat → Int64) (p_bends : Nat → Int32) (p_offsets : Nat → Int32) (p_strokes : Int32) (p_goodParts : Int32) (p_badParts : Int32) (p_slugs : Int32) (od_columns : Int32) (od_rows : Int32) (od_carrier : Int32) (od_partMarks : Int64) (od_linkMarks : Int64) (od_operations : Int32) (od_pilots : Int32) (od_settings : Nat → Int32) (od_facts : Nat → Int32) (od_cells : Nat → Int64) (op_pitches : Int32) (op_spoiled : Int32) (op_cells : Nat → Int64) (op_bends : Nat → Int32) (op_offsets : Nat → Int32) (op_strokes : Int32) (op_goodParts : Int32) (op_badParts : Int32) (op_slugs : Int32) (o_d_columns : Int32) (o_d_rows : Int32) (o_d_carrier : Int32) (o_d_partMarks : Int64) (o_d_linkMarks : Int64) (o_d_operations : Int32) (o_d_pilots : Int32) (o_d_settings : Nat → Int32) (o_d_facts : Nat → Int32) (o_d_cells : Nat → Int64) (o_p_pitches : Int32) (o_p_spoiled : Int32) (o_p_cells : Nat → Int64) (o_p_bends : Nat → Int32) (o_p_offsets : Nat → Int32) (o_p_strokes : Int32) (o_p_goodParts : Int32) (o_p_badParts : Int32) (o_p_slugs : Int32) (hf : fX4_copyFrom F d_settings d_facts d_cells p_cells p_bends p_offsets od_columns od_rows od_carrier od_partMarks od_linkMarks od_operations od_pilots od_settings od_facts od_cells op_pitches op_spoiled op_cells op_bends op_offsets op_strokes op_goodParts op_badParts op_slugs = some (o_d_columns, o_d_rows, o_d_carrier, o_d_partMarks, o_d_linkMarks, o_d_operations, o_d_pilots, o_d_settings, o_d_facts, o_d_cells, o_p_pitches, o_p_spoiled, o_p_cells, o_p_bends, o_p_offsets, o_p_strokes, o_p_goodParts, o_p_badParts, o_p_slugs)) : Fn Θ yX4_copyFrom (Cond.code yX4_copyFrom cX4_copyFrom 2 none :: GW) rmX4_copyFrom [.ref n0, .ref on0] ([(n0, .inr (4, [.ref d0, .ref p0]))] ++ wX1 Θ d0 d1 d2 d3 d_columns d_rows d_carrier d_partMarks d_linkMarks d_operations d_pilots d_settings d_facts d_cells ++ wX3 Θ p0 p1 p2 p3 p_pitches p_spoiled p_cells p_bends p_offsets p_strokes p_goodParts p_badParts p_slugs ++ [(on0, .inr (4, [.ref od0, .ref op0]))] ++ wX1 Θ od0 od1 od2 od3 od_columns od_rows od_carrier od_partMarks od_linkMarks od_operations od_pilots od_settings od_facts od_cells ++ wX3 Θ op0 op1 op2 op3 op_pitches op_spoiled op_cells op_bends op_offsets op_strokes op_goodParts op_badParts op_slugs) none ([(n0, .inr (4, [.ref d0, .ref p0]))] ++ wX1 Θ d0 d1 d2 d3 o_d_columns o_d_rows o_d_carrier o_d_partMarks o_d_linkMarks o_d_operations o_d_pilots o_d_settings o_d_facts o_d_cells ++ wX3 Θ p0 p1 p2 p3 o_p_pitches o_p_spoiled o_p_cells o_p_bends o_p_offsets o_p_strokes o_p_goodParts o_p_badParts o_p_slugs ++ [(on0, .inr (4, [.ref od0, .ref op0]))] ++ wX1 Θ od0 od1 od2 od3 od_columns od_rows od_carrier od_partMarks od_linkMarks od_operations od_pilots od_settings od_facts od_cells ++ wX3 Θ op0 op1 op2 op3 op_pitches op_spoiled op_cells op_bends op_offsets op_strokes op_goodParts op_badParts op_slugs) := by
  delta fX4_copyFrom at hf
  refine Fn.of (by decide +kernel) rfl (Nat.le_of_ble_eq_true rfl) (fun p e s m args below meth c A Q G K => ?_)
  show sw Θ p e rmX4_copyFrom s m args below meth c A Q 2 0 0 0 [(0, .ref n0), (1, .ref on0)] [] ([(n0, .inr (4, [.ref d0, .ref p0]))] ++ wX1 Θ d0 d1 d2 d3 d_columns d_rows d_carrier d_partMarks d_linkMarks d_operations d_pilots d_settings d_facts d_cells ++ wX3 Θ p0 p1 p2 p3 p_pitches p_spoiled p_cells p_bends p_offsets p_strokes p_goodParts p_badParts p_slugs ++ [(on0, .inr (4, [.ref od0, .ref op0]))] ++ wX1 Θ od0 od1 od2 od3 od_columns od_rows od_carrier od_partMarks od_linkMarks od_operations od_pilots od_settings od_facts od_cells ++ wX3 Θ op0 op1 op2 op3 op_pitches op_spoiled op_cells op_bends op_offsets op_strokes op_goodParts op_badParts op_slugs)
  refine sw_aload_n 0 G dX4_copyFrom_0 0 rfl ?_
  refine sw_get 1 G hnX4 0 0 dX4_copyFrom_1 vc4 (by decide) (List.mem_cons_of_mem _ lk_0f75c8f8) rfl rfl ?_
  refine sw_aload_n 4 G dX4_copyFrom_4 1 rfl ?_
  refine sw_get 5 G hnX4 9 0 dX4_copyFrom_5 vc4 (by decide) (List.mem_cons_of_mem _ lk_0f75c8f8) rfl rfl ?_
  obtain ⟨u1, u2, u3, u4, u5, u6, u7, u8, u9, u10, hg, hf⟩ := bd10_some hf
  refine sw_callV 8 G ([(n0, .inr (4, [.ref d0, .ref p0]))] ++ wX1 Θ d0 d1 d2 d3 u1 u2 u3 u4 u5 u6 u7 u8 u9 u10 ++ wX3 Θ p0 p1 p2 p3 p_pitches p_spoiled p_cells p_bends p_offsets p_strokes p_goodParts p_badParts p_slugs ++ [(on0, .inr (4, [.ref od0, .ref op0]))] ++ wX1 Θ od0 od1 od2 od3 od_columns od_rows od_carrier od_partMarks od_linkMarks od_operations od_pilots od_settings od_facts od_cells ++ wX3 Θ op0 op1 op2 op3 op_pitches op_spoiled op_cells op_bends op_offsets op_strokes op_goodParts op_badParts op_slugs) [1, 2, 3, 4, 10, 11, 12, 13] [0, 5, 6, 7, 8, 9, 14, 15, 16, 17] [0, 10, 11, 12, 13, 1, 2, 3, 4, 5, 14, 15, 16, 17, 6, 7, 8, 9] 1 dX4_copyFrom_8 (kX1_copyFrom Θ F d0 d1 d2 d3 od0 od1 od2 od3 d_columns d_rows d_carrier d_partMarks d_linkMarks d_operations d_pilots d_settings d_facts d_cells od_columns od_rows od_carrier od_partMarks od_linkMarks od_operations od_pilots od_settings od_facts od_cells u1 u2 u3 u4 u5 u6 u7 u8 u9 u10 hg) (gwV lk_cc2a4593 lk_be021d1a lk_b3b57f19 lk_cf66e99d lk_a8e212df) rfl hvX1_copyFrom ⟨rfl, rfl⟩ ⟨Nat.le_of_ble_eq_true rfl, Nat.le_of_ble_eq_true rfl⟩ ⟨Nat.zero_le _, Nat.zero_le _⟩ rfl rfl (Nat.le_of_ble_eq_true rfl) 0 rfl vc1 rfl rfl rfl rfl (by decide) ?_
  refine sw_aload_n 11 G dX4_copyFrom_11 0 rfl ?_
  refine sw_get 12 G hnX4 0 1 dX4_copyFrom_12 vc4 (by decide) (List.mem_cons_of_mem _ lk_23ab8fcd) rfl rfl ?_
  refine sw_aload_n 15 G dX4_copyFrom_15 1 rfl ?_
  refine sw_get 16 G hnX4 9 1 dX4_copyFrom_16 vc4 (by decide) (List.mem_cons_of_mem _ lk_23ab8fcd) rfl rfl ?_
  obtain ⟨u11, u12, u13, u14, u15, u16, u17, u18, u19, hg, hf⟩ := bd9_some hf
  refine sw_callV 19 G ([(n0, .inr (4, [.ref d0, .ref p0]))] ++ wX1 Θ d0 d1 d2 d3 u1 u2 u3 u4 u5 u6 u7 u8 u9 u10 ++ wX3 Θ p0 p1 p2 p3 u11 u12 u13 u14 u15 u16 u17 u18 u19 ++ [(on0, .inr (4, [.ref od0, .ref op0]))] ++ wX1 Θ od0 od1 od2 od3 od_columns od_rows od_carrier od_partMarks od_linkMarks od_operations od_pilots od_settings od_facts od_cells ++ wX3 Θ op0 op1 op2 op3 op_pitches op_spoiled op_cells op_bends op_offsets op_strokes op_goodParts op_badParts op_slugs) [5, 6, 7, 8, 14, 15, 16, 17] [0, 1, 2, 3, 4, 9, 10, 11, 12, 13] [0, 1, 2, 3, 4, 10, 11, 12, 13, 5, 6, 7, 8, 9, 14, 15, 16, 17] 1 dX4_copyFrom_19 (kX3_copyFrom Θ F p0 p1 p2 p3 op0 op1 op2 op3 p_pitches p_spoiled p_cells p_bends p_offsets p_strokes p_goodParts p_badParts p_slugs op_pitches op_spoiled op_cells op_bends op_offsets op_strokes op_goodParts op_badParts op_slugs u11 u12 u13 u14 u15 u16 u17 u18 u19 hg) (gwV lk_c503e9c0 lk_3ed287fb lk_2e527ba2 lk_106b7259 lk_944aba6b) rfl hvX3_copyFrom ⟨rfl, rfl⟩ ⟨Nat.le_of_ble_eq_true rfl, Nat.le_of_ble_eq_true rfl⟩ ⟨Nat.zero_le _, Nat.zero_le _⟩ rfl rfl (Nat.le_of_ble_eq_true rfl) 0 rfl vc3 rfl rfl rfl rfl (by decide) ?_
  cases hf
  exact sw_vret 22 G dX4_copyFrom_22 K
abbrev rmX5_startOver : Room := { frames := 3, cells := 0, slots := 0, locals := 61 }
theorem hvX5_startOver : yX5_startOver.cls = RX5 ∧ yX5_startOver.cls ≠ "java/lang/invoke/MethodHandle" ∧ yX5_startOver.cls ≠ "java/lang/invoke/VarHandle" ∧ (parseMethodDescriptor yX5_startOver.desc).map (fun d => d.parameters.length) = some 2 := by decide +kernel
set_option maxRecDepth 100000 in
set_option maxHeartbeats 4000000 in
theorem kX5_startOver (Θ : Tht) (x0 n0 d0 d1 d2 d3 p0 p1 p2 p3 v0 t0 l0 c0 : Nat) (x_oldestSaved : Int32) (x_savedStates : Int32) (d_columns : Int32) (d_rows : Int32) (d_carrier : Int32) (d_partMarks : Int64) (d_linkMarks : Int64) (d_operations : Int32) (d_pilots : Int32) (d_settings : Nat → Int32) (d_facts : Nat → Int32) (d_cells : Nat → Int64) (p_pitches : Int32) (p_spoiled : Int32) (p_cells : Nat → Int64) (p_bends : Nat → Int32) (p_offsets : Nat → Int32) (p_strokes : Int32) (p_goodParts : Int32) (p_badParts : Int32) (p_slugs : Int32) (a0 : Int32) (a1 : Int32) (o_d_columns : Int32) (o_d_rows : Int32) (o_d_partMarks : Int64) (o_d_linkMarks : Int64) (o_d_operations : Int32) (o_d_pilots : Int32) (o_p_pitches : Int32) (o_p_spoiled : Int32) (o_p_strokes : Int32) (o_p_goodParts : Int32) (o_p_badParts : Int32) (o_p_slugs : Int32) (hf : fX5_startOver p_pitches a0 a1 = some (o_d_columns, o_d_rows, o_d_partMarks, o_d_linkMarks, o_d_operations, o_d_pilots, o_p_pitches, o_p_spoiled, o_p_strokes, o_p_goodParts, o_p_badParts, o_p_slugs)) : Fn Θ yX5_startOver (Cond.code yX5_startOver cX5_startOver 3 none :: GW) rmX5_startOver [.ref x0, .int a0, .int a1] ([(x0, .inr (5, [.ref n0, .ref v0, .int x_oldestSaved, .int x_savedStates, .ref t0, .ref l0, .ref c0]))] ++ [(n0, .inr (4, [.ref d0, .ref p0]))] ++ wX1 Θ d0 d1 d2 d3 d_columns d_rows d_carrier d_partMarks d_linkMarks d_operations d_pilots d_settings d_facts d_cells ++ wX3 Θ p0 p1 p2 p3 p_pitches p_spoiled p_cells p_bends p_offsets p_strokes p_goodParts p_badParts p_slugs) none ([(x0, .inr (5, [.ref n0, .ref v0, .int x_oldestSaved, .int x_savedStates, .ref t0, .ref l0, .ref c0]))] ++ [(n0, .inr (4, [.ref d0, .ref p0]))] ++ wX1 Θ d0 d1 d2 d3 o_d_columns o_d_rows d_carrier o_d_partMarks o_d_linkMarks o_d_operations o_d_pilots d_settings d_facts d_cells ++ wX3 Θ p0 p1 p2 p3 o_p_pitches o_p_spoiled p_cells p_bends p_offsets o_p_strokes o_p_goodParts o_p_badParts o_p_slugs) := by
  delta fX5_startOver at hf
  refine Fn.of (by decide +kernel) rfl (Nat.le_of_ble_eq_true rfl) (fun p e s m args below meth c A Q G K => ?_)
  show sw Θ p e rmX5_startOver s m args below meth c A Q 3 0 0 0 [(0, .ref x0), (1, .int a0), (2, .int a1)] [] ([(x0, .inr (5, [.ref n0, .ref v0, .int x_oldestSaved, .int x_savedStates, .ref t0, .ref l0, .ref c0]))] ++ [(n0, .inr (4, [.ref d0, .ref p0]))] ++ wX1 Θ d0 d1 d2 d3 d_columns d_rows d_carrier d_partMarks d_linkMarks d_operations d_pilots d_settings d_facts d_cells ++ wX3 Θ p0 p1 p2 p3 p_pitches p_spoiled p_cells p_bends p_offsets p_strokes p_goodParts p_badParts p_slugs)
  refine sw_aload_n 0 G dX5_startOver_0 0 rfl ?_
  refine sw_get 1 G hnX5 0 0 dX5_startOver_1 vc5 (by decide) (List.mem_cons_of_mem _ lk_c6576e33) rfl rfl ?_
  refine sw_get 4 G hnX4 1 0 dX5_startOver_4 vc4 (by decide) (List.mem_cons_of_mem _ lk_b490f9e6) rfl rfl ?_
  refine sw_iload_n 7 G dX5_startOver_7 1 rfl ?_
  refine sw_iload_n 8 G dX5_startOver_8 2 rfl ?_
  obtain ⟨u1, u2, u3, u4, u5, u6, hg, hf⟩ := bd6_some hf
  refine sw_callV 9 G ([(x0, .inr (5, [.ref n0, .ref v0, .int x_oldestSaved, .int x_savedStates, .ref t0, .ref l0, .ref c0]))] ++ [(n0, .inr (4, [.ref d0, .ref p0]))] ++ wX1 Θ d0 d1 d2 d3 u1 u2 d_carrier u3 u4 u5 u6 d_settings d_facts d_cells ++ wX3 Θ p0 p1 p2 p3 p_pitches p_spoiled p_cells p_bends p_offsets p_strokes p_goodParts p_badParts p_slugs) [2, 3, 4, 5] [0, 1, 6, 7, 8, 9] [0, 1, 6, 7, 8, 9, 2, 3, 4, 5] 2 dX5_startOver_9 (kX1_startOver Θ d0 d1 d2 d3 d_columns d_rows d_carrier d_partMarks d_linkMarks d_operations d_pilots d_settings d_facts d_cells a0 a1 u1 u2 u3 u4 u5 u6 hg) (gwV lk_cfc93d1e lk_076e5058 lk_d5455e9e lk_cf66e99d lk_37e255a5) rfl hvX1_startOver ⟨rfl, rfl⟩ ⟨Nat.le_of_ble_eq_true rfl, Nat.le_of_ble_eq_true rfl⟩ ⟨Nat.zero_le _, Nat.zero_le _⟩ rfl rfl (Nat.le_of_ble_eq_true rfl) 0 rfl vc1 rfl rfl rfl rfl (by decide) ?_
  refine sw_aload_n 12 G dX5_startOver_12 0 rfl ?_
  refine sw_get 13 G hnX5 0 0 dX5_startOver_13 vc5 (by decide) (List.mem_cons_of_mem _ lk_c6576e33) rfl rfl ?_
  refine sw_get 16 G hnX4 1 1 dX5_startOver_16 vc4 (by decide) (List.mem_cons_of_mem _ lk_3ac9de3e) rfl rfl ?_
  obtain ⟨u7, u8, u9, u10, u11, u12, hg, hf⟩ := bd6_some hf
  refine sw_callV 19 G ([(x0, .inr (5, [.ref n0, .ref v0, .int x_oldestSaved, .int x_savedStates, .ref t0, .ref l0, .ref c0]))] ++ [(n0, .inr (4, [.ref d0, .ref p0]))] ++ wX1 Θ d0 d1 d2 d3 u1 u2 d_carrier u3 u4 u5 u6 d_settings d_facts d_cells ++ wX3 Θ p0 p1 p2 p3 u7 u8 p_cells p_bends p_offsets u9 u10 u11 u12) [6, 7, 8, 9] [0, 1, 2, 3, 4, 5] [0, 1, 2, 3, 4, 5, 6, 7, 8, 9] 0 dX5_startOver_19 (kX3_startOver Θ p0 p1 p2 p3 p_pitches p_spoiled p_cells p_bends p_offsets p_strokes p_goodParts p_badParts p_slugs u7 u8 u9 u10 u11 u12 hg) (gwV lk_3b5e6d33 lk_507ed552 lk_8188b3b1 lk_106b7259 lk_481ef626) rfl hvX3_startOver ⟨rfl, rfl⟩ ⟨Nat.le_of_ble_eq_true rfl, Nat.le_of_ble_eq_true rfl⟩ ⟨Nat.zero_le _, Nat.zero_le _⟩ rfl rfl (Nat.le_of_ble_eq_true rfl) 0 rfl vc3 rfl rfl rfl rfl (by decide) ?_
  cases hf
  exact sw_vret 22 G dX5_startOver_22 K
abbrev rmX5_cellSet : Room := { frames := 3, cells := 0, slots := 0, locals := 86 }
theorem hvX5_cellSet : yX5_cellSet.cls = RX5 ∧ yX5_cellSet.cls ≠ "java/lang/invoke/MethodHandle" ∧ yX5_cellSet.cls ≠ "java/lang/invoke/VarHandle" ∧ (parseMethodDescriptor yX5_cellSet.desc).map (fun d => d.parameters.length) = some 1 := by decide +kernel
set_option maxRecDepth 100000 in
set_option maxHeartbeats 4000000 in
theorem kX5_cellSet (Θ : Tht) (F : Nat) (x0 n0 d0 d1 d2 d3 v0 t0 l0 c0 p0 : Nat) (x_oldestSaved : Int32) (x_savedStates : Int32) (d_columns : Int32) (d_rows : Int32) (d_carrier : Int32) (d_partMarks : Int64) (d_linkMarks : Int64) (d_operations : Int32) (d_pilots : Int32) (d_settings : Nat → Int32) (d_facts : Nat → Int32) (d_cells : Nat → Int64) (a0 : Int32) (ro : Int64) (hf : fX5_cellSet F d_columns d_rows d_carrier d_partMarks d_linkMarks d_operations d_facts d_cells a0 = some ro) : Fn Θ yX5_cellSet (Cond.code yX5_cellSet cX5_cellSet 2 (some .long) :: GW) rmX5_cellSet [.ref x0, .int a0] ([(x0, .inr (5, [.ref n0, .ref v0, .int x_oldestSaved, .int x_savedStates, .ref t0, .ref l0, .ref c0]))] ++ [(n0, .inr (4, [.ref d0, .ref p0]))] ++ wX1 Θ d0 d1 d2 d3 d_columns d_rows d_carrier d_partMarks d_linkMarks d_operations d_pilots d_settings d_facts d_cells) (some (.long ro)) ([(x0, .inr (5, [.ref n0, .ref v0, .int x_oldestSaved, .int x_savedStates, .ref t0, .ref l0, .ref c0]))] ++ [(n0, .inr (4, [.ref d0, .ref p0]))] ++ wX1 Θ d0 d1 d2 d3 d_columns d_rows d_carrier d_partMarks d_linkMarks d_operations d_pilots d_settings d_facts d_cells) := by
  delta fX5_cellSet at hf
  refine Fn.of (by decide +kernel) rfl (Nat.le_of_ble_eq_true rfl) (fun p e s m args below meth c A Q G K => ?_)
  show sw Θ p e rmX5_cellSet s m args below meth c A Q 2 0 0 0 [(0, .ref x0), (1, .int a0)] [] ([(x0, .inr (5, [.ref n0, .ref v0, .int x_oldestSaved, .int x_savedStates, .ref t0, .ref l0, .ref c0]))] ++ [(n0, .inr (4, [.ref d0, .ref p0]))] ++ wX1 Θ d0 d1 d2 d3 d_columns d_rows d_carrier d_partMarks d_linkMarks d_operations d_pilots d_settings d_facts d_cells)
  refine sw_iload_n 0 G dX5_cellSet_0 1 rfl ?_
  refine sw_tsw 1 107 G dX5_cellSet_1 rfl hf (fun hf => ?_) (fun j hj hf => ?_)
  · cases hf
  · rcases (show j = 0 ∨ j = 1 ∨ j = 2 ∨ j = 3 ∨ j = 4 ∨ j = 5 by omega) with rfl | rfl | rfl | rfl | rfl | rfl
    · refine ⟨39, 40, rfl, rfl, ?_⟩
      have hf := tc_0 hf
      refine sw_aload_n 40 G dX5_cellSet_40 0 rfl ?_
      refine sw_get 41 G hnX5 0 0 dX5_cellSet_41 vc5 (by decide) (List.mem_cons_of_mem _ lk_c6576e33) rfl rfl ?_
      refine sw_get 44 G hnX4 1 0 dX5_cellSet_44 vc4 (by decide) (List.mem_cons_of_mem _ lk_b490f9e6) rfl rfl ?_
      obtain ⟨r1, hg, hf⟩ := bd1_some hf
      refine sw_callV 47 G ([(x0, .inr (5, [.ref n0, .ref v0, .int x_oldestSaved, .int x_savedStates, .ref t0, .ref l0, .ref c0]))] ++ [(n0, .inr (4, [.ref d0, .ref p0]))] ++ wX1 Θ d0 d1 d2 d3 d_columns d_rows d_carrier d_partMarks d_linkMarks d_operations d_pilots d_settings d_facts d_cells) [2, 3, 4, 5] [0, 1] [0, 1, 2, 3, 4, 5] 0 dX5_cellSet_47 (kX1_partCells Θ d0 d1 d2 d3 d_columns d_rows d_carrier d_partMarks d_linkMarks d_operations d_pilots d_settings d_facts d_cells r1 hg) (gwV lk_489fbd0f lk_c137cc36 lk_24905df5 lk_cf66e99d lk_e39ae260) rfl hvX1_partCells ⟨rfl, rfl⟩ ⟨Nat.le_of_ble_eq_true rfl, Nat.le_of_ble_eq_true rfl⟩ ⟨Nat.zero_le _, Nat.zero_le _⟩ rfl rfl (Nat.le_of_ble_eq_true rfl) 0 rfl vc1 rfl rfl rfl rfl (by decide) ?_
      cases hf
      exact sw_lret 50 G dX5_cellSet_50 K
    · refine ⟨50, 51, rfl, rfl, ?_⟩
      have hf := tc_1 hf
      refine sw_aload_n 51 G dX5_cellSet_51 0 rfl ?_
      refine sw_get 52 G hnX5 0 0 dX5_cellSet_52 vc5 (by decide) (List.mem_cons_of_mem _ lk_c6576e33) rfl rfl ?_
      refine sw_get 55 G hnX4 1 0 dX5_cellSet_55 vc4 (by decide) (List.mem_cons_of_mem _ lk_b490f9e6) rfl rfl ?_
      obtain ⟨r2, hg, hf⟩ := bd1_some hf
      refine sw_callV 58 G ([(x0, .inr (5, [.ref n0, .ref v0, .int x_oldestSaved, .int x_savedStates, .ref t0, .ref l0, .ref c0]))] ++ [(n0, .inr (4, [.ref d0, .ref p0]))] ++ wX1 Θ d0 d1 d2 d3 d_columns d_rows d_carrier d_partMarks d_linkMarks d_operations d_pilots d_settings d_facts d_cells) [2, 3, 4, 5] [0, 1] [0, 1, 2, 3, 4, 5] 0 dX5_cellSet_58 (kX1_linkCells Θ d0 d1 d2 d3 d_columns d_rows d_carrier d_partMarks d_linkMarks d_operations d_pilots d_settings d_facts d_cells r2 hg) (gwV lk_465a6537 lk_7f41af12 lk_aa25bded lk_cf66e99d lk_d7dcb1b0) rfl hvX1_linkCells ⟨rfl, rfl⟩ ⟨Nat.le_of_ble_eq_true rfl, Nat.le_of_ble_eq_true rfl⟩ ⟨Nat.zero_le _, Nat.zero_le _⟩ rfl rfl (Nat.le_of_ble_eq_true rfl) 0 rfl vc1 rfl rfl rfl rfl (by decide) ?_
      cases hf
      exact sw_lret 61 G dX5_cellSet_61 K
    · refine ⟨61, 62, rfl, rfl, ?_⟩
      have hf := tc_2 hf
      refine sw_aload_n 62 G dX5_cellSet_62 0 rfl ?_
      refine sw_get 63 G hnX5 0 0 dX5_cellSet_63 vc5 (by decide) (List.mem_cons_of_mem _ lk_c6576e33) rfl rfl ?_
      refine sw_get 66 G hnX4 1 0 dX5_cellSet_66 vc4 (by decide) (List.mem_cons_of_mem _ lk_b490f9e6) rfl rfl ?_
      obtain ⟨r3, hg, hf⟩ := bd1_some hf
      refine sw_callV 69 G ([(x0, .inr (5, [.ref n0, .ref v0, .int x_oldestSaved, .int x_savedStates, .ref t0, .ref l0, .ref c0]))] ++ [(n0, .inr (4, [.ref d0, .ref p0]))] ++ wX1 Θ d0 d1 d2 d3 d_columns d_rows d_carrier d_partMarks d_linkMarks d_operations d_pilots d_settings d_facts d_cells) [2, 3, 4, 5] [0, 1] [0, 1, 2, 3, 4, 5] 0 dX5_cellSet_69 (kX1_carrierCells Θ d0 d1 d2 d3 d_columns d_rows d_carrier d_partMarks d_linkMarks d_operations d_pilots d_settings d_facts d_cells r3 hg) (gwV lk_3c7e3d62 lk_447df895 lk_ce1f32b3 lk_cf66e99d lk_03889728) rfl hvX1_carrierCells ⟨rfl, rfl⟩ ⟨Nat.le_of_ble_eq_true rfl, Nat.le_of_ble_eq_true rfl⟩ ⟨Nat.zero_le _, Nat.zero_le _⟩ rfl rfl (Nat.le_of_ble_eq_true rfl) 0 rfl vc1 rfl rfl rfl rfl (by decide) ?_
      cases hf
      exact sw_lret 72 G dX5_cellSet_72 K
    · refine ⟨72, 73, rfl, rfl, ?_⟩
      have hf := tc_3 hf
      refine sw_aload_n 73 G dX5_cellSet_73 0 rfl ?_
      refine sw_get 74 G hnX5 0 0 dX5_cellSet_74 vc5 (by decide) (List.mem_cons_of_mem _ lk_c6576e33) rfl rfl ?_
      refine sw_get 77 G hnX4 1 0 dX5_cellSet_77 vc4 (by decide) (List.mem_cons_of_mem _ lk_b490f9e6) rfl rfl ?_
      refine sw_iconst 80 G (0 : Int32) dX5_cellSet_80 rfl ?_
      obtain ⟨r4, hg, hf⟩ := bd1_some hf
      refine sw_callV 81 G ([(x0, .inr (5, [.ref n0, .ref v0, .int x_oldestSaved, .int x_savedStates, .ref t0, .ref l0, .ref c0]))] ++ [(n0, .inr (4, [.ref d0, .ref p0]))] ++ wX1 Θ d0 d1 d2 d3 d_columns d_rows d_carrier d_partMarks d_linkMarks d_operations d_pilots d_settings d_facts d_cells) [2, 3, 4, 5] [0, 1] [0, 1, 2, 3, 4, 5] 1 dX5_cellSet_81 (kX1_cellsOfKind Θ F d0 d1 d2 d3 d_columns d_rows d_carrier d_partMarks d_linkMarks d_operations d_pilots d_settings d_facts d_cells (0 : Int32) r4 hg) (gwV lk_253e5515 lk_0f6337fc lk_1dbc5789 lk_cf66e99d lk_9bdedb27) rfl hvX1_cellsOfKind ⟨rfl, rfl⟩ ⟨Nat.le_of_ble_eq_true rfl, Nat.le_of_ble_eq_true rfl⟩ ⟨Nat.zero_le _, Nat.zero_le _⟩ rfl rfl (Nat.le_of_ble_eq_true rfl) 0 rfl vc1 rfl rfl rfl rfl (by decide) ?_
      cases hf
      exact sw_lret 84 G dX5_cellSet_84 K
    · refine ⟨84, 85, rfl, rfl, ?_⟩
      have hf := tc_4 hf
      refine sw_aload_n 85 G dX5_cellSet_85 0 rfl ?_
      refine sw_get 86 G hnX5 0 0 dX5_cellSet_86 vc5 (by decide) (List.mem_cons_of_mem _ lk_c6576e33) rfl rfl ?_
      refine sw_get 89 G hnX4 1 0 dX5_cellSet_89 vc4 (by decide) (List.mem_cons_of_mem _ lk_b490f9e6) rfl rfl ?_
      obtain ⟨r5, hg, hf⟩ := bd1_some hf
      refine sw_callV 92 G ([(x0, .inr (5, [.ref n0, .ref v0, .int x_oldestSaved, .int x_savedStates, .ref t0, .ref l0, .ref c0]))] ++ [(n0, .inr (4, [.ref d0, .ref p0]))] ++ wX1 Θ d0 d1 d2 d3 d_columns d_rows d_carrier d_partMarks d_linkMarks d_operations d_pilots d_settings d_facts d_cells) [2, 3, 4, 5] [0, 1] [0, 1, 2, 3, 4, 5] 0 dX5_cellSet_92 (kX1_forgottenCells Θ F d0 d1 d2 d3 d_columns d_rows d_carrier d_partMarks d_linkMarks d_operations d_pilots d_settings d_facts d_cells r5 hg) (gwV lk_9b1e2633 lk_80cb1769 lk_6663014f lk_cf66e99d lk_5ec6c11a) rfl hvX1_forgottenCells ⟨rfl, rfl⟩ ⟨Nat.le_of_ble_eq_true rfl, Nat.le_of_ble_eq_true rfl⟩ ⟨Nat.zero_le _, Nat.zero_le _⟩ rfl rfl (Nat.le_of_ble_eq_true rfl) 0 rfl vc1 rfl rfl rfl rfl (by decide) ?_
      cases hf
      exact sw_lret 95 G dX5_cellSet_95 K
    · refine ⟨95, 96, rfl, rfl, ?_⟩
      have hf := tc_5 hf
      refine sw_aload_n 96 G dX5_cellSet_96 0 rfl ?_
      refine sw_get 97 G hnX5 0 0 dX5_cellSet_97 vc5 (by decide) (List.mem_cons_of_mem _ lk_c6576e33) rfl rfl ?_
      refine sw_get 100 G hnX4 1 0 dX5_cellSet_100 vc4 (by decide) (List.mem_cons_of_mem _ lk_b490f9e6) rfl rfl ?_
      obtain ⟨r6, hg, hf⟩ := bd1_some hf
      refine sw_callV 103 G ([(x0, .inr (5, [.ref n0, .ref v0, .int x_oldestSaved, .int x_savedStates, .ref t0, .ref l0, .ref c0]))] ++ [(n0, .inr (4, [.ref d0, .ref p0]))] ++ wX1 Θ d0 d1 d2 d3 d_columns d_rows d_carrier d_partMarks d_linkMarks d_operations d_pilots d_settings d_facts d_cells) [2, 3, 4, 5] [0, 1] [0, 1, 2, 3, 4, 5] 0 dX5_cellSet_103 (kX1_looseCells Θ F d0 d1 d2 d3 d_columns d_rows d_carrier d_partMarks d_linkMarks d_operations d_pilots d_settings d_facts d_cells r6 hg) (gwV lk_956de946 lk_966126ed lk_5701239d lk_cf66e99d lk_6d4184c7) rfl hvX1_looseCells ⟨rfl, rfl⟩ ⟨Nat.le_of_ble_eq_true rfl, Nat.le_of_ble_eq_true rfl⟩ ⟨Nat.zero_le _, Nat.zero_le _⟩ rfl rfl (Nat.le_of_ble_eq_true rfl) 0 rfl vc1 rfl rfl rfl rfl (by decide) ?_
      cases hf
      exact sw_lret 106 G dX5_cellSet_106 K
abbrev rmX5_operation : Room := { frames := 3, cells := 0, slots := 0, locals := 84 }
theorem hvX5_operation : yX5_operation.cls = RX5 ∧ yX5_operation.cls ≠ "java/lang/invoke/MethodHandle" ∧ yX5_operation.cls ≠ "java/lang/invoke/VarHandle" ∧ (parseMethodDescriptor yX5_operation.desc).map (fun d => d.parameters.length) = some 2 := by decide +kernel
set_option maxRecDepth 100000 in
set_option maxHeartbeats 4000000 in
theorem kX5_operation (Θ : Tht) (F : Nat) (x0 n0 d0 d1 d2 d3 v0 t0 l0 c0 p0 : Nat) (x_oldestSaved : Int32) (x_savedStates : Int32) (d_columns : Int32) (d_rows : Int32) (d_carrier : Int32) (d_partMarks : Int64) (d_linkMarks : Int64) (d_operations : Int32) (d_pilots : Int32) (d_settings : Nat → Int32) (d_facts : Nat → Int32) (d_cells : Nat → Int64) (a0 : Int32) (a1 : Int32) (ro : Int32) (hf : fX5_operation F d_columns d_rows d_operations d_facts d_cells a0 a1 = some ro) : Fn Θ yX5_operation (Cond.code yX5_operation cX5_operation 3 (some .int) :: GW) rmX5_operation [.ref x0, .int a0, .int a1] ([(x0, .inr (5, [.ref n0, .ref v0, .int x_oldestSaved, .int x_savedStates, .ref t0, .ref l0, .ref c0]))] ++ [(n0, .inr (4, [.ref d0, .ref p0]))] ++ wX1 Θ d0 d1 d2 d3 d_columns d_rows d_carrier d_partMarks d_linkMarks d_operations d_pilots d_settings d_facts d_cells) (some (.int ro)) ([(x0, .inr (5, [.ref n0, .ref v0, .int x_oldestSaved, .int x_savedStates, .ref t0, .ref l0, .ref c0]))] ++ [(n0, .inr (4, [.ref d0, .ref p0]))] ++ wX1 Θ d0 d1 d2 d3 d_columns d_rows d_carrier d_partMarks d_linkMarks d_operations d_pilots d_settings d_facts d_cells) := by
  delta fX5_operation at hf
  refine Fn.of (by decide +kernel) rfl (Nat.le_of_ble_eq_true rfl) (fun p e s m args below meth c A Q G K => ?_)
  show sw Θ p e rmX5_operation s m args below meth c A Q 3 0 0 0 [(0, .ref x0), (1, .int a0), (2, .int a1)] [] ([(x0, .inr (5, [.ref n0, .ref v0, .int x_oldestSaved, .int x_savedStates, .ref t0, .ref l0, .ref c0]))] ++ [(n0, .inr (4, [.ref d0, .ref p0]))] ++ wX1 Θ d0 d1 d2 d3 d_columns d_rows d_carrier d_partMarks d_linkMarks d_operations d_pilots d_settings d_facts d_cells)
  refine sw_aload_n 0 G dX5_operation_0 0 rfl ?_
  refine sw_get 1 G hnX5 0 0 dX5_operation_1 vc5 (by decide) (List.mem_cons_of_mem _ lk_c6576e33) rfl rfl ?_
  refine sw_get 4 G hnX4 1 0 dX5_operation_4 vc4 (by decide) (List.mem_cons_of_mem _ lk_b490f9e6) rfl rfl ?_
  refine sw_iload_n 7 G dX5_operation_7 1 rfl ?_
  obtain ⟨r1, hg, hf⟩ := bd1_some hf
  refine sw_callV 8 G ([(x0, .inr (5, [.ref n0, .ref v0, .int x_oldestSaved, .int x_savedStates, .ref t0, .ref l0, .ref c0]))] ++ [(n0, .inr (4, [.ref d0, .ref p0]))] ++ wX1 Θ d0 d1 d2 d3 d_columns d_rows d_carrier d_partMarks d_linkMarks d_operations d_pilots d_settings d_facts d_cells) [2, 3, 4, 5] [0, 1] [0, 1, 2, 3, 4, 5] 1 dX5_operation_8 (kX1_hasOperation Θ d0 d1 d2 d3 d_columns d_rows d_carrier d_partMarks d_linkMarks d_operations d_pilots d_settings d_facts d_cells a0 r1 hg) (gwV lk_02fe585c lk_bab4024f lk_df64b95a lk_cf66e99d lk_740542d2) rfl hvX1_hasOperation ⟨rfl, rfl⟩ ⟨Nat.le_of_ble_eq_true rfl, Nat.le_of_ble_eq_true rfl⟩ ⟨Nat.zero_le _, Nat.zero_le _⟩ rfl rfl (Nat.le_of_ble_eq_true rfl) 0 rfl vc1 rfl rfl rfl rfl (by decide) ?_
  refine sw_if_ne 11 24 G dX5_operation_11 rfl hf (fun hf => ?_) (fun hf => ?_)
  · refine sw_iload_n 24 G dX5_operation_24 2 rfl ?_
    refine sw_if_lt 25 34 G dX5_operation_25 rfl hf (fun hf => ?_) (fun hf => ?_)
    · cases hf
    · refine sw_iload_n 28 G dX5_operation_28 2 rfl ?_
      refine sw_bipush 29 G (7 : Int32) dX5_operation_29 rfl ?_
      refine sw_icmp_le 31 44 G dX5_operation_31 rfl hf (fun hf => ?_) (fun hf => ?_)
      · refine sw_iload_n 44 G dX5_operation_44 2 rfl ?_
        refine sw_bipush 45 G (7 : Int32) dX5_operation_45 rfl ?_
        refine sw_icmp_ne 47 64 G dX5_operation_47 rfl hf (fun hf => ?_) (fun hf => ?_)
        · refine sw_aload_n 64 G dX5_operation_64 0 rfl ?_
          refine sw_get 65 G hnX5 0 0 dX5_operation_65 vc5 (by decide) (List.mem_cons_of_mem _ lk_c6576e33) rfl rfl ?_
          refine sw_get 68 G hnX4 1 0 dX5_operation_68 vc4 (by decide) (List.mem_cons_of_mem _ lk_b490f9e6) rfl rfl ?_
          refine sw_iload_n 71 G dX5_operation_71 1 rfl ?_
          refine sw_iload_n 72 G dX5_operation_72 2 rfl ?_
          obtain ⟨r2, hg, hf⟩ := bd1_some hf
          refine sw_callV 73 G ([(x0, .inr (5, [.ref n0, .ref v0, .int x_oldestSaved, .int x_savedStates, .ref t0, .ref l0, .ref c0]))] ++ [(n0, .inr (4, [.ref d0, .ref p0]))] ++ wX1 Θ d0 d1 d2 d3 d_columns d_rows d_carrier d_partMarks d_linkMarks d_operations d_pilots d_settings d_facts d_cells) [2, 3, 4, 5] [0, 1] [0, 1, 2, 3, 4, 5] 2 dX5_operation_73 (kX1_fact Θ d0 d1 d2 d3 d_columns d_rows d_carrier d_partMarks d_linkMarks d_operations d_pilots d_settings d_facts d_cells a0 a1 r2 hg) (gwV lk_7da35f5b lk_e025dfb3 lk_773339a1 lk_cf66e99d lk_334ef9fb) rfl hvX1_fact ⟨rfl, rfl⟩ ⟨Nat.le_of_ble_eq_true rfl, Nat.le_of_ble_eq_true rfl⟩ ⟨Nat.zero_le _, Nat.zero_le _⟩ rfl rfl (Nat.le_of_ble_eq_true rfl) 0 rfl vc1 rfl rfl rfl rfl (by decide) ?_
          cases hf
          exact sw_iret 76 G dX5_operation_76 K
        · refine sw_aload_n 50 G dX5_operation_50 0 rfl ?_
          refine sw_get 51 G hnX5 0 0 dX5_operation_51 vc5 (by decide) (List.mem_cons_of_mem _ lk_c6576e33) rfl rfl ?_
          refine sw_get 54 G hnX4 1 0 dX5_operation_54 vc4 (by decide) (List.mem_cons_of_mem _ lk_b490f9e6) rfl rfl ?_
          refine sw_iload_n 57 G dX5_operation_57 1 rfl ?_
          obtain ⟨r3, hg, hf⟩ := bd1_some hf
          refine sw_callV 58 G ([(x0, .inr (5, [.ref n0, .ref v0, .int x_oldestSaved, .int x_savedStates, .ref t0, .ref l0, .ref c0]))] ++ [(n0, .inr (4, [.ref d0, .ref p0]))] ++ wX1 Θ d0 d1 d2 d3 d_columns d_rows d_carrier d_partMarks d_linkMarks d_operations d_pilots d_settings d_facts d_cells) [2, 3, 4, 5] [0, 1] [0, 1, 2, 3, 4, 5] 1 dX5_operation_58 (kX1_touching Θ F d0 d1 d2 d3 d_columns d_rows d_carrier d_partMarks d_linkMarks d_operations d_pilots d_settings d_facts d_cells a0 r3 hg) (gwV lk_3fc5db96 lk_fbf09312 lk_32ac6146 lk_cf66e99d lk_4d7935db) rfl hvX1_touching ⟨rfl, rfl⟩ ⟨Nat.le_of_ble_eq_true rfl, Nat.le_of_ble_eq_true rfl⟩ ⟨Nat.zero_le _, Nat.zero_le _⟩ rfl rfl (Nat.le_of_ble_eq_true rfl) 0 rfl vc1 rfl rfl rfl rfl (by decide) ?_
          refine sw_goto 61 G 76 dX5_operation_61 rfl ?_
          cases hf
          exact sw_iret 76 G dX5_operation_76 K
      · cases hf
  · cases hf
abbrev rmX5_station : Room := { frames := 2, cells := 0, slots := 0, locals := 46 }
theorem hvX5_station : yX5_station.cls = RX5 ∧ yX5_station.cls ≠ "java/lang/invoke/MethodHandle" ∧ yX5_station.cls ≠ "java/lang/invoke/VarHandle" ∧ (parseMethodDescriptor yX5_station.desc).map (fun d => d.parameters.length) = some 2 := by decide +kernel
set_option maxRecDepth 100000 in
set_option maxHeartbeats 4000000 in
theorem kX5_station (Θ : Tht) (F : Nat) (x0 n0 d0 d1 d2 d3 p0 p1 p2 p3 v0 t0 l0 c0 : Nat) (x_oldestSaved : Int32) (x_savedStates : Int32) (d_columns : Int32) (d_rows : Int32) (d_carrier : Int32) (d_partMarks : Int64) (d_linkMarks : Int64) (d_operations : Int32) (d_pilots : Int32) (d_settings : Nat → Int32) (d_facts : Nat → Int32) (d_cells : Nat → Int64) (p_pitches : Int32) (p_spoiled : Int32) (p_cells : Nat → Int64) (p_bends : Nat → Int32) (p_offsets : Nat → Int32) (p_strokes : Int32) (p_goodParts : Int32) (p_badParts : Int32) (p_slugs : Int32) (a0 : Int32) (a1 : Int32) (ro : Int32) (hf : fX5_station F d_operations d_pilots d_facts p_pitches a0 a1 = some ro) : Fn Θ yX5_station (Cond.code yX5_station cX5_station 3 (some .int) :: GW) rmX5_station [.ref x0, .int a0, .int a1] ([(x0, .inr (5, [.ref n0, .ref v0, .int x_oldestSaved, .int x_savedStates, .ref t0, .ref l0, .ref c0]))] ++ [(n0, .inr (4, [.ref d0, .ref p0]))] ++ wX1 Θ d0 d1 d2 d3 d_columns d_rows d_carrier d_partMarks d_linkMarks d_operations d_pilots d_settings d_facts d_cells ++ wX3 Θ p0 p1 p2 p3 p_pitches p_spoiled p_cells p_bends p_offsets p_strokes p_goodParts p_badParts p_slugs) (some (.int ro)) ([(x0, .inr (5, [.ref n0, .ref v0, .int x_oldestSaved, .int x_savedStates, .ref t0, .ref l0, .ref c0]))] ++ [(n0, .inr (4, [.ref d0, .ref p0]))] ++ wX1 Θ d0 d1 d2 d3 d_columns d_rows d_carrier d_partMarks d_linkMarks d_operations d_pilots d_settings d_facts d_cells ++ wX3 Θ p0 p1 p2 p3 p_pitches p_spoiled p_cells p_bends p_offsets p_strokes p_goodParts p_badParts p_slugs) := by
  delta fX5_station at hf
  refine Fn.of (by decide +kernel) rfl (Nat.le_of_ble_eq_true rfl) (fun p e s m args below meth c A Q G K => ?_)
  show sw Θ p e rmX5_station s m args below meth c A Q 3 0 0 0 [(0, .ref x0), (1, .int a0), (2, .int a1)] [] ([(x0, .inr (5, [.ref n0, .ref v0, .int x_oldestSaved, .int x_savedStates, .ref t0, .ref l0, .ref c0]))] ++ [(n0, .inr (4, [.ref d0, .ref p0]))] ++ wX1 Θ d0 d1 d2 d3 d_columns d_rows d_carrier d_partMarks d_linkMarks d_operations d_pilots d_settings d_facts d_cells ++ wX3 Θ p0 p1 p2 p3 p_pitches p_spoiled p_cells p_bends p_offsets p_strokes p_goodParts p_badParts p_slugs)
  refine sw_iload_n 0 G dX5_station_0 1 rfl ?_
  obtain ⟨r1, hg, hf⟩ := bd1_some hf
  refine sw_callS 1 G ([(x0, .inr (5, [.ref n0, .ref v0, .int x_oldestSaved, .int x_savedStates, .ref t0, .ref l0, .ref c0]))] ++ [(n0, .inr (4, [.ref d0, .ref p0]))] ++ wX1 Θ d0 d1 d2 d3 d_columns d_rows d_carrier d_partMarks d_linkMarks d_operations d_pilots d_settings d_facts d_cells ++ wX3 Θ p0 p1 p2 p3 p_pitches p_spoiled p_cells p_bends p_offsets p_strokes p_goodParts p_badParts p_slugs) [] [0, 1, 2, 3, 4, 5, 6, 7, 8, 9] [0, 1, 2, 3, 4, 5, 6, 7, 8, 9] 1 dX5_station_1 (kX5_isStation Θ a0 r1 hg) (gwS lk_e51f5f2c lk_69b39882 lk_01b5d93a lk_08337533) rfl hsX5_isStation ⟨rfl, rfl⟩ ⟨Nat.le_of_ble_eq_true rfl, Nat.le_of_ble_eq_true rfl⟩ ⟨Nat.zero_le _, Nat.zero_le _⟩ rfl rfl (Nat.le_of_ble_eq_true rfl) rfl rfl rfl (by decide) ?_
  refine sw_if_ne 4 17 G dX5_station_4 rfl hf (fun hf => ?_) (fun hf => ?_)
  · refine sw_iload_n 17 G dX5_station_17 2 rfl ?_
    refine sw_tsw 18 112 G dX5_station_18 rfl hf (fun hf => ?_) (fun j hj hf => ?_)
    · cases hf
    · rcases (show j = 0 ∨ j = 1 ∨ j = 2 ∨ j = 3 by omega) with rfl | rfl | rfl | rfl
      · refine ⟨30, 48, rfl, rfl, ?_⟩
        have hf := tc_0 hf
        refine sw_aload_n 48 G dX5_station_48 0 rfl ?_
        refine sw_get 49 G hnX5 0 0 dX5_station_49 vc5 (by decide) (List.mem_cons_of_mem _ lk_c6576e33) rfl rfl ?_
        refine sw_get 52 G hnX4 1 0 dX5_station_52 vc4 (by decide) (List.mem_cons_of_mem _ lk_b490f9e6) rfl rfl ?_
        refine sw_iload_n 55 G dX5_station_55 1 rfl ?_
        obtain ⟨r2, hg, hf⟩ := bd1_some hf
        refine sw_callV 56 G ([(x0, .inr (5, [.ref n0, .ref v0, .int x_oldestSaved, .int x_savedStates, .ref t0, .ref l0, .ref c0]))] ++ [(n0, .inr (4, [.ref d0, .ref p0]))] ++ wX1 Θ d0 d1 d2 d3 d_columns d_rows d_carrier d_partMarks d_linkMarks d_operations d_pilots d_settings d_facts d_cells ++ wX3 Θ p0 p1 p2 p3 p_pitches p_spoiled p_cells p_bends p_offsets p_strokes p_goodParts p_badParts p_slugs) [2, 3, 4, 5] [0, 1, 6, 7, 8, 9] [0, 1, 6, 7, 8, 9, 2, 3, 4, 5] 1 dX5_station_56 (kX1_operationsAt Θ F d0 d1 d2 d3 d_columns d_rows d_carrier d_partMarks d_linkMarks d_operations d_pilots d_settings d_facts d_cells a0 r2 hg) (gwV lk_aece8587 lk_755282a1 lk_63c36857 lk_cf66e99d lk_02bf5acd) rfl hvX1_operationsAt ⟨rfl, rfl⟩ ⟨Nat.le_of_ble_eq_true rfl, Nat.le_of_ble_eq_true rfl⟩ ⟨Nat.zero_le _, Nat.zero_le _⟩ rfl rfl (Nat.le_of_ble_eq_true rfl) 0 rfl vc1 rfl rfl rfl rfl (by decide) ?_
        cases hf
        exact sw_iret 59 G dX5_station_59 K
      · refine ⟨42, 60, rfl, rfl, ?_⟩
        have hf := tc_1 hf
        refine sw_aload_n 60 G dX5_station_60 0 rfl ?_
        refine sw_get 61 G hnX5 0 0 dX5_station_61 vc5 (by decide) (List.mem_cons_of_mem _ lk_c6576e33) rfl rfl ?_
        refine sw_get 64 G hnX4 1 0 dX5_station_64 vc4 (by decide) (List.mem_cons_of_mem _ lk_b490f9e6) rfl rfl ?_
        refine sw_iload_n 67 G dX5_station_67 1 rfl ?_
        obtain ⟨r3, hg, hf⟩ := bd1_some hf
        refine sw_callV 68 G ([(x0, .inr (5, [.ref n0, .ref v0, .int x_oldestSaved, .int x_savedStates, .ref t0, .ref l0, .ref c0]))] ++ [(n0, .inr (4, [.ref d0, .ref p0]))] ++ wX1 Θ d0 d1 d2 d3 d_columns d_rows d_carrier d_partMarks d_linkMarks d_operations d_pilots d_settings d_facts d_cells ++ wX3 Θ p0 p1 p2 p3 p_pitches p_spoiled p_cells p_bends p_offsets p_strokes p_goodParts p_badParts p_slugs) [2, 3, 4, 5] [0, 1, 6, 7, 8, 9] [0, 1, 6, 7, 8, 9, 2, 3, 4, 5] 1 dX5_station_68 (kX1_forceAt Θ F d0 d1 d2 d3 d_columns d_rows d_carrier d_partMarks d_linkMarks d_operations d_pilots d_settings d_facts d_cells a0 r3 hg) (gwV lk_8804cf1a lk_9a0099b1 lk_44a81cc4 lk_cf66e99d lk_54499c2d) rfl hvX1_forceAt ⟨rfl, rfl⟩ ⟨Nat.le_of_ble_eq_true rfl, Nat.le_of_ble_eq_true rfl⟩ ⟨Nat.zero_le _, Nat.zero_le _⟩ rfl rfl (Nat.le_of_ble_eq_true rfl) 0 rfl vc1 rfl rfl rfl rfl (by decide) ?_
        cases hf
        exact sw_iret 71 G dX5_station_71 K
      · refine ⟨54, 72, rfl, rfl, ?_⟩
        have hf := tc_2 hf
        refine sw_aload_n 72 G dX5_station_72 0 rfl ?_
        refine sw_get 73 G hnX5 0 0 dX5_station_73 vc5 (by decide) (List.mem_cons_of_mem _ lk_c6576e33) rfl rfl ?_
        refine sw_get 76 G hnX4 1 0 dX5_station_76 vc4 (by decide) (List.mem_cons_of_mem _ lk_b490f9e6) rfl rfl ?_
        refine sw_iload_n 79 G dX5_station_79 1 rfl ?_
        obtain ⟨r4, hg, hf⟩ := bd1_some hf
        refine sw_callV 80 G ([(x0, .inr (5, [.ref n0, .ref v0, .int x_oldestSaved, .int x_savedStates, .ref t0, .ref l0, .ref c0]))] ++ [(n0, .inr (4, [.ref d0, .ref p0]))] ++ wX1 Θ d0 d1 d2 d3 d_columns d_rows d_carrier d_partMarks d_linkMarks d_operations d_pilots d_settings d_facts d_cells ++ wX3 Θ p0 p1 p2 p3 p_pitches p_spoiled p_cells p_bends p_offsets p_strokes p_goodParts p_badParts p_slugs) [2, 3, 4, 5] [0, 1, 6, 7, 8, 9] [0, 1, 6, 7, 8, 9, 2, 3, 4, 5] 1 dX5_station_80 (kX1_hasPilot Θ d0 d1 d2 d3 d_columns d_rows d_carrier d_partMarks d_linkMarks d_operations d_pilots d_settings d_facts d_cells a0 r4 hg) (gwV lk_98e56b6a lk_6e2a4471 lk_e8fc0f0c lk_cf66e99d lk_e36d835c) rfl hvX1_hasPilot ⟨rfl, rfl⟩ ⟨Nat.le_of_ble_eq_true rfl, Nat.le_of_ble_eq_true rfl⟩ ⟨Nat.zero_le _, Nat.zero_le _⟩ rfl rfl (Nat.le_of_ble_eq_true rfl) 0 rfl vc1 rfl rfl rfl rfl (by decide) ?_
        refine sw_if_eq 83 90 G dX5_station_83 rfl hf (fun hf => ?_) (fun hf => ?_)
        · refine sw_iconst 90 G (0 : Int32) dX5_station_90 rfl ?_
          cases hf
          exact sw_iret 91 G dX5_station_91 K
        · refine sw_iconst 86 G (1 : Int32) dX5_station_86 rfl ?_
          refine sw_goto 87 G 91 dX5_station_87 rfl ?_
          cases hf
          exact sw_iret 91 G dX5_station_91 K
      · refine ⟨74, 92, rfl, rfl, ?_⟩
        have hf := tc_3 hf
        refine sw_aload_n 92 G dX5_station_92 0 rfl ?_
        refine sw_get 93 G hnX5 0 0 dX5_station_93 vc5 (by decide) (List.mem_cons_of_mem _ lk_c6576e33) rfl rfl ?_
        refine sw_get 96 G hnX4 1 1 dX5_station_96 vc4 (by decide) (List.mem_cons_of_mem _ lk_3ac9de3e) rfl rfl ?_
        refine sw_iload_n 99 G dX5_station_99 1 rfl ?_
        obtain ⟨r5, hg, hf⟩ := bd1_some hf
        refine sw_callV 100 G ([(x0, .inr (5, [.ref n0, .ref v0, .int x_oldestSaved, .int x_savedStates, .ref t0, .ref l0, .ref c0]))] ++ [(n0, .inr (4, [.ref d0, .ref p0]))] ++ wX1 Θ d0 d1 d2 d3 d_columns d_rows d_carrier d_partMarks d_linkMarks d_operations d_pilots d_settings d_facts d_cells ++ wX3 Θ p0 p1 p2 p3 p_pitches p_spoiled p_cells p_bends p_offsets p_strokes p_goodParts p_badParts p_slugs) [6, 7, 8, 9] [0, 1, 2, 3, 4, 5] [0, 1, 2, 3, 4, 5, 6, 7, 8, 9] 1 dX5_station_100 (kX3_hasPitch Θ p0 p1 p2 p3 p_pitches p_spoiled p_cells p_bends p_offsets p_strokes p_goodParts p_badParts p_slugs a0 r5 hg) (gwV lk_a6808fa9 lk_fd3c2946 lk_50272c2a lk_106b7259 lk_6e102d63) rfl hvX3_hasPitch ⟨rfl, rfl⟩ ⟨Nat.le_of_ble_eq_true rfl, Nat.le_of_ble_eq_true rfl⟩ ⟨Nat.zero_le _, Nat.zero_le _⟩ rfl rfl (Nat.le_of_ble_eq_true rfl) 0 rfl vc3 rfl rfl rfl rfl (by decide) ?_
        refine sw_if_eq 103 110 G dX5_station_103 rfl hf (fun hf => ?_) (fun hf => ?_)
        · refine sw_iconst 110 G (0 : Int32) dX5_station_110 rfl ?_
          cases hf
          exact sw_iret 111 G dX5_station_111 K
        · refine sw_iconst 106 G (1 : Int32) dX5_station_106 rfl ?_
          refine sw_goto 107 G 111 dX5_station_107 rfl ?_
          cases hf
          exact sw_iret 111 G dX5_station_111 K
  · cases hf
abbrev rmX5_pitch : Room := { frames := 2, cells := 0, slots := 0, locals := 43 }
theorem hvX5_pitch : yX5_pitch.cls = RX5 ∧ yX5_pitch.cls ≠ "java/lang/invoke/MethodHandle" ∧ yX5_pitch.cls ≠ "java/lang/invoke/VarHandle" ∧ (parseMethodDescriptor yX5_pitch.desc).map (fun d => d.parameters.length) = some 2 := by decide +kernel
set_option maxRecDepth 100000 in
set_option maxHeartbeats 4000000 in
theorem kX5_pitch (Θ : Tht) (x0 n0 p0 p1 p2 p3 v0 t0 l0 c0 d0 : Nat) (x_oldestSaved : Int32) (x_savedStates : Int32) (p_pitches : Int32) (p_spoiled : Int32) (p_cells : Nat → Int64) (p_bends : Nat → Int32) (p_offsets : Nat → Int32) (p_strokes : Int32) (p_goodParts : Int32) (p_badParts : Int32) (p_slugs : Int32) (a0 : Int32) (a1 : Int32) (ro : Int32) (hf : fX5_pitch p_pitches p_spoiled p_cells p_bends p_offsets a0 a1 = some ro) : Fn Θ yX5_pitch (Cond.code yX5_pitch cX5_pitch 3 (some .int) :: GW) rmX5_pitch [.ref x0, .int a0, .int a1] ([(x0, .inr (5, [.ref n0, .ref v0, .int x_oldestSaved, .int x_savedStates, .ref t0, .ref l0, .ref c0]))] ++ [(n0, .inr (4, [.ref d0, .ref p0]))] ++ wX3 Θ p0 p1 p2 p3 p_pitches p_spoiled p_cells p_bends p_offsets p_strokes p_goodParts p_badParts p_slugs) (some (.int ro)) ([(x0, .inr (5, [.ref n0, .ref v0, .int x_oldestSaved, .int x_savedStates, .ref t0, .ref l0, .ref c0]))] ++ [(n0, .inr (4, [.ref d0, .ref p0]))] ++ wX3 Θ p0 p1 p2 p3 p_pitches p_spoiled p_cells p_bends p_offsets p_strokes p_goodParts p_badParts p_slugs) := by
  delta fX5_pitch at hf
  refine Fn.of (by decide +kernel) rfl (Nat.le_of_ble_eq_true rfl) (fun p e s m args below meth c A Q G K => ?_)
  show sw Θ p e rmX5_pitch s m args below meth c A Q 3 0 0 0 [(0, .ref x0), (1, .int a0), (2, .int a1)] [] ([(x0, .inr (5, [.ref n0, .ref v0, .int x_oldestSaved, .int x_savedStates, .ref t0, .ref l0, .ref c0]))] ++ [(n0, .inr (4, [.ref d0, .ref p0]))] ++ wX3 Θ p0 p1 p2 p3 p_pitches p_spoiled p_cells p_bends p_offsets p_strokes p_goodParts p_badParts p_slugs)
  refine sw_iload_n 0 G dX5_pitch_0 1 rfl ?_
  obtain ⟨r1, hg, hf⟩ := bd1_some hf
  refine sw_callS 1 G ([(x0, .inr (5, [.ref n0, .ref v0, .int x_oldestSaved, .int x_savedStates, .ref t0, .ref l0, .ref c0]))] ++ [(n0, .inr (4, [.ref d0, .ref p0]))] ++ wX3 Θ p0 p1 p2 p3 p_pitches p_spoiled p_cells p_bends p_offsets p_strokes p_goodParts p_badParts p_slugs) [] [0, 1, 2, 3, 4, 5] [0, 1, 2, 3, 4, 5] 1 dX5_pitch_1 (kX5_isStation Θ a0 r1 hg) (gwS lk_e51f5f2c lk_69b39882 lk_01b5d93a lk_08337533) rfl hsX5_isStation ⟨rfl, rfl⟩ ⟨Nat.le_of_ble_eq_true rfl, Nat.le_of_ble_eq_true rfl⟩ ⟨Nat.zero_le _, Nat.zero_le _⟩ rfl rfl (Nat.le_of_ble_eq_true rfl) rfl rfl rfl (by decide) ?_
  refine sw_if_eq 4 16 G dX5_pitch_4 rfl hf (fun hf => ?_) (fun hf => ?_)
  · cases hf
  · refine sw_iload_n 7 G dX5_pitch_7 2 rfl ?_
    refine sw_if_lt 8 16 G dX5_pitch_8 rfl hf (fun hf => ?_) (fun hf => ?_)
    · cases hf
    · refine sw_iload_n 11 G dX5_pitch_11 2 rfl ?_
      refine sw_iconst 12 G (3 : Int32) dX5_pitch_12 rfl ?_
      refine sw_icmp_le 13 26 G dX5_pitch_13 rfl hf (fun hf => ?_) (fun hf => ?_)
      · refine sw_aload_n 26 G dX5_pitch_26 0 rfl ?_
        refine sw_get 27 G hnX5 0 0 dX5_pitch_27 vc5 (by decide) (List.mem_cons_of_mem _ lk_c6576e33) rfl rfl ?_
        refine sw_get 30 G hnX4 1 1 dX5_pitch_30 vc4 (by decide) (List.mem_cons_of_mem _ lk_3ac9de3e) rfl rfl ?_
        refine sw_iload_n 33 G dX5_pitch_33 1 rfl ?_
        obtain ⟨r2, hg, hf⟩ := bd1_some hf
        refine sw_callV 34 G ([(x0, .inr (5, [.ref n0, .ref v0, .int x_oldestSaved, .int x_savedStates, .ref t0, .ref l0, .ref c0]))] ++ [(n0, .inr (4, [.ref d0, .ref p0]))] ++ wX3 Θ p0 p1 p2 p3 p_pitches p_spoiled p_cells p_bends p_offsets p_strokes p_goodParts p_badParts p_slugs) [2, 3, 4, 5] [0, 1] [0, 1, 2, 3, 4, 5] 1 dX5_pitch_34 (kX3_hasPitch Θ p0 p1 p2 p3 p_pitches p_spoiled p_cells p_bends p_offsets p_strokes p_goodParts p_badParts p_slugs a0 r2 hg) (gwV lk_a6808fa9 lk_fd3c2946 lk_50272c2a lk_106b7259 lk_6e102d63) rfl hvX3_hasPitch ⟨rfl, rfl⟩ ⟨Nat.le_of_ble_eq_true rfl, Nat.le_of_ble_eq_true rfl⟩ ⟨Nat.zero_le _, Nat.zero_le _⟩ rfl rfl (Nat.le_of_ble_eq_true rfl) 0 rfl vc3 rfl rfl rfl rfl (by decide) ?_
        refine sw_if_eq 37 55 G dX5_pitch_37 rfl hf (fun hf => ?_) (fun hf => ?_)
        · refine sw_iconst 55 G (-1 : Int32) dX5_pitch_55 rfl ?_
          cases hf
          exact sw_iret 56 G dX5_pitch_56 K
        · refine sw_aload_n 40 G dX5_pitch_40 0 rfl ?_
          refine sw_get 41 G hnX5 0 0 dX5_pitch_41 vc5 (by decide) (List.mem_cons_of_mem _ lk_c6576e33) rfl rfl ?_
          refine sw_get 44 G hnX4 1 1 dX5_pitch_44 vc4 (by decide) (List.mem_cons_of_mem _ lk_3ac9de3e) rfl rfl ?_
          refine sw_iload_n 47 G dX5_pitch_47 1 rfl ?_
          refine sw_iload_n 48 G dX5_pitch_48 2 rfl ?_
          obtain ⟨r3, hg, hf⟩ := bd1_some hf
          refine sw_callV 49 G ([(x0, .inr (5, [.ref n0, .ref v0, .int x_oldestSaved, .int x_savedStates, .ref t0, .ref l0, .ref c0]))] ++ [(n0, .inr (4, [.ref d0, .ref p0]))] ++ wX3 Θ p0 p1 p2 p3 p_pitches p_spoiled p_cells p_bends p_offsets p_strokes p_goodParts p_badParts p_slugs) [2, 3, 4, 5] [0, 1] [0, 1, 2, 3, 4, 5] 2 dX5_pitch_49 (kX3_valueOf Θ p0 p1 p2 p3 p_pitches p_spoiled p_cells p_bends p_offsets p_strokes p_goodParts p_badParts p_slugs a0 a1 r3 hg) (gwV lk_94aace7d lk_a0ac316f lk_77840524 lk_106b7259 lk_245db28e) rfl hvX3_valueOf ⟨rfl, rfl⟩ ⟨Nat.le_of_ble_eq_true rfl, Nat.le_of_ble_eq_true rfl⟩ ⟨Nat.zero_le _, Nat.zero_le _⟩ rfl rfl (Nat.le_of_ble_eq_true rfl) 0 rfl vc3 rfl rfl rfl rfl (by decide) ?_
          refine sw_goto 52 G 56 dX5_pitch_52 rfl ?_
          cases hf
          exact sw_iret 56 G dX5_pitch_56 K
      · cases hf
abbrev rmX5_left : Room := { frames := 2, cells := 0, slots := 0, locals := 42 }
theorem hvX5_left : yX5_left.cls = RX5 ∧ yX5_left.cls ≠ "java/lang/invoke/MethodHandle" ∧ yX5_left.cls ≠ "java/lang/invoke/VarHandle" ∧ (parseMethodDescriptor yX5_left.desc).map (fun d => d.parameters.length) = some 1 := by decide +kernel
set_option maxRecDepth 100000 in
set_option maxHeartbeats 4000000 in
theorem kX5_left (Θ : Tht) (x0 n0 p0 p1 p2 p3 v0 t0 l0 c0 d0 : Nat) (x_oldestSaved : Int32) (x_savedStates : Int32) (p_pitches : Int32) (p_spoiled : Int32) (p_cells : Nat → Int64) (p_bends : Nat → Int32) (p_offsets : Nat → Int32) (p_strokes : Int32) (p_goodParts : Int32) (p_badParts : Int32) (p_slugs : Int32) (a0 : Int32) (ro : Int64) (hf : fX5_left p_pitches p_cells a0 = some ro) : Fn Θ yX5_left (Cond.code yX5_left cX5_left 2 (some .long) :: GW) rmX5_left [.ref x0, .int a0] ([(x0, .inr (5, [.ref n0, .ref v0, .int x_oldestSaved, .int x_savedStates, .ref t0, .ref l0, .ref c0]))] ++ [(n0, .inr (4, [.ref d0, .ref p0]))] ++ wX3 Θ p0 p1 p2 p3 p_pitches p_spoiled p_cells p_bends p_offsets p_strokes p_goodParts p_badParts p_slugs) (some (.long ro)) ([(x0, .inr (5, [.ref n0, .ref v0, .int x_oldestSaved, .int x_savedStates, .ref t0, .ref l0, .ref c0]))] ++ [(n0, .inr (4, [.ref d0, .ref p0]))] ++ wX3 Θ p0 p1 p2 p3 p_pitches p_spoiled p_cells p_bends p_offsets p_strokes p_goodParts p_badParts p_slugs) := by
  delta fX5_left at hf
  refine Fn.of (by decide +kernel) rfl (Nat.le_of_ble_eq_true rfl) (fun p e s m args below meth c A Q G K => ?_)
  show sw Θ p e rmX5_left s m args below meth c A Q 2 0 0 0 [(0, .ref x0), (1, .int a0)] [] ([(x0, .inr (5, [.ref n0, .ref v0, .int x_oldestSaved, .int x_savedStates, .ref t0, .ref l0, .ref c0]))] ++ [(n0, .inr (4, [.ref d0, .ref p0]))] ++ wX3 Θ p0 p1 p2 p3 p_pitches p_spoiled p_cells p_bends p_offsets p_strokes p_goodParts p_badParts p_slugs)
  refine sw_iload_n 0 G dX5_left_0 1 rfl ?_
  obtain ⟨r1, hg, hf⟩ := bd1_some hf
  refine sw_callS 1 G ([(x0, .inr (5, [.ref n0, .ref v0, .int x_oldestSaved, .int x_savedStates, .ref t0, .ref l0, .ref c0]))] ++ [(n0, .inr (4, [.ref d0, .ref p0]))] ++ wX3 Θ p0 p1 p2 p3 p_pitches p_spoiled p_cells p_bends p_offsets p_strokes p_goodParts p_badParts p_slugs) [] [0, 1, 2, 3, 4, 5] [0, 1, 2, 3, 4, 5] 1 dX5_left_1 (kX5_isStation Θ a0 r1 hg) (gwS lk_e51f5f2c lk_69b39882 lk_01b5d93a lk_08337533) rfl hsX5_isStation ⟨rfl, rfl⟩ ⟨Nat.le_of_ble_eq_true rfl, Nat.le_of_ble_eq_true rfl⟩ ⟨Nat.zero_le _, Nat.zero_le _⟩ rfl rfl (Nat.le_of_ble_eq_true rfl) rfl rfl rfl (by decide) ?_
  refine sw_if_ne 4 17 G dX5_left_4 rfl hf (fun hf => ?_) (fun hf => ?_)
  · refine sw_aload_n 17 G dX5_left_17 0 rfl ?_
    refine sw_get 18 G hnX5 0 0 dX5_left_18 vc5 (by decide) (List.mem_cons_of_mem _ lk_c6576e33) rfl rfl ?_
    refine sw_get 21 G hnX4 1 1 dX5_left_21 vc4 (by decide) (List.mem_cons_of_mem _ lk_3ac9de3e) rfl rfl ?_
    refine sw_iload_n 24 G dX5_left_24 1 rfl ?_
    obtain ⟨r2, hg, hf⟩ := bd1_some hf
    refine sw_callV 25 G ([(x0, .inr (5, [.ref n0, .ref v0, .int x_oldestSaved, .int x_savedStates, .ref t0, .ref l0, .ref c0]))] ++ [(n0, .inr (4, [.ref d0, .ref p0]))] ++ wX3 Θ p0 p1 p2 p3 p_pitches p_spoiled p_cells p_bends p_offsets p_strokes p_goodParts p_badParts p_slugs) [2, 3, 4, 5] [0, 1] [0, 1, 2, 3, 4, 5] 1 dX5_left_25 (kX3_hasPitch Θ p0 p1 p2 p3 p_pitches p_spoiled p_cells p_bends p_offsets p_strokes p_goodParts p_badParts p_slugs a0 r2 hg) (gwV lk_a6808fa9 lk_fd3c2946 lk_50272c2a lk_106b7259 lk_6e102d63) rfl hvX3_hasPitch ⟨rfl, rfl⟩ ⟨Nat.le_of_ble_eq_true rfl, Nat.le_of_ble_eq_true rfl⟩ ⟨Nat.zero_le _, Nat.zero_le _⟩ rfl rfl (Nat.le_of_ble_eq_true rfl) 0 rfl vc3 rfl rfl rfl rfl (by decide) ?_
    refine sw_if_eq 28 45 G dX5_left_28 rfl hf (fun hf => ?_) (fun hf => ?_)
    · refine sw_lconst 45 G (0 : Int64) dX5_left_45 rfl ?_
      cases hf
      exact sw_lret 46 G dX5_left_46 K
    · refine sw_aload_n 31 G dX5_left_31 0 rfl ?_
      refine sw_get 32 G hnX5 0 0 dX5_left_32 vc5 (by decide) (List.mem_cons_of_mem _ lk_c6576e33) rfl rfl ?_
      refine sw_get 35 G hnX4 1 1 dX5_left_35 vc4 (by decide) (List.mem_cons_of_mem _ lk_3ac9de3e) rfl rfl ?_
      refine sw_iload_n 38 G dX5_left_38 1 rfl ?_
      obtain ⟨r3, hg, hf⟩ := bd1_some hf
      refine sw_callV 39 G ([(x0, .inr (5, [.ref n0, .ref v0, .int x_oldestSaved, .int x_savedStates, .ref t0, .ref l0, .ref c0]))] ++ [(n0, .inr (4, [.ref d0, .ref p0]))] ++ wX3 Θ p0 p1 p2 p3 p_pitches p_spoiled p_cells p_bends p_offsets p_strokes p_goodParts p_badParts p_slugs) [2, 3, 4, 5] [0, 1] [0, 1, 2, 3, 4, 5] 1 dX5_left_39 (kX3_cellsAt Θ p0 p1 p2 p3 p_pitches p_spoiled p_cells p_bends p_offsets p_strokes p_goodParts p_badParts p_slugs a0 r3 hg) (gwV lk_b2736ece lk_efd6e65a lk_d5dc047d lk_106b7259 lk_cecdbcae) rfl hvX3_cellsAt ⟨rfl, rfl⟩ ⟨Nat.le_of_ble_eq_true rfl, Nat.le_of_ble_eq_true rfl⟩ ⟨Nat.zero_le _, Nat.zero_le _⟩ rfl rfl (Nat.le_of_ble_eq_true rfl) 0 rfl vc3 rfl rfl rfl rfl (by decide) ?_
      refine sw_goto 42 G 46 dX5_left_42 rfl ?_
      cases hf
      exact sw_lret 46 G dX5_left_46 K
  · cases hf
abbrev rmX5_whole : Room := { frames := 3, cells := 0, slots := 0, locals := 66 }
theorem hvX5_whole : yX5_whole.cls = RX5 ∧ yX5_whole.cls ≠ "java/lang/invoke/MethodHandle" ∧ yX5_whole.cls ≠ "java/lang/invoke/VarHandle" ∧ (parseMethodDescriptor yX5_whole.desc).map (fun d => d.parameters.length) = some 1 := by decide +kernel
set_option maxRecDepth 100000 in
set_option maxHeartbeats 4000000 in
theorem kX5_whole (Θ : Tht) (F : Nat) (x0 n0 d0 d1 d2 d3 p0 p1 p2 p3 c0 c1 c2 v0 t0 l0 : Nat) (x_oldestSaved : Int32) (x_savedStates : Int32) (d_columns : Int32) (d_rows : Int32) (d_carrier : Int32) (d_partMarks : Int64) (d_linkMarks : Int64) (d_operations : Int32) (d_pilots : Int32) (d_settings : Nat → Int32) (d_facts : Nat → Int32) (d_cells : Nat → Int64) (p_pitches : Int32) (p_spoiled : Int32) (p_cells : Nat → Int64) (p_bends : Nat → Int32) (p_offsets : Nat → Int32) (p_strokes : Int32) (p_goodParts : Int32) (p_badParts : Int32) (p_slugs : Int32) (c_bytes : Nat → Int32) (c_numbers : Nat → Int32) (c_length : Int32) (c_at : Int32) (c_word : Int32) (a0 : Int32) (ro : Int32) (hf : fX5_whole F d_columns d_rows d_carrier d_operations d_pilots d_settings d_facts p_pitches p_strokes p_goodParts p_badParts p_slugs c_length a0 = some ro) : Fn Θ yX5_whole (Cond.code yX5_whole cX5_whole 2 (some .int) :: GW) rmX5_whole [.ref x0, .int a0] ([(x0, .inr (5, [.ref n0, .ref v0, .int x_oldestSaved, .int x_savedStates, .ref t0, .ref l0, .ref c0]))] ++ [(n0, .inr (4, [.ref d0, .ref p0]))] ++ wX1 Θ d0 d1 d2 d3 d_columns d_rows d_carrier d_partMarks d_linkMarks d_operations d_pilots d_settings d_facts d_cells ++ wX3 Θ p0 p1 p2 p3 p_pitches p_spoiled p_cells p_bends p_offsets p_strokes p_goodParts p_badParts p_slugs ++ wX0 Θ c0 c1 c2 c_bytes c_numbers c_length c_at c_word) (some (.int ro)) ([(x0, .inr (5, [.ref n0, .ref v0, .int x_oldestSaved, .int x_savedStates, .ref t0, .ref l0, .ref c0]))] ++ [(n0, .inr (4, [.ref d0, .ref p0]))] ++ wX1 Θ d0 d1 d2 d3 d_columns d_rows d_carrier d_partMarks d_linkMarks d_operations d_pilots d_settings d_facts d_cells ++ wX3 Θ p0 p1 p2 p3 p_pitches p_spoiled p_cells p_bends p_offsets p_strokes p_goodParts p_badParts p_slugs ++ wX0 Θ c0 c1 c2 c_bytes c_numbers c_length c_at c_word) := by
  delta fX5_whole at hf
  refine Fn.of (by decide +kernel) rfl (Nat.le_of_ble_eq_true rfl) (fun p e s m args below meth c A Q G K => ?_)
  show sw Θ p e rmX5_whole s m args below meth c A Q 2 0 0 0 [(0, .ref x0), (1, .int a0)] [] ([(x0, .inr (5, [.ref n0, .ref v0, .int x_oldestSaved, .int x_savedStates, .ref t0, .ref l0, .ref c0]))] ++ [(n0, .inr (4, [.ref d0, .ref p0]))] ++ wX1 Θ d0 d1 d2 d3 d_columns d_rows d_carrier d_partMarks d_linkMarks d_operations d_pilots d_settings d_facts d_cells ++ wX3 Θ p0 p1 p2 p3 p_pitches p_spoiled p_cells p_bends p_offsets p_strokes p_goodParts p_badParts p_slugs ++ wX0 Θ c0 c1 c2 c_bytes c_numbers c_length c_at c_word)
  refine sw_iload_n 0 G dX5_whole_0 1 rfl ?_
  refine sw_if_lt 1 10 G dX5_whole_1 rfl hf (fun hf => ?_) (fun hf => ?_)
  · cases hf
  · refine sw_iload_n 4 G dX5_whole_4 1 rfl ?_
    refine sw_bipush 5 G (16 : Int32) dX5_whole_5 rfl ?_
    refine sw_icmp_le 7 20 G dX5_whole_7 rfl hf (fun hf => ?_) (fun hf => ?_)
    · refine sw_iload_n 20 G dX5_whole_20 1 rfl ?_
      refine sw_bipush 21 G (10 : Int32) dX5_whole_21 rfl ?_
      refine sw_icmp_ge 23 38 G dX5_whole_23 rfl hf (fun hf => ?_) (fun hf => ?_)
      · refine sw_iload_n 38 G dX5_whole_38 1 rfl ?_
        refine sw_bipush 39 G (15 : Int32) dX5_whole_39 rfl ?_
        refine sw_icmp_ne 41 58 G dX5_whole_41 rfl hf (fun hf => ?_) (fun hf => ?_)
        · refine sw_iload_n 58 G dX5_whole_58 1 rfl ?_
          refine sw_bipush 59 G (16 : Int32) dX5_whole_59 rfl ?_
          refine sw_icmp_ne 61 74 G dX5_whole_61 rfl hf (fun hf => ?_) (fun hf => ?_)
          · refine sw_aload_n 74 G dX5_whole_74 0 rfl ?_
            refine sw_get 75 G hnX5 0 0 dX5_whole_75 vc5 (by decide) (List.mem_cons_of_mem _ lk_c6576e33) rfl rfl ?_
            refine sw_get 78 G hnX4 1 1 dX5_whole_78 vc4 (by decide) (List.mem_cons_of_mem _ lk_3ac9de3e) rfl rfl ?_
            refine sw_iload_n 81 G dX5_whole_81 1 rfl ?_
            obtain ⟨r1, hg, hf⟩ := bd1_some hf
            refine sw_callV 82 G ([(x0, .inr (5, [.ref n0, .ref v0, .int x_oldestSaved, .int x_savedStates, .ref t0, .ref l0, .ref c0]))] ++ [(n0, .inr (4, [.ref d0, .ref p0]))] ++ wX1 Θ d0 d1 d2 d3 d_columns d_rows d_carrier d_partMarks d_linkMarks d_operations d_pilots d_settings d_facts d_cells ++ wX3 Θ p0 p1 p2 p3 p_pitches p_spoiled p_cells p_bends p_offsets p_strokes p_goodParts p_badParts p_slugs ++ wX0 Θ c0 c1 c2 c_bytes c_numbers c_length c_at c_word) [6, 7, 8, 9] [0, 1, 2, 3, 4, 5, 10, 11, 12] [0, 1, 2, 3, 4, 5, 9, 10, 11, 12, 6, 7, 8] 1 dX5_whole_82 (kX3_wholeValue Θ p0 p1 p2 p3 p_pitches p_spoiled p_cells p_bends p_offsets p_strokes p_goodParts p_badParts p_slugs a0 r1 hg) (gwV lk_c4eb7bcf lk_30e824c5 lk_90f33f44 lk_106b7259 lk_5baeb57b) rfl hvX3_wholeValue ⟨rfl, rfl⟩ ⟨Nat.le_of_ble_eq_true rfl, Nat.le_of_ble_eq_true rfl⟩ ⟨Nat.zero_le _, Nat.zero_le _⟩ rfl rfl (Nat.le_of_ble_eq_true rfl) 0 rfl vc3 rfl rfl rfl rfl (by decide) ?_
            cases hf
            exact sw_iret 85 G dX5_whole_85 K
          · refine sw_aload_n 64 G dX5_whole_64 0 rfl ?_
            refine sw_get 65 G hnX5 0 6 dX5_whole_65 vc5 (by decide) (List.mem_cons_of_mem _ lk_0b6ebd02) rfl rfl ?_
            refine sw_get 68 G hnX0 10 2 dX5_whole_68 vc0 (by decide) (List.mem_cons_of_mem _ lk_daf6e5e6) rfl rfl ?_
            refine sw_goto 71 G 85 dX5_whole_71 rfl ?_
            cases hf
            exact sw_iret 85 G dX5_whole_85 K
        · refine sw_aload_n 44 G dX5_whole_44 0 rfl ?_
          refine sw_get 45 G hnX5 0 0 dX5_whole_45 vc5 (by decide) (List.mem_cons_of_mem _ lk_c6576e33) rfl rfl ?_
          refine sw_get 48 G hnX4 1 0 dX5_whole_48 vc4 (by decide) (List.mem_cons_of_mem _ lk_b490f9e6) rfl rfl ?_
          refine sw_get 51 G hnX1 2 6 dX5_whole_51 vc1 (by decide) (List.mem_cons_of_mem _ lk_4a34e39d) rfl rfl ?_
          obtain ⟨r2, hg, hf⟩ := bd1_some hf
          refine sw_callS 54 G ([(x0, .inr (5, [.ref n0, .ref v0, .int x_oldestSaved, .int x_savedStates, .ref t0, .ref l0, .ref c0]))] ++ [(n0, .inr (4, [.ref d0, .ref p0]))] ++ wX1 Θ d0 d1 d2 d3 d_columns d_rows d_carrier d_partMarks d_linkMarks d_operations d_pilots d_settings d_facts d_cells ++ wX3 Θ p0 p1 p2 p3 p_pitches p_spoiled p_cells p_bends p_offsets p_strokes p_goodParts p_badParts p_slugs ++ wX0 Θ c0 c1 c2 c_bytes c_numbers c_length c_at c_word) [] [0, 1, 2, 3, 4, 5, 6, 7, 8, 9, 10, 11, 12] [0, 1, 2, 3, 4, 5, 6, 7, 8, 9, 10, 11, 12] 1 dX5_whole_54 (kJ6_bitCount_0f7a4 Θ d_pilots r2 hg) (gwS lk_fe1a3ea6 lk_d625a12f lk_2df2c76b lk_723f897f) rfl hsJ6_bitCount_0f7a4 ⟨rfl, rfl⟩ ⟨Nat.le_of_ble_eq_true rfl, Nat.le_of_ble_eq_true rfl⟩ ⟨Nat.zero_le _, Nat.zero_le _⟩ rfl rfl (Nat.le_of_ble_eq_true rfl) rfl rfl rfl (by decide) ?_
          cases hf
          exact sw_iret 57 G dX5_whole_57 K
      · refine sw_aload_n 26 G dX5_whole_26 0 rfl ?_
        refine sw_get 27 G hnX5 0 0 dX5_whole_27 vc5 (by decide) (List.mem_cons_of_mem _ lk_c6576e33) rfl rfl ?_
        refine sw_get 30 G hnX4 1 0 dX5_whole_30 vc4 (by decide) (List.mem_cons_of_mem _ lk_b490f9e6) rfl rfl ?_
        refine sw_iload_n 33 G dX5_whole_33 1 rfl ?_
        obtain ⟨r3, hg, hf⟩ := bd1_some hf
        refine sw_callV 34 G ([(x0, .inr (5, [.ref n0, .ref v0, .int x_oldestSaved, .int x_savedStates, .ref t0, .ref l0, .ref c0]))] ++ [(n0, .inr (4, [.ref d0, .ref p0]))] ++ wX1 Θ d0 d1 d2 d3 d_columns d_rows d_carrier d_partMarks d_linkMarks d_operations d_pilots d_settings d_facts d_cells ++ wX3 Θ p0 p1 p2 p3 p_pitches p_spoiled p_cells p_bends p_offsets p_strokes p_goodParts p_badParts p_slugs ++ wX0 Θ c0 c1 c2 c_bytes c_numbers c_length c_at c_word) [2, 3, 4, 5] [0, 1, 6, 7, 8, 9, 10, 11, 12] [0, 1, 9, 10, 11, 12, 2, 3, 4, 5, 6, 7, 8] 1 dX5_whole_34 (kX1_wholeValue Θ F d0 d1 d2 d3 d_columns d_rows d_carrier d_partMarks d_linkMarks d_operations d_pilots d_settings d_facts d_cells a0 r3 hg) (gwV lk_9cd43eef lk_7bf3da9c lk_b2d34458 lk_cf66e99d lk_61bb7644) rfl hvX1_wholeValue ⟨rfl, rfl⟩ ⟨Nat.le_of_ble_eq_true rfl, Nat.le_of_ble_eq_true rfl⟩ ⟨Nat.zero_le _, Nat.zero_le _⟩ rfl rfl (Nat.le_of_ble_eq_true rfl) 0 rfl vc1 rfl rfl rfl rfl (by decide) ?_
        cases hf
        exact sw_iret 37 G dX5_whole_37 K
    · cases hf
abbrev rmX5_dieFault : Room := { frames := 4, cells := 0, slots := 0, locals := 110 }
theorem hvX5_dieFault : yX5_dieFault.cls = RX5 ∧ yX5_dieFault.cls ≠ "java/lang/invoke/MethodHandle" ∧ yX5_dieFault.cls ≠ "java/lang/invoke/VarHandle" ∧ (parseMethodDescriptor yX5_dieFault.desc).map (fun d => d.parameters.length) = some 0 := by decide +kernel
set_option maxRecDepth 100000 in
set_option maxHeartbeats 4000000 in
theorem kX5_dieFault (Θ : Tht) (F : Nat) (x0 n0 d0 d1 d2 d3 v0 t0 l0 c0 p0 : Nat) (x_oldestSaved : Int32) (x_savedStates : Int32) (d_columns : Int32) (d_rows : Int32) (d_carrier : Int32) (d_partMarks : Int64) (d_linkMarks : Int64) (d_operations : Int32) (d_pilots : Int32) (d_settings : Nat → Int32) (d_facts : Nat → Int32) (d_cells : Nat → Int64) (ro : Int32) (hf : fX5_dieFault F d_columns d_rows d_carrier d_partMarks d_linkMarks d_operations d_facts d_cells = some ro) : Fn Θ yX5_dieFault (Cond.code yX5_dieFault cX5_dieFault 1 (some .int) :: GW) rmX5_dieFault [.ref x0] ([(x0, .inr (5, [.ref n0, .ref v0, .int x_oldestSaved, .int x_savedStates, .ref t0, .ref l0, .ref c0]))] ++ [(n0, .inr (4, [.ref d0, .ref p0]))] ++ wX1 Θ d0 d1 d2 d3 d_columns d_rows d_carrier d_partMarks d_linkMarks d_operations d_pilots d_settings d_facts d_cells) (some (.int ro)) ([(x0, .inr (5, [.ref n0, .ref v0, .int x_oldestSaved, .int x_savedStates, .ref t0, .ref l0, .ref c0]))] ++ [(n0, .inr (4, [.ref d0, .ref p0]))] ++ wX1 Θ d0 d1 d2 d3 d_columns d_rows d_carrier d_partMarks d_linkMarks d_operations d_pilots d_settings d_facts d_cells) := by
  delta fX5_dieFault at hf
  refine Fn.of (by decide +kernel) rfl (Nat.le_of_ble_eq_true rfl) (fun p e s m args below meth c A Q G K => ?_)
  show sw Θ p e rmX5_dieFault s m args below meth c A Q 1 0 0 0 [(0, .ref x0)] [] ([(x0, .inr (5, [.ref n0, .ref v0, .int x_oldestSaved, .int x_savedStates, .ref t0, .ref l0, .ref c0]))] ++ [(n0, .inr (4, [.ref d0, .ref p0]))] ++ wX1 Θ d0 d1 d2 d3 d_columns d_rows d_carrier d_partMarks d_linkMarks d_operations d_pilots d_settings d_facts d_cells)
  refine sw_aload_n 0 G dX5_dieFault_0 0 rfl ?_
  refine sw_get 1 G hnX5 0 0 dX5_dieFault_1 vc5 (by decide) (List.mem_cons_of_mem _ lk_c6576e33) rfl rfl ?_
  refine sw_get 4 G hnX4 1 0 dX5_dieFault_4 vc4 (by decide) (List.mem_cons_of_mem _ lk_b490f9e6) rfl rfl ?_
  obtain ⟨r1, hg, hf⟩ := bd1_some hf
  refine sw_callV 7 G ([(x0, .inr (5, [.ref n0, .ref v0, .int x_oldestSaved, .int x_savedStates, .ref t0, .ref l0, .ref c0]))] ++ [(n0, .inr (4, [.ref d0, .ref p0]))] ++ wX1 Θ d0 d1 d2 d3 d_columns d_rows d_carrier d_partMarks d_linkMarks d_operations d_pilots d_settings d_facts d_cells) [2, 3, 4, 5] [0, 1] [0, 1, 2, 3, 4, 5] 0 dX5_dieFault_7 (kX1_faultOfDie Θ F d0 d1 d2 d3 d_columns d_rows d_carrier d_partMarks d_linkMarks d_operations d_pilots d_settings d_facts d_cells r1 hg) (gwV lk_74686323 lk_ea1ec609 lk_0e05a378 lk_cf66e99d lk_407bd8aa) rfl hvX1_faultOfDie ⟨rfl, rfl⟩ ⟨Nat.le_of_ble_eq_true rfl, Nat.le_of_ble_eq_true rfl⟩ ⟨Nat.zero_le _, Nat.zero_le _⟩ rfl rfl (Nat.le_of_ble_eq_true rfl) 0 rfl vc1 rfl rfl rfl rfl (by decide) ?_
  cases hf
  exact sw_iret 10 G dX5_dieFault_10 K
abbrev rmX5_planFault : Room := { frames := 5, cells := 0, slots := 0, locals := 129 }
theorem hvX5_planFault : yX5_planFault.cls = RX5 ∧ yX5_planFault.cls ≠ "java/lang/invoke/MethodHandle" ∧ yX5_planFault.cls ≠ "java/lang/invoke/VarHandle" ∧ (parseMethodDescriptor yX5_planFault.desc).map (fun d => d.parameters.length) = some 0 := by decide +kernel
set_option maxRecDepth 100000 in
set_option maxHeartbeats 4000000 in
theorem kX5_planFault (Θ : Tht) (F : Nat) (x0 n0 d0 d1 d2 d3 v0 t0 l0 c0 p0 : Nat) (x_oldestSaved : Int32) (x_savedStates : Int32) (d_columns : Int32) (d_rows : Int32) (d_carrier : Int32) (d_partMarks : Int64) (d_linkMarks : Int64) (d_operations : Int32) (d_pilots : Int32) (d_settings : Nat → Int32) (d_facts : Nat → Int32) (d_cells : Nat → Int64) (ro : Int32) (hf : fX5_planFault F d_columns d_rows d_operations d_settings d_facts d_cells = some ro) : Fn Θ yX5_planFault (Cond.code yX5_planFault cX5_planFault 1 (some .int) :: GW) rmX5_planFault [.ref x0] ([(x0, .inr (5, [.ref n0, .ref v0, .int x_oldestSaved, .int x_savedStates, .ref t0, .ref l0, .ref c0]))] ++ [(n0, .inr (4, [.ref d0, .ref p0]))] ++ wX1 Θ d0 d1 d2 d3 d_columns d_rows d_carrier d_partMarks d_linkMarks d_operations d_pilots d_settings d_facts d_cells) (some (.int ro)) ([(x0, .inr (5, [.ref n0, .ref v0, .int x_oldestSaved, .int x_savedStates, .ref t0, .ref l0, .ref c0]))] ++ [(n0, .inr (4, [.ref d0, .ref p0]))] ++ wX1 Θ d0 d1 d2 d3 d_columns d_rows d_carrier d_partMarks d_linkMarks d_operations d_pilots d_settings d_facts d_cells) := by
  delta fX5_planFault at hf
  refine Fn.of (by decide +kernel) rfl (Nat.le_of_ble_eq_true rfl) (fun p e s m args below meth c A Q G K => ?_)
  show sw Θ p e rmX5_planFault s m args below meth c A Q 1 0 0 0 [(0, .ref x0)] [] ([(x0, .inr (5, [.ref n0, .ref v0, .int x_oldestSaved, .int x_savedStates, .ref t0, .ref l0, .ref c0]))] ++ [(n0, .inr (4, [.ref d0, .ref p0]))] ++ wX1 Θ d0 d1 d2 d3 d_columns d_rows d_carrier d_partMarks d_linkMarks d_operations d_pilots d_settings d_facts d_cells)
  refine sw_aload_n 0 G dX5_planFault_0 0 rfl ?_
  refine sw_get 1 G hnX5 0 0 dX5_planFault_1 vc5 (by decide) (List.mem_cons_of_mem _ lk_c6576e33) rfl rfl ?_
  refine sw_get 4 G hnX4 1 0 dX5_planFault_4 vc4 (by decide) (List.mem_cons_of_mem _ lk_b490f9e6) rfl rfl ?_
  obtain ⟨r1, hg, hf⟩ := bd1_some hf
  refine sw_callV 7 G ([(x0, .inr (5, [.ref n0, .ref v0, .int x_oldestSaved, .int x_savedStates, .ref t0, .ref l0, .ref c0]))] ++ [(n0, .inr (4, [.ref d0, .ref p0]))] ++ wX1 Θ d0 d1 d2 d3 d_columns d_rows d_carrier d_partMarks d_linkMarks d_operations d_pilots d_settings d_facts d_cells) [2, 3, 4, 5] [0, 1] [0, 1, 2, 3, 4, 5] 0 dX5_planFault_7 (kX1_faultOfPlan Θ F d0 d1 d2 d3 d_columns d_rows d_carrier d_partMarks d_linkMarks d_operations d_pilots d_settings d_facts d_cells r1 hg) (gwV lk_f7a8275f lk_3bd7a712 lk_4f0bcd6e lk_cf66e99d lk_8f64c644) rfl hvX1_faultOfPlan ⟨rfl, rfl⟩ ⟨Nat.le_of_ble_eq_true rfl, Nat.le_of_ble_eq_true rfl⟩ ⟨Nat.zero_le _, Nat.zero_le _⟩ rfl rfl (Nat.le_of_ble_eq_true rfl) 0 rfl vc1 rfl rfl rfl rfl (by decide) ?_
  cases hf
  exact sw_iret 10 G dX5_planFault_10 K
abbrev rmX5_planned : Room := { frames := 5, cells := 0, slots := 0, locals := 128 }
theorem hvX5_planned : yX5_planned.cls = RX5 ∧ yX5_planned.cls ≠ "java/lang/invoke/MethodHandle" ∧ yX5_planned.cls ≠ "java/lang/invoke/VarHandle" ∧ (parseMethodDescriptor yX5_planned.desc).map (fun d => d.parameters.length) = some 1 := by decide +kernel
set_option maxRecDepth 100000 in
set_option maxHeartbeats 4000000 in
theorem kX5_planned (Θ : Tht) (F : Nat) (x0 n0 d0 d1 d2 d3 l0 l1 l2 l3 v0 t0 c0 p0 : Nat) (x_oldestSaved : Int32) (x_savedStates : Int32) (d_columns : Int32) (d_rows : Int32) (d_carrier : Int32) (d_partMarks : Int64) (d_linkMarks : Int64) (d_operations : Int32) (d_pilots : Int32) (d_settings : Nat → Int32) (d_facts : Nat → Int32) (d_cells : Nat → Int64) (l_operations : Int32) (l_limit : Int32) (l_gap : Int32) (l_bends : Int32) (l_greatestForce : Int32) (l_chosen : Nat → Int32) (l_touching : Nat → Int32) (l_forces : Nat → Int32) (a0 : Int32) (ro : Int32) (o_l_operations : Int32) (o_l_limit : Int32) (o_l_gap : Int32) (o_l_bends : Int32) (o_l_greatestForce : Int32) (o_l_chosen : Nat → Int32) (o_l_touching : Nat → Int32) (o_l_forces : Nat → Int32) (hf : fX5_planned F d_columns d_rows d_operations d_settings d_facts d_cells l_chosen l_touching l_forces a0 = some (ro, o_l_operations, o_l_limit, o_l_gap, o_l_bends, o_l_greatestForce, o_l_chosen, o_l_touching, o_l_forces)) : Fn Θ yX5_planned (Cond.code yX5_planned cX5_planned 3 (some .int) :: GW) rmX5_planned [.ref x0, .int a0] ([(x0, .inr (5, [.ref n0, .ref v0, .int x_oldestSaved, .int x_savedStates, .ref t0, .ref l0, .ref c0]))] ++ [(n0, .inr (4, [.ref d0, .ref p0]))] ++ wX1 Θ d0 d1 d2 d3 d_columns d_rows d_carrier d_partMarks d_linkMarks d_operations d_pilots d_settings d_facts d_cells ++ wX2 Θ l0 l1 l2 l3 l_operations l_limit l_gap l_bends l_greatestForce l_chosen l_touching l_forces) (some (.int ro)) ([(x0, .inr (5, [.ref n0, .ref v0, .int x_oldestSaved, .int x_savedStates, .ref t0, .ref l0, .ref c0]))] ++ [(n0, .inr (4, [.ref d0, .ref p0]))] ++ wX1 Θ d0 d1 d2 d3 d_columns d_rows d_carrier d_partMarks d_linkMarks d_operations d_pilots d_settings d_facts d_cells ++ wX2 Θ l0 l1 l2 l3 o_l_operations o_l_limit o_l_gap o_l_bends o_l_greatestForce o_l_chosen o_l_touching o_l_forces) := by
  delta fX5_planned at hf
  refine Fn.of (by decide +kernel) rfl (Nat.le_of_ble_eq_true rfl) (fun p e s m args below meth c A Q G K => ?_)
  show sw Θ p e rmX5_planned s m args below meth c A Q 3 0 0 0 [(0, .ref x0), (1, .int a0)] [] ([(x0, .inr (5, [.ref n0, .ref v0, .int x_oldestSaved, .int x_savedStates, .ref t0, .ref l0, .ref c0]))] ++ [(n0, .inr (4, [.ref d0, .ref p0]))] ++ wX1 Θ d0 d1 d2 d3 d_columns d_rows d_carrier d_partMarks d_linkMarks d_operations d_pilots d_settings d_facts d_cells ++ wX2 Θ l0 l1 l2 l3 l_operations l_limit l_gap l_bends l_greatestForce l_chosen l_touching l_forces)
  refine sw_iload_n 0 G dX5_planned_0 1 rfl ?_
  refine sw_iconst 1 G (-1 : Int32) dX5_planned_1 rfl ?_
  refine sw_icmp_eq 2 29 G dX5_planned_2 rfl hf (fun hf => ?_) (fun hf => ?_)
  · refine sw_aload_n 29 G dX5_planned_29 0 rfl ?_
    refine sw_get 30 G hnX5 0 5 dX5_planned_30 vc5 (by decide) (List.mem_cons_of_mem _ lk_a45d4547) rfl rfl ?_
    refine sw_aload_n 33 G dX5_planned_33 0 rfl ?_
    refine sw_get 34 G hnX5 0 0 dX5_planned_34 vc5 (by decide) (List.mem_cons_of_mem _ lk_c6576e33) rfl rfl ?_
    refine sw_get 37 G hnX4 1 0 dX5_planned_37 vc4 (by decide) (List.mem_cons_of_mem _ lk_b490f9e6) rfl rfl ?_
    obtain ⟨r1, u2, u3, u4, u5, u6, u7, u8, u9, hg, hf⟩ := bd9_some hf
    refine sw_callV 40 G ([(x0, .inr (5, [.ref n0, .ref v0, .int x_oldestSaved, .int x_savedStates, .ref t0, .ref l0, .ref c0]))] ++ [(n0, .inr (4, [.ref d0, .ref p0]))] ++ wX1 Θ d0 d1 d2 d3 d_columns d_rows d_carrier d_partMarks d_linkMarks d_operations d_pilots d_settings d_facts d_cells ++ wX2 Θ l0 l1 l2 l3 u2 u3 u4 u5 u6 u7 u8 u9) [6, 7, 8, 9, 2, 3, 4, 5] [0, 1] [0, 1, 6, 7, 8, 9, 2, 3, 4, 5] 1 dX5_planned_40 (kX2_findBest Θ F l0 l1 l2 l3 d0 d1 d2 d3 l_operations l_limit l_gap l_bends l_greatestForce l_chosen l_touching l_forces d_columns d_rows d_carrier d_partMarks d_linkMarks d_operations d_pilots d_settings d_facts d_cells r1 u2 u3 u4 u5 u6 u7 u8 u9 hg) (gwV lk_86176403 lk_2e86f8d8 lk_ce5cd719 lk_d27e9d3e lk_1f104a63) rfl hvX2_findBest ⟨rfl, rfl⟩ ⟨Nat.le_of_ble_eq_true rfl, Nat.le_of_ble_eq_true rfl⟩ ⟨Nat.zero_le _, Nat.zero_le _⟩ rfl rfl (Nat.le_of_ble_eq_true rfl) 0 rfl vc2 rfl rfl rfl rfl (by decide) ?_
    refine sw_istore_n 43 G [(2, .int r1), (0, .ref x0), (1, .int a0)] dX5_planned_43 (by decide) rfl ?_
    refine sw_iload_n 44 G dX5_planned_44 0 rfl ?_
    refine sw_iconst 45 G (-1 : Int32) dX5_planned_45 rfl ?_
    refine sw_icmp_eq 46 54 G dX5_planned_46 rfl hf (fun hf => ?_) (fun hf => ?_)
    · refine sw_iload_n 54 G dX5_planned_54 0 rfl ?_
      cases hf
      exact sw_iret 55 G dX5_planned_55 K
    · refine sw_iload_n 49 G dX5_planned_49 2 rfl ?_
      refine sw_iconst 50 G (-1 : Int32) dX5_planned_50 rfl ?_
      refine sw_icmp_ne 51 56 G dX5_planned_51 rfl hf (fun hf => ?_) (fun hf => ?_)
      · refine sw_aload_n 56 G dX5_planned_56 1 rfl ?_
        refine sw_get 57 G hnX5 0 5 dX5_planned_57 vc5 (by decide) (List.mem_cons_of_mem _ lk_a45d4547) rfl rfl ?_
        refine sw_iload_n 60 G dX5_planned_60 2 rfl ?_
        obtain ⟨r10, hg, hf⟩ := bd1_some hf
        refine sw_callV 61 G ([(x0, .inr (5, [.ref n0, .ref v0, .int x_oldestSaved, .int x_savedStates, .ref t0, .ref l0, .ref c0]))] ++ [(n0, .inr (4, [.ref d0, .ref p0]))] ++ wX1 Θ d0 d1 d2 d3 d_columns d_rows d_carrier d_partMarks d_linkMarks d_operations d_pilots d_settings d_facts d_cells ++ wX2 Θ l0 l1 l2 l3 u2 u3 u4 u5 u6 u7 u8 u9) [6, 7, 8, 9] [0, 1, 2, 3, 4, 5] [0, 1, 2, 3, 4, 5, 6, 7, 8, 9] 1 dX5_planned_61 (kX2_chosenFor Θ l0 l1 l2 l3 u2 u3 u4 u5 u6 u7 u8 u9 a0 r10 hg) (gwV lk_8b18a6a1 lk_9c20c1cc lk_2820cf9c lk_d27e9d3e lk_b042b34b) rfl hvX2_chosenFor ⟨rfl, rfl⟩ ⟨Nat.le_of_ble_eq_true rfl, Nat.le_of_ble_eq_true rfl⟩ ⟨Nat.zero_le _, Nat.zero_le _⟩ rfl rfl (Nat.le_of_ble_eq_true rfl) 0 rfl vc2 rfl rfl rfl rfl (by decide) ?_
        cases hf
        exact sw_iret 64 G dX5_planned_64 K
      · refine sw_iload_n 54 G dX5_planned_54 0 rfl ?_
        cases hf
        exact sw_iret 55 G dX5_planned_55 K
  · refine sw_aload_n 5 G dX5_planned_5 0 rfl ?_
    refine sw_get 6 G hnX5 0 0 dX5_planned_6 vc5 (by decide) (List.mem_cons_of_mem _ lk_c6576e33) rfl rfl ?_
    refine sw_get 9 G hnX4 1 0 dX5_planned_9 vc4 (by decide) (List.mem_cons_of_mem _ lk_b490f9e6) rfl rfl ?_
    refine sw_iload_n 12 G dX5_planned_12 1 rfl ?_
    obtain ⟨r11, hg, hf⟩ := bd1_some hf
    refine sw_callV 13 G ([(x0, .inr (5, [.ref n0, .ref v0, .int x_oldestSaved, .int x_savedStates, .ref t0, .ref l0, .ref c0]))] ++ [(n0, .inr (4, [.ref d0, .ref p0]))] ++ wX1 Θ d0 d1 d2 d3 d_columns d_rows d_carrier d_partMarks d_linkMarks d_operations d_pilots d_settings d_facts d_cells ++ wX2 Θ l0 l1 l2 l3 l_operations l_limit l_gap l_bends l_greatestForce l_chosen l_touching l_forces) [2, 3, 4, 5] [0, 1, 6, 7, 8, 9] [0, 1, 6, 7, 8, 9, 2, 3, 4, 5] 1 dX5_planned_13 (kX1_hasOperation Θ d0 d1 d2 d3 d_columns d_rows d_carrier d_partMarks d_linkMarks d_operations d_pilots d_settings d_facts d_cells a0 r11 hg) (gwV lk_02fe585c lk_bab4024f lk_df64b95a lk_cf66e99d lk_740542d2) rfl hvX1_hasOperation ⟨rfl, rfl⟩ ⟨Nat.le_of_ble_eq_true rfl, Nat.le_of_ble_eq_true rfl⟩ ⟨Nat.zero_le _, Nat.zero_le _⟩ rfl rfl (Nat.le_of_ble_eq_true rfl) 0 rfl vc1 rfl rfl rfl rfl (by decide) ?_
    refine sw_if_ne 16 29 G dX5_planned_16 rfl hf (fun hf => ?_) (fun hf => ?_)
    · refine sw_aload_n 29 G dX5_planned_29 0 rfl ?_
      refine sw_get 30 G hnX5 0 5 dX5_planned_30 vc5 (by decide) (List.mem_cons_of_mem _ lk_a45d4547) rfl rfl ?_
      refine sw_aload_n 33 G dX5_planned_33 0 rfl ?_
      refine sw_get 34 G hnX5 0 0 dX5_planned_34 vc5 (by decide) (List.mem_cons_of_mem _ lk_c6576e33) rfl rfl ?_
      refine sw_get 37 G hnX4 1 0 dX5_planned_37 vc4 (by decide) (List.mem_cons_of_mem _ lk_b490f9e6) rfl rfl ?_
      obtain ⟨r12, u13, u14, u15, u16, u17, u18, u19, u20, hg, hf⟩ := bd9_some hf
      refine sw_callV 40 G ([(x0, .inr (5, [.ref n0, .ref v0, .int x_oldestSaved, .int x_savedStates, .ref t0, .ref l0, .ref c0]))] ++ [(n0, .inr (4, [.ref d0, .ref p0]))] ++ wX1 Θ d0 d1 d2 d3 d_columns d_rows d_carrier d_partMarks d_linkMarks d_operations d_pilots d_settings d_facts d_cells ++ wX2 Θ l0 l1 l2 l3 u13 u14 u15 u16 u17 u18 u19 u20) [6, 7, 8, 9, 2, 3, 4, 5] [0, 1] [0, 1, 6, 7, 8, 9, 2, 3, 4, 5] 1 dX5_planned_40 (kX2_findBest Θ F l0 l1 l2 l3 d0 d1 d2 d3 l_operations l_limit l_gap l_bends l_greatestForce l_chosen l_touching l_forces d_columns d_rows d_carrier d_partMarks d_linkMarks d_operations d_pilots d_settings d_facts d_cells r12 u13 u14 u15 u16 u17 u18 u19 u20 hg) (gwV lk_86176403 lk_2e86f8d8 lk_ce5cd719 lk_d27e9d3e lk_1f104a63) rfl hvX2_findBest ⟨rfl, rfl⟩ ⟨Nat.le_of_ble_eq_true rfl, Nat.le_of_ble_eq_true rfl⟩ ⟨Nat.zero_le _, Nat.zero_le _⟩ rfl rfl (Nat.le_of_ble_eq_true rfl) 0 rfl vc2 rfl rfl rfl rfl (by decide) ?_
      refine sw_istore_n 43 G [(2, .int r12), (0, .ref x0), (1, .int a0)] dX5_planned_43 (by decide) rfl ?_
      refine sw_iload_n 44 G dX5_planned_44 0 rfl ?_
      refine sw_iconst 45 G (-1 : Int32) dX5_planned_45 rfl ?_
      refine sw_icmp_eq 46 54 G dX5_planned_46 rfl hf (fun hf => ?_) (fun hf => ?_)
      · refine sw_iload_n 54 G dX5_planned_54 0 rfl ?_
        cases hf
        exact sw_iret 55 G dX5_planned_55 K
      · refine sw_iload_n 49 G dX5_planned_49 2 rfl ?_
        refine sw_iconst 50 G (-1 : Int32) dX5_planned_50 rfl ?_
        refine sw_icmp_ne 51 56 G dX5_planned_51 rfl hf (fun hf => ?_) (fun hf => ?_)
        · refine sw_aload_n 56 G dX5_planned_56 1 rfl ?_
          refine sw_get 57 G hnX5 0 5 dX5_planned_57 vc5 (by decide) (List.mem_cons_of_mem _ lk_a45d4547) rfl rfl ?_
          refine sw_iload_n 60 G dX5_planned_60 2 rfl ?_
          obtain ⟨r21, hg, hf⟩ := bd1_some hf
          refine sw_callV 61 G ([(x0, .inr (5, [.ref n0, .ref v0, .int x_oldestSaved, .int x_savedStates, .ref t0, .ref l0, .ref c0]))] ++ [(n0, .inr (4, [.ref d0, .ref p0]))] ++ wX1 Θ d0 d1 d2 d3 d_columns d_rows d_carrier d_partMarks d_linkMarks d_operations d_pilots d_settings d_facts d_cells ++ wX2 Θ l0 l1 l2 l3 u13 u14 u15 u16 u17 u18 u19 u20) [6, 7, 8, 9] [0, 1, 2, 3, 4, 5] [0, 1, 2, 3, 4, 5, 6, 7, 8, 9] 1 dX5_planned_61 (kX2_chosenFor Θ l0 l1 l2 l3 u13 u14 u15 u16 u17 u18 u19 u20 a0 r21 hg) (gwV lk_8b18a6a1 lk_9c20c1cc lk_2820cf9c lk_d27e9d3e lk_b042b34b) rfl hvX2_chosenFor ⟨rfl, rfl⟩ ⟨Nat.le_of_ble_eq_true rfl, Nat.le_of_ble_eq_true rfl⟩ ⟨Nat.zero_le _, Nat.zero_le _⟩ rfl rfl (Nat.le_of_ble_eq_true rfl) 0 rfl vc2 rfl rfl rfl rfl (by decide) ?_
          cases hf
          exact sw_iret 64 G dX5_planned_64 K
        · refine sw_iload_n 54 G dX5_planned_54 0 rfl ?_
          cases hf
          exact sw_iret 55 G dX5_planned_55 K
    · cases hf
abbrev rmX5_fitsTwice : Room := { frames := 3, cells := 0, slots := 0, locals := 83 }
theorem hvX5_fitsTwice : yX5_fitsTwice.cls = RX5 ∧ yX5_fitsTwice.cls ≠ "java/lang/invoke/MethodHandle" ∧ yX5_fitsTwice.cls ≠ "java/lang/invoke/VarHandle" ∧ (parseMethodDescriptor yX5_fitsTwice.desc).map (fun d => d.parameters.length) = some 0 := by decide +kernel
set_option maxRecDepth 100000 in
set_option maxHeartbeats 4000000 in
theorem kX5_fitsTwice (Θ : Tht) (F : Nat) (x0 n0 d0 d1 d2 d3 v0 t0 l0 c0 p0 : Nat) (x_oldestSaved : Int32) (x_savedStates : Int32) (d_columns : Int32) (d_rows : Int32) (d_carrier : Int32) (d_partMarks : Int64) (d_linkMarks : Int64) (d_operations : Int32) (d_pilots : Int32) (d_settings : Nat → Int32) (d_facts : Nat → Int32) (d_cells : Nat → Int64) (ro : Int32) (hf : fX5_fitsTwice F d_columns d_rows d_carrier d_partMarks = some ro) : Fn Θ yX5_fitsTwice (Cond.code yX5_fitsTwice cX5_fitsTwice 1 (some .int) :: GW) rmX5_fitsTwice [.ref x0] ([(x0, .inr (5, [.ref n0, .ref v0, .int x_oldestSaved, .int x_savedStates, .ref t0, .ref l0, .ref c0]))] ++ [(n0, .inr (4, [.ref d0, .ref p0]))] ++ wX1 Θ d0 d1 d2 d3 d_columns d_rows d_carrier d_partMarks d_linkMarks d_operations d_pilots d_settings d_facts d_cells) (some (.int ro)) ([(x0, .inr (5, [.ref n0, .ref v0, .int x_oldestSaved, .int x_savedStates, .ref t0, .ref l0, .ref c0]))] ++ [(n0, .inr (4, [.ref d0, .ref p0]))] ++ wX1 Θ d0 d1 d2 d3 d_columns d_rows d_carrier d_partMarks d_linkMarks d_operations d_pilots d_settings d_facts d_cells) := by
  delta fX5_fitsTwice at hf
  refine Fn.of (by decide +kernel) rfl (Nat.le_of_ble_eq_true rfl) (fun p e s m args below meth c A Q G K => ?_)
  show sw Θ p e rmX5_fitsTwice s m args below meth c A Q 1 0 0 0 [(0, .ref x0)] [] ([(x0, .inr (5, [.ref n0, .ref v0, .int x_oldestSaved, .int x_savedStates, .ref t0, .ref l0, .ref c0]))] ++ [(n0, .inr (4, [.ref d0, .ref p0]))] ++ wX1 Θ d0 d1 d2 d3 d_columns d_rows d_carrier d_partMarks d_linkMarks d_operations d_pilots d_settings d_facts d_cells)
  refine sw_aload_n 0 G dX5_fitsTwice_0 0 rfl ?_
  refine sw_get 1 G hnX5 0 0 dX5_fitsTwice_1 vc5 (by decide) (List.mem_cons_of_mem _ lk_c6576e33) rfl rfl ?_
  refine sw_get 4 G hnX4 1 0 dX5_fitsTwice_4 vc4 (by decide) (List.mem_cons_of_mem _ lk_b490f9e6) rfl rfl ?_
  obtain ⟨r1, hg, hf⟩ := bd1_some hf
  refine sw_callV 7 G ([(x0, .inr (5, [.ref n0, .ref v0, .int x_oldestSaved, .int x_savedStates, .ref t0, .ref l0, .ref c0]))] ++ [(n0, .inr (4, [.ref d0, .ref p0]))] ++ wX1 Θ d0 d1 d2 d3 d_columns d_rows d_carrier d_partMarks d_linkMarks d_operations d_pilots d_settings d_facts d_cells) [2, 3, 4, 5] [0, 1] [0, 1, 2, 3, 4, 5] 0 dX5_fitsTwice_7 (kX1_hasPlaceForSecond Θ F d0 d1 d2 d3 d_columns d_rows d_carrier d_partMarks d_linkMarks d_operations d_pilots d_settings d_facts d_cells r1 hg) (gwV lk_3bd9a838 lk_de6d7d0c lk_fe8f4d8c lk_cf66e99d lk_905d8b48) rfl hvX1_hasPlaceForSecond ⟨rfl, rfl⟩ ⟨Nat.le_of_ble_eq_true rfl, Nat.le_of_ble_eq_true rfl⟩ ⟨Nat.zero_le _, Nat.zero_le _⟩ rfl rfl (Nat.le_of_ble_eq_true rfl) 0 rfl vc1 rfl rfl rfl rfl (by decide) ?_
  refine sw_if_eq 10 17 G dX5_fitsTwice_10 rfl hf (fun hf => ?_) (fun hf => ?_)
  · refine sw_iconst 17 G (0 : Int32) dX5_fitsTwice_17 rfl ?_
    cases hf
    exact sw_iret 18 G dX5_fitsTwice_18 K
  · refine sw_iconst 13 G (1 : Int32) dX5_fitsTwice_13 rfl ?_
    refine sw_goto 14 G 18 dX5_fitsTwice_14 rfl ?_
    cases hf
    exact sw_iret 18 G dX5_fitsTwice_18 K
abbrev rmX5_scrap : Room := { frames := 3, cells := 0, slots := 0, locals := 83 }
theorem hvX5_scrap : yX5_scrap.cls = RX5 ∧ yX5_scrap.cls ≠ "java/lang/invoke/MethodHandle" ∧ yX5_scrap.cls ≠ "java/lang/invoke/VarHandle" ∧ (parseMethodDescriptor yX5_scrap.desc).map (fun d => d.parameters.length) = some 1 := by decide +kernel
set_option maxRecDepth 100000 in
set_option maxHeartbeats 4000000 in
theorem kX5_scrap (Θ : Tht) (F : Nat) (x0 n0 d0 d1 d2 d3 v0 t0 l0 c0 p0 : Nat) (x_oldestSaved : Int32) (x_savedStates : Int32) (d_columns : Int32) (d_rows : Int32) (d_carrier : Int32) (d_partMarks : Int64) (d_linkMarks : Int64) (d_operations : Int32) (d_pilots : Int32) (d_settings : Nat → Int32) (d_facts : Nat → Int32) (d_cells : Nat → Int64) (a0 : Int32) (ro : Int32) (hf : fX5_scrap F d_columns d_rows d_carrier d_partMarks a0 = some ro) : Fn Θ yX5_scrap (Cond.code yX5_scrap cX5_scrap 4 (some .int) :: GW) rmX5_scrap [.ref x0, .int a0] ([(x0, .inr (5, [.ref n0, .ref v0, .int x_oldestSaved, .int x_savedStates, .ref t0, .ref l0, .ref c0]))] ++ [(n0, .inr (4, [.ref d0, .ref p0]))] ++ wX1 Θ d0 d1 d2 d3 d_columns d_rows d_carrier d_partMarks d_linkMarks d_operations d_pilots d_settings d_facts d_cells) (some (.int ro)) ([(x0, .inr (5, [.ref n0, .ref v0, .int x_oldestSaved, .int x_savedStates, .ref t0, .ref l0, .ref c0]))] ++ [(n0, .inr (4, [.ref d0, .ref p0]))] ++ wX1 Θ d0 d1 d2 d3 d_columns d_rows d_carrier d_partMarks d_linkMarks d_operations d_pilots d_settings d_facts d_cells) := by
  delta fX5_scrap at hf
  refine Fn.of (by decide +kernel) rfl (Nat.le_of_ble_eq_true rfl) (fun p e s m args below meth c A Q G K => ?_)
  show sw Θ p e rmX5_scrap s m args below meth c A Q 4 0 0 0 [(0, .ref x0), (1, .int a0)] [] ([(x0, .inr (5, [.ref n0, .ref v0, .int x_oldestSaved, .int x_savedStates, .ref t0, .ref l0, .ref c0]))] ++ [(n0, .inr (4, [.ref d0, .ref p0]))] ++ wX1 Θ d0 d1 d2 d3 d_columns d_rows d_carrier d_partMarks d_linkMarks d_operations d_pilots d_settings d_facts d_cells)
  refine sw_aload_n 0 G dX5_scrap_0 0 rfl ?_
  refine sw_get 1 G hnX5 0 0 dX5_scrap_1 vc5 (by decide) (List.mem_cons_of_mem _ lk_c6576e33) rfl rfl ?_
  refine sw_get 4 G hnX4 1 0 dX5_scrap_4 vc4 (by decide) (List.mem_cons_of_mem _ lk_b490f9e6) rfl rfl ?_
  refine sw_get 7 G hnX1 2 0 dX5_scrap_7 vc1 (by decide) (List.mem_cons_of_mem _ lk_7d094cdf) rfl rfl ?_
  refine sw_aload_n 10 G dX5_scrap_10 0 rfl ?_
  refine sw_get 11 G hnX5 0 0 dX5_scrap_11 vc5 (by decide) (List.mem_cons_of_mem _ lk_c6576e33) rfl rfl ?_
  refine sw_get 14 G hnX4 1 0 dX5_scrap_14 vc4 (by decide) (List.mem_cons_of_mem _ lk_b490f9e6) rfl rfl ?_
  refine sw_get 17 G hnX1 2 1 dX5_scrap_17 vc1 (by decide) (List.mem_cons_of_mem _ lk_f4ec39df) rfl rfl ?_
  refine sw_imul 20 G dX5_scrap_20 ?_
  refine sw_nmi hf (fun v1 hf => ?_)
  refine sw_istore_n 21 G [(2, .int v1), (0, .ref x0), (1, .int a0)] dX5_scrap_21 (by decide) rfl ?_
  refine sw_iload_n 22 G dX5_scrap_22 0 rfl ?_
  refine sw_iconst 23 G (1 : Int32) dX5_scrap_23 rfl ?_
  refine sw_icmp_ge 24 29 G dX5_scrap_24 rfl hf (fun hf => ?_) (fun hf => ?_)
  · refine sw_aload_n 29 G dX5_scrap_29 1 rfl ?_
    refine sw_get 30 G hnX5 0 0 dX5_scrap_30 vc5 (by decide) (List.mem_cons_of_mem _ lk_c6576e33) rfl rfl ?_
    refine sw_get 33 G hnX4 1 0 dX5_scrap_33 vc4 (by decide) (List.mem_cons_of_mem _ lk_b490f9e6) rfl rfl ?_
    obtain ⟨r2, hg, hf⟩ := bd1_some hf
    refine sw_callV 36 G ([(x0, .inr (5, [.ref n0, .ref v0, .int x_oldestSaved, .int x_savedStates, .ref t0, .ref l0, .ref c0]))] ++ [(n0, .inr (4, [.ref d0, .ref p0]))] ++ wX1 Θ d0 d1 d2 d3 d_columns d_rows d_carrier d_partMarks d_linkMarks d_operations d_pilots d_settings d_facts d_cells) [2, 3, 4, 5] [0, 1] [0, 1, 2, 3, 4, 5] 0 dX5_scrap_36 (kX1_partCells Θ d0 d1 d2 d3 d_columns d_rows d_carrier d_partMarks d_linkMarks d_operations d_pilots d_settings d_facts d_cells r2 hg) (gwV lk_489fbd0f lk_c137cc36 lk_24905df5 lk_cf66e99d lk_e39ae260) rfl hvX1_partCells ⟨rfl, rfl⟩ ⟨Nat.le_of_ble_eq_true rfl, Nat.le_of_ble_eq_true rfl⟩ ⟨Nat.zero_le _, Nat.zero_le _⟩ rfl rfl (Nat.le_of_ble_eq_true rfl) 0 rfl vc1 rfl rfl rfl rfl (by decide) ?_
    obtain ⟨r3, hg, hf⟩ := bd1_some hf
    refine sw_callS 39 G ([(x0, .inr (5, [.ref n0, .ref v0, .int x_oldestSaved, .int x_savedStates, .ref t0, .ref l0, .ref c0]))] ++ [(n0, .inr (4, [.ref d0, .ref p0]))] ++ wX1 Θ d0 d1 d2 d3 d_columns d_rows d_carrier d_partMarks d_linkMarks d_operations d_pilots d_settings d_facts d_cells) [] [0, 1, 2, 3, 4, 5] [0, 1, 2, 3, 4, 5] 1 dX5_scrap_39 (kJ13_bitCount_95d88 Θ r2 r3 hg) (gwS lk_657e2a17 lk_6bfbc13d lk_b04e2cc5 lk_77169b53) rfl hsJ13_bitCount_95d88 ⟨rfl, rfl⟩ ⟨Nat.le_of_ble_eq_true rfl, Nat.le_of_ble_eq_true rfl⟩ ⟨Nat.zero_le _, Nat.zero_le _⟩ rfl rfl (Nat.le_of_ble_eq_true rfl) rfl rfl rfl (by decide) ?_
    refine sw_istore_n 42 G [(3, .int r3), (2, .int v1), (0, .ref x0), (1, .int a0)] dX5_scrap_42 (by decide) rfl ?_
    refine sw_iload_n 43 G dX5_scrap_43 3 rfl ?_
    obtain ⟨v4, hj, hf⟩ := bd1_some hf
    have hx64 : sw Θ p e rmX5_scrap s m args below meth c A Q 4 0 0 64 [(2, .int v1), (3, .int v4)] [] ([(x0, .inr (5, [.ref n0, .ref v0, .int x_oldestSaved, .int x_savedStates, .ref t0, .ref l0, .ref c0]))] ++ [(n0, .inr (4, [.ref d0, .ref p0]))] ++ wX1 Θ d0 d1 d2 d3 d_columns d_rows d_carrier d_partMarks d_linkMarks d_operations d_pilots d_settings d_facts d_cells) := by
      refine sw_sipush 64 G (1000 : Int32) dX5_scrap_64 rfl ?_
      refine sw_iload_n 67 G dX5_scrap_67 0 rfl ?_
      refine sw_iload_n 68 G dX5_scrap_68 1 rfl ?_
      refine sw_isub 69 G dX5_scrap_69 ?_
      refine sw_imul 70 G dX5_scrap_70 ?_
      refine sw_iload_n 71 G dX5_scrap_71 0 rfl ?_
      refine sw_idiv 72 G dX5_scrap_72 hf (fun hf => ?_)
      cases hf
      exact sw_iret 73 G dX5_scrap_73 K
    clear hf
    have hf := hj
    clear hj
    refine sw_if_eq 44 64 G dX5_scrap_44 rfl hf (fun hf => ?_) (fun hf => ?_)
    · cases hf
      exact sw_lv _ [1, 0] rfl hx64
    · refine sw_aload_n 47 G dX5_scrap_47 2 rfl ?_
      refine sw_get 48 G hnX5 0 0 dX5_scrap_48 vc5 (by decide) (List.mem_cons_of_mem _ lk_c6576e33) rfl rfl ?_
      refine sw_get 51 G hnX4 1 0 dX5_scrap_51 vc4 (by decide) (List.mem_cons_of_mem _ lk_b490f9e6) rfl rfl ?_
      obtain ⟨r5, hg, hf⟩ := bd1_some hf
      refine sw_callV 54 G ([(x0, .inr (5, [.ref n0, .ref v0, .int x_oldestSaved, .int x_savedStates, .ref t0, .ref l0, .ref c0]))] ++ [(n0, .inr (4, [.ref d0, .ref p0]))] ++ wX1 Θ d0 d1 d2 d3 d_columns d_rows d_carrier d_partMarks d_linkMarks d_operations d_pilots d_settings d_facts d_cells) [2, 3, 4, 5] [0, 1] [0, 1, 2, 3, 4, 5] 0 dX5_scrap_54 (kX1_hasPlaceForSecond Θ F d0 d1 d2 d3 d_columns d_rows d_carrier d_partMarks d_linkMarks d_operations d_pilots d_settings d_facts d_cells r5 hg) (gwV lk_3bd9a838 lk_de6d7d0c lk_fe8f4d8c lk_cf66e99d lk_905d8b48) rfl hvX1_hasPlaceForSecond ⟨rfl, rfl⟩ ⟨Nat.le_of_ble_eq_true rfl, Nat.le_of_ble_eq_true rfl⟩ ⟨Nat.zero_le _, Nat.zero_le _⟩ rfl rfl (Nat.le_of_ble_eq_true rfl) 0 rfl vc1 rfl rfl rfl rfl (by decide) ?_
      refine sw_if_eq 57 64 G dX5_scrap_57 rfl hf (fun hf => ?_) (fun hf => ?_)
      · cases hf
        exact sw_lv _ [1, 0] rfl hx64
      · refine sw_iconst 60 G (2 : Int32) dX5_scrap_60 rfl ?_
        refine sw_iload_n 61 G dX5_scrap_61 0 rfl ?_
        refine sw_imul 62 G dX5_scrap_62 ?_
        refine sw_nmi hf (fun v6 hf => ?_)
        refine sw_istore_n 63 G [(3, .int v6), (2, .int v1), (0, .ref x0), (1, .int a0)] dX5_scrap_63 (by decide) rfl ?_
        cases hf
        exact sw_lv _ [1, 0] rfl hx64
  · refine sw_iconst 27 G (0 : Int32) dX5_scrap_27 rfl ?_
    cases hf
    exact sw_iret 28 G dX5_scrap_28 K
abbrev rmX5_strokesToGood : Room := { frames := 4, cells := 0, slots := 0, locals := 96 }
theorem hvX5_strokesToGood : yX5_strokesToGood.cls = RX5 ∧ yX5_strokesToGood.cls ≠ "java/lang/invoke/MethodHandle" ∧ yX5_strokesToGood.cls ≠ "java/lang/invoke/VarHandle" ∧ (parseMethodDescriptor yX5_strokesToGood.desc).map (fun d => d.parameters.length) = some 0 := by decide +kernel
set_option maxRecDepth 100000 in
set_option maxHeartbeats 4000000 in
theorem kX5_strokesToGood (Θ : Tht) (F : Nat) (x0 n0 d0 d1 d2 d3 p0 p1 p2 p3 t0 t1 t2 t3 v0 l0 c0 : Nat) (x_oldestSaved : Int32) (x_savedStates : Int32) (d_columns : Int32) (d_rows : Int32) (d_carrier : Int32) (d_partMarks : Int64) (d_linkMarks : Int64) (d_operations : Int32) (d_pilots : Int32) (d_settings : Nat → Int32) (d_facts : Nat → Int32) (d_cells : Nat → Int64) (p_pitches : Int32) (p_spoiled : Int32) (p_cells : Nat → Int64) (p_bends : Nat → Int32) (p_offsets : Nat → Int32) (p_strokes : Int32) (p_goodParts : Int32) (p_badParts : Int32) (p_slugs : Int32) (t_pitches : Int32) (t_spoiled : Int32) (t_cells : Nat → Int64) (t_bends : Nat → Int32) (t_offsets : Nat → Int32) (t_strokes : Int32) (t_goodParts : Int32) (t_badParts : Int32) (t_slugs : Int32) (ro : Int32) (o_t_pitches : Int32) (o_t_spoiled : Int32) (o_t_cells : Nat → Int64) (o_t_bends : Nat → Int32) (o_t_offsets : Nat → Int32) (o_t_strokes : Int32) (o_t_goodParts : Int32) (o_t_badParts : Int32) (o_t_slugs : Int32) (hf : fX5_strokesToGood F d_columns d_rows d_carrier d_partMarks d_linkMarks d_operations d_pilots d_settings d_facts d_cells p_pitches p_spoiled p_cells p_bends p_offsets p_strokes p_goodParts p_badParts p_slugs t_cells t_bends t_offsets = some (ro, o_t_pitches, o_t_spoiled, o_t_cells, o_t_bends, o_t_offsets, o_t_strokes, o_t_goodParts, o_t_badParts, o_t_slugs)) : Fn Θ yX5_strokesToGood (Cond.code yX5_strokesToGood cX5_strokesToGood 3 (some .int) :: GW) rmX5_strokesToGood [.ref x0] ([(x0, .inr (5, [.ref n0, .ref v0, .int x_oldestSaved, .int x_savedStates, .ref t0, .ref l0, .ref c0]))] ++ [(n0, .inr (4, [.ref d0, .ref p0]))] ++ wX1 Θ d0 d1 d2 d3 d_columns d_rows d_carrier d_partMarks d_linkMarks d_operations d_pilots d_settings d_facts d_cells ++ wX3 Θ p0 p1 p2 p3 p_pitches p_spoiled p_cells p_bends p_offsets p_strokes p_goodParts p_badParts p_slugs ++ wX3 Θ t0 t1 t2 t3 t_pitches t_spoiled t_cells t_bends t_offsets t_strokes t_goodParts t_badParts t_slugs) (some (.int ro)) ([(x0, .inr (5, [.ref n0, .ref v0, .int x_oldestSaved, .int x_savedStates, .ref t0, .ref l0, .ref c0]))] ++ [(n0, .inr (4, [.ref d0, .ref p0]))] ++ wX1 Θ d0 d1 d2 d3 d_columns d_rows d_carrier d_partMarks d_linkMarks d_operations d_pilots d_settings d_facts d_cells ++ wX3 Θ p0 p1 p2 p3 p_pitches p_spoiled p_cells p_bends p_offsets p_strokes p_goodParts p_badParts p_slugs ++ wX3 Θ t0 t1 t2 t3 o_t_pitches o_t_spoiled o_t_cells o_t_bends o_t_offsets o_t_strokes o_t_goodParts o_t_badParts o_t_slugs) := by
  delta fX5_strokesToGood at hf
  refine Fn.of (by decide +kernel) rfl (Nat.le_of_ble_eq_true rfl) (fun p e s m args below meth c A Q G K => ?_)
  show sw Θ p e rmX5_strokesToGood s m args below meth c A Q 3 0 0 0 [(0, .ref x0)] [] ([(x0, .inr (5, [.ref n0, .ref v0, .int x_oldestSaved, .int x_savedStates, .ref t0, .ref l0, .ref c0]))] ++ [(n0, .inr (4, [.ref d0, .ref p0]))] ++ wX1 Θ d0 d1 d2 d3 d_columns d_rows d_carrier d_partMarks d_linkMarks d_operations d_pilots d_settings d_facts d_cells ++ wX3 Θ p0 p1 p2 p3 p_pitches p_spoiled p_cells p_bends p_offsets p_strokes p_goodParts p_badParts p_slugs ++ wX3 Θ t0 t1 t2 t3 t_pitches t_spoiled t_cells t_bends t_offsets t_strokes t_goodParts t_badParts t_slugs)
  refine sw_aload_n 0 G dX5_strokesToGood_0 0 rfl ?_
  refine sw_get 1 G hnX5 0 4 dX5_strokesToGood_1 vc5 (by decide) (List.mem_cons_of_mem _ lk_e93b6007) rfl rfl ?_
  refine sw_aload_n 4 G dX5_strokesToGood_4 0 rfl ?_
  refine sw_get 5 G hnX5 0 0 dX5_strokesToGood_5 vc5 (by decide) (List.mem_cons_of_mem _ lk_c6576e33) rfl rfl ?_
  refine sw_get 8 G hnX4 1 1 dX5_strokesToGood_8 vc4 (by decide) (List.mem_cons_of_mem _ lk_3ac9de3e) rfl rfl ?_
  obtain ⟨u1, u2, u3, u4, u5, u6, u7, u8, u9, hg, hf⟩ := bd9_some hf
  refine sw_callV 11 G ([(x0, .inr (5, [.ref n0, .ref v0, .int x_oldestSaved, .int x_savedStates, .ref t0, .ref l0, .ref c0]))] ++ [(n0, .inr (4, [.ref d0, .ref p0]))] ++ wX1 Θ d0 d1 d2 d3 d_columns d_rows d_carrier d_partMarks d_linkMarks d_operations d_pilots d_settings d_facts d_cells ++ wX3 Θ p0 p1 p2 p3 p_pitches p_spoiled p_cells p_bends p_offsets p_strokes p_goodParts p_badParts p_slugs ++ wX3 Θ t0 t1 t2 t3 u1 u2 u3 u4 u5 u6 u7 u8 u9) [10, 11, 12, 13, 6, 7, 8, 9] [0, 1, 2, 3, 4, 5] [0, 1, 2, 3, 4, 5, 10, 11, 12, 13, 6, 7, 8, 9] 1 dX5_strokesToGood_11 (kX3_copyFrom Θ F t0 t1 t2 t3 p0 p1 p2 p3 t_pitches t_spoiled t_cells t_bends t_offsets t_strokes t_goodParts t_badParts t_slugs p_pitches p_spoiled p_cells p_bends p_offsets p_strokes p_goodParts p_badParts p_slugs u1 u2 u3 u4 u5 u6 u7 u8 u9 hg) (gwV lk_c38c96fc lk_3ed287fb lk_2e527ba2 lk_106b7259 lk_944aba6b) rfl hvX3_copyFrom ⟨rfl, rfl⟩ ⟨Nat.le_of_ble_eq_true rfl, Nat.le_of_ble_eq_true rfl⟩ ⟨Nat.zero_le _, Nat.zero_le _⟩ rfl rfl (Nat.le_of_ble_eq_true rfl) 0 rfl vc3 rfl rfl rfl rfl (by decide) ?_
  refine sw_iconst 14 G (1 : Int32) dX5_strokesToGood_14 rfl ?_
  refine sw_istore_n 15 G [(1, .int (1 : Int32)), (0, .ref x0)] dX5_strokesToGood_15 (by decide) rfl ?_
  obtain ⟨w16, hl, hf0, hf1⟩ := bdS2_some hf
  have hx16_56 : ∀ (v10 : Int32) (v11 : Int32) (v12 : Int32) (v13 : Nat → Int64) (v14 : Nat → Int32) (v15 : Nat → Int32) (v16 : Int32) (v17 : Int32) (v18 : Int32) (v19 : Int32), w16 = .inl (v10, v11, v12, v13, v14, v15, v16, v17, v18, v19) → sw Θ p e rmX5_strokesToGood s m args below meth c A Q 3 0 0 56 [(1, .int v10)] [] ([(x0, .inr (5, [.ref n0, .ref v0, .int x_oldestSaved, .int x_savedStates, .ref t0, .ref l0, .ref c0]))] ++ [(n0, .inr (4, [.ref d0, .ref p0]))] ++ wX1 Θ d0 d1 d2 d3 d_columns d_rows d_carrier d_partMarks d_linkMarks d_operations d_pilots d_settings d_facts d_cells ++ wX3 Θ p0 p1 p2 p3 p_pitches p_spoiled p_cells p_bends p_offsets p_strokes p_goodParts p_badParts p_slugs ++ wX3 Θ t0 t1 t2 t3 v11 v12 v13 v14 v15 v16 v17 v18 v19) := by
    intro v10 v11 v12 v13 v14 v15 v16 v17 v18 v19 hw
    have hf := uc10_some (hf0 _ hw)
    refine sw_iload_n 56 G dX5_strokesToGood_56 0 rfl ?_
    cases hf
    exact sw_iret 57 G dX5_strokesToGood_57 K
  have hx16_64 : ∀ (v20 : Int32) (v21 : Int32) (v22 : Nat → Int64) (v23 : Nat → Int32) (v24 : Nat → Int32) (v25 : Int32) (v26 : Int32) (v27 : Int32) (v28 : Int32), w16 = .inr ((v20, v21, v22, v23, v24, v25, v26, v27, v28)) → sw Θ p e rmX5_strokesToGood s m args below meth c A Q 3 0 0 64 [] [] ([(x0, .inr (5, [.ref n0, .ref v0, .int x_oldestSaved, .int x_savedStates, .ref t0, .ref l0, .ref c0]))] ++ [(n0, .inr (4, [.ref d0, .ref p0]))] ++ wX1 Θ d0 d1 d2 d3 d_columns d_rows d_carrier d_partMarks d_linkMarks d_operations d_pilots d_settings d_facts d_cells ++ wX3 Θ p0 p1 p2 p3 p_pitches p_spoiled p_cells p_bends p_offsets p_strokes p_goodParts p_badParts p_slugs ++ wX3 Θ t0 t1 t2 t3 v20 v21 v22 v23 v24 v25 v26 v27 v28) := by
    intro v20 v21 v22 v23 v24 v25 v26 v27 v28 hw
    have hf := uc9_some (hf1 _ hw)
    refine sw_iconst 64 G (-1 : Int32) dX5_strokesToGood_64 rfl ?_
    cases hf
    exact sw_iret 65 G dX5_strokesToGood_65 K
  refine sw_lv [(0, .ref x0), (1, .int (1 : Int32))] [1, 0] rfl ?_
  refine lp_walk (P := fun (t : Int32 × Int32 × Int32 × (Nat → Int64) × (Nat → Int32) × (Nat → Int32) × Int32 × Int32 × Int32 × Int32) => sw Θ p e rmX5_strokesToGood s m args below meth c A Q 3 0 0 16 [(0, .ref x0), (1, .int t.1)] [] ([(x0, .inr (5, [.ref n0, .ref v0, .int x_oldestSaved, .int x_savedStates, .ref t0, .ref l0, .ref c0]))] ++ [(n0, .inr (4, [.ref d0, .ref p0]))] ++ wX1 Θ d0 d1 d2 d3 d_columns d_rows d_carrier d_partMarks d_linkMarks d_operations d_pilots d_settings d_facts d_cells ++ wX3 Θ p0 p1 p2 p3 p_pitches p_spoiled p_cells p_bends p_offsets p_strokes p_goodParts p_badParts p_slugs ++ wX3 Θ t0 t1 t2 t3 t.2.1 t.2.2.1 t.2.2.2.1 t.2.2.2.2.1 t.2.2.2.2.2.1 t.2.2.2.2.2.2.1 t.2.2.2.2.2.2.2.1 t.2.2.2.2.2.2.2.2.1 t.2.2.2.2.2.2.2.2.2)) hl (fun t16 y16 hf hin16 hex16 => ?_)
  obtain ⟨v29, v30, v31, v32, v33, v34, v35, v36, v37, v38⟩ := t16
  show sw Θ p e rmX5_strokesToGood s m args below meth c A Q 3 0 0 16 [(0, .ref x0), (1, .int v29)] [] ([(x0, .inr (5, [.ref n0, .ref v0, .int x_oldestSaved, .int x_savedStates, .ref t0, .ref l0, .ref c0]))] ++ [(n0, .inr (4, [.ref d0, .ref p0]))] ++ wX1 Θ d0 d1 d2 d3 d_columns d_rows d_carrier d_partMarks d_linkMarks d_operations d_pilots d_settings d_facts d_cells ++ wX3 Θ p0 p1 p2 p3 p_pitches p_spoiled p_cells p_bends p_offsets p_strokes p_goodParts p_badParts p_slugs ++ wX3 Θ t0 t1 t2 t3 v30 v31 v32 v33 v34 v35 v36 v37 v38)
  have hf := uc10_some (K := _) hf
  refine sw_iload_n 16 G dX5_strokesToGood_16 1 rfl ?_
  refine sw_bipush 17 G (60 : Int32) dX5_strokesToGood_17 rfl ?_
  refine sw_icmp_gt 19 64 G dX5_strokesToGood_19 rfl hf (fun hf => ?_) (fun hf => ?_)
  · cases hf
    exact sw_lv _ [] rfl (hx16_64 _ _ _ _ _ _ _ _ _ (hex16 _ rfl).symm)
  · refine sw_aload_n 22 G dX5_strokesToGood_22 0 rfl ?_
    refine sw_get 23 G hnX5 0 4 dX5_strokesToGood_23 vc5 (by decide) (List.mem_cons_of_mem _ lk_e93b6007) rfl rfl ?_
    refine sw_get 26 G hnX3 10 6 dX5_strokesToGood_26 vc3 (by decide) (List.mem_cons_of_mem _ lk_58658812) rfl rfl ?_
    refine sw_istore_n 29 G [(2, .int v36), (0, .ref x0), (1, .int v29)] dX5_strokesToGood_29 (by decide) rfl ?_
    refine sw_aload_n 30 G dX5_strokesToGood_30 1 rfl ?_
    refine sw_get 31 G hnX5 0 4 dX5_strokesToGood_31 vc5 (by decide) (List.mem_cons_of_mem _ lk_e93b6007) rfl rfl ?_
    refine sw_aload_n 34 G dX5_strokesToGood_34 1 rfl ?_
    refine sw_get 35 G hnX5 0 0 dX5_strokesToGood_35 vc5 (by decide) (List.mem_cons_of_mem _ lk_c6576e33) rfl rfl ?_
    refine sw_get 38 G hnX4 1 0 dX5_strokesToGood_38 vc4 (by decide) (List.mem_cons_of_mem _ lk_b490f9e6) rfl rfl ?_
    obtain ⟨r39, u40, u41, u42, u43, u44, u45, u46, u47, u48, hg, hf⟩ := bd10_some hf
    refine sw_callV 41 G ([(x0, .inr (5, [.ref n0, .ref v0, .int x_oldestSaved, .int x_savedStates, .ref t0, .ref l0, .ref c0]))] ++ [(n0, .inr (4, [.ref d0, .ref p0]))] ++ wX1 Θ d0 d1 d2 d3 d_columns d_rows d_carrier d_partMarks d_linkMarks d_operations d_pilots d_settings d_facts d_cells ++ wX3 Θ p0 p1 p2 p3 p_pitches p_spoiled p_cells p_bends p_offsets p_strokes p_goodParts p_badParts p_slugs ++ wX3 Θ t0 t1 t2 t3 u40 u41 u42 u43 u44 u45 u46 u47 u48) [10, 11, 12, 13, 2, 3, 4, 5] [0, 1, 6, 7, 8, 9] [0, 1, 10, 11, 12, 13, 2, 3, 4, 5, 6, 7, 8, 9] 1 dX5_strokesToGood_41 (kX3_feed Θ F t0 t1 t2 t3 d0 d1 d2 d3 v30 v31 v32 v33 v34 v35 v36 v37 v38 d_columns d_rows d_carrier d_partMarks d_linkMarks d_operations d_pilots d_settings d_facts d_cells r39 u40 u41 u42 u43 u44 u45 u46 u47 u48 hg) (gwV lk_20f2b810 lk_bd6e1689 lk_71b73a8f lk_106b7259 lk_0822d573) rfl hvX3_feed ⟨rfl, rfl⟩ ⟨Nat.le_of_ble_eq_true rfl, Nat.le_of_ble_eq_true rfl⟩ ⟨Nat.zero_le _, Nat.zero_le _⟩ rfl rfl (Nat.le_of_ble_eq_true rfl) 0 rfl vc3 rfl rfl rfl rfl (by decide) ?_
    refine sw_pop 44 G dX5_strokesToGood_44 rfl ?_
    refine sw_aload_n 45 G dX5_strokesToGood_45 1 rfl ?_
    refine sw_get 46 G hnX5 0 4 dX5_strokesToGood_46 vc5 (by decide) (List.mem_cons_of_mem _ lk_e93b6007) rfl rfl ?_
    refine sw_get 49 G hnX3 10 6 dX5_strokesToGood_49 vc3 (by decide) (List.mem_cons_of_mem _ lk_58658812) rfl rfl ?_
    refine sw_iload_n 52 G dX5_strokesToGood_52 0 rfl ?_
    refine sw_icmp_le 53 58 G dX5_strokesToGood_53 rfl hf (fun hf => ?_) (fun hf => ?_)
    · refine sw_iinc 58 G (v29 + (1 : Int32)) [(1, .int (v29 + (1 : Int32))), (2, .int v36), (0, .ref x0)] dX5_strokesToGood_58 2 rfl rfl (by decide) rfl ?_
      refine sw_goto 61 G 16 dX5_strokesToGood_61 rfl ?_
      cases hf
      have hb := hin16 _ rfl
      exact sw_lv _ [2, 0] (by rfl) hb
    · cases hf
      exact sw_lv _ [2] rfl (hx16_56 _ _ _ _ _ _ _ _ _ _ (hex16 _ rfl).symm)
