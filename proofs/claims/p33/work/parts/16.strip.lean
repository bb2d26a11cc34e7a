abbrev rmX4_copyFrom : Room := { frames := 2, cells := 0, slots := 0, locals := 43 }
theorem hvX4_copyFrom : yX4_copyFrom.cls = RX4 ∧ yX4_copyFrom.cls ≠ "java/lang/invoke/MethodHandle" ∧ yX4_copyFrom.cls ≠ "java/lang/invoke/VarHandle" ∧ (parseMethodDescriptor yX4_copyFrom.desc).map (fun d => d.parameters.length) = some 1 := by decide +kernel
set_option maxRecDepth 100000 in
set_option maxHeartbeats 4000000 in
theorem kX4_copyFrom (Θ : Tht) (F : Nat) (n0 d0 d1 d2 d3 p0 p1 p2 p3 on0 od0 od1 od2 od3 op0 op1 op2 op3 : Nat) (d_columns : Int32) (d_rows : Int32) (d_carrier : Int32) (d_partMarks : Int64) (d_linkMarks : Int64) (d_operations : Int32) (d_pilots : Int32) (d_settings : Nat → Int32) (d_facts : Nat → Int32) (d_cells : Nat → Int64) (p_pitches : Int32) (p_spoiled : Int32) (p_cells : Nat → Int64) (p_bends : Nat → Int32) (p_offsets : Nat → Int32) (p_strokes : Int32) (p_goodParts : Int32) (p_badParts : Int32) (p_slugs : Int32) (od_columns : Int32) (od_rows : Int32) (od_carrier : Int32) (od_partMarks : Int64) (od_linkMarks : Int64) (od_operations : Int32) (od_pilots : Int32) (od_settings : Nat → Int32) (od_facts : Nat → Int32) (od_cells : Nat → Int64) (op_pitches : Int32) (op_spoiled : Int32) (op_cells : Nat → Int64) (op_bends : Nat → Int32) (op_offsets : Nat → Int32) (op_strokes : Int32) (op_goodParts : Int32) (op_badParts : Int32) (op_slugs : Int32) (o_d_columns : Int32) (o_d_rows : Int32) (o_d_carrier : Int32) (o_d_partMarks : Int64) (o_d_linkMarks : Int64) (o_d_operations : Int32) (o_d_pilots : Int32) (o_d_settings : Nat → Int32) (o_d_facts : Nat → Int32) (o_d_cells : Nat → Int64) (o_p_pitches : Int32) (o_p_spoiled : Int32) (o_p_cells : Nat → Int64) (o_p_bends : Nat → Int32) (o_p_offsets : Nat → Int32) (o_p_strokes : Int32) (o_p_goodParts : Int32) (o_p_badParts : Int32) (o_p_slugs : Int32) (hf : fX4_copyFrom F d_settings d_facts d_cells p_cells p_bends p_offsets od_columns od_rows od_carrier od_partMarks od_linkMarks od_operations od_pilots od_settings od_facts od_cells op_pitches op_spoiled op_cells op_bends op_offsets op_strokes op_goodParts op_badParts op_slugs = some (o_d_columns, o_d_rows, o_d_carrier, o_d_partMarks, o_d_linkMarks, o_d_operations, o_d_pilots, o_d_settings, o_d_facts, o_d_cells, o_p_pitches, o_p_spoiled, o_p_cells, o_p_bends, o_p_offsets, o_p_strokes, o_p_goodParts, o_p_badParts, o_p_slugs)) : Fn Θ yX4_copyFrom (Cond.code yX4_copyFrom cX4_copyFrom 2 none :: GW) rmX4_copyFrom [.ref n0, .ref on0] ([(n0, .inr (4, [.ref d0, .ref p0]))] ++ wX1 Θ d0 d1 d2 d3 d_columns d_rows d_carrier d_partMarks d_linkMarks d_operations d_pilots d_settings d_facts d_cells ++ wX3 Θ p0 p1 p2 p3 p_pitches p_spoiled p_cells p_bends p_offsets p_strokes p_goodParts p_badParts p_slugs ++ [(on0, .inr (4, [.ref od0, .ref op0]))] ++ wX1 Θ od0 od1 od2 od3 od_columns od_rows od_carrier od_partMarks od_linkMarks od_operations od_pilots od_settings od_facts od_cells ++ wX3 Θ op0 op1 op2 op3 op_pitches op_spoiled op_cells op_bends op_offsets op_strokes op_goodParts op_badParts op_slugs) none ([(n0, .inr (4, [.ref d0, .ref p0]))] ++ wX1 Θ d0 d1 d2 d3 o_d_columns o_d_rows o_d_carrier o_d_partMarks o_d_linkMarks o_d_operations o_d_pilots o_d_settings o_d_facts o_d_cells ++ wX3 Θ p0 p1 p2 p3 o_p_pitches o_p_spoiled o_p_cells o_p_bends o_p_offsets o_p_strokes o_p_goodParts o_p_badParts o_p_slugs ++ [(on0, .inr (4, [.ref od0, .ref op0]))] ++ wX1 Θ od0 od1 od2 od3 od_columns od_rows od_carrier od_partMarks od_linkMarks od_operations od_pilots od_settings od_facts od_cells ++ wX3 Θ op0 op1 op2 op3 op_pitches op_spoiled op_cells op_bends op_offsets op_strokes op_goodParts op_badParts op_slugs) := by
  delta fX4_copyFrom at hf
  refine Fn.of (by decide +kernel) rfl (Nat.le_of_ble_eq_true rfl) (fun p e s m args below meth c A Q G K => ?_)
  show sw Θ p e rmX4_copyFrom s m args below meth c A Q 2 0 0 0 [(0, .ref n0), (1, .ref on0)] [] ([(n0, .inr (4, [.ref d0, .ref p0]))] ++ wX1 Θ d0 d1 d2 d3 d_columns d_rows d_carrier d_partMarks d_linkMarks d_operations d_pilots d_settings d_facts d_cells ++ wX3 Θ p0 p1 p2 p3 p_pitches p_spoiled p_cells p_bends p_offsets p_strokes p_goodParts p_badParts p_slugs ++ [(on0, .inr (4, [.ref od0, .ref op0]))] ++ wX1 Θ od0 od1 od2 od3 od_columns od_rows od_carrier od_partMarks od_linkMarks od_operations od_pilots od_settings od_facts od_cells ++ wX3 Θ op0 op1 op2 op3 op_pitches op_spoiled op_cells op_bends op_offsets op_strokes op_goodParts op_badParts op_slugs)
  refine sw_aload_n 0 G dX4_copyFrom_0 0 rfl ?_
  refine sw_get 1 G hnX4 0 0 dX4_copyFrom_1 vc4 (by decide) (List.mem_cons_of_mem _ lk_0f75c8f8) rfl rfl ?_
  refine sw_aload_n 4 G dX4_copyFrom_4 1 rfl ?_
  refine sw_get 5 G hnX4 9 0 dX4_copyFrom_5 vc4 (by decide) (List.mem_cons_of_mem _ lk_0f75c8f8) rfl rfl ?_
  obtain ⟨u1, u2, u3, u4, u5, u6, u7, u8, u9, u10, hg, hf⟩ := bd10_some hf
  refine sw_callV 8 G ([(n0, .inr (4, [.ref d0, .ref p0]))] ++ wX1 Θ d0 d1 d2 d3 u1 u2 u3 u4 u5 u6 u7 u8 u9 u10 ++ wX3 Θ p0 p1 p2 p3 p_pitches p_spoiled p_cells p_bends p_offsets p_strokes p_goodParts p_badParts p_slugs ++ [(on0, .inr (4, [.ref od0, .ref op0]))] ++ wX1 Θ od0 od1 od2 od3 od_columns od_rows od_carrier od_partMarks od_linkMarks od_operations od_pilots od_settings od_facts od_cells ++ wX3 Θ op0 op1 op2 op3 op_pitches op_spoiled op_cells op_bends op_offsets op_strokes op_goodParts op_badParts op_slugs) [1, 2, 3, 4, 10, 11, 12, 13] [0, 5, 6, 7, 8, 9, 14, 15, 16, 17] [0, 10, 11, 12, 13, 1, 2, 3, 4, 5, 14, 15, 16, 17, 6, 7, 8, 9] 1 dX4_copyFrom_8 (kX1_copyFrom Θ F d0 d1 d2 d3 od0 od1 od2 od3 d_columns d_rows d_carrier d_partMarks d_linkMarks d_operations d_pilots d_settings d_facts d_cells od_columns od_rows od_carrier od_partMarks od_linkMarks od_operations od_pilots od_settings od_facts od_cells u1 u2 u3 u4 u5 u6 u7 u8 u9 u10 hg) (gwV lk_cc2a4593 lk_be021d1a lk_b3b57f19 lk_cf66e99d lk_a8e212df) rfl hvX1_copyFrom ⟨rfl, rfl⟩ ⟨Nat.le_of_ble_eq_true rfl, Nat.le_of_ble_eq_true rfl⟩ ⟨Nat.zero_le _, Nat.zero_le _⟩ rfl rfl (Nat.le_of_ble_eq_true rfl) 0 rfl vc1 rfl rfl rfl rfl (by decide) ?_
  refine sw_aload_n 11 G dX4_copyFrom_11 0 rfl ?_
  refine sw_get 12 G hnX4 0 1 dX4_copyFrom_12 vc4 (by decide) (List.mem_cons_of_mem _ lk_23ab8fcd) rfl rfl ?_
  refine sw_aload_n 15 G dX4_copyFrom_15 1 rfl ?_
  refine sw_get 16 G hnX4 9 1 dX4_copyFrom_16 vc4 (by decide) (List.mem_cons_of_mem _ lk_23ab8fcd) rfl rfl ?_
  obtain ⟨u11, u12, u13, u14, u15, u16, u17, u18, u19, hg, hf⟩ := bd9_some hf
  refine sw_callV 19 G ([(n0, .inr (4, [.ref d0, .ref p0]))] ++ wX1 Θ d0 d1 d2 d3 u1 u2 u3 u4 u5 u6 u7 u8 u9 u10 ++ wX3 Θ p0 p1 p2 p3 u11 u12 u13 u14 u15 u16 u17 u18 u19 ++ [(on0, .inr (4, [.ref od0, .ref op0]))] ++ wX1 Θ od0 od1 od2 od3 od_columns od_rows od_carrier od_partMarks od_linkMarks od_operations od_pilots od_settings od_facts od_cells ++ wX3 Θ op0 op1 op2 op3 op_pitches op_spoiled op_cells op_bends op_offsets op_strokes op_goodParts op_badParts op_slugs) [5, 6, 7, 8, 14, 15, 16, 17] [0, 1, 2, 3, 4, 9, 10, 11, 12, 13] [0, 1, 2, 3, 4, 10, 11, 12, 13, 5, 6, 7, 8, 9, 14, 15, 16, 17] 1 dX4_copyFrom_19 (kX3_copyFrom Θ F p0 p1 p2 p3 op0 op1 op2 op3 p_pitches p_spoiled p_cells p_bends p_offsets p_strokes p_goodParts p_badParts p_slugs op_pitches op_spoiled op_cells op_bends op_offsets op_strokes op_goodParts op_badParts op_slugs u11 u12 u13 u14 u15 u16 u17 u18 u19 hg) (gwV lk_c503e9c0 lk_3ed287fb lk_2e527ba2 lk_106b7259 lk_944aba6b) rfl hvX3_copyFrom ⟨rfl, rfl⟩ ⟨Nat.le_of_ble_eq_true rfl, Nat.le_of_ble_eq_true rfl⟩ ⟨Nat.zero_le _, Nat.zero_le _⟩ rfl rfl (Nat.le_of_ble_eq_true rfl) 0 rfl vc3 rfl rfl rfl rfl (by decide) ?_
  cases hf
  exact sw_vret 22 G dX4_copyFrom_22 K
abbrev rmX5_startOver : Room := { frames := 3, cells := 0, slots := 0, locals := 61 }
theorem hvX5_startOver : yX5_startOver.cls = RX5 ∧ yX5_startOver.cls ≠ "java/lang/invoke/MethodHandle" ∧ yX5_startOver.cls ≠ "java/lang/invoke/VarHandle" ∧ (parseMethodDescriptor yX5_startOver.desc).map (fun d => d.parameters.length) = some 2 := by decide +kernel
set_option maxRecDepth 100000 in
set_option maxHeartbeats 4000000 in
theorem kX5_startOver (Θ : Tht) (x0 n0 d0 d1 d2 d3 p0 p1 p2 p3 v0 t0 l0 c0 : Nat) (x_oldestSaved : Int32) (x_savedStates : Int32) (d_columns : Int32) (d_rows : Int32) (d_carrier : Int32) (d_partMarks : Int64) (d_linkMarks : Int64) (d_operations : Int32) (d_pilots : Int32) (d_settings : Nat → Int32) (d_facts : Nat → Int32) (d_cells : Nat → Int64) (p_pitches : Int32) (p_spoiled : Int32) (p_cells : Nat → Int64) (p_bends : Nat → Int32) (p_offsets : Nat → Int32) (p_strokes : Int32) (p_goodParts : Int32) (p_badParts : Int32) (p_slugs : Int32) (a0 : Int32) (a1 : Int32) (o_d_columns : Int32) (o_d_rows : Int32) (o_d_partMarks : Int64) (o_d_linkMarks : Int64) (o_d_operations : Int32) (o_d_pilots : Int32) (o_p_pitches : Int32) (o_p_spoiled : Int32) (o_p_strokes : Int32) (o_p_goodParts : Int32) (o_p_badParts : Int32) (o_p_slugs : Int32) (hf : fX5_startOver p_pitches a0 a1 = some (o_d_columns, o_d_rows, o_d_partMarks, o_d_linkMarks, o_d_operations, o_d_pilots, o_p_pitches, o_p_spoiled, o_p_strokes, o_p_goodParts, o_p_badParts, o_p_slugs)) : Fn Θ yX5_startOver (Cond.code yX5_startOver cX5_startOver 3 none :: GW) rmX5_startOver [.ref x0, .int a0, .int a1] ([(x0, .inr (5, [.ref n0, .ref v0, .int x_oldestSaved, .int x_savedStates, .ref t0, .ref l0, .ref c0]))] ++ [(n0, .inr (4, [.ref d0, .ref p0]))] ++ wX1 Θ d0 d1 d2 d3 d_columns d_rows d_carrier d_partMarks d_linkMarks d_operations d_pilots d_settings d_facts d_cells ++ wX3 Θ p0 p1 p2 p3 p_pitches p_spoiled p_cells p_bends p_offsets p_strokes p_goodParts p_badParts p_slugs) none ([(x0, .inr (5, [.ref n0, .ref v0, .int x_oldestSaved, .int x_savedStates, .ref t0, .ref l0, .ref c0]))] ++ [(n0, .inr (4, [.ref d0, .ref p0]))] ++ wX1 Θ d0 d1 d2 d3 o_d_columns o_d_rows d_carrier o_d_partMarks o_d_linkMarks o_d_operations o_d_pilots d_settings d_facts d_cells ++ wX3 Θ p0 p1 p2 p3 o_p_pitches o_p_spoiled p_cells p_bends p_offsets o_p_strokes o_p_goodParts o_p_badParts o_p_slugs) := by
  delta fX5_startOver at hf
  refine Fn.of (by decide +kernel) rfl (Nat.le_of_ble_eq_true rfl) (fun p e s m args below meth c A Q G K => ?_)
  show sw Θ p e rmX5_startOver s m args below meth c A Q 3 0 0 0 [(0, .ref x0), (1, .int a0), (2, .int a1)] [] ([(x0, .inr (5, [.ref n0, .ref v0, .int x_oldestSaved, .int x_savedStates, .ref t0, .ref l0, .ref c0]))] ++ [(n0, .inr (4, [.ref d0, .ref p0]))] ++ wX1 Θ d0 d1 d2 d3 d_columns d_rows d_carrier d_partMarks d_linkMarks d_operations d_pilots d_settings d_facts d_cells ++ wX3 Θ p0 p1 p2 p3 p_pitches p_spoiled p_cells p_bends p_offsets p_strokes p_goodParts p_badParts p_slugs)
  refine sw_aload_n 0 G dX5_startOver_0 0 rfl ?_
  refine sw_get 1 G hnX5 0 0 dX5_startOver_1 vc5 (by decide) (List.mem_cons_of_mem _ lk_c6576e33) rfl rfl ?_
  refine sw_get 4 G hnX4 1 0 dX5_startOver_4 vc4 (by decide) (List.mem_cons_of_mem _ lk_b490f9e6) rfl rfl ?_
  refine sw_iload_n 7 G dX5_startOver_7 1 rfl ?_
  refine sw_iload_n 8 G dX5_startOver_8 2 rfl ?_
  obtain ⟨u1, u2, u3, u4, u5, u6, hg, hf⟩ := bd6_some hf
  refine sw_callV 9 G ([(x0, .inr (5, [.ref n0, .ref v0, .int x_oldestSaved, .int x_savedStates, .ref t0, .ref l0, .ref c0]))] ++ [(n0, .inr (4, [.ref d0, .ref p0]))] ++ wX1 Θ d0 d1 d2 d3 u1 u2 d_carrier u3 u4 u5 u6 d_settings d_facts d_cells ++ wX3 Θ p0 p1 p2 p3 p_pitches p_spoiled p_cells p_bends p_offsets p_strokes p_goodParts p_badParts p_slugs) [2, 3, 4, 5] [0, 1, 6, 7, 8, 9] [0, 1, 6, 7, 8, 9, 2, 3, 4, 5] 2 dX5_startOver_9 (kX1_startOver Θ d0 d1 d2 d3 d_columns d_rows d_carrier d_partMarks d_linkMarks d_operations d_pilots d_settings d_facts d_cells a0 a1 u1 u2 u3 u4 u5 u6 hg) (gwV lk_cfc93d1e lk_076e5058 lk_d5455e9e lk_cf66e99d lk_37e255a5) rfl hvX1_startOver ⟨rfl, rfl⟩ ⟨Nat.le_of_ble_eq_true rfl, Nat.le_of_ble_eq_true rfl⟩ ⟨Nat.zero_le _, Nat.zero_le _⟩ rfl rfl (Nat.le_of_ble_eq_true rfl) 0 rfl vc1 rfl rfl rfl rfl (by decide) ?_
  refine sw_aload_n 12 G dX5_startOver_12 0 rfl ?_
  refine sw_get 13 G hnX5 0 0 dX5_startOver_13 vc5 (by decide) (List.mem_cons_of_mem _ lk_c6576e33) rfl rfl ?_
  refine sw_get 16 G hnX4 1 1 dX5_startOver_16 vc4 (by decide) (List.mem_cons_of_mem _ lk_3ac9de3e) rfl rfl ?_
  obtain ⟨u7, u8, u9, u10, u11, u12, hg, hf⟩ := bd6_some hf
  refine sw_callV 19 G ([(x0, .inr (5, [.ref n0, .ref v0, .int x_oldestSaved, .int x_savedStates, .ref t0, .ref l0, .ref c0]))] ++ [(n0, .inr (4, [.ref d0, .ref p0]))] ++ wX1 Θ d0 d1 d2 d3 u1 u2 d_carrier u3 u4 u5 u6 d_settings d_facts d_cells ++ wX3 Θ p0 p1 p2 p3 u7 u8 p_cells p_bends p_offsets u9 u10 u11 u12) [6, 7, 8, 9] [0, 1, 2, 3, 4, 5] [0, 1, 2, 3, 4, 5, 6, 7, 8, 9] 0 dX5_startOver_19 (kX3_startOver Θ p0 p1 p2 p3 p_pitches p_spoiled p_cells p_bends p_offsets p_strokes p_goodParts p_badParts p_slugs u7 u8 u9 u10 u11 u12 hg) (gwV lk_3b5e6d33 lk_507ed552 lk_8188b3b1 lk_106b7259 lk_481ef626) rfl hvX3_startOver ⟨rfl, rfl⟩ ⟨Nat.le_of_ble_eq_true rfl, Nat.le_of_ble_eq_true rfl⟩ ⟨Nat.zero_le _, Nat.zero_le _⟩ rfl rfl (Nat.le_of_ble_eq_true rfl) 0 rfl vc3 rfl rfl rfl rfl (by decide) ?_
  cases hf
  exact sw_vret 22 G dX5_startOver_22 K
abbrev rmX5_dieFault : Room := { frames := 4, cells := 0, slots := 0, locals := 110 }
theorem hvX5_dieFault : yX5_dieFault.cls = RX5 ∧ yX5_dieFault.cls ≠ "java/lang/invoke/MethodHandle" ∧ yX5_dieFault.cls ≠ "java/lang/invoke/VarHandle" ∧ (parseMethodDescriptor yX5_dieFault.desc).map (fun d => d.parameters.length) = some 0 := by decide +kernel
set_option maxRecDepth 100000 in
set_option maxHeartbeats 4000000 in
theorem kX5_dieFault (Θ : Tht) (F : Nat) (x0 n0 d0 d1 d2 d3 v0 t0 l0 c0 p0 : Nat) (x_oldestSaved : Int32) (x_savedStates : Int32) (d_columns : Int32) (d_rows : Int32) (d_carrier : Int32) (d_partMarks : Int64) (d_linkMarks : Int64) (d_operations : Int32) (d_pilots : Int32) (d_settings : Nat → Int32) (d_facts : Nat → Int32) (d_cells : Nat → Int64) (ro : Int32) (hf : fX5_dieFault F d_columns d_rows d_carrier d_partMarks d_linkMarks d_operations d_facts d_cells = some ro) : Fn Θ yX5_dieFault (Cond.code yX5_dieFault cX5_dieFault 1 (some .int) :: GW) rmX5_dieFault [.ref x0] ([(x0, .inr (5, [.ref n0, .ref v0, .int x_oldestSaved, .int x_savedStates, .ref t0, .ref l0, .ref c0]))] ++ [(n0, .inr (4, [.ref d0, .ref p0]))] ++ wX1 Θ d0 d1 d2 d3 d_columns d_rows d_carrier d_partMarks d_linkMarks d_operations d_pilots d_settings d_facts d_cells) (some (.int ro)) ([(x0, .inr (5, [.ref n0, .ref v0, .int x_oldestSaved, .int x_savedStates, .ref t0, .ref l0, .ref c0]))] ++ [(n0, .inr (4, [.ref d0, .ref p0]))] ++ wX1 Θ d0 d1 d2 d3 d_columns d_rows d_carrier d_partMarks d_linkMarks d_operations d_pilots d_settings d_facts d_cells) := by
  delta fX5_dieFault at hf
  refine Fn.of (by decide +kernel) rfl (Nat.le_of_ble_eq_true rfl) (fun p e s m args below meth c A Q G K => ?_)
  show sw Θ p e rmX5_dieFault s m args below meth c A Q 1 0 0 0 [(0, .ref x0)] [] ([(x0, .inr (5, [.ref n0, .ref v0, .int x_oldestSaved, .int x_savedStates, .ref t0, .ref l0, .ref c0]))] ++ [(n0, .inr (4, [.ref d0, .ref p0]))] ++ wX1 Θ d0 d1 d2 d3 d_columns d_rows d_carrier d_partMarks d_linkMarks d_operations d_pilots d_settings d_facts d_cells)
  refine sw_aload_n 0 G dX5_dieFault_0 0 rfl ?_
  refine sw_get 1 G hnX5 0 0 dX5_dieFault_1 vc5 (by decide) (List.mem_cons_of_mem _ lk_c6576e33) rfl rfl ?_
  refine sw_get 4 G hnX4 1 0 dX5_dieFault_4 vc4 (by decide) (List.mem_cons_of_mem _ lk_b490f9e6) rfl rfl ?_
  obtain ⟨r1, hg, hf⟩ := bd1_some hf
  refine sw_callV 7 G ([(x0, .inr (5, [.ref n0, .ref v0, .int x_oldestSaved, .int x_savedStates, .ref t0, .ref l0, .ref c0]))] ++ [(n0, .inr (4, [.ref d0, .ref p0]))] ++ wX1 Θ d0 d1 d2 d3 d_columns d_rows d_carrier d_partMarks d_linkMarks d_operations d_pilots d_settings d_facts d_cells) [2, 3, 4, 5] [0, 1] [0, 1, 2, 3, 4, 5] 0 dX5_dieFault_7 (kX1_faultOfDie Θ F d0 d1 d2 d3 d_columns d_rows d_carrier d_partMarks d_linkMarks d_operations d_pilots d_settings d_facts d_cells r1 hg) (gwV lk_74686323 lk_ea1ec609 lk_0e05a378 lk_cf66e99d lk_407bd8aa) rfl hvX1_faultOfDie ⟨rfl, rfl⟩ ⟨Nat.le_of_ble_eq_true rfl, Nat.le_of_ble_eq_true rfl⟩ ⟨Nat.zero_le _, Nat.zero_le _⟩ rfl rfl (Nat.le_of_ble_eq_true rfl) 0 rfl vc1 rfl rfl rfl rfl (by decide) ?_
  cases hf
  exact sw_iret 10 G dX5_dieFault_10 K
abbrev rmX5_planFault : Room := { frames := 5, cells := 0, slots := 0, locals := 129 }
theorem hvX5_planFault : yX5_planFault.cls = RX5 ∧ yX5_planFault.cls ≠ "java/lang/invoke/MethodHandle" ∧ yX5_planFault.cls ≠ "java/lang/invoke/VarHandle" ∧ (parseMethodDescriptor yX5_planFault.desc).map (fun d => d.parameters.length) = some 0 := by decide +kernel
set_option maxRecDepth 100000 in
set_option maxHeartbeats 4000000 in
theorem kX5_planFault (Θ : Tht) (F : Nat) (x0 n0 d0 d1 d2 d3 v0 t0 l0 c0 p0 : Nat) (x_oldestSaved : Int32) (x_savedStates : Int32) (d_columns : Int32) (d_rows : Int32) (d_carrier : Int32) (d_partMarks : Int64) (d_linkMarks : Int64) (d_operations : Int32) (d_pilots : Int32) (d_settings : Nat → Int32) (d_facts : Nat → Int32) (d_cells : Nat → Int64) (ro : Int32) (hf : fX5_planFault F d_columns d_rows d_operations d_settings d_facts d_cells = some ro) : Fn Θ yX5_planFault (Cond.code yX5_planFault cX5_planFault 1 (some .int) :: GW) rmX5_planFault [.ref x0] ([(x0, .inr (5, [.ref n0, .ref v0, .int x_oldestSaved, .int x_savedStates, .ref t0, .ref l0, .ref c0]))] ++ [(n0, .inr (4, [.ref d0, .ref p0]))] ++ wX1 Θ d0 d1 d2 d3 d_columns d_rows d_carrier d_partMarks d_linkMarks d_operations d_pilots d_settings d_facts d_cells) (some (.int ro)) ([(x0, .inr (5, [.ref n0, .ref v0, .int x_oldestSaved, .int x_savedStates, .ref t0, .ref l0, .ref c0]))] ++ [(n0, .inr (4, [.ref d0, .ref p0]))] ++ wX1 Θ d0 d1 d2 d3 d_columns d_rows d_carrier d_partMarks d_linkMarks d_operations d_pilots d_settings d_facts d_cells) := by
  delta fX5_planFault at hf
  refine Fn.of (by decide +kernel) rfl (Nat.le_of_ble_eq_true rfl) (fun p e s m args below meth c A Q G K => ?_)
  show sw Θ p e rmX5_planFault s m args below meth c A Q 1 0 0 0 [(0, .ref x0)] [] ([(x0, .inr (5, [.ref n0, .ref v0, .int x_oldestSaved, .int x_savedStates, .ref t0, .ref l0, .ref c0]))] ++ [(n0, .inr (4, [.ref d0, .ref p0]))] ++ wX1 Θ d0 d1 d2 d3 d_columns d_rows d_carrier d_partMarks d_linkMarks d_operations d_pilots d_settings d_facts d_cells)
  refine sw_aload_n 0 G dX5_planFault_0 0 rfl ?_
  refine sw_get 1 G hnX5 0 0 dX5_planFault_1 vc5 (by decide) (List.mem_cons_of_mem _ lk_c6576e33) rfl rfl ?_
  refine sw_get 4 G hnX4 1 0 dX5_planFault_4 vc4 (by decide) (List.mem_cons_of_mem _ lk_b490f9e6) rfl rfl ?_
  obtain ⟨r1, hg, hf⟩ := bd1_some hf
  refine sw_callV 7 G ([(x0, .inr (5, [.ref n0, .ref v0, .int x_oldestSaved, .int x_savedStates, .ref t0, .ref l0, .ref c0]))] ++ [(n0, .inr (4, [.ref d0, .ref p0]))] ++ wX1 Θ d0 d1 d2 d3 d_columns d_rows d_carrier d_partMarks d_linkMarks d_operations d_pilots d_settings d_facts d_cells) [2, 3, 4, 5] [0, 1] [0, 1, 2, 3, 4, 5] 0 dX5_planFault_7 (kX1_faultOfPlan Θ F d0 d1 d2 d3 d_columns d_rows d_carrier d_partMarks d_linkMarks d_operations d_pilots d_settings d_facts d_cells r1 hg) (gwV lk_f7a8275f lk_3bd7a712 lk_4f0bcd6e lk_cf66e99d lk_8f64c644) rfl hvX1_faultOfPlan ⟨rfl, rfl⟩ ⟨Nat.le_of_ble_eq_true rfl, Nat.le_of_ble_eq_true rfl⟩ ⟨Nat.zero_le _, Nat.zero_le _⟩ rfl rfl (Nat.le_of_ble_eq_true rfl) 0 rfl vc1 rfl rfl rfl rfl (by decide) ?_
  cases hf
  exact sw_iret 10 G dX5_planFault_10 K
abbrev rmX5_fitsTwice : Room := { frames := 3, cells := 0, slots := 0, locals := 83 }
theorem hvX5_fitsTwice : yX5_fitsTwice.cls = RX5 ∧ yX5_fitsTwice.cls ≠ "java/lang/invoke/MethodHandle" ∧ yX5_fitsTwice.cls ≠ "java/lang/invoke/VarHandle" ∧ (parseMethodDescriptor yX5_fitsTwice.desc).map (fun d => d.parameters.length) = some 0 := by decide +kernel
set_option maxRecDepth 100000 in
set_option maxHeartbeats 4000000 in
theorem kX5_fitsTwice (Θ : Tht) (F : Nat) (x0 n0 d0 d1 d2 d3 v0 t0 l0 c0 p0 : Nat) (x_oldestSaved : Int32) (x_savedStates : Int32) (d_columns : Int32) (d_rows : Int32) (d_carrier : Int32) (d_partMarks : Int64) (d_linkMarks : Int64) (d_operations : Int32) (d_pilots : Int32) (d_settings : Nat → Int32) (d_facts : Nat → Int32) (d_cells : Nat → Int64) (ro : Int32) (hf : fX5_fitsTwice F d_columns d_rows d_carrier d_partMarks = some ro) : Fn Θ yX5_fitsTwice (Cond.code yX5_fitsTwice cX5_fitsTwice 1 (some .int) :: GW) rmX5_fitsTwice [.ref x0] ([(x0, .inr (5, [.ref n0, .ref v0, .int x_oldestSaved, .int x_savedStates, .ref t0, .ref l0, .ref c0]))] ++ [(n0, .inr (4, [.ref d0, .ref p0]))] ++ wX1 Θ d0 d1 d2 d3 d_columns d_rows d_carrier d_partMarks d_linkMarks d_operations d_pilots d_settings d_facts d_cells) (some (.int ro)) ([(x0, .inr (5, [.ref n0, .ref v0, .int x_oldestSaved, .int x_savedStates, .ref t0, .ref l0, .ref c0]))] ++ [(n0, .inr (4, [.ref d0, .ref p0]))] ++ wX1 Θ d0 d1 d2 d3 d_columns d_rows d_carrier d_partMarks d_linkMarks d_operations d_pilots d_settings d_facts d_cells) := by
  delta fX5_fitsTwice at hf
  refine Fn.of (by decide +kernel) rfl (Nat.le_of_ble_eq_true rfl) (fun p e s m args below meth c A Q G K => ?_)
  show sw Θ p e rmX5_fitsTwice s m args below meth c A Q 1 0 0 0 [(0, .ref x0)] [] ([(x0, .inr (5, [.ref n0, .ref v0, .int x_oldestSaved, .int x_savedStates, .ref t0, .ref l0, .ref c0]))] ++ [(n0, .inr (4, [.ref d0, .ref p0]))] ++ wX1 Θ d0 d1 d2 d3 d_columns d_rows d_carrier d_partMarks d_linkMarks d_operations d_pilots d_settings d_facts d_cells)
  refine sw_aload_n 0 G dX5_fitsTwice_0 0 rfl ?_
  refine sw_get 1 G hnX5 0 0 dX5_fitsTwice_1 vc5 (by decide) (List.mem_cons_of_mem _ lk_c6576e33) rfl rfl ?_
  refine sw_get 4 G hnX4 1 0 dX5_fitsTwice_4 vc4 (by decide) (List.mem_cons_of_mem _ lk_b490f9e6) rfl rfl ?_
  obtain ⟨r1, hg, hf⟩ := bd1_some hf
  refine sw_callV 7 G ([(x0, .inr (5, [.ref n0, .ref v0, .int x_oldestSaved, .int x_savedStates, .ref t0, .ref l0, .ref c0]))] ++ [(n0, .inr (4, [.ref d0, .ref p0]))] ++ wX1 Θ d0 d1 d2 d3 d_columns d_rows d_carrier d_partMarks d_linkMarks d_operations d_pilots d_settings d_facts d_cells) [2, 3, 4, 5] [0, 1] [0, 1, 2, 3, 4, 5] 0 dX5_fitsTwice_7 (kX1_hasPlaceForSecond Θ F d0 d1 d2 d3 d_columns d_rows d_carrier d_partMarks d_linkMarks d_operations d_pilots d_settings d_facts d_cells r1 hg) (gwV lk_3bd9a838 lk_de6d7d0c lk_fe8f4d8c lk_cf66e99d lk_905d8b48) rfl hvX1_hasPlaceForSecond ⟨rfl, rfl⟩ ⟨Nat.le_of_ble_eq_true rfl, Nat.le_of_ble_eq_true rfl⟩ ⟨Nat.zero_le _, Nat.zero_le _⟩ rfl rfl (Nat.le_of_ble_eq_true rfl) 0 rfl vc1 rfl rfl rfl rfl (by decide) ?_
  refine sw_if_eq 10 17 G dX5_fitsTwice_10 rfl hf (fun hf => ?_) (fun hf => ?_)
  · refine sw_iconst 17 G (0 : Int32) dX5_fitsTwice_17 rfl ?_
    cases hf
    exact sw_iret 18 G dX5_fitsTwice_18 K
  · refine sw_iconst 13 G (1 : Int32) dX5_fitsTwice_13 rfl ?_
    refine sw_goto 14 G 18 dX5_fitsTwice_14 rfl ?_
    cases hf
    exact sw_iret 18 G dX5_fitsTwice_18 K
abbrev rmX5_scrap : Room := { frames := 3, cells := 0, slots := 0, locals := 83 }
theorem hvX5_scrap : yX5_scrap.cls = RX5 ∧ yX5_scrap.cls ≠ "java/lang/invoke/MethodHandle" ∧ yX5_scrap.cls ≠ "java/lang/invoke/VarHandle" ∧ (parseMethodDescriptor yX5_scrap.desc).map (fun d => d.parameters.length) = some 1 := by decide +kernel
set_option maxRecDepth 100000 in
set_option maxHeartbeats 4000000 in
theorem kX5_scrap (Θ : Tht) (F : Nat) (x0 n0 d0 d1 d2 d3 v0 t0 l0 c0 p0 : Nat) (x_oldestSaved : Int32) (x_savedStates : Int32) (d_columns : Int32) (d_rows : Int32) (d_carrier : Int32) (d_partMarks : Int64) (d_linkMarks : Int64) (d_operations : Int32) (d_pilots : Int32) (d_settings : Nat → Int32) (d_facts : Nat → Int32) (d_cells : Nat → Int64) (a0 : Int32) (ro : Int32) (hf : fX5_scrap F d_columns d_rows d_carrier d_partMarks a0 = some ro) : Fn Θ yX5_scrap (Cond.code yX5_scrap cX5_scrap 4 (some .int) :: GW) rmX5_scrap [.ref x0, .int a0] ([(x0, .inr (5, [.ref n0, .ref v0, .int x_oldestSaved, .int x_savedStates, .ref t0, .ref l0, .ref c0]))] ++ [(n0, .inr (4, [.ref d0, .ref p0]))] ++ wX1 Θ d0 d1 d2 d3 d_columns d_rows d_carrier d_partMarks d_linkMarks d_operations d_pilots d_settings d_facts d_cells) (some (.int ro)) ([(x0, .inr (5, [.ref n0, .ref v0, .int x_oldestSaved, .int x_savedStates, .ref t0, .ref l0, .ref c0]))] ++ [(n0, .inr (4, [.ref d0, .ref p0]))] ++ wX1 Θ d0 d1 d2 d3 d_columns d_rows d_carrier d_partMarks d_linkMarks d_operations d_pilots d_settings d_facts d_cells) := by
  delta fX5_scrap at hf
  refine Fn.of (by decide +kernel) rfl (Nat.le_of_ble_eq_true rfl) (fun p e s m args below meth c A Q G K => ?_)
  show sw Θ p e rmX5_scrap s m args below meth c A Q 4 0 0 0 [(0, .ref x0), (1, .int a0)] [] ([(x0, .inr (5, [.ref n0, .ref v0, .int x_oldestSaved, .int x_savedStates, .ref t0, .ref l0, .ref c0]))] ++ [(n0, .inr (4, [.ref d0, .ref p0]))] ++ wX1 Θ d0 d1 d2 d3 d_columns d_rows d_carrier d_partMarks d_linkMarks d_operations d_pilots d_settings d_facts d_cells)
  refine sw_aload_n 0 G dX5_scrap_0 0 rfl ?_
  refine sw_get 1 G hnX5 0 0 dX5_scrap_1 vc5 (by decide) (List.mem_cons_of_mem _ lk_c6576e33) rfl rfl ?_
  refine sw_get 4 G hnX4 1 0 dX5_scrap_4 vc4 (by decide) (List.mem_cons_of_mem _ lk_b490f9e6) rfl rfl ?_
  refine sw_get 7 G hnX1 2 0 dX5_scrap_7 vc1 (by decide) (List.mem_cons_of_mem _ lk_7d094cdf) rfl rfl ?_
  refine sw_aload_n 10 G dX5_scrap_10 0 rfl ?_
  refine sw_get 11 G hnX5 0 0 dX5_scrap_11 vc5 (by decide) (List.mem_cons_of_mem _ lk_c6576e33) rfl rfl ?_
  refine sw_get 14 G hnX4 1 0 dX5_scrap_14 vc4 (by decide) (List.mem_cons_of_mem _ lk_b490f9e6) rfl rfl ?_
  refine sw_get 17 G hnX1 2 1 dX5_scrap_17 vc1 (by decide) (List.mem_cons_of_mem _ lk_f4ec39df) rfl rfl ?_
  refine sw_imul 20 G dX5_scrap_20 ?_
  refine sw_nmi hf (fun v1 hf => ?_)
  refine sw_istore_n 21 G [(2, .int v1), (0, .ref x0), (1, .int a0)] dX5_scrap_21 (by decide) rfl ?_
  refine sw_iload_n 22 G dX5_scrap_22 0 rfl ?_
  refine sw_iconst 23 G (1 : Int32) dX5_scrap_23 rfl ?_
  refine sw_icmp_ge 24 29 G dX5_scrap_24 rfl hf (fun hf => ?_) (fun hf => ?_)
  · refine sw_aload_n 29 G dX5_scrap_29 1 rfl ?_
    refine sw_get 30 G hnX5 0 0 dX5_scrap_30 vc5 (by decide) (List.mem_cons_of_mem _ lk_c6576e33) rfl rfl ?_
    refine sw_get 33 G hnX4 1 0 dX5_scrap_33 vc4 (by decide) (List.mem_cons_of_mem _ lk_b490f9e6) rfl rfl ?_
    obtain ⟨r2, hg, hf⟩ := bd1_some hf
    refine sw_callV 36 G ([(x0, .inr (5, [.ref n0, .ref v0, .int x_oldestSaved, .int x_savedStates, .ref t0, .ref l0, .ref c0]))] ++ [(n0, .inr (4, [.ref d0, .ref p0]))] ++ wX1 Θ d0 d1 d2 d3 d_columns d_rows d_carrier d_partMarks d_linkMarks d_operations d_pilots d_settings d_facts d_cells) [2, 3, 4, 5] [0, 1] [0, 1, 2, 3, 4, 5] 0 dX5_scrap_36 (kX1_partCells Θ d0 d1 d2 d3 d_columns d_rows d_carrier d_partMarks d_linkMarks d_operations d_pilots d_settings d_facts d_cells r2 hg) (gwV lk_489fbd0f lk_c137cc36 lk_24905df5 lk_cf66e99d lk_e39ae260) rfl hvX1_partCells ⟨rfl, rfl⟩ ⟨Nat.le_of_ble_eq_true rfl, Nat.le_of_ble_eq_true rfl⟩ ⟨Nat.zero_le _, Nat.zero_le _⟩ rfl rfl (Nat.le_of_ble_eq_true rfl) 0 rfl vc1 rfl rfl rfl rfl (by decide) ?_
    obtain ⟨r3, hg, hf⟩ := bd1_some hf
    refine sw_callS 39 G ([(x0, .inr (5, [.ref n0, .ref v0, .int x_oldestSaved, .int x_savedStates, .ref t0, .ref l0, .ref c0]))] ++ [(n0, .inr (4, [.ref d0, .ref p0]))] ++ wX1 Θ d0 d1 d2 d3 d_columns d_rows d_carrier d_partMarks d_linkMarks d_operations d_pilots d_settings d_facts d_cells) [] [0, 1, 2, 3, 4, 5] [0, 1, 2, 3, 4, 5] 1 dX5_scrap_39 (kJ13_bitCount_95d88 Θ r2 r3 hg) (gwS lk_657e2a17 lk_6bfbc13d lk_b04e2cc5 lk_77169b53) rfl hsJ13_bitCount_95d88 ⟨rfl, rfl⟩ ⟨Nat.le_of_ble_eq_true rfl, Nat.le_of_ble_eq_true rfl⟩ ⟨Nat.zero_le _, Nat.zero_le _⟩ rfl rfl (Nat.le_of_ble_eq_true rfl) rfl rfl rfl (by decide) ?_
    refine sw_istore_n 42 G [(3, .int r3), (2, .int v1), (0, .ref x0), (1, .int a0)] dX5_scrap_42 (by decide) rfl ?_
    refine sw_iload_n 43 G dX5_scrap_43 3 rfl ?_
    obtain ⟨v4, hj, hf⟩ := bd1_some hf
    have hx64 : sw Θ p e rmX5_scrap s m args below meth c A Q 4 0 0 64 [(2, .int v1), (3, .int v4)] [] ([(x0, .inr (5, [.ref n0, .ref v0, .int x_oldestSaved, .int x_savedStates, .ref t0, .ref l0, .ref c0]))] ++ [(n0, .inr (4, [.ref d0, .ref p0]))] ++ wX1 Θ d0 d1 d2 d3 d_columns d_rows d_carrier d_partMarks d_linkMarks d_operations d_pilots d_settings d_facts d_cells) := by
      refine sw_sipush 64 G (1000 : Int32) dX5_scrap_64 rfl ?_
      refine sw_iload_n 67 G dX5_scrap_67 0 rfl ?_
      refine sw_iload_n 68 G dX5_scrap_68 1 rfl ?_
      refine sw_isub 69 G dX5_scrap_69 ?_
      refine sw_imul 70 G dX5_scrap_70 ?_
      refine sw_iload_n 71 G dX5_scrap_71 0 rfl ?_
      refine sw_idiv 72 G dX5_scrap_72 hf (fun hf => ?_)
      cases hf
      exact sw_iret 73 G dX5_scrap_73 K
    clear hf
    have hf := hj
    clear hj
    refine sw_if_eq 44 64 G dX5_scrap_44 rfl hf (fun hf => ?_) (fun hf => ?_)
    · cases hf
      exact sw_lv _ [1, 0] rfl hx64
    · refine sw_aload_n 47 G dX5_scrap_47 2 rfl ?_
      refine sw_get 48 G hnX5 0 0 dX5_scrap_48 vc5 (by decide) (List.mem_cons_of_mem _ lk_c6576e33) rfl rfl ?_
      refine sw_get 51 G hnX4 1 0 dX5_scrap_51 vc4 (by decide) (List.mem_cons_of_mem _ lk_b490f9e6) rfl rfl ?_
      obtain ⟨r5, hg, hf⟩ := bd1_some hf
      refine sw_callV 54 G ([(x0, .inr (5, [.ref n0, .ref v0, .int x_oldestSaved, .int x_savedStates, .ref t0, .ref l0, .ref c0]))] ++ [(n0, .inr (4, [.ref d0, .ref p0]))] ++ wX1 Θ d0 d1 d2 d3 d_columns d_rows d_carrier d_partMarks d_linkMarks d_operations d_pilots d_settings d_facts d_cells) [2, 3, 4, 5] [0, 1] [0, 1, 2, 3, 4, 5] 0 dX5_scrap_54 (kX1_hasPlaceForSecond Θ F d0 d1 d2 d3 d_columns d_rows d_carrier d_partMarks d_linkMarks d_operations d_pilots d_settings d_facts d_cells r5 hg) (gwV lk_3bd9a838 lk_de6d7d0c lk_fe8f4d8c lk_cf66e99d lk_905d8b48) rfl hvX1_hasPlaceForSecond ⟨rfl, rfl⟩ ⟨Nat.le_of_ble_eq_true rfl, Nat.le_of_ble_eq_true rfl⟩ ⟨Nat.zero_le _, Nat.zero_le _⟩ rfl rfl (Nat.le_of_ble_eq_true rfl) 0 rfl vc1 rfl rfl rfl rfl (by decide) ?_
      refine sw_if_eq 57 64 G dX5_scrap_57 rfl hf (fun hf => ?_) (fun hf => ?_)
      · cases hf
        exact sw_lv _ [1, 0] rfl hx64
      · refine sw_iconst 60 G (2 : Int32) dX5_scrap_60 rfl ?_
        refine sw_iload_n 61 G dX5_scrap_61 0 rfl ?_
        refine sw_imul 62 G dX5_scrap_62 ?_
        refine sw_nmi hf (fun v6 hf => ?_)
        refine sw_istore_n 63 G [(3, .int v6), (2, .int v1), (0, .ref x0), (1, .int a0)] dX5_scrap_63 (by decide) rfl ?_
        cases hf
        exact sw_lv _ [1, 0] rfl hx64
  · refine sw_iconst 27 G (0 : Int32) dX5_scrap_27 rfl ?_
    cases hf
    exact sw_iret 28 G dX5_scrap_28 K
abbrev rmX5_strokesToGood : Room := { frames := 4, cells := 0, slots := 0, locals := 96 }
theorem hvX5_strokesToGood : yX5_strokesToGood.cls = RX5 ∧ yX5_strokesToGood.cls ≠ "java/lang/invoke/MethodHandle" ∧ yX5_strokesToGood.cls ≠ "java/lang/invoke/VarHandle" ∧ (parseMethodDescriptor yX5_strokesToGood.desc).map (fun d => d.parameters.length) = some 0 := by decide +kernel
set_option maxRecDepth 100000 in
set_option maxHeartbeats 4000000 in
theorem kX5_strokesToGood (Θ : Tht) (F : Nat) (x0 n0 d0 d1 d2 d3 p0 p1 p2 p3 t0 t1 t2 t3 v0 l0 c0 : Nat) (x_oldestSaved : Int32) (x_savedStates : Int32) (d_columns : Int32) (d_rows : Int32) (d_carrier : Int32) (d_partMarks : Int64) (d_linkMarks : Int64) (d_operations : Int32) (d_pilots : Int32) (d_settings : Nat → Int32) (d_facts : Nat → Int32) (d_cells : Nat → Int64) (p_pitches : Int32) (p_spoiled : Int32) (p_cells : Nat → Int64) (p_bends : Nat → Int32) (p_offsets : Nat → Int32) (p_strokes : Int32) (p_goodParts : Int32) (p_badParts : Int32) (p_slugs : Int32) (t_pitches : Int32) (t_spoiled : Int32) (t_cells : Nat → Int64) (t_bends : Nat → Int32) (t_offsets : Nat → Int32) (t_strokes : Int32) (t_goodParts : Int32) (t_badParts : Int32) (t_slugs : Int32) (ro : Int32) (o_t_pitches : Int32) (o_t_spoiled : Int32) (o_t_cells : Nat → Int64) (o_t_bends : Nat → Int32) (o_t_offsets : Nat → Int32) (o_t_strokes : Int32) (o_t_goodParts : Int32) (o_t_badParts : Int32) (o_t_slugs : Int32) (hf : fX5_strokesToGood F d_columns d_rows d_carrier d_partMarks d_linkMarks d_operations d_pilots d_settings d_facts d_cells p_pitches p_spoiled p_cells p_bends p_offsets p_strokes p_goodParts p_badParts p_slugs t_cells t_bends t_offsets = some (ro, o_t_pitches, o_t_spoiled, o_t_cells, o_t_bends, o_t_offsets, o_t_strokes, o_t_goodParts, o_t_badParts, o_t_slugs)) : Fn Θ yX5_strokesToGood (Cond.code yX5_strokesToGood cX5_strokesToGood 3 (some .int) :: GW) rmX5_strokesToGood [.ref x0] ([(x0, .inr (5, [.ref n0, .ref v0, .int x_oldestSaved, .int x_savedStates, .ref t0, .ref l0, .ref c0]))] ++ [(n0, .inr (4, [.ref d0, .ref p0]))] ++ wX1 Θ d0 d1 d2 d3 d_columns d_rows d_carrier d_partMarks d_linkMarks d_operations d_pilots d_settings d_facts d_cells ++ wX3 Θ p0 p1 p2 p3 p_pitches p_spoiled p_cells p_bends p_offsets p_strokes p_goodParts p_badParts p_slugs ++ wX3 Θ t0 t1 t2 t3 t_pitches t_spoiled t_cells t_bends t_offsets t_strokes t_goodParts t_badParts t_slugs) (some (.int ro)) ([(x0, .inr (5, [.ref n0, .ref v0, .int x_oldestSaved, .int x_savedStates, .ref t0, .ref l0, .ref c0]))] ++ [(n0, .inr (4, [.ref d0, .ref p0]))] ++ wX1 Θ d0 d1 d2 d3 d_columns d_rows d_carrier d_partMarks d_linkMarks d_operations d_pilots d_settings d_facts d_cells ++ wX3 Θ p0 p1 p2 p3 p_pitches p_spoiled p_cells p_bends p_offsets p_strokes p_goodParts p_badParts p_slugs ++ wX3 Θ t0 t1 t2 t3 o_t_pitches o_t_spoiled o_t_cells o_t_bends o_t_offsets o_t_strokes o_t_goodParts o_t_badParts o_t_slugs) := by
  delta fX5_strokesToGood at hf
  refine Fn.of (by decide +kernel) rfl (Nat.le_of_ble_eq_true rfl) (fun p e s m args below meth c A Q G K => ?_)
  show sw Θ p e rmX5_strokesToGood s m args below meth c A Q 3 0 0 0 [(0, .ref x0)] [] ([(x0, .inr (5, [.ref n0, .ref v0, .int x_oldestSaved, .int x_savedStates, .ref t0, .ref l0, .ref c0]))] ++ [(n0, .inr (4, [.ref d0, .ref p0]))] ++ wX1 Θ d0 d1 d2 d3 d_columns d_rows d_carrier d_partMarks d_linkMarks d_operations d_pilots d_settings d_facts d_cells ++ wX3 Θ p0 p1 p2 p3 p_pitches p_spoiled p_cells p_bends p_offsets p_strokes p_goodParts p_badParts p_slugs ++ wX3 Θ t0 t1 t2 t3 t_pitches t_spoiled t_cells t_bends t_offsets t_strokes t_goodParts t_badParts t_slugs)
  refine sw_aload_n 0 G dX5_strokesToGood_0 0 rfl ?_
  refine sw_get 1 G hnX5 0 4 dX5_strokesToGood_1 vc5 (by decide) (List.mem_cons_of_mem _ lk_e93b6007) rfl rfl ?_
  refine sw_aload_n 4 G dX5_strokesToGood_4 0 rfl ?_
  refine sw_get 5 G hnX5 0 0 dX5_strokesToGood_5 vc5 (by decide) (List.mem_cons_of_mem _ lk_c6576e33) rfl rfl ?_
  refine sw_get 8 G hnX4 1 1 dX5_strokesToGood_8 vc4 (by decide) (List.mem_cons_of_mem _ lk_3ac9de3e) rfl rfl ?_
  obtain ⟨u1, u2, u3, u4, u5, u6, u7, u8, u9, hg, hf⟩ := bd9_some hf
  refine sw_callV 11 G ([(x0, .inr (5, [.ref n0, .ref v0, .int x_oldestSaved, .int x_savedStates, .ref t0, .ref l0, .ref c0]))] ++ [(n0, .inr (4, [.ref d0, .ref p0]))] ++ wX1 Θ d0 d1 d2 d3 d_columns d_rows d_carrier d_partMarks d_linkMarks d_operations d_pilots d_settings d_facts d_cells ++ wX3 Θ p0 p1 p2 p3 p_pitches p_spoiled p_cells p_bends p_offsets p_strokes p_goodParts p_badParts p_slugs ++ wX3 Θ t0 t1 t2 t3 u1 u2 u3 u4 u5 u6 u7 u8 u9) [10, 11, 12, 13, 6, 7, 8, 9] [0, 1, 2, 3, 4, 5] [0, 1, 2, 3, 4, 5, 10, 11, 12, 13, 6, 7, 8, 9] 1 dX5_strokesToGood_11 (kX3_copyFrom Θ F t0 t1 t2 t3 p0 p1 p2 p3 t_pitches t_spoiled t_cells t_bends t_offsets t_strokes t_goodParts t_badParts t_slugs p_pitches p_spoiled p_cells p_bends p_offsets p_strokes p_goodParts p_badParts p_slugs u1 u2 u3 u4 u5 u6 u7 u8 u9 hg) (gwV lk_c38c96fc lk_3ed287fb lk_2e527ba2 lk_106b7259 lk_944aba6b) rfl hvX3_copyFrom ⟨rfl, rfl⟩ ⟨Nat.le_of_ble_eq_true rfl, Nat.le_of_ble_eq_true rfl⟩ ⟨Nat.zero_le _, Nat.zero_le _⟩ rfl rfl (Nat.le_of_ble_eq_true rfl) 0 rfl vc3 rfl rfl rfl rfl (by decide) ?_
  refine sw_iconst 14 G (1 : Int32) dX5_strokesToGood_14 rfl ?_
  refine sw_istore_n 15 G [(1, .int (1 : Int32)), (0, .ref x0)] dX5_strokesToGood_15 (by decide) rfl ?_
  obtain ⟨w16, hl, hf0, hf1⟩ := bdS2_some hf
  have hx16_56 : ∀ (v10 : Int32) (v11 : Int32) (v12 : Int32) (v13 : Nat → Int64) (v14 : Nat → Int32) (v15 : Nat → Int32) (v16 : Int32) (v17 : Int32) (v18 : Int32) (v19 : Int32), w16 = .inl (v10, v11, v12, v13, v14, v15, v16, v17, v18, v19) → sw Θ p e rmX5_strokesToGood s m args below meth c A Q 3 0 0 56 [(1, .int v10)] [] ([(x0, .inr (5, [.ref n0, .ref v0, .int x_oldestSaved, .int x_savedStates, .ref t0, .ref l0, .ref c0]))] ++ [(n0, .inr (4, [.ref d0, .ref p0]))] ++ wX1 Θ d0 d1 d2 d3 d_columns d_rows d_carrier d_partMarks d_linkMarks d_operations d_pilots d_settings d_facts d_cells ++ wX3 Θ p0 p1 p2 p3 p_pitches p_spoiled p_cells p_bends p_offsets p_strokes p_goodParts p_badParts p_slugs ++ wX3 Θ t0 t1 t2 t3 v11 v12 v13 v14 v15 v16 v17 v18 v19) := by
    intro v10 v11 v12 v13 v14 v15 v16 v17 v18 v19 hw
    have hf := uc10_some (hf0 _ hw)
    refine sw_iload_n 56 G dX5_strokesToGood_56 0 rfl ?_
    cases hf
    exact sw_iret 57 G dX5_strokesToGood_57 K
  have hx16_64 : ∀ (v20 : Int32) (v21 : Int32) (v22 : Nat → Int64) (v23 : Nat → Int32) (v24 : Nat → Int32) (v25 : Int32) (v26 : Int32) (v27 : Int32) (v28 : Int32), w16 = .inr ((v20, v21, v22, v23, v24, v25, v26, v27, v28)) → sw Θ p e rmX5_strokesToGood s m args below meth c A Q 3 0 0 64 [] [] ([(x0, .inr (5, [.ref n0, .ref v0, .int x_oldestSaved, .int x_savedStates, .ref t0, .ref l0, .ref c0]))] ++ [(n0, .inr (4, [.ref d0, .ref p0]))] ++ wX1 Θ d0 d1 d2 d3 d_columns d_rows d_carrier d_partMarks d_linkMarks d_operations d_pilots d_settings d_facts d_cells ++ wX3 Θ p0 p1 p2 p3 p_pitches p_spoiled p_cells p_bends p_offsets p_strokes p_goodParts p_badParts p_slugs ++ wX3 Θ t0 t1 t2 t3 v20 v21 v22 v23 v24 v25 v26 v27 v28) := by
    intro v20 v21 v22 v23 v24 v25 v26 v27 v28 hw
    have hf := uc9_some (hf1 _ hw)
    refine sw_iconst 64 G (-1 : Int32) dX5_strokesToGood_64 rfl ?_
    cases hf
    exact sw_iret 65 G dX5_strokesToGood_65 K
  refine sw_lv [(0, .ref x0), (1, .int (1 : Int32))] [1, 0] rfl ?_
  refine lp_walk (P := fun (t : Int32 × Int32 × Int32 × (Nat → Int64) × (Nat → Int32) × (Nat → Int32) × Int32 × Int32 × Int32 × Int32) => sw Θ p e rmX5_strokesToGood s m args below meth c A Q 3 0 0 16 [(0, .ref x0), (1, .int t.1)] [] ([(x0, .inr (5, [.ref n0, .ref v0, .int x_oldestSaved, .int x_savedStates, .ref t0, .ref l0, .ref c0]))] ++ [(n0, .inr (4, [.ref d0, .ref p0]))] ++ wX1 Θ d0 d1 d2 d3 d_columns d_rows d_carrier d_partMarks d_linkMarks d_operations d_pilots d_settings d_facts d_cells ++ wX3 Θ p0 p1 p2 p3 p_pitches p_spoiled p_cells p_bends p_offsets p_strokes p_goodParts p_badParts p_slugs ++ wX3 Θ t0 t1 t2 t3 t.2.1 t.2.2.1 t.2.2.2.1 t.2.2.2.2.1 t.2.2.2.2.2.1 t.2.2.2.2.2.2.1 t.2.2.2.2.2.2.2.1 t.2.2.2.2.2.2.2.2.1 t.2.2.2.2.2.2.2.2.2)) hl (fun t16 y16 hf hin16 hex16 => ?_)
  obtain ⟨v29, v30, v31, v32, v33, v34, v35, v36, v37, v38⟩ := t16
  show sw Θ p e rmX5_strokesToGood s m args below meth c A Q 3 0 0 16 [(0, .ref x0), (1, .int v29)] [] ([(x0, .inr (5, [.ref n0, .ref v0, .int x_oldestSaved, .int x_savedStates, .ref t0, .ref l0, .ref c0]))] ++ [(n0, .inr (4, [.ref d0, .ref p0]))] ++ wX1 Θ d0 d1 d2 d3 d_columns d_rows d_carrier d_partMarks d_linkMarks d_operations d_pilots d_settings d_facts d_cells ++ wX3 Θ p0 p1 p2 p3 p_pitches p_spoiled p_cells p_bends p_offsets p_strokes p_goodParts p_badParts p_slugs ++ wX3 Θ t0 t1 t2 t3 v30 v31 v32 v33 v34 v35 v36 v37 v38)
  have hf := uc10_some (K := _) hf
  refine sw_iload_n 16 G dX5_strokesToGood_16 1 rfl ?_
  refine sw_bipush 17 G (60 : Int32) dX5_strokesToGood_17 rfl ?_
  refine sw_icmp_gt 19 64 G dX5_strokesToGood_19 rfl hf (fun hf => ?_) (fun hf => ?_)
  · cases hf
    exact sw_lv _ [] rfl (hx16_64 _ _ _ _ _ _ _ _ _ (hex16 _ rfl).symm)
  · refine sw_aload_n 22 G dX5_strokesToGood_22 0 rfl ?_
    refine sw_get 23 G hnX5 0 4 dX5_strokesToGood_23 vc5 (by decide) (List.mem_cons_of_mem _ lk_e93b6007) rfl rfl ?_
    refine sw_get 26 G hnX3 10 6 dX5_strokesToGood_26 vc3 (by decide) (List.mem_cons_of_mem _ lk_58658812) rfl rfl ?_
    refine sw_istore_n 29 G [(2, .int v36), (0, .ref x0), (1, .int v29)] dX5_strokesToGood_29 (by decide) rfl ?_
    refine sw_aload_n 30 G dX5_strokesToGood_30 1 rfl ?_
    refine sw_get 31 G hnX5 0 4 dX5_strokesToGood_31 vc5 (by decide) (List.mem_cons_of_mem _ lk_e93b6007) rfl rfl ?_
    refine sw_aload_n 34 G dX5_strokesToGood_34 1 rfl ?_
    refine sw_get 35 G hnX5 0 0 dX5_strokesToGood_35 vc5 (by decide) (List.mem_cons_of_mem _ lk_c6576e33) rfl rfl ?_
    refine sw_get 38 G hnX4 1 0 dX5_strokesToGood_38 vc4 (by decide) (List.mem_cons_of_mem _ lk_b490f9e6) rfl rfl ?_
    obtain ⟨r39, u40, u41, u42, u43, u44, u45, u46, u47, u48, hg, hf⟩ := bd10_some hf
    refine sw_callV 41 G ([(x0, .inr (5, [.ref n0, .ref v0, .int x_oldestSaved, .int x_savedStates, .ref t0, .ref l0, .ref c0]))] ++ [(n0, .inr (4, [.ref d0, .ref p0]))] ++ wX1 Θ d0 d1 d2 d3 d_columns d_rows d_carrier d_partMarks d_linkMarks d_operations d_pilots d_settings d_facts d_cells ++ wX3 Θ p0 p1 p2 p3 p_pitches p_spoiled p_cells p_bends p_offsets p_strokes p_goodParts p_badParts p_slugs ++ wX3 Θ t0 t1 t2 t3 u40 u41 u42 u43 u44 u45 u46 u47 u48) [10, 11, 12, 13, 2, 3, 4, 5] [0, 1, 6, 7, 8, 9] [0, 1, 10, 11, 12, 13, 2, 3, 4, 5, 6, 7, 8, 9] 1 dX5_strokesToGood_41 (kX3_feed Θ F t0 t1 t2 t3 d0 d1 d2 d3 v30 v31 v32 v33 v34 v35 v36 v37 v38 d_columns d_rows d_carrier d_partMarks d_linkMarks d_operations d_pilots d_settings d_facts d_cells r39 u40 u41 u42 u43 u44 u45 u46 u47 u48 hg) (gwV lk_20f2b810 lk_bd6e1689 lk_71b73a8f lk_106b7259 lk_0822d573) rfl hvX3_feed ⟨rfl, rfl⟩ ⟨Nat.le_of_ble_eq_true rfl, Nat.le_of_ble_eq_true rfl⟩ ⟨Nat.zero_le _, Nat.zero_le _⟩ rfl rfl (Nat.le_of_ble_eq_true rfl) 0 rfl vc3 rfl rfl rfl rfl (by decide) ?_
    refine sw_pop 44 G dX5_strokesToGood_44 rfl ?_
    refine sw_aload_n 45 G dX5_strokesToGood_45 1 rfl ?_
    refine sw_get 46 G hnX5 0 4 dX5_strokesToGood_46 vc5 (by decide) (List.mem_cons_of_mem _ lk_e93b6007) rfl rfl ?_
    refine sw_get 49 G hnX3 10 6 dX5_strokesToGood_49 vc3 (by decide) (List.mem_cons_of_mem _ lk_58658812) rfl rfl ?_
    refine sw_iload_n 52 G dX5_strokesToGood_52 0 rfl ?_
    refine sw_icmp_le 53 58 G dX5_strokesToGood_53 rfl hf (fun hf => ?_) (fun hf => ?_)
    · refine sw_iinc 58 G (v29 + (1 : Int32)) [(1, .int (v29 + (1 : Int32))), (2, .int v36), (0, .ref x0)] dX5_strokesToGood_58 2 rfl rfl (by decide) rfl ?_
      refine sw_goto 61 G 16 dX5_strokesToGood_61 rfl ?_
      cases hf
      have hb := hin16 _ rfl
      exact sw_lv _ [2, 0] (by rfl) hb
    · cases hf
      exact sw_lv _ [2] rfl (hx16_56 _ _ _ _ _ _ _ _ _ _ (hex16 _ rfl).symm)
