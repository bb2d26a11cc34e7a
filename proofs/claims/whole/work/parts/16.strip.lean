abbrev rmX4_copyFrom : Room := { frames := 2, cells := 0, slots := 0, locals := 43 }
theorem hvX4_copyFrom : yX4_copyFrom.cls = RX4 ∧ yX4_copyFrom.cls ≠ "java/lang/invoke/MethodHandle" ∧ yX4_copyFrom.cls ≠ "java/lang/invoke/VarHandle" ∧ (parseMethodDescriptor yX4_copyFrom.desc).map (fun d => d.parameters.length) = some 1 := by decide +kernel
set_option maxRecDepth 100000 in
set_option maxHeartbeats 4000000 in
theorem kX4_copyFrom (Θ : Tht) (F : Nat) (n0 d0 d1 d2 d3 p0 p1 p2 p3 on0 od0 od1 od2 od3 op0 op1 op2 op3 : Nat) (d_columns : Int32) (d_rows : Int32) (d_carrier : Int32) (d_partMarks : Int64) (d_linkMarks : Int64) (d_operations : Int32) (d_pilots : Int32) (d_settings : Nat → Int32) (d_facts : Nat → Int32) (d_cells : Nat → Int64) (p_pitches : Int32) (p_spoiled : Int32) (p_cells : Nat → Int64) (p_bends : Nat → Int32) (p_offsets : Nat → Int32) (p_strokes : Int32) (p_goodParts : Int32) (p_badParts : Int32) (p_slugs : Int32) (od_columns : Int32) (od_rows : Int32) (od_carrier : Int32) (od_partMarks : Int64) (od_linkMarks : Int64) (od_operations : Int32) (od_pilots : Int32) (od_settings : Nat → Int32) (od_facts : Nat → Int32) (od_cells : Nat → Int64) (op_pitches : Int32) (op_spoiled : Int32) (op_cells : Nat → Int64) (op_bends : Nat → Int32) (op_offsets : Nat → Int32) (op_strokes : Int32) (op_goodParts : Int32) (op_badParts : Int32) (op_slugs : Int32) (o_d_columns : Int32) (o_d_rows : Int32) (o_d_carrier : Int32) (o_d_partMarks : Int64) (o_d_linkMarks : Int64) (o_d_operations : Int32) (o_d_pilots : Int32) (o_d_settings : Nat → Int32) (o_d_facts : Nat → Int32) (o_d_cells : Nat → Int64) (o_p_pitches : Int32) (o_p_spoiled : Int32) (o_p_cells : Nat → Int64) (o_p_bends : Nat → Int32) (o_p_offsets : Nat → Int32) (o_p_strokes : Int32) (o_p_goodParts : Int32) (o_p_badParts : Int32) (o_p_slugs : Int32) (hf : fX4_copyFrom F d_settings d_facts d_cells p_cells p_bends p_offsets od_columns od_rows od_carrier od_partMarks od_linkMarks od_operations od_pilots od_settings od_facts od_cells op_pitches op_spoiled op_cells op_bends op_offsets op_strokes op_goodParts op_badParts op_slugs = some (o_d_columns, o_d_rows, o_d_carrier, o_d_partMarks, o_d_linkMarks, o_d_operations, o_d_pilots, o_d_settings, o_d_facts, o_d_cells, o_p_pitches, o_p_spoiled, o_p_cells, o_p_bends, o_p_offsets, o_p_strokes, o_p_goodParts, o_p_badParts, o_p_slugs)) : Fn Θ yX4_copyFrom (Cond.code yX4_copyFrom cX4_copyFrom 2 none :: GW) rmX4_copyFrom [.ref n0, .ref on0] ([(n0, .inr (4, [.ref d0, .ref p0]))] ++ wX1 Θ d0 d1 d2 d3 d_columns d_rows d_carrier d_partMarks d_linkMarks d_operations d_pilots d_settings d_facts d_cells ++ wX3 Θ p0 p1 p2 p3 p_pitches p_spoiled p_cells p_bends p_offsets p_strokes p_goodParts p_badParts p_slugs ++ [(on0, .inr (4, [.ref od0, .ref op0]))] ++ wX1 Θ od0 od1 od2 od3 od_columns od_rows od_carrier od_partMarks od_linkMarks od_operations od_pilots od_settings od_facts od_cells ++ wX3 Θ op0 op1 op2 op3 op_pitches op_spoiled op_cells op_bends op_offsets op_strokes op_goodParts op_badParts op_slugs) none ([(n0, .inr (4, [.ref d0, .ref p0]))] ++ wX1 Θ d0 d1 d2 d3 o_d_columns o_d_rows o_d_carrier o_d_partMarks o_d_linkMarks o_d_operations o_d_pilots o_d_settings o_d_facts o_d_cells ++ wX3 Θ p0 p1 p2 p3 o_p_pitches o_p_spoiled o_p_cells o_p_bends o_p_offsets o_p_strokes o_p_goodParts o_p_badParts o_p_slugs ++ [(on0, .inr (4, [.ref od0, .ref op0]))] ++ wX1 Θ od0 od1 od2 od3 od_columns od_rows od_carrier od_partMarks od_linkMarks od_operations od_pilots od_settings od_facts od_cells ++ wX3 Θ op0 op1 op2 op3 op_pitches op_spoiled op_cells op_bends op_offsets op_strokes op_goodParts op_badParts op_slugs) := by
  delta fX4_copyFrom at hf
  refine Fn.of (by decide +kernel) rfl (Nat.le_of_ble_eq_true rfl) (fun p e s m args below meth c A Q G K => ?_)
  show sw Θ p e rmX4_copyFrom s m args below meth c A Q 2 0 0 0 [(0, .ref n0), (1, .ref on0)] [] ([(n0, .inr (4, [.ref d0, .ref p0]))] ++ wX1 Θ d0 d1 d2 d3 d_columns d_rows d_carrier d_partMarks d_linkMarks d_operations d_pilots d_settings d_facts d_cells ++ wX3 Θ p0 p1 p2 p3 p_pitches p_spoiled p_cells p_bends p_offsets p_strokes p_goodParts p_badParts p_slugs ++ [(on0, .inr (4, [.ref od0, .ref op0]))] ++ wX1 Θ od0 od1 od2 od3 od_columns od_rows od_carrier od_partMarks od_linkMarks od_operations od_pilots od_settings od_facts od_cells ++ wX3 Θ op0 op1 op2 op3 op_pitches op_spoiled op_cells op_bends op_offsets op_strokes op_goodParts op_badParts op_slugs)
  refine sw_aload_n 0 G dX4_copyFrom_0 0 rfl ?_
  refine sw_get 1 G hnX4 0 0 dX4_copyFrom_1 vc4 (by decide) (List.mem_cons_of_mem _ lk_0f75c8f8) rfl rfl ?_
  refine sw_aload_n 4 G dX4_copyFrom_4 1 rfl ?_
  refine sw_get 5 G hnX4 9 0 dX4_copyFrom_5 vc4 (by decide) (List.mem_cons_of_mem _ lk_0f75c8f8) rfl rfl ?_
  obtain ⟨u1, u2, u3, u4, u5, u6, u7, u8, u9, u10, hg, hf⟩ := bd10_some hf
  refine sw_callV 8 G ([(n0, .inr (4, [.ref d0, .ref p0]))] ++ wX1 Θ d0 d1 d2 d3 u1 u2 u3 u4 u5 u6 u7 u8 u9 u10 ++ wX3 Θ p0 p1 p2 p3 p_pitches p_spoiled p_cells p_bends p_offsets p_strokes p_goodParts p_badParts p_slugs ++ [(on0, .inr (4, [.ref od0, .ref op0]))] ++ wX1 Θ od0 od1 od2 od3 od_columns od_rows od_carrier od_partMarks od_linkMarks od_operations od_pilots od_settings od_facts od_cells ++ wX3 Θ op0 op1 op2 op3 op_pitches op_spoiled op_cells op_bends op_offsets op_strokes op_goodParts op_badParts op_slugs) [1, 2, 3, 4, 10, 11, 12, 13] [0, 5, 6, 7, 8, 9, 14, 15, 16, 17] [0, 10, 11, 12, 13, 1, 2, 3, 4, 5, 14, 15, 16, 17, 6, 7, 8, 9] 1 dX4_copyFrom_8 (kX1_copyFrom Θ F d0 d1 d2 d3 od0 od1 od2 od3 d_columns d_rows d_carrier d_partMarks d_linkMarks d_operations d_pilots d_settings d_facts d_cells od_columns od_rows od_carrier od_partMarks od_linkMarks od_operations od_pilots od_settings od_facts od_cells u1 u2 u3 u4 u5 u6 u7 u8 u9 u10 hg) (gwV lk_cc2a4593 lk_be021d1a lk_b3b57f19 lk_cf66e99d lk_a8e212df) rfl hvX1_copyFrom ⟨rfl, rfl⟩ ⟨Nat.le_of_ble_eq_true rfl, Nat.le_of_ble_eq_true rfl⟩ ⟨Nat.zero_le _, Nat.zero_le _⟩ rfl rfl (Nat.le_of_ble_eq_true rfl) 0 rfl vc1 rfl rfl rfl rfl (by decide) ?_
  refine sw_aload_n 11 G dX4_copyFrom_11 0 rfl ?_
  refine sw_get 12 G hnX4 0 1 dX4_copyFrom_12 vc4 (by decide) (List.mem_cons_of_mem _ lk_23ab8fcd) rfl rfl ?_
  refine sw_aload_n 15 G dX4_copyFrom_15 1 rfl ?_
  refine sw_get 16 G hnX4 9 1 dX4_copyFrom_16 vc4 (by decide) (List.mem_cons_of_mem _ lk_23ab8fcd) rfl rfl ?_
  obtain ⟨u11, u12, u13, u14, u15, u16, u17, u18, u19, hg, hf⟩ := bd9_some hf
  refine sw_callV 19 G ([(n0, .inr (4, [.ref d0, .ref p0]))] ++ wX1 Θ d0 d1 d2 d3 u1 u2 u3 u4 u5 u6 u7 u8 u9 u10 ++ wX3 Θ p0 p1 p2 p3 u11 u12 u13 u14 u15 u16 u17 u18 u19 ++ [(on0, .inr (4, [.ref od0, .ref op0]))] ++ wX1 Θ od0 od1 od2 od3 od_columns od_rows od_carrier od_partMarks od_linkMarks od_operations od_pilots od_settings od_facts od_cells ++ wX3 Θ op0 op1 op2 op3 op_pitches op_spoiled op_cells op_bends op_offsets op_strokes op_goodParts op_badParts op_slugs) [5, 6, 7, 8, 14, 15, 16, 17] [0, 1, 2, 3, 4, 9, 10, 11, 12, 13] [0, 1, 2, 3, 4, 10, 11, 12, 13, 5, 6, 7, 8, 9, 14, 15, 16, 17] 1 dX4_copyFrom_19 (kX3_copyFrom Θ F p0 p1 p2 p3 op0 op1 op2 op3 p_pitches p_spoiled p_cells p_bends p_offsets p_strokes p_goodParts p_badParts p_slugs op_pitches op_spoiled op_cells op_bends op_offsets op_strokes op_goodParts op_badParts op_slugs u11 u12 u13 u14 u15 u16 u17 u18 u19 hg) (gwV lk_c503e9c0 lk_3ed287fb lk_2e527ba2 lk_106b7259 lk_944aba6b) rfl hvX3_copyFrom ⟨rfl, rfl⟩ ⟨Nat.le_of_ble_eq_true rfl, Nat.le_of_ble_eq_true rfl⟩ ⟨Nat.zero_le _, Nat.zero_le _⟩ rfl rfl (Nat.le_of_ble_eq_true rfl) 0 rfl vc3 rfl rfl rfl rfl (by decide) ?_
  cases hf
  exact sw_vret 22 G dX4_copyFrom_22 K
abbrev rmX5_startOver : Room := { frames := 3, cells := 0, slots := 0, locals := 61 }
theorem hvX5_startOver : yX5_startOver.cls = RX5 ∧ yX5_startOver.cls ≠ "java/lang/invoke/MethodHandle" ∧ yX5_startOver.cls ≠ "java/lang/invoke/VarHandle" ∧ (parseMethodDescriptor yX5_startOver.desc).map (fun d => d.parameters.length) = some 2 := by decide +kernel
set_option maxRecDepth 100000 in
set_option maxHeartbeats 4000000 in
theorem kX5_startOver (Θ : Tht) (x0 n0 d0 d1 d2 d3 p0 p1 p2 p3 v0 t0 l0 c0 : Nat) (x_oldestSaved : Int32) (x_savedStates : Int32) (d_columns : Int32) (d_rows : Int32) (d_carrier : Int32) (d_partMarks : Int64) (d_linkMarks : Int64) (d_operations : Int32) (d_pilots : Int32) (d_settings : Nat → Int32) (d_facts : Nat → Int32) (d_cells : Nat → Int64) (p_pitches : Int32) (p_spoiled : Int32) (p_cells : Nat → Int64) (p_bends : Nat → Int32) (p_offsets : Nat → Int32) (p_strokes : Int32) (p_goodParts : Int32) (p_badParts : Int32) (p_slugs : Int32) (a0 : Int32) (a1 : Int32) (o_d_columns : Int32) (o_d_rows : Int32) (o_d_partMarks : Int64) (o_d_linkMarks : Int64) (o_d_operations : Int32) (o_d_pilots : Int32) (o_p_pitches : Int32) (o_p_spoiled : Int32) (o_p_strokes : Int32) (o_p_goodParts : Int32) (o_p_badParts : Int32) (o_p_slugs : Int32) (hf : fX5_startOver p_pitches a0 a1 = some (o_d_columns, o_d_rows, o_d_partMarks, o_d_linkMarks, o_d_operations, o_d_pilots, o_p_pitches, o_p_spoiled, o_p_strokes, o_p_goodParts, o_p_badParts, o_p_slugs)) : Fn Θ yX5_startOver (Cond.code yX5_startOver cX5_startOver 3 none :: GW) rmX5_startOver [.ref x0, .int a0, .int a1] ([(x0, .inr (5, [.ref n0, .ref v0, .int x_oldestSaved, .int x_savedStates, .ref t0, .ref l0, .ref c0]))] ++ [(n0, .inr (4, [.ref d0, .ref p0]))] ++ wX1 Θ d0 d1 d2 d3 d_columns d_rows d_carrier d_partMarks d_linkMarks d_operations d_pilots d_settings d_facts d_cells ++ wX3 Θ p0 p1 p2 p3 p_pitches p_spoiled p_cells p_bends p_offsets p_strokes p_goodParts p_badParts p_slugs) none ([(x0, .inr (5, [.ref n0, .ref v0, .int x_oldestSaved, .int x_savedStates, .ref t0, .ref l0, .ref c0]))] ++ [(n0, .inr (4, [.ref d0, .ref p0]))] ++ wX1 Θ d0 d1 d2 d3 o_d_columns o_d_rows d_carrier o_d_partMarks o_d_linkMarks o_d_operations o_d_pilots d_settings d_facts d_cells ++ wX3 Θ p0 p1 p2 p3 o_p_pitches o_p_spoiled p_cells p_bends p_offsets o_p_strokes o_p_goodParts o_p_badParts o_p_slugs) := by
  delta fX5_startOver at hf
  refine Fn.of (by decide +kernel) rfl (Nat.le_of_ble_eq_true rfl) (fun p e s m args below meth c A Q G K => ?_)
  show sw Θ p e rmX5_startOver s m args below meth c A Q 3 0 0 0 [(0, .ref x0), (1, .int a0), (2, .int a1)] [] ([(x0, .inr (5, [.ref n0, .ref v0, .int x_oldestSaved, .int x_savedStates, .ref t0, .ref l0, .ref c0]))] ++ [(n0, .inr (4, [.ref d0, .ref p0]))] ++ wX1 Θ d0 d1 d2 d3 d_columns d_rows d_carrier d_partMarks d_linkMarks d_operations d_pilots d_settings d_facts d_cells ++ wX3 Θ p0 p1 p2 p3 p_pitches p_spoiled p_cells p_bends p_offsets p_strokes p_goodParts p_badParts p_slugs)
  refine sw_aload_n 0 G dX5_startOver_0 0 rfl ?_
  refine sw_get 1 G hnX5 0 0 dX5_startOver_1 vc5 (by decide) (List.mem_cons_of_mem _ lk_c6576e33) rfl rfl ?_
  refine sw_get 4 G hnX4 1 0 dX5_startOver_4 vc4 (by decide) (List.mem_cons_of_mem _ lk_b490f9e6) rfl rfl ?_
  refine sw_iload_n 7 G dX5_startOver_7 1 rfl ?_
  refine sw_iload_n 8 G dX5_startOver_8 2 rfl ?_
  obtain ⟨u1, u2, u3, u4, u5, u6, hg, hf⟩ := bd6_some hf
  refine sw_callV 9 G ([(x0, .inr (5, [.ref n0, .ref v0, .int x_oldestSaved, .int x_savedStates, .ref t0, .ref l0, .ref c0]))] ++ [(n0, .inr (4, [.ref d0, .ref p0]))] ++ wX1 Θ d0 d1 d2 d3 u1 u2 d_carrier u3 u4 u5 u6 d_settings d_facts d_cells ++ wX3 Θ p0 p1 p2 p3 p_pitches p_spoiled p_cells p_bends p_offsets p_strokes p_goodParts p_badParts p_slugs) [2, 3, 4, 5] [0, 1, 6, 7, 8, 9] [0, 1, 6, 7, 8, 9, 2, 3, 4, 5] 2 dX5_startOver_9 (kX1_startOver Θ d0 d1 d2 d3 d_columns d_rows d_carrier d_partMarks d_linkMarks d_operations d_pilots d_settings d_facts d_cells a0 a1 u1 u2 u3 u4 u5 u6 hg) (gwV lk_cfc93d1e lk_076e5058 lk_d5455e9e lk_cf66e99d lk_37e255a5) rfl hvX1_startOver ⟨rfl, rfl⟩ ⟨Nat.le_of_ble_eq_true rfl, Nat.le_of_ble_eq_true rfl⟩ ⟨Nat.zero_le _, Nat.zero_le _⟩ rfl rfl (Nat.le_of_ble_eq_true rfl) 0 rfl vc1 rfl rfl rfl rfl (by decide) ?_
  refine sw_aload_n 12 G dX5_startOver_12 0 rfl ?_
  refine sw_get 13 G hnX5 0 0 dX5_startOver_13 vc5 (by decide) (List.mem_cons_of_mem _ lk_c6576e33) rfl rfl ?_
  refine sw_get 16 G hnX4 1 1 dX5_startOver_16 vc4 (by decide) (List.mem_cons_of_mem _ lk_3ac9de3e) rfl rfl ?_
  obtain ⟨u7, u8, u9, u10, u11, u12, hg, hf⟩ := bd6_some hf
  refine sw_callV 19 G ([(x0, .inr (5, [.ref n0, .ref v0, .int x_oldestSaved, .int x_savedStates, .ref t0, .ref l0, .ref c0]))] ++ [(n0, .inr (4, [.ref d0, .ref p0]))] ++ wX1 Θ d0 d1 d2 d3 u1 u2 d_carrier u3 u4 u5 u6 d_settings d_facts d_cells ++ wX3 Θ p0 p1 p2 p3 u7 u8 p_cells p_bends p_offsets u9 u10 u11 u12) [6, 7, 8, 9] [0, 1, 2, 3, 4, 5] [0, 1, 2, 3, 4, 5, 6, 7, 8, 9] 0 dX5_startOver_19 (kX3_startOver Θ p0 p1 p2 p3 p_pitches p_spoiled p_cells p_bends p_offsets p_strokes p_goodParts p_badParts p_slugs u7 u8 u9 u10 u11 u12 hg) (gwV lk_3b5e6d33 lk_507ed552 lk_8188b3b1 lk_106b7259 lk_481ef626) rfl hvX3_startOver ⟨rfl, rfl⟩ ⟨Nat.le_of_ble_eq_true rfl, Nat.le_of_ble_eq_true rfl⟩ ⟨Nat.zero_le _, Nat.zero_le _⟩ rfl rfl (Nat.le_of_ble_eq_true rfl) 0 rfl vc3 rfl rfl rfl rfl (by decide) ?_
  cases hf
  exact sw_vret 22 G dX5_startOver_22 K
abbrev rmX5_dieFault : Room := { frames := 4, cells := 0, slots := 0, locals := 110 }
theorem hvX5_dieFault : yX5_dieFault.cls = RX5 ∧ yX5_dieFault.cls ≠ "java/lang/invoke/MethodHandle" ∧ yX5_dieFault.cls ≠ "java/lang/invoke/VarHandle" ∧ (parseMethodDescriptor yX5_dieFault.desc).map (fun d => d.parameters.length) = some 0 := by decide +kernel
set_option maxRecDepth 100000 in
set_option maxHeartbeats 4000000 in
theorem kX5_dieFault (Θ : Tht) (F : Nat) (x0 n0 d0 d1 d2 d3 v0 t0 l0 c0 p0 : Nat) (x_oldestSaved : Int32) (x_savedStates : Int32) (d_columns : Int32) (d_rows : Int32) (d_carrier : Int32) (d_partMarks : Int64) (d_linkMarks : Int64) (d_operations : Int32) (d_pilots : Int32) (d_settings : Nat → Int32) (d_facts : Nat → Int32) (d_cells : Nat → Int64) (ro : Int32) (hf : fX5_dieFault F d_columns d_rows d_carrier d_partMarks d_linkMarks d_operations d_facts d_cells = some ro) : Fn Θ yX5_dieFault (Cond.code yX5_dieFault cX5_dieFault 1 (some .int) :: GW) rmX5_dieFault [.ref x0] ([(x0, .inr (5, [.ref n0, .ref v0, .int x_oldestSaved, .int x_savedStates, .ref t0, .ref l0, .ref c0]))] ++ [(n0, .inr (4, [.ref d0, .ref p0]))] ++ wX1 Θ d0 d1 d2 d3 d_columns d_rows d_carrier d_partMarks d_linkMarks d_operations d_pilots d_settings d_facts d_cells) (some (.int ro)) ([(x0, .inr (5, [.ref n0, .ref v0, .int x_oldestSaved, .int x_savedStates, .ref t0, .ref l0, .ref c0]))] ++ [(n0, .inr (4, [.ref d0, .ref p0]))] ++ wX1 Θ d0 d1 d2 d3 d_columns d_rows d_carrier d_partMarks d_linkMarks d_operations d_pilots d_settings d_facts d_cells) := by
  delta fX5_dieFault at hf
  refine Fn.of (by decide +kernel) rfl (Nat.le_of_ble_eq_true rfl) (fun p e s m args below meth c A Q G K => ?_)
  show sw Θ p e rmX5_dieFault s m args below meth c A Q 1 0 0 0 [(0, .ref x0)] [] ([(x0, .inr (5, [.ref n0, .ref v0, .int x_oldestSaved, .int x_savedStates, .ref t0, .ref l0, .ref c0]))] ++ [(n0, .inr (4, [.ref d0, .ref p0]))] ++ wX1 Θ d0 d1 d2 d3 d_columns d_rows d_carrier d_partMarks d_linkMarks d_operations d_pilots d_settings d_facts d_cells)
  refine sw_aload_n 0 G dX5_dieFault_0 0 rfl ?_
  refine sw_get 1 G hnX5 0 0 dX5_dieFault_1 vc5 (by decide) (List.mem_cons_of_mem _ lk_c6576e33) rfl rfl ?_
  refine sw_get 4 G hnX4 1 0 dX5_dieFault_4 vc4 (by decide) (List.mem_cons_of_mem _ lk_b490f9e6) rfl rfl ?_
  obtain ⟨r1, hg, hf⟩ := bd1_some hf
  refine sw_callV 7 G ([(x0, .inr (5, [.ref n0, .ref v0, .int x_oldestSaved, .int x_savedStates, .ref t0, .ref l0, .ref c0]))] ++ [(n0, .inr (4, [.ref d0, .ref p0]))] ++ wX1 Θ d0 d1 d2 d3 d_columns d_rows d_carrier d_partMarks d_linkMarks d_operations d_pilots d_settings d_facts d_cells) [2, 3, 4, 5] [0, 1] [0, 1, 2, 3, 4, 5] 0 dX5_dieFault_7 (kX1_faultOfDie Θ F d0 d1 d2 d3 d_columns d_rows d_carrier d_partMarks d_linkMarks d_operations d_pilots d_settings d_facts d_cells r1 hg) (gwV lk_74686323 lk_ea1ec609 lk_0e05a378 lk_cf66e99d lk_407bd8aa) rfl hvX1_faultOfDie ⟨rfl, rfl⟩ ⟨Nat.le_of_ble_eq_true rfl, Nat.le_of_ble_eq_true rfl⟩ ⟨Nat.zero_le _, Nat.zero_le _⟩ rfl rfl (Nat.le_of_ble_eq_true rfl) 0 rfl vc1 rfl rfl rfl rfl (by decide) ?_
  cases hf
  exact sw_iret 10 G dX5_dieFault_10 K
abbrev rmX5_planFault : Room := { frames := 5, cells := 0, slots := 0, locals := 129 }
theorem hvX5_planFault : yX5_planFault.cls = RX5 ∧ yX5_planFault.cls ≠ "java/lang/invoke/MethodHandle" ∧ yX5_planFault.cls ≠ "java/lang/invoke/VarHandle" ∧ (parseMethodDescriptor yX5_planFault.desc).map (fun d => d.parameters.length) = some 0 := by decide +kernel
set_option maxRecDepth 100000 in
set_option maxHeartbeats 4000000 in
theorem kX5_planFault (Θ : Tht) (F : Nat) (x0 n0 d0 d1 d2 d3 v0 t0 l0 c0 p0 : Nat) (x_oldestSaved : Int32) (x_savedStates : Int32) (d_columns : Int32) (d_rows : Int32) (d_carrier : Int32) (d_partMarks : Int64) (d_linkMarks : Int64) (d_operations : Int32) (d_pilots : Int32) (d_settings : Nat → Int32) (d_facts : Nat → Int32) (d_cells : Nat → Int64) (ro : Int32) (hf : fX5_planFault F d_columns d_rows d_operations d_settings d_facts d_cells = some ro) : Fn Θ yX5_planFault (Cond.code yX5_planFault cX5_planFault 1 (some .int) :: GW) rmX5_planFault [.ref x0] ([(x0, .inr (5, [.ref n0, .ref v0, .int x_oldestSaved, .int x_savedStates, .ref t0, .ref l0, .ref c0]))] ++ [(n0, .inr (4, [.ref d0, .ref p0]))] ++ wX1 Θ d0 d1 d2 d3 d_columns d_rows d_carrier d_partMarks d_linkMarks d_operations d_pilots d_settings d_facts d_cells) (some (.int ro)) ([(x0, .inr (5, [.ref n0, .ref v0, .int x_oldestSaved, .int x_savedStates, .ref t0, .ref l0, .ref c0]))] ++ [(n0, .inr (4, [.ref d0, .ref p0]))] ++ wX1 Θ d0 d1 d2 d3 d_columns d_rows d_carrier d_partMarks d_linkMarks d_operations d_pilots d_settings d_facts d_cells) := by
  delta fX5_planFault at hf
  refine Fn.of (by decide +kernel) rfl (Nat.le_of_ble_eq_true rfl) (fun p e s m args below meth c A Q G K => ?_)
  show sw Θ p e rmX5_planFault s m args below meth c A Q 1 0 0 0 [(0, .ref x0)] [] ([(x0, .inr (5, [.ref n0, .ref v0, .int x_oldestSaved, .int x_savedStates, .ref t0, .ref l0, .ref c0]))] ++ [(n0, .inr (4, [.ref d0, .ref p0]))] ++ wX1 Θ d0 d1 d2 d3 d_columns d_rows d_carrier d_partMarks d_linkMarks d_operations d_pilots d_settings d_facts d_cells)
  refine sw_aload_n 0 G dX5_planFault_0 0 rfl ?_
  refine sw_get 1 G hnX5 0 0 dX5_planFault_1 vc5 (by decide) (List.mem_cons_of_mem _ lk_c6576e33) rfl rfl ?_
  refine sw_get 4 G hnX4 1 0 dX5_planFault_4 vc4 (by decide) (List.mem_cons_of_mem _ lk_b490f9e6) rfl rfl ?_
  obtain ⟨r1, hg, hf⟩ := bd1_some hf
  refine sw_callV 7 G ([(x0, .inr (5, [.ref n0, .ref v0, .int x_oldestSaved, .int x_savedStates, .ref t0, .ref l0, .ref c0]))] ++ [(n0, .inr (4, [.ref d0, .ref p0]))] ++ wX1 Θ d0 d1 d2 d3 d_columns d_rows d_carrier d_partMarks d_linkMarks d_operations d_pilots d_settings d_facts d_cells) [2, 3, 4, 5] [0, 1] [0, 1, 2, 3, 4, 5] 0 dX5_planFault_7 (kX1_faultOfPlan Θ F d0 d1 d2 d3 d_columns d_rows d_carrier d_partMarks d_linkMarks d_operations d_pilots d_settings d_facts d_cells r1 hg) (gwV lk_f7a8275f lk_3bd7a712 lk_4f0bcd6e lk_cf66e99d lk_8f64c644) rfl hvX1_faultOfPlan ⟨rfl, rfl⟩ ⟨Nat.le_of_ble_eq_true rfl, Nat.le_of_ble_eq_true rfl⟩ ⟨Nat.zero_le _, Nat.zero_le _⟩ rfl rfl (Nat.le_of_ble_eq_true rfl) 0 rfl vc1 rfl rfl rfl rfl (by decide) ?_
  cases hf
  exact sw_iret 10 G dX5_planFault_10 K
abbrev rmX5_leastLimit : Room := { frames := 5, cells := 0, slots := 0, locals := 130 }
theorem hvX5_leastLimit : yX5_leastLimit.cls = RX5 ∧ yX5_leastLimit.cls ≠ "java/lang/invoke/MethodHandle" ∧ yX5_leastLimit.cls ≠ "java/lang/invoke/VarHandle" ∧ (parseMethodDescriptor yX5_leastLimit.desc).map (fun d => d.parameters.length) = some 0 := by decide +kernel
set_option maxRecDepth 100000 in
set_option maxHeartbeats 4000000 in
theorem kX5_leastLimit (Θ : Tht) (F : Nat) (x0 n0 d0 d1 d2 d3 l0 l1 l2 l3 v0 t0 c0 p0 : Nat) (x_oldestSaved : Int32) (x_savedStates : Int32) (d_columns : Int32) (d_rows : Int32) (d_carrier : Int32) (d_partMarks : Int64) (d_linkMarks : Int64) (d_operations : Int32) (d_pilots : Int32) (d_settings : Nat → Int32) (d_facts : Nat → Int32) (d_cells : Nat → Int64) (l_operations : Int32) (l_limit : Int32) (l_gap : Int32) (l_bends : Int32) (l_greatestForce : Int32) (l_chosen : Nat → Int32) (l_touching : Nat → Int32) (l_forces : Nat → Int32) (ro : Int32) (o_l_operations : Int32) (o_l_limit : Int32) (o_l_gap : Int32) (o_l_bends : Int32) (o_l_greatestForce : Int32) (o_l_chosen : Nat → Int32) (o_l_touching : Nat → Int32) (o_l_forces : Nat → Int32) (hf : fX5_leastLimit F d_columns d_rows d_operations d_settings d_facts d_cells l_chosen l_touching l_forces = some (ro, o_l_operations, o_l_limit, o_l_gap, o_l_bends, o_l_greatestForce, o_l_chosen, o_l_touching, o_l_forces)) : Fn Θ yX5_leastLimit (Cond.code yX5_leastLimit cX5_leastLimit 1 (some .int) :: GW) rmX5_leastLimit [.ref x0] ([(x0, .inr (5, [.ref n0, .ref v0, .int x_oldestSaved, .int x_savedStates, .ref t0, .ref l0, .ref c0]))] ++ [(n0, .inr (4, [.ref d0, .ref p0]))] ++ wX1 Θ d0 d1 d2 d3 d_columns d_rows d_carrier d_partMarks d_linkMarks d_operations d_pilots d_settings d_facts d_cells ++ wX2 Θ l0 l1 l2 l3 l_operations l_limit l_gap l_bends l_greatestForce l_chosen l_touching l_forces) (some (.int ro)) ([(x0, .inr (5, [.ref n0, .ref v0, .int x_oldestSaved, .int x_savedStates, .ref t0, .ref l0, .ref c0]))] ++ [(n0, .inr (4, [.ref d0, .ref p0]))] ++ wX1 Θ d0 d1 d2 d3 d_columns d_rows d_carrier d_partMarks d_linkMarks d_operations d_pilots d_settings d_facts d_cells ++ wX2 Θ l0 l1 l2 l3 o_l_operations o_l_limit o_l_gap o_l_bends o_l_greatestForce o_l_chosen o_l_touching o_l_forces) := by
  delta fX5_leastLimit at hf
  refine Fn.of (by decide +kernel) rfl (Nat.le_of_ble_eq_true rfl) (fun p e s m args below meth c A Q G K => ?_)
  show sw Θ p e rmX5_leastLimit s m args below meth c A Q 1 0 0 0 [(0, .ref x0)] [] ([(x0, .inr (5, [.ref n0, .ref v0, .int x_oldestSaved, .int x_savedStates, .ref t0, .ref l0, .ref c0]))] ++ [(n0, .inr (4, [.ref d0, .ref p0]))] ++ wX1 Θ d0 d1 d2 d3 d_columns d_rows d_carrier d_partMarks d_linkMarks d_operations d_pilots d_settings d_facts d_cells ++ wX2 Θ l0 l1 l2 l3 l_operations l_limit l_gap l_bends l_greatestForce l_chosen l_touching l_forces)
  refine sw_aload_n 0 G dX5_leastLimit_0 0 rfl ?_
  refine sw_get 1 G hnX5 0 5 dX5_leastLimit_1 vc5 (by decide) (List.mem_cons_of_mem _ lk_a45d4547) rfl rfl ?_
  refine sw_aload_n 4 G dX5_leastLimit_4 0 rfl ?_
  refine sw_get 5 G hnX5 0 0 dX5_leastLimit_5 vc5 (by decide) (List.mem_cons_of_mem _ lk_c6576e33) rfl rfl ?_
  refine sw_get 8 G hnX4 1 0 dX5_leastLimit_8 vc4 (by decide) (List.mem_cons_of_mem _ lk_b490f9e6) rfl rfl ?_
  obtain ⟨r1, u2, u3, u4, u5, u6, u7, u8, u9, hg, hf⟩ := bd9_some hf
  refine sw_callV 11 G ([(x0, .inr (5, [.ref n0, .ref v0, .int x_oldestSaved, .int x_savedStates, .ref t0, .ref l0, .ref c0]))] ++ [(n0, .inr (4, [.ref d0, .ref p0]))] ++ wX1 Θ d0 d1 d2 d3 d_columns d_rows d_carrier d_partMarks d_linkMarks d_operations d_pilots d_settings d_facts d_cells ++ wX2 Θ l0 l1 l2 l3 u2 u3 u4 u5 u6 u7 u8 u9) [6, 7, 8, 9, 2, 3, 4, 5] [0, 1] [0, 1, 6, 7, 8, 9, 2, 3, 4, 5] 1 dX5_leastLimit_11 (kX2_findLeastLimit Θ F l0 l1 l2 l3 d0 d1 d2 d3 l_operations l_limit l_gap l_bends l_greatestForce l_chosen l_touching l_forces d_columns d_rows d_carrier d_partMarks d_linkMarks d_operations d_pilots d_settings d_facts d_cells r1 u2 u3 u4 u5 u6 u7 u8 u9 hg) (gwV lk_d8bd8132 lk_5366d03a lk_28747478 lk_d27e9d3e lk_303b2e27) rfl hvX2_findLeastLimit ⟨rfl, rfl⟩ ⟨Nat.le_of_ble_eq_true rfl, Nat.le_of_ble_eq_true rfl⟩ ⟨Nat.zero_le _, Nat.zero_le _⟩ rfl rfl (Nat.le_of_ble_eq_true rfl) 0 rfl vc2 rfl rfl rfl rfl (by decide) ?_
  cases hf
  exact sw_iret 14 G dX5_leastLimit_14 K
abbrev rmX5_fitsTwice : Room := { frames := 3, cells := 0, slots := 0, locals := 83 }
theorem hvX5_fitsTwice : yX5_fitsTwice.cls = RX5 ∧ yX5_fitsTwice.cls ≠ "java/lang/invoke/MethodHandle" ∧ yX5_fitsTwice.cls ≠ "java/lang/invoke/VarHandle" ∧ (parseMethodDescriptor yX5_fitsTwice.desc).map (fun d => d.parameters.length) = some 0 := by decide +kernel
set_option maxRecDepth 100000 in
set_option maxHeartbeats 4000000 in
theorem kX5_fitsTwice (Θ : Tht) (F : Nat) (x0 n0 d0 d1 d2 d3 v0 t0 l0 c0 p0 : Nat) (x_oldestSaved : Int32) (x_savedStates : Int32) (d_columns : Int32) (d_rows : Int32) (d_carrier : Int32) (d_partMarks : Int64) (d_linkMarks : Int64) (d_operations : Int32) (d_pilots : Int32) (d_settings : Nat → Int32) (d_facts : Nat → Int32) (d_cells : Nat → Int64) (ro : Int32) (hf : fX5_fitsTwice F d_columns d_rows d_carrier d_partMarks = some ro) : Fn Θ yX5_fitsTwice (Cond.code yX5_fitsTwice cX5_fitsTwice 1 (some .int) :: GW) rmX5_fitsTwice [.ref x0] ([(x0, .inr (5, [.ref n0, .ref v0, .int x_oldestSaved, .int x_savedStates, .ref t0, .ref l0, .ref c0]))] ++ [(n0, .inr (4, [.ref d0, .ref p0]))] ++ wX1 Θ d0 d1 d2 d3 d_columns d_rows d_carrier d_partMarks d_linkMarks d_operations d_pilots d_settings d_facts d_cells) (some (.int ro)) ([(x0, .inr (5, [.ref n0, .ref v0, .int x_oldestSaved, .int x_savedStates, .ref t0, .ref l0, .ref c0]))] ++ [(n0, .inr (4, [.ref d0, .ref p0]))] ++ wX1 Θ d0 d1 d2 d3 d_columns d_rows d_carrier d_partMarks d_linkMarks d_operations d_pilots d_settings d_facts d_cells) := by
  delta fX5_fitsTwice at hf
  refine Fn.of (by decide +kernel) rfl (Nat.le_of_ble_eq_true rfl) (fun p e s m args below meth c A Q G K => ?_)
  show sw Θ p e rmX5_fitsTwice s m args below meth c A Q 1 0 0 0 [(0, .ref x0)] [] ([(x0, .inr (5, [.ref n0, .ref v0, .int x_oldestSaved, .int x_savedStates, .ref t0, .ref l0, .ref c0]))] ++ [(n0, .inr (4, [.ref d0, .ref p0]))] ++ wX1 Θ d0 d1 d2 d3 d_columns d_rows d_carrier d_partMarks d_linkMarks d_operations d_pilots d_settings d_facts d_cells)
  refine sw_aload_n 0 G dX5_fitsTwice_0 0 rfl ?_
  refine sw_get 1 G hnX5 0 0 dX5_fitsTwice_1 vc5 (by decide) (List.mem_cons_of_mem _ lk_c6576e33) rfl rfl ?_
  refine sw_get 4 G hnX4 1 0 dX5_fitsTwice_4 vc4 (by decide) (List.mem_cons_of_mem _ lk_b490f9e6) rfl rfl ?_
  obtain ⟨r1, hg, hf⟩ := bd1_some hf
  refine sw_callV 7 G ([(x0, .inr (5, [.ref n0, .ref v0, .int x_oldestSaved, .int x_savedStates, .ref t0, .ref l0, .ref c0]))] ++ [(n0, .inr (4, [.ref d0, .ref p0]))] ++ wX1 Θ d0 d1 d2 d3 d_columns d_rows d_carrier d_partMarks d_linkMarks d_operations d_pilots d_settings d_facts d_cells) [2, 3, 4, 5] [0, 1] [0, 1, 2, 3, 4, 5] 0 dX5_fitsTwice_7 (kX1_hasPlaceForSecond Θ F d0 d1 d2 d3 d_columns d_rows d_carrier d_partMarks d_linkMarks d_operations d_pilots d_settings d_facts d_cells r1 hg) (gwV lk_3bd9a838 lk_de6d7d0c lk_fe8f4d8c lk_cf66e99d lk_905d8b48) rfl hvX1_hasPlaceForSecond ⟨rfl, rfl⟩ ⟨Nat.le_of_ble_eq_true rfl, Nat.le_of_ble_eq_true rfl⟩ ⟨Nat.zero_le _, Nat.zero_le _⟩ rfl rfl (Nat.le_of_ble_eq_true rfl) 0 rfl vc1 rfl rfl rfl rfl (by decide) ?_
  refine sw_if_eq 10 17 G dX5_fitsTwice_10 rfl hf (fun hf => ?_) (fun hf => ?_)
  · refine sw_iconst 17 G (0 : Int32) dX5_fitsTwice_17 rfl ?_
    cases hf
    exact sw_iret 18 G dX5_fitsTwice_18 K
  · refine sw_iconst 13 G (1 : Int32) dX5_fitsTwice_13 rfl ?_
    refine sw_goto 14 G 18 dX5_fitsTwice_14 rfl ?_
    cases hf
    exact sw_iret 18 G dX5_fitsTwice_18 K
abbrev rmX5_scrap : Room := { frames := 3, cells := 0, slots := 0, locals := 83 }
theorem hvX5_scrap : yX5_scrap.cls = RX5 ∧ yX5_scrap.cls ≠ "java/lang/invoke/MethodHandle" ∧ yX5_scrap.cls ≠ "java/lang/invoke/VarHandle" ∧ (parseMethodDescriptor yX5_scrap.desc).map (fun d => d.parameters.length) = some 1 := by decide +kernel
set_option maxRecDepth 100000 in
set_option maxHeartbeats 4000000 in
theorem kX5_scrap (Θ : Tht) (F : Nat) (x0 n0 d0 d1 d2 d3 v0 t0 l0 c0 p0 : Nat) (x_oldestSaved : Int32) (x_savedStates : Int32) (d_columns : Int32) (d_rows : Int32) (d_carrier : Int32) (d_partMarks : Int64) (d_linkMarks : Int64) (d_operations : Int32) (d_pilots : Int32) (d_settings : Nat → Int32) (d_facts : Nat → Int32) (d_cells : Nat → Int64) (a0 : Int32) (ro : Int32) (hf : fX5_scrap F d_columns d_rows d_carrier d_partMarks a0 = some ro) : Fn Θ yX5_scrap (Cond.code yX5_scrap cX5_scrap 4 (some .int) :: GW) rmX5_scrap [.ref x0, .int a0] ([(x0, .inr (5, [.ref n0, .ref v0, .int x_oldestSaved, .int x_savedStates, .ref t0, .ref l0, .ref c0]))] ++ [(n0, .inr (4, [.ref d0, .ref p0]))] ++ wX1 Θ d0 d1 d2 d3 d_columns d_rows d_carrier d_partMarks d_linkMarks d_operations d_pilots d_settings d_facts d_cells) (some (.int ro)) ([(x0, .inr (5, [.ref n0, .ref v0, .int x_oldestSaved, .int x_savedStates, .ref t0, .ref l0, .ref c0]))] ++ [(n0, .inr (4, [.ref d0, .ref p0]))] ++ wX1 Θ d0 d1 d2 d3 d_columns d_rows d_carrier d_partMarks d_linkMarks d_operations d_pilots d_settings d_facts d_cells) := by
  delta fX5_scrap at hf
  refine Fn.of (by decide +kernel) rfl (Nat.le_of_ble_eq_true rfl) (fun p e s m args below meth c A Q G K => ?_)
  show sw Θ p e rmX5_scrap s m args below meth c A Q 4 0 0 0 [(0, .ref x0), (1, .int a0)] [] ([(x0, .inr (5, [.ref n0, .ref v0, .int x_oldestSaved, .int x_savedStates, .ref t0, .ref l0, .ref c0]))] ++ [(n0, .inr (4, [.ref d0, .ref p0]))] ++ wX1 Θ d0 d1 d2 d3 d_columns d_rows d_carrier d_partMarks d_linkMarks d_operations d_pilots d_settings d_facts d_cells)
  refine sw_aload_n 0 G dX5_scrap_0 0 rfl ?_
  refine sw_get 1 G hnX5 0 0 dX5_scrap_1 vc5 (by decide) (List.mem_cons_of_mem _ lk_c6576e33) rfl rfl ?_
  refine sw_get 4 G hnX4 1 0 dX5_scrap_4 vc4 (by decide) (List.mem_cons_of_mem _ lk_b490f9e6) rfl rfl ?_
  refine sw_get 7 G hnX1 2 0 dX5_scrap_7 vc1 (by decide) (List.mem_cons_of_mem _ lk_7d094cdf) rfl rfl ?_
  refine sw_aload_n 10 G dX5_scrap_10 0 rfl ?_
  refine sw_get 11 G hnX5 0 0 dX5_scrap_11 vc5 (by decide) (List.mem_cons_of_mem _ lk_c6576e33) rfl rfl ?_
  refine sw_get 14 G hnX4 1 0 dX5_scrap_14 vc4 (by decide) (List.mem_cons_of_mem _ lk_b490f9e6) rfl rfl ?_
  refine sw_get 17 G hnX1 2 1 dX5_scrap_17 vc1 (by decide) (List.mem_cons_of_mem _ lk_f4ec39df) rfl rfl ?_
  refine sw_imul 20 G dX5_scrap_20 ?_
  refine sw_nmi hf (fun v1 hf => ?_)
  refine sw_istore_n 21 G [(2, .int v1), (0, .ref x0), (1, .int a0)] dX5_scrap_21 (by decide) rfl ?_
  refine sw_iload_n 22 G dX5_scrap_22 0 rfl ?_
  refine sw_iconst 23 G (1 : Int32) dX5_scrap_23 rfl ?_
  refine sw_icmp_ge 24 29 G dX5_scrap_24 rfl hf (fun hf => ?_) (fun hf => ?_)
  · refine sw_aload_n 29 G dX5_scrap_29 1 rfl ?_
    refine sw_get 30 G hnX5 0 0 dX5_scrap_30 vc5 (by decide) (List.mem_cons_of_mem _ lk_c6576e33) rfl rfl ?_
    refine sw_get 33 G hnX4 1 0 dX5_scrap_33 vc4 (by decide) (List.mem_cons_of_mem _ lk_b490f9e6) rfl rfl ?_
    obtain ⟨r2, hg, hf⟩ := bd1_some hf
    refine sw_callV 36 G ([(x0, .inr (5, [.ref n0, .ref v0, .int x_oldestSaved, .int x_savedStates, .ref t0, .ref l0, .ref c0]))] ++ [(n0, .inr (4, [.ref d0, .ref p0]))] ++ wX1 Θ d0 d1 d2 d3 d_columns d_rows d_carrier d_partMarks d_linkMarks d_operations d_pilots d_settings d_facts d_cells) [2, 3, 4, 5] [0, 1] [0, 1, 2, 3, 4, 5] 0 dX5_scrap_36 (kX1_partCells Θ d0 d1 d2 d3 d_columns d_rows d_carrier d_partMarks d_linkMarks d_operations d_pilots d_settings d_facts d_cells r2 hg) (gwV lk_489fbd0f lk_c137cc36 lk_24905df5 lk_cf66e99d lk_e39ae260) rfl hvX1_partCells ⟨rfl, rfl⟩ ⟨Nat.le_of_ble_eq_true rfl, Nat.le_of_ble_eq_true rfl⟩ ⟨Nat.zero_le _, Nat.zero_le _⟩ rfl rfl (Nat.le_of_ble_eq_true rfl) 0 rfl vc1 rfl rfl rfl rfl (by decide) ?_
    obtain ⟨r3, hg, hf⟩ := bd1_some hf
    refine sw_callS 39 G ([(x0, .inr (5, [.ref n0, .ref v0, .int x_oldestSaved, .int x_savedStates, .ref t0, .ref l0, .ref c0]))] ++ [(n0, .inr (4, [.ref d0, .ref p0]))] ++ wX1 Θ d0 d1 d2 d3 d_columns d_rows d_carrier d_partMarks d_linkMarks d_operations d_pilots d_settings d_facts d_cells) [] [0, 1, 2, 3, 4, 5] [0, 1, 2, 3, 4, 5] 1 dX5_scrap_39 (kJ13_bitCount_95d88 Θ r2 r3 hg) (gwS lk_657e2a17 lk_6bfbc13d lk_b04e2cc5 lk_77169b53) rfl hsJ13_bitCount_95d88 ⟨rfl, rfl⟩ ⟨Nat.le_of_ble_eq_true rfl, Nat.le_of_ble_eq_true rfl⟩ ⟨Nat.zero_le _, Nat.zero_le _⟩ rfl rfl (Nat.le_of_ble_eq_true rfl) rfl rfl rfl (by decide) ?_
    refine sw_istore_n 42 G [(3, .int r3), (2, .int v1), (0, .ref x0), (1, .int a0)] dX5_scrap_42 (by decide) rfl ?_
    refine sw_iload_n 43 G dX5_scrap_43 3 rfl ?_
    obtain ⟨v4, hj, hf⟩ := bd1_some hf
    have hx64 : sw Θ p e rmX5_scrap s m args below meth c A Q 4 0 0 64 [(2, .int v1), (3, .int v4)] [] ([(x0, .inr (5, [.ref n0, .ref v0, .int x_oldestSaved, .int x_savedStates, .ref t0, .ref l0, .ref c0]))] ++ [(n0, .inr (4, [.ref d0, .ref p0]))] ++ wX1 Θ d0 d1 d2 d3 d_columns d_rows d_carrier d_partMarks d_linkMarks d_operations d_pilots d_settings d_facts d_cells) := by
      refine sw_sipush 64 G (1000 : Int32) dX5_scrap_64 rfl ?_
      refine sw_iload_n 67 G dX5_scrap_67 0 rfl ?_
      refine sw_iload_n 68 G dX5_scrap_68 1 rfl ?_
      refine sw_isub 69 G dX5_scrap_69 ?_
      refine sw_imul 70 G dX5_scrap_70 ?_
      refine sw_iload_n 71 G dX5_scrap_71 0 rfl ?_
      refine sw_idiv 72 G dX5_scrap_72 hf (fun hf => ?_)
      cases hf
      exact sw_iret 73 G dX5_scrap_73 K
    clear hf
    have hf := hj
    clear hj
    refine sw_if_eq 44 64 G dX5_scrap_44 rfl hf (fun hf => ?_) (fun hf => ?_)
    · cases hf
      exact sw_lv _ [1, 0] rfl hx64
    · refine sw_aload_n 47 G dX5_scrap_47 2 rfl ?_
      refine sw_get 48 G hnX5 0 0 dX5_scrap_48 vc5 (by decide) (List.mem_cons_of_mem _ lk_c6576e33) rfl rfl ?_
      refine sw_get 51 G hnX4 1 0 dX5_scrap_51 vc4 (by decide) (List.mem_cons_of_mem _ lk_b490f9e6) rfl rfl ?_
      obtain ⟨r5, hg, hf⟩ := bd1_some hf
      refine sw_callV 54 G ([(x0, .inr (5, [.ref n0, .ref v0, .int x_oldestSaved, .int x_savedStates, .ref t0, .ref l0, .ref c0]))] ++ [(n0, .inr (4, [.ref d0, .ref p0]))] ++ wX1 Θ d0 d1 d2 d3 d_columns d_rows d_carrier d_partMarks d_linkMarks d_operations d_pilots d_settings d_facts d_cells) [2, 3, 4, 5] [0, 1] [0, 1, 2, 3, 4, 5] 0 dX5_scrap_54 (kX1_hasPlaceForSecond Θ F d0 d1 d2 d3 d_columns d_rows d_carrier d_partMarks d_linkMarks d_operations d_pilots d_settings d_facts d_cells r5 hg) (gwV lk_3bd9a838 lk_de6d7d0c lk_fe8f4d8c lk_cf66e99d lk_905d8b48) rfl hvX1_hasPlaceForSecond ⟨rfl, rfl⟩ ⟨Nat.le_of_ble_eq_true rfl, Nat.le_of_ble_eq_true rfl⟩ ⟨Nat.zero_le _, Nat.zero_le _⟩ rfl rfl (Nat.le_of_ble_eq_true rfl) 0 rfl vc1 rfl rfl rfl rfl (by decide) ?_
      refine sw_if_eq 57 64 G dX5_scrap_57 rfl hf (fun hf => ?_) (fun hf => ?_)
      · cases hf
        exact sw_lv _ [1, 0] rfl hx64
      · refine sw_iconst 60 G (2 : Int32) dX5_scrap_60 rfl ?_
        refine sw_iload_n 61 G dX5_scrap_61 0 rfl ?_
        refine sw_imul 62 G dX5_scrap_62 ?_
        refine sw_nmi hf (fun v6 hf => ?_)
        refine sw_istore_n 63 G [(3, .int v6), (2, .int v1), (0, .ref x0), (1, .int a0)] dX5_scrap_63 (by decide) rfl ?_
        cases hf
        exact sw_lv _ [1, 0] rfl hx64
  · refine sw_iconst 27 G (0 : Int32) dX5_scrap_27 rfl ?_
    cases hf
    exact sw_iret 28 G dX5_scrap_28 K
abbrev rmX5_strokesToGood : Room := { frames := 4, cells := 0, slots := 0, locals := 96 }
theorem hvX5_strokesToGood : yX5_strokesToGood.cls = RX5 ∧ yX5_strokesToGood.cls ≠ "java/lang/invoke/MethodHandle" ∧ yX5_strokesToGood.cls ≠ "java/lang/invoke/VarHandle" ∧ (parseMethodDescriptor yX5_strokesToGood.desc).map (fun d => d.parameters.length) = some 0 := by decide +kernel
set_option maxRecDepth 100000 in
set_option maxHeartbeats 4000000 in
theorem kX5_strokesToGood (Θ : Tht) (F : Nat) (x0 n0 d0 d1 d2 d3 p0 p1 p2 p3 t0 t1 t2 t3 v0 l0 c0 : Nat) (x_oldestSaved : Int32) (x_savedStates : Int32) (d_columns : Int32) (d_rows : Int32) (d_carrier : Int32) (d_partMarks : Int64) (d_linkMarks : Int64) (d_operations : Int32) (d_pilots : Int32) (d_settings : Nat → Int32) (d_facts : Nat → Int32) (d_cells : Nat → Int64) (p_pitches : Int32) (p_spoiled : Int32) (p_cells : Nat → Int64) (p_bends : Nat → Int32) (p_offsets : Nat → Int32) (p_strokes : Int32) (p_goodParts : Int32) (p_badParts : Int32) (p_slugs : Int32) (t_pitches : Int32) (t_spoiled : Int32) (t_cells : Nat → Int64) (t_bends : Nat → Int32) (t_offsets : Nat → Int32) (t_strokes : Int32) (t_goodParts : Int32) (t_badParts : Int32) (t_slugs : Int32) (ro : Int32) (o_t_pitches : Int32) (o_t_spoiled : Int32) (o_t_cells : Nat → Int64) (o_t_bends : Nat → Int32) (o_t_offsets : Nat → Int32) (o_t_strokes : Int32) (o_t_goodParts : Int32) (o_t_badParts : Int32) (o_t_slugs : Int32) (hf : fX5_strokesToGood F d_columns d_rows d_carrier d_partMarks d_linkMarks d_operations d_pilots d_settings d_facts d_cells p_pitches p_spoiled p_cells p_bends p_offsets p_strokes p_goodParts p_badParts p_slugs t_cells t_bends t_offsets = some (ro, o_t_pitches, o_t_spoiled, o_t_cells, o_t_bends, o_t_offsets, o_t_strokes, o_t_goodParts, o_t_badParts, o_t_slugs)) : Fn Θ yX5_strokesToGood (Cond.code yX5_strokesToGood cX5_strokesToGood 3 (some .int) :: GW) rmX5_strokesToGood [.ref x0] ([(x0, .inr (5, [.ref n0, .ref v0, .int x_oldestSaved, .int x_savedStates, .ref t0, .ref l0, .ref c0]))] ++ [(n0, .inr (4, [.ref d0, .ref p0]))] ++ wX1 Θ d0 d1 d2 d3 d_columns d_rows d_carrier d_partMarks d_linkMarks d_operations d_pilots d_settings d_facts d_cells ++ wX3 Θ p0 p1 p2 p3 p_pitches p_spoiled p_cells p_bends p_offsets p_strokes p_goodParts p_badParts p_slugs ++ wX3 Θ t0 t1 t2 t3 t_pitches t_spoiled t_cells t_bends t_offsets t_strokes t_goodParts t_badParts t_slugs) (some (.int ro)) ([(x0, .inr (5, [.ref n0, .ref v0, .int x_oldestSaved, .int x_savedStates, .ref t0, .ref l0, .ref c0]))] ++ [(n0, .inr (4, [.ref d0, .ref p0]))] ++ wX1 Θ d0 d1 d2 d3 d_columns d_rows d_carrier d_partMarks d_linkMarks d_operations d_pilots d_settings d_facts d_cells ++ wX3 Θ p0 p1 p2 p3 p_pitches p_spoiled p_cells p_bends p_offsets p_strokes p_goodParts p_badParts p_slugs ++ wX3 Θ t0 t1 t2 t3 o_t_pitches o_t_spoiled o_t_cells o_t_bends o_t_offsets o_t_strokes o_t_goodParts o_t_badParts o_t_slugs) := by
  delta fX5_strokesToGood at hf
  refine Fn.of (by decide +kernel) rfl (Nat.le_of_ble_eq_true rfl) (fun p e s m args below meth c A Q G K => ?_)
  show sw Θ p e rmX5_strokesToGood s m args below meth c A Q 3 0 0 0 [(0, .ref x0)] [] ([(x0, .inr (5, [.ref n0, .ref v0, .int x_oldestSaved, .int x_savedStates, .ref t0, .ref l0, .ref c0]))] ++ [(n0, .inr (4, [.ref d0, .ref p0]))] ++ wX1 Θ d0 d1 d2 d3 d_columns d_rows d_carrier d_partMarks d_linkMarks d_operations d_pilots d_settings d_facts d_cells ++ wX3 Θ p0 p1 p2 p3 p_pitches p_spoiled p_cells p_bends p_offsets p_strokes p_goodParts p_badParts p_slugs ++ wX3 Θ t0 t1 t2 t3 t_pitches t_spoiled t_cells t_bends t_offsets t_strokes t_goodParts t_badParts t_slugs)
  refine sw_aload_n 0 G dX5_strokesToGood_0 0 rfl ?_
  refine sw_get 1 G hnX5 0 4 dX5_strokesToGood_1 vc5 (by decide) (List.mem_cons_of_mem _ lk_e93b6007) rfl rfl ?_
  refine sw_aload_n 4 G dX5_strokesToGood_4 0 rfl ?_
  refine sw_get 5 G hnX5 0 0 dX5_strokesToGood_5 vc5 (by decide) (List.mem_cons_of_mem _ lk_c6576e33) rfl rfl ?_
  refine sw_get 8 G hnX4 1 1 dX5_strokesToGood_8 vc4 (by decide) (List.mem_cons_of_mem _ lk_3ac9de3e) rfl rfl ?_
  obtain ⟨u1, u2, u3, u4, u5, u6, u7, u8, u9, hg, hf⟩ := bd9_some hf
  refine sw_callV 11 G ([(x0, .inr (5, [.ref n0, .ref v0, .int x_oldestSaved, .int x_savedStates, .ref t0, .ref l0, .ref c0]))] ++ [(n0, .inr (4, [.ref d0, .ref p0]))] ++ wX1 Θ d0 d1 d2 d3 d_columns d_rows d_carrier d_partMarks d_linkMarks d_operations d_pilots d_settings d_facts d_cells ++ wX3 Θ p0 p1 p2 p3 p_pitches p_spoiled p_cells p_bends p_offsets p_strokes p_goodParts p_badParts p_slugs ++ wX3 Θ t0 t1 t2 t3 u1 u2 u3 u4 u5 u6 u7 u8 u9) [10, 11, 12, 13, 6, 7, 8, 9] [0, 1, 2, 3, 4, 5] [0, 1, 2, 3, 4, 5, 10, 11, 12, 13, 6, 7, 8, 9] 1 dX5_strokesToGood_11 (kX3_copyFrom Θ F t0 t1 t2 t3 p0 p1 p2 p3 t_pitches t_spoiled t_cells t_bends t_offsets t_strokes t_goodParts t_badParts t_slugs p_pitches p_spoiled p_cells p_bends p_offsets p_strokes p_goodParts p_badParts p_slugs u1 u2 u3 u4 u5 u6 u7 u8 u9 hg) (gwV lk_c38c96fc lk_3ed287fb lk_2e527ba2 lk_106b7259 lk_944aba6b) rfl hvX3_copyFrom ⟨rfl, rfl⟩ ⟨Nat.le_of_ble_eq_true rfl, Nat.le_of_ble_eq_true rfl⟩ ⟨Nat.zero_le _, Nat.zero_le _⟩ rfl rfl (Nat.le_of_ble_eq_true rfl) 0 rfl vc3 rfl rfl rfl rfl (by decide) ?_
  refine sw_iconst 14 G (1 : Int32) dX5_strokesToGood_14 rfl ?_
  refine sw_istore_n 15 G [(1, .int (1 : Int32)), (0, .ref x0)] dX5_strokesToGood_15 (by decide) rfl ?_
  obtain ⟨w16, hl, hf0, hf1⟩ := bdS2_some hf
  have hx16_56 : ∀ (v10 : Int32) (v11 : Int32) (v12 : Int32) (v13 : Nat → Int64) (v14 : Nat → Int32) (v15 : Nat → Int32) (v16 : Int32) (v17 : Int32) (v18 : Int32) (v19 : Int32), w16 = .inl (v10, v11, v12, v13, v14, v15, v16, v17, v18, v19) → sw Θ p e rmX5_strokesToGood s m args below meth c A Q 3 0 0 56 [(1, .int v10)] [] ([(x0, .inr (5, [.ref n0, .ref v0, .int x_oldestSaved, .int x_savedStates, .ref t0, .ref l0, .ref c0]))] ++ [(n0, .inr (4, [.ref d0, .ref p0]))] ++ wX1 Θ d0 d1 d2 d3 d_columns d_rows d_carrier d_partMarks d_linkMarks d_operations d_pilots d_settings d_facts d_cells ++ wX3 Θ p0 p1 p2 p3 p_pitches p_spoiled p_cells p_bends p_offsets p_strokes p_goodParts p_badParts p_slugs ++ wX3 Θ t0 t1 t2 t3 v11 v12 v13 v14 v15 v16 v17 v18 v19) := by
    intro v10 v11 v12 v13 v14 v15 v16 v17 v18 v19 hw
    have hf := uc10_some (hf0 _ hw)
    refine sw_iload_n 56 G dX5_strokesToGood_56 0 rfl ?_
    cases hf
    exact sw_iret 57 G dX5_strokesToGood_57 K
  have hx16_64 : ∀ (v20 : Int32) (v21 : Int32) (v22 : Nat → Int64) (v23 : Nat → Int32) (v24 : Nat → Int32) (v25 : Int32) (v26 : Int32) (v27 : Int32) (v28 : Int32), w16 = .inr ((v20, v21, v22, v23, v24, v25, v26, v27, v28)) → sw Θ p e rmX5_strokesToGood s m args below meth c A Q 3 0 0 64 [] [] ([(x0, .inr (5, [.ref n0, .ref v0, .int x_oldestSaved, .int x_savedStates, .ref t0, .ref l0, .ref c0]))] ++ [(n0, .inr (4, [.ref d0, .ref p0]))] ++ wX1 Θ d0 d1 d2 d3 d_columns d_rows d_carrier d_partMarks d_linkMarks d_operations d_pilots d_settings d_facts d_cells ++ wX3 Θ p0 p1 p2 p3 p_pitches p_spoiled p_cells p_bends p_offsets p_strokes p_goodParts p_badParts p_slugs ++ wX3 Θ t0 t1 t2 t3 v20 v21 v22 v23 v24 v25 v26 v27 v28) := by
    intro v20 v21 v22 v23 v24 v25 v26 v27 v28 hw
    have hf := uc9_some (hf1 _ hw)
    refine sw_iconst 64 G (-1 : Int32) dX5_strokesToGood_64 rfl ?_
    cases hf
    exact sw_iret 65 G dX5_strokesToGood_65 K
  refine sw_lv [(0, .ref x0), (1, .int (1 : Int32))] [1, 0] rfl ?_
  refine lp_walk (P := fun (t : Int32 × Int32 × Int32 × (Nat → Int64) × (Nat → Int32) × (Nat → Int32) × Int32 × Int32 × Int32 × Int32) => sw Θ p e rmX5_strokesToGood s m args below meth c A Q 3 0 0 16 [(0, .ref x0), (1, .int t.1)] [] ([(x0, .inr (5, [.ref n0, .ref v0, .int x_oldestSaved, .int x_savedStates, .ref t0, .ref l0, .ref c0]))] ++ [(n0, .inr (4, [.ref d0, .ref p0]))] ++ wX1 Θ d0 d1 d2 d3 d_columns d_rows d_carrier d_partMarks d_linkMarks d_operations d_pilots d_settings d_facts d_cells ++ wX3 Θ p0 p1 p2 p3 p_pitches p_spoiled p_cells p_bends p_offsets p_strokes p_goodParts p_badParts p_slugs ++ wX3 Θ t0 t1 t2 t3 t.2.1 t.2.2.1 t.2.2.2.1 t.2.2.2.2.1 t.2.2.2.2.2.1 t.2.2.2.2.2.2.1 t.2.2.2.2.2.2.2.1 t.2.2.2.2.2.2.2.2.1 t.2.2.2.2.2.2.2.2.2)) hl (fun t16 y16 hf hin16 hex16 => ?_)
  obtain ⟨v29, v30, v31, v32, v33, v34, v35, v36, v37, v38⟩ := t16
  show sw Θ p e rmX5_strokesToGood s m args below meth c A Q 3 0 0 16 [(0, .ref x0), (1, .int v29)] [] ([(x0, .inr (5, [.ref n0, .ref v0, .int x_oldestSaved, .int x_savedStates, .ref t0, .ref l0, .ref c0]))] ++ [(n0, .inr (4, [.ref d0, .ref p0]))] ++ wX1 Θ d0 d1 d2 d3 d_columns d_rows d_carrier d_partMarks d_linkMarks d_operations d_pilots d_settings d_facts d_cells ++ wX3 Θ p0 p1 p2 p3 p_pitches p_spoiled p_cells p_bends p_offsets p_strokes p_goodParts p_badParts p_slugs ++ wX3 Θ t0 t1 t2 t3 v30 v31 v32 v33 v34 v35 v36 v37 v38)
  have hf := uc10_some (K := _) hf
  refine sw_iload_n 16 G dX5_strokesToGood_16 1 rfl ?_
  refine sw_bipush 17 G (60 : Int32) dX5_strokesToGood_17 rfl ?_
  refine sw_icmp_gt 19 64 G dX5_strokesToGood_19 rfl hf (fun hf => ?_) (fun hf => ?_)
  · cases hf
    exact sw_lv _ [] rfl (hx16_64 _ _ _ _ _ _ _ _ _ (hex16 _ rfl).symm)
  · refine sw_aload_n 22 G dX5_strokesToGood_22 0 rfl ?_
    refine sw_get 23 G hnX5 0 4 dX5_strokesToGood_23 vc5 (by decide) (List.mem_cons_of_mem _ lk_e93b6007) rfl rfl ?_
    refine sw_get 26 G hnX3 10 6 dX5_strokesToGood_26 vc3 (by decide) (List.mem_cons_of_mem _ lk_58658812) rfl rfl ?_
    refine sw_istore_n 29 G [(2, .int v36), (0, .ref x0), (1, .int v29)] dX5_strokesToGood_29 (by decide) rfl ?_
    refine sw_aload_n 30 G dX5_strokesToGood_30 1 rfl ?_
    refine sw_get 31 G hnX5 0 4 dX5_strokesToGood_31 vc5 (by decide) (List.mem_cons_of_mem _ lk_e93b6007) rfl rfl ?_
    refine sw_aload_n 34 G dX5_strokesToGood_34 1 rfl ?_
    refine sw_get 35 G hnX5 0 0 dX5_strokesToGood_35 vc5 (by decide) (List.mem_cons_of_mem _ lk_c6576e33) rfl rfl ?_
    refine sw_get 38 G hnX4 1 0 dX5_strokesToGood_38 vc4 (by decide) (List.mem_cons_of_mem _ lk_b490f9e6) rfl rfl ?_
    obtain ⟨r39, u40, u41, u42, u43, u44, u45, u46, u47, u48, hg, hf⟩ := bd10_some hf
    refine sw_callV 41 G ([(x0, .inr (5, [.ref n0, .ref v0, .int x_oldestSaved, .int x_savedStates, .ref t0, .ref l0, .ref c0]))] ++ [(n0, .inr (4, [.ref d0, .ref p0]))] ++ wX1 Θ d0 d1 d2 d3 d_columns d_rows d_carrier d_partMarks d_linkMarks d_operations d_pilots d_settings d_facts d_cells ++ wX3 Θ p0 p1 p2 p3 p_pitches p_spoiled p_cells p_bends p_offsets p_strokes p_goodParts p_badParts p_slugs ++ wX3 Θ t0 t1 t2 t3 u40 u41 u42 u43 u44 u45 u46 u47 u48) [10, 11, 12, 13, 2, 3, 4, 5] [0, 1, 6, 7, 8, 9] [0, 1, 10, 11, 12, 13, 2, 3, 4, 5, 6, 7, 8, 9] 1 dX5_strokesToGood_41 (kX3_feed Θ F t0 t1 t2 t3 d0 d1 d2 d3 v30 v31 v32 v33 v34 v35 v36 v37 v38 d_columns d_rows d_carrier d_partMarks d_linkMarks d_operations d_pilots d_settings d_facts d_cells r39 u40 u41 u42 u43 u44 u45 u46 u47 u48 hg) (gwV lk_20f2b810 lk_bd6e1689 lk_71b73a8f lk_106b7259 lk_0822d573) rfl hvX3_feed ⟨rfl, rfl⟩ ⟨Nat.le_of_ble_eq_true rfl, Nat.le_of_ble_eq_true rfl⟩ ⟨Nat.zero_le _, Nat.zero_le _⟩ rfl rfl (Nat.le_of_ble_eq_true rfl) 0 rfl vc3 rfl rfl rfl rfl (by decide) ?_
    refine sw_pop 44 G dX5_strokesToGood_44 rfl ?_
    refine sw_aload_n 45 G dX5_strokesToGood_45 1 rfl ?_
    refine sw_get 46 G hnX5 0 4 dX5_strokesToGood_46 vc5 (by decide) (List.mem_cons_of_mem _ lk_e93b6007) rfl rfl ?_
    refine sw_get 49 G hnX3 10 6 dX5_strokesToGood_49 vc3 (by decide) (List.mem_cons_of_mem _ lk_58658812) rfl rfl ?_
    refine sw_iload_n 52 G dX5_strokesToGood_52 0 rfl ?_
    refine sw_icmp_le 53 58 G dX5_strokesToGood_53 rfl hf (fun hf => ?_) (fun hf => ?_)
    · refine sw_iinc 58 G (v29 + (1 : Int32)) [(1, .int (v29 + (1 : Int32))), (2, .int v36), (0, .ref x0)] dX5_strokesToGood_58 2 rfl rfl (by decide) rfl ?_
      refine sw_goto 61 G 16 dX5_strokesToGood_61 rfl ?_
      cases hf
      have hb := hin16 _ rfl
      exact sw_lv _ [2, 0] (by rfl) hb
    · cases hf
      exact sw_lv _ [2] rfl (hx16_56 _ _ _ _ _ _ _ _ _ _ (hex16 _ rfl).symm)
abbrev rmX5_clearCommands : Room := { frames := 0, cells := 0, slots := 0, locals := 0 }
theorem hvX5_clearCommands : yX5_clearCommands.cls = RX5 ∧ yX5_clearCommands.cls ≠ "java/lang/invoke/MethodHandle" ∧ yX5_clearCommands.cls ≠ "java/lang/invoke/VarHandle" ∧ (parseMethodDescriptor yX5_clearCommands.desc).map (fun d => d.parameters.length) = some 0 := by decide +kernel
set_option maxRecDepth 100000 in
set_option maxHeartbeats 4000000 in
theorem kX5_clearCommands (Θ : Tht) (x0 c0 c1 c2 n0 v0 t0 l0 : Nat) (x_oldestSaved : Int32) (x_savedStates : Int32) (c_bytes : Nat → Int32) (c_numbers : Nat → Int32) (c_length : Int32) (c_at : Int32) (c_word : Int32) (ro : Int32) (o_c_length : Int32) (hf : fX5_clearCommands c_length = some (ro, o_c_length)) : Fn Θ yX5_clearCommands (Cond.code yX5_clearCommands cX5_clearCommands 2 (some .int) :: GW) rmX5_clearCommands [.ref x0] ([(x0, .inr (5, [.ref n0, .ref v0, .int x_oldestSaved, .int x_savedStates, .ref t0, .ref l0, .ref c0]))] ++ wX0 Θ c0 c1 c2 c_bytes c_numbers c_length c_at c_word) (some (.int ro)) ([(x0, .inr (5, [.ref n0, .ref v0, .int x_oldestSaved, .int x_savedStates, .ref t0, .ref l0, .ref c0]))] ++ wX0 Θ c0 c1 c2 c_bytes c_numbers o_c_length c_at c_word) := by
  delta fX5_clearCommands at hf
  refine Fn.of (by decide +kernel) rfl (Nat.le_of_ble_eq_true rfl) (fun p e s m args below meth c A Q G K => ?_)
  show sw Θ p e rmX5_clearCommands s m args below meth c A Q 2 0 0 0 [(0, .ref x0)] [] ([(x0, .inr (5, [.ref n0, .ref v0, .int x_oldestSaved, .int x_savedStates, .ref t0, .ref l0, .ref c0]))] ++ wX0 Θ c0 c1 c2 c_bytes c_numbers c_length c_at c_word)
  refine sw_aload_n 0 G dX5_clearCommands_0 0 rfl ?_
  refine sw_get 1 G hnX5 0 6 dX5_clearCommands_1 vc5 (by decide) (List.mem_cons_of_mem _ lk_0b6ebd02) rfl rfl ?_
  refine sw_get 4 G hnX0 1 2 dX5_clearCommands_4 vc0 (by decide) (List.mem_cons_of_mem _ lk_daf6e5e6) rfl rfl ?_
  refine sw_istore_n 7 G [(1, .int c_length), (0, .ref x0)] dX5_clearCommands_7 (by decide) rfl ?_
  refine sw_aload_n 8 G dX5_clearCommands_8 1 rfl ?_
  refine sw_get 9 G hnX5 0 6 dX5_clearCommands_9 vc5 (by decide) (List.mem_cons_of_mem _ lk_0b6ebd02) rfl rfl ?_
  refine sw_iconst 12 G (0 : Int32) dX5_clearCommands_12 rfl ?_
  refine sw_put 13 G hnX0 tyX0_ok nmX0 1 2 ([(x0, .inr (5, [.ref n0, .ref v0, .int x_oldestSaved, .int x_savedStates, .ref t0, .ref l0, .ref c0]))] ++ wX0 Θ c0 c1 c2 c_bytes c_numbers (0 : Int32) c_at c_word) dX5_clearCommands_13 vc0 (by decide) (List.mem_cons_of_mem _ lk_daf6e5e6) rfl rfl (Nat.le_of_ble_eq_true rfl) (tyX0_ok 2 (by decide)) rfl rfl rfl ?_
  refine sw_iload_n 16 G dX5_clearCommands_16 0 rfl ?_
  cases hf
  exact sw_iret 17 G dX5_clearCommands_17 K
abbrev rmX5_carryOutPitch : Room := { frames := 4, cells := 0, slots := 0, locals := 83 }
theorem hvX5_carryOutPitch : yX5_carryOutPitch.cls = RX5 ∧ yX5_carryOutPitch.cls ≠ "java/lang/invoke/MethodHandle" ∧ yX5_carryOutPitch.cls ≠ "java/lang/invoke/VarHandle" ∧ (parseMethodDescriptor yX5_carryOutPitch.desc).map (fun d => d.parameters.length) = some 2 := by decide +kernel
set_option maxRecDepth 100000 in
set_option maxHeartbeats 4000000 in
theorem kX5_carryOutPitch (Θ : Tht) (x0 n0 d0 d1 d2 d3 p0 p1 p2 p3 v0 t0 l0 c0 : Nat) (x_oldestSaved : Int32) (x_savedStates : Int32) (d_columns : Int32) (d_rows : Int32) (d_carrier : Int32) (d_partMarks : Int64) (d_linkMarks : Int64) (d_operations : Int32) (d_pilots : Int32) (d_settings : Nat → Int32) (d_facts : Nat → Int32) (d_cells : Nat → Int64) (p_pitches : Int32) (p_spoiled : Int32) (p_cells : Nat → Int64) (p_bends : Nat → Int32) (p_offsets : Nat → Int32) (p_strokes : Int32) (p_goodParts : Int32) (p_badParts : Int32) (p_slugs : Int32) (a0 : Int32) (a1 : Int32) (ro : Int32) (o_d_columns : Int32) (o_d_rows : Int32) (o_d_partMarks : Int64) (o_d_linkMarks : Int64) (o_d_operations : Int32) (o_d_pilots : Int32) (o_p_pitches : Int32) (o_p_spoiled : Int32) (o_p_strokes : Int32) (o_p_goodParts : Int32) (o_p_badParts : Int32) (o_p_slugs : Int32) (hf : fX5_carryOutPitch d_columns d_rows d_partMarks d_linkMarks d_operations d_pilots p_pitches p_spoiled p_strokes p_goodParts p_badParts p_slugs a0 a1 = some (ro, o_d_columns, o_d_rows, o_d_partMarks, o_d_linkMarks, o_d_operations, o_d_pilots, o_p_pitches, o_p_spoiled, o_p_strokes, o_p_goodParts, o_p_badParts, o_p_slugs)) : Fn Θ yX5_carryOutPitch (Cond.code yX5_carryOutPitch cX5_carryOutPitch 3 (some .boolean) :: GW) rmX5_carryOutPitch [.ref x0, .int a0, .int a1] ([(x0, .inr (5, [.ref n0, .ref v0, .int x_oldestSaved, .int x_savedStates, .ref t0, .ref l0, .ref c0]))] ++ [(n0, .inr (4, [.ref d0, .ref p0]))] ++ wX1 Θ d0 d1 d2 d3 d_columns d_rows d_carrier d_partMarks d_linkMarks d_operations d_pilots d_settings d_facts d_cells ++ wX3 Θ p0 p1 p2 p3 p_pitches p_spoiled p_cells p_bends p_offsets p_strokes p_goodParts p_badParts p_slugs) (some (.int ro)) ([(x0, .inr (5, [.ref n0, .ref v0, .int x_oldestSaved, .int x_savedStates, .ref t0, .ref l0, .ref c0]))] ++ [(n0, .inr (4, [.ref d0, .ref p0]))] ++ wX1 Θ d0 d1 d2 d3 o_d_columns o_d_rows d_carrier o_d_partMarks o_d_linkMarks o_d_operations o_d_pilots d_settings d_facts d_cells ++ wX3 Θ p0 p1 p2 p3 o_p_pitches o_p_spoiled p_cells p_bends p_offsets o_p_strokes o_p_goodParts o_p_badParts o_p_slugs) := by
  delta fX5_carryOutPitch at hf
  refine Fn.of (by decide +kernel) rfl (Nat.le_of_ble_eq_true rfl) (fun p e s m args below meth c A Q G K => ?_)
  show sw Θ p e rmX5_carryOutPitch s m args below meth c A Q 3 0 0 0 [(0, .ref x0), (1, .int a0), (2, .int a1)] [] ([(x0, .inr (5, [.ref n0, .ref v0, .int x_oldestSaved, .int x_savedStates, .ref t0, .ref l0, .ref c0]))] ++ [(n0, .inr (4, [.ref d0, .ref p0]))] ++ wX1 Θ d0 d1 d2 d3 d_columns d_rows d_carrier d_partMarks d_linkMarks d_operations d_pilots d_settings d_facts d_cells ++ wX3 Θ p0 p1 p2 p3 p_pitches p_spoiled p_cells p_bends p_offsets p_strokes p_goodParts p_badParts p_slugs)
  refine sw_iload_n 0 G dX5_carryOutPitch_0 1 rfl ?_
  refine sw_iload_n 1 G dX5_carryOutPitch_1 2 rfl ?_
  obtain ⟨r1, hg, hf⟩ := bd1_some hf
  refine sw_callS 2 G ([(x0, .inr (5, [.ref n0, .ref v0, .int x_oldestSaved, .int x_savedStates, .ref t0, .ref l0, .ref c0]))] ++ [(n0, .inr (4, [.ref d0, .ref p0]))] ++ wX1 Θ d0 d1 d2 d3 d_columns d_rows d_carrier d_partMarks d_linkMarks d_operations d_pilots d_settings d_facts d_cells ++ wX3 Θ p0 p1 p2 p3 p_pitches p_spoiled p_cells p_bends p_offsets p_strokes p_goodParts p_badParts p_slugs) [] [0, 1, 2, 3, 4, 5, 6, 7, 8, 9] [0, 1, 2, 3, 4, 5, 6, 7, 8, 9] 2 dX5_carryOutPitch_2 (kX5_isPitchSize Θ a0 a1 r1 hg) (gwS lk_4e466bf8 lk_94ede2f3 lk_f4056d19 lk_29e4ad3d) rfl hsX5_isPitchSize ⟨rfl, rfl⟩ ⟨Nat.le_of_ble_eq_true rfl, Nat.le_of_ble_eq_true rfl⟩ ⟨Nat.zero_le _, Nat.zero_le _⟩ rfl rfl (Nat.le_of_ble_eq_true rfl) rfl rfl rfl (by decide) ?_
  refine sw_if_ne 5 10 G dX5_carryOutPitch_5 rfl hf (fun hf => ?_) (fun hf => ?_)
  · refine sw_aload_n 10 G dX5_carryOutPitch_10 0 rfl ?_
    refine sw_iload_n 11 G dX5_carryOutPitch_11 1 rfl ?_
    refine sw_iload_n 12 G dX5_carryOutPitch_12 2 rfl ?_
    obtain ⟨u2, u3, u4, u5, u6, u7, u8, u9, u10, u11, u12, u13, hg, hf⟩ := bd12_some hf
    refine sw_callV 13 G ([(x0, .inr (5, [.ref n0, .ref v0, .int x_oldestSaved, .int x_savedStates, .ref t0, .ref l0, .ref c0]))] ++ [(n0, .inr (4, [.ref d0, .ref p0]))] ++ wX1 Θ d0 d1 d2 d3 u2 u3 d_carrier u4 u5 u6 u7 d_settings d_facts d_cells ++ wX3 Θ p0 p1 p2 p3 u8 u9 p_cells p_bends p_offsets u10 u11 u12 u13) [0, 1, 2, 3, 4, 5, 6, 7, 8, 9] [] [0, 1, 2, 3, 4, 5, 6, 7, 8, 9] 2 dX5_carryOutPitch_13 (kX5_startOver Θ x0 n0 d0 d1 d2 d3 p0 p1 p2 p3 v0 t0 l0 c0 x_oldestSaved x_savedStates d_columns d_rows d_carrier d_partMarks d_linkMarks d_operations d_pilots d_settings d_facts d_cells p_pitches p_spoiled p_cells p_bends p_offsets p_strokes p_goodParts p_badParts p_slugs a0 a1 u2 u3 u4 u5 u6 u7 u8 u9 u10 u11 u12 u13 hg) (gwV lk_d6a38c2f lk_6461f22b lk_631fb5ea lk_5f14f758 lk_5ad4a8dc) rfl hvX5_startOver ⟨rfl, rfl⟩ ⟨Nat.le_of_ble_eq_true rfl, Nat.le_of_ble_eq_true rfl⟩ ⟨Nat.zero_le _, Nat.zero_le _⟩ rfl rfl (Nat.le_of_ble_eq_true rfl) 0 rfl vc5 rfl rfl rfl rfl (by decide) ?_
    refine sw_iconst 16 G (1 : Int32) dX5_carryOutPitch_16 rfl ?_
    cases hf
    exact sw_zret 17 G dX5_carryOutPitch_17 K rfl
  · refine sw_iconst 8 G (0 : Int32) dX5_carryOutPitch_8 rfl ?_
    cases hf
    exact sw_zret 9 G dX5_carryOutPitch_9 K rfl
abbrev rmX5_carryOutMark : Room := { frames := 2, cells := 0, slots := 0, locals := 50 }
theorem hvX5_carryOutMark : yX5_carryOutMark.cls = RX5 ∧ yX5_carryOutMark.cls ≠ "java/lang/invoke/MethodHandle" ∧ yX5_carryOutMark.cls ≠ "java/lang/invoke/VarHandle" ∧ (parseMethodDescriptor yX5_carryOutMark.desc).map (fun d => d.parameters.length) = some 5 := by decide +kernel
set_option maxRecDepth 100000 in
set_option maxHeartbeats 4000000 in
theorem kX5_carryOutMark (Θ : Tht) (F : Nat) (x0 n0 d0 d1 d2 d3 v0 t0 l0 c0 p0 : Nat) (x_oldestSaved : Int32) (x_savedStates : Int32) (d_columns : Int32) (d_rows : Int32) (d_carrier : Int32) (d_partMarks : Int64) (d_linkMarks : Int64) (d_operations : Int32) (d_pilots : Int32) (d_settings : Nat → Int32) (d_facts : Nat → Int32) (d_cells : Nat → Int64) (a0 : Int32) (a1 : Int32) (a2 : Int32) (a3 : Int32) (a4 : Int32) (ro : Int32) (o_d_partMarks : Int64) (o_d_linkMarks : Int64) (hf : fX5_carryOutMark F d_columns d_rows d_partMarks d_linkMarks a0 a1 a2 a3 a4 = some (ro, o_d_partMarks, o_d_linkMarks)) : Fn Θ yX5_carryOutMark (Cond.code yX5_carryOutMark cX5_carryOutMark 6 (some .boolean) :: GW) rmX5_carryOutMark [.ref x0, .int a0, .int a1, .int a2, .int a3, .int a4] ([(x0, .inr (5, [.ref n0, .ref v0, .int x_oldestSaved, .int x_savedStates, .ref t0, .ref l0, .ref c0]))] ++ [(n0, .inr (4, [.ref d0, .ref p0]))] ++ wX1 Θ d0 d1 d2 d3 d_columns d_rows d_carrier d_partMarks d_linkMarks d_operations d_pilots d_settings d_facts d_cells) (some (.int ro)) ([(x0, .inr (5, [.ref n0, .ref v0, .int x_oldestSaved, .int x_savedStates, .ref t0, .ref l0, .ref c0]))] ++ [(n0, .inr (4, [.ref d0, .ref p0]))] ++ wX1 Θ d0 d1 d2 d3 d_columns d_rows d_carrier o_d_partMarks o_d_linkMarks d_operations d_pilots d_settings d_facts d_cells) := by
  delta fX5_carryOutMark at hf
  refine Fn.of (by decide +kernel) rfl (Nat.le_of_ble_eq_true rfl) (fun p e s m args below meth c A Q G K => ?_)
  show sw Θ p e rmX5_carryOutMark s m args below meth c A Q 6 0 0 0 [(0, .ref x0), (1, .int a0), (2, .int a1), (3, .int a2), (4, .int a3), (5, .int a4)] [] ([(x0, .inr (5, [.ref n0, .ref v0, .int x_oldestSaved, .int x_savedStates, .ref t0, .ref l0, .ref c0]))] ++ [(n0, .inr (4, [.ref d0, .ref p0]))] ++ wX1 Θ d0 d1 d2 d3 d_columns d_rows d_carrier d_partMarks d_linkMarks d_operations d_pilots d_settings d_facts d_cells)
  refine sw_aload_n 0 G dX5_carryOutMark_0 0 rfl ?_
  refine sw_get 1 G hnX5 0 0 dX5_carryOutMark_1 vc5 (by decide) (List.mem_cons_of_mem _ lk_c6576e33) rfl rfl ?_
  refine sw_get 4 G hnX4 1 0 dX5_carryOutMark_4 vc4 (by decide) (List.mem_cons_of_mem _ lk_b490f9e6) rfl rfl ?_
  refine sw_iload_n 7 G dX5_carryOutMark_7 1 rfl ?_
  refine sw_iload_n 8 G dX5_carryOutMark_8 2 rfl ?_
  refine sw_iload_n 9 G dX5_carryOutMark_9 3 rfl ?_
  refine sw_iload 10 G dX5_carryOutMark_10 4 rfl ?_
  obtain ⟨r1, hg, hf⟩ := bd1_some hf
  refine sw_callV 12 G ([(x0, .inr (5, [.ref n0, .ref v0, .int x_oldestSaved, .int x_savedStates, .ref t0, .ref l0, .ref c0]))] ++ [(n0, .inr (4, [.ref d0, .ref p0]))] ++ wX1 Θ d0 d1 d2 d3 d_columns d_rows d_carrier d_partMarks d_linkMarks d_operations d_pilots d_settings d_facts d_cells) [2, 3, 4, 5] [0, 1] [0, 1, 2, 3, 4, 5] 4 dX5_carryOutMark_12 (kX1_holds Θ d0 d1 d2 d3 d_columns d_rows d_carrier d_partMarks d_linkMarks d_operations d_pilots d_settings d_facts d_cells a0 a1 a2 a3 r1 hg) (gwV lk_4fc8583b lk_c194ca58 lk_2d7f3b82 lk_cf66e99d lk_e79936af) rfl hvX1_holds ⟨rfl, rfl⟩ ⟨Nat.le_of_ble_eq_true rfl, Nat.le_of_ble_eq_true rfl⟩ ⟨Nat.zero_le _, Nat.zero_le _⟩ rfl rfl (Nat.le_of_ble_eq_true rfl) 0 rfl vc1 rfl rfl rfl rfl (by decide) ?_
  refine sw_if_ne 15 20 G dX5_carryOutMark_15 rfl hf (fun hf => ?_) (fun hf => ?_)
  · refine sw_aload_n 20 G dX5_carryOutMark_20 0 rfl ?_
    refine sw_get 21 G hnX5 0 0 dX5_carryOutMark_21 vc5 (by decide) (List.mem_cons_of_mem _ lk_c6576e33) rfl rfl ?_
    refine sw_get 24 G hnX4 1 0 dX5_carryOutMark_24 vc4 (by decide) (List.mem_cons_of_mem _ lk_b490f9e6) rfl rfl ?_
    refine sw_aload_n 27 G dX5_carryOutMark_27 0 rfl ?_
    refine sw_get 28 G hnX5 0 0 dX5_carryOutMark_28 vc5 (by decide) (List.mem_cons_of_mem _ lk_c6576e33) rfl rfl ?_
    refine sw_get 31 G hnX4 1 0 dX5_carryOutMark_31 vc4 (by decide) (List.mem_cons_of_mem _ lk_b490f9e6) rfl rfl ?_
    refine sw_iload_n 34 G dX5_carryOutMark_34 1 rfl ?_
    refine sw_iload_n 35 G dX5_carryOutMark_35 2 rfl ?_
    refine sw_iload_n 36 G dX5_carryOutMark_36 3 rfl ?_
    refine sw_iload 37 G dX5_carryOutMark_37 4 rfl ?_
    obtain ⟨r2, hg, hf⟩ := bd1_some hf
    refine sw_callV 39 G ([(x0, .inr (5, [.ref n0, .ref v0, .int x_oldestSaved, .int x_savedStates, .ref t0, .ref l0, .ref c0]))] ++ [(n0, .inr (4, [.ref d0, .ref p0]))] ++ wX1 Θ d0 d1 d2 d3 d_columns d_rows d_carrier d_partMarks d_linkMarks d_operations d_pilots d_settings d_facts d_cells) [2, 3, 4, 5] [0, 1] [0, 1, 2, 3, 4, 5] 4 dX5_carryOutMark_39 (kX1_rectangle Θ F d0 d1 d2 d3 d_columns d_rows d_carrier d_partMarks d_linkMarks d_operations d_pilots d_settings d_facts d_cells a0 a1 a2 a3 r2 hg) (gwV lk_ab9479e3 lk_78a614ff lk_2de1bfb6 lk_cf66e99d lk_cb7364a8) rfl hvX1_rectangle ⟨rfl, rfl⟩ ⟨Nat.le_of_ble_eq_true rfl, Nat.le_of_ble_eq_true rfl⟩ ⟨Nat.zero_le _, Nat.zero_le _⟩ rfl rfl (Nat.le_of_ble_eq_true rfl) 0 rfl vc1 rfl rfl rfl rfl (by decide) ?_
    refine sw_iload 42 G dX5_carryOutMark_42 5 rfl ?_
    obtain ⟨r3, u4, u5, hg, hf⟩ := bd3_some hf
    refine sw_callV 44 G ([(x0, .inr (5, [.ref n0, .ref v0, .int x_oldestSaved, .int x_savedStates, .ref t0, .ref l0, .ref c0]))] ++ [(n0, .inr (4, [.ref d0, .ref p0]))] ++ wX1 Θ d0 d1 d2 d3 d_columns d_rows d_carrier u4 u5 d_operations d_pilots d_settings d_facts d_cells) [2, 3, 4, 5] [0, 1] [0, 1, 2, 3, 4, 5] 2 dX5_carryOutMark_44 (kX1_markCells Θ d0 d1 d2 d3 d_columns d_rows d_carrier d_partMarks d_linkMarks d_operations d_pilots d_settings d_facts d_cells r2 a4 r3 u4 u5 hg) (gwV lk_257615a8 lk_f8b1893c lk_7773c949 lk_cf66e99d lk_bdf66497) rfl hvX1_markCells ⟨rfl, rfl⟩ ⟨Nat.le_of_ble_eq_true rfl, Nat.le_of_ble_eq_true rfl⟩ ⟨Nat.zero_le _, Nat.zero_le _⟩ rfl rfl (Nat.le_of_ble_eq_true rfl) 0 rfl vc1 rfl rfl rfl rfl (by decide) ?_
    refine sw_pop 47 G dX5_carryOutMark_47 rfl ?_
    refine sw_iconst 48 G (1 : Int32) dX5_carryOutMark_48 rfl ?_
    cases hf
    exact sw_zret 49 G dX5_carryOutMark_49 K rfl
  · refine sw_iconst 18 G (0 : Int32) dX5_carryOutMark_18 rfl ?_
    cases hf
    exact sw_zret 19 G dX5_carryOutMark_19 K rfl
abbrev rmX5_carryOutAdd : Room := { frames := 2, cells := 0, slots := 0, locals := 55 }
theorem hvX5_carryOutAdd : yX5_carryOutAdd.cls = RX5 ∧ yX5_carryOutAdd.cls ≠ "java/lang/invoke/MethodHandle" ∧ yX5_carryOutAdd.cls ≠ "java/lang/invoke/VarHandle" ∧ (parseMethodDescriptor yX5_carryOutAdd.desc).map (fun d => d.parameters.length) = some 5 := by decide +kernel
set_option maxRecDepth 100000 in
set_option maxHeartbeats 4000000 in
theorem kX5_carryOutAdd (Θ : Tht) (F : Nat) (x0 n0 d0 d1 d2 d3 v0 t0 l0 c0 p0 : Nat) (x_oldestSaved : Int32) (x_savedStates : Int32) (d_columns : Int32) (d_rows : Int32) (d_carrier : Int32) (d_partMarks : Int64) (d_linkMarks : Int64) (d_operations : Int32) (d_pilots : Int32) (d_settings : Nat → Int32) (d_facts : Nat → Int32) (d_cells : Nat → Int64) (a0 : Int32) (a1 : Int32) (a2 : Int32) (a3 : Int32) (a4 : Int32) (ro : Int32) (o_d_operations : Int32) (o_d_facts : Nat → Int32) (o_d_cells : Nat → Int64) (hf : fX5_carryOutAdd F d_columns d_rows d_operations d_facts d_cells a0 a1 a2 a3 a4 = some (ro, o_d_operations, o_d_facts, o_d_cells)) : Fn Θ yX5_carryOutAdd (Cond.code yX5_carryOutAdd cX5_carryOutAdd 6 (some .boolean) :: GW) rmX5_carryOutAdd [.ref x0, .int a0, .int a1, .int a2, .int a3, .int a4] ([(x0, .inr (5, [.ref n0, .ref v0, .int x_oldestSaved, .int x_savedStates, .ref t0, .ref l0, .ref c0]))] ++ [(n0, .inr (4, [.ref d0, .ref p0]))] ++ wX1 Θ d0 d1 d2 d3 d_columns d_rows d_carrier d_partMarks d_linkMarks d_operations d_pilots d_settings d_facts d_cells) (some (.int ro)) ([(x0, .inr (5, [.ref n0, .ref v0, .int x_oldestSaved, .int x_savedStates, .ref t0, .ref l0, .ref c0]))] ++ [(n0, .inr (4, [.ref d0, .ref p0]))] ++ wX1 Θ d0 d1 d2 d3 d_columns d_rows d_carrier d_partMarks d_linkMarks o_d_operations d_pilots d_settings o_d_facts o_d_cells) := by
  delta fX5_carryOutAdd at hf
  refine Fn.of (by decide +kernel) rfl (Nat.le_of_ble_eq_true rfl) (fun p e s m args below meth c A Q G K => ?_)
  show sw Θ p e rmX5_carryOutAdd s m args below meth c A Q 6 0 0 0 [(0, .ref x0), (1, .int a0), (2, .int a1), (3, .int a2), (4, .int a3), (5, .int a4)] [] ([(x0, .inr (5, [.ref n0, .ref v0, .int x_oldestSaved, .int x_savedStates, .ref t0, .ref l0, .ref c0]))] ++ [(n0, .inr (4, [.ref d0, .ref p0]))] ++ wX1 Θ d0 d1 d2 d3 d_columns d_rows d_carrier d_partMarks d_linkMarks d_operations d_pilots d_settings d_facts d_cells)
  refine sw_aload_n 0 G dX5_carryOutAdd_0 0 rfl ?_
  refine sw_get 1 G hnX5 0 0 dX5_carryOutAdd_1 vc5 (by decide) (List.mem_cons_of_mem _ lk_c6576e33) rfl rfl ?_
  refine sw_get 4 G hnX4 1 0 dX5_carryOutAdd_4 vc4 (by decide) (List.mem_cons_of_mem _ lk_b490f9e6) rfl rfl ?_
  refine sw_iload_n 7 G dX5_carryOutAdd_7 2 rfl ?_
  refine sw_iload_n 8 G dX5_carryOutAdd_8 3 rfl ?_
  refine sw_iload 9 G dX5_carryOutAdd_9 4 rfl ?_
  refine sw_iload 11 G dX5_carryOutAdd_11 5 rfl ?_
  obtain ⟨r1, hg, hf⟩ := bd1_some hf
  refine sw_callV 13 G ([(x0, .inr (5, [.ref n0, .ref v0, .int x_oldestSaved, .int x_savedStates, .ref t0, .ref l0, .ref c0]))] ++ [(n0, .inr (4, [.ref d0, .ref p0]))] ++ wX1 Θ d0 d1 d2 d3 d_columns d_rows d_carrier d_partMarks d_linkMarks d_operations d_pilots d_settings d_facts d_cells) [2, 3, 4, 5] [0, 1] [0, 1, 2, 3, 4, 5] 4 dX5_carryOutAdd_13 (kX1_holds Θ d0 d1 d2 d3 d_columns d_rows d_carrier d_partMarks d_linkMarks d_operations d_pilots d_settings d_facts d_cells a1 a2 a3 a4 r1 hg) (gwV lk_4fc8583b lk_c194ca58 lk_2d7f3b82 lk_cf66e99d lk_e79936af) rfl hvX1_holds ⟨rfl, rfl⟩ ⟨Nat.le_of_ble_eq_true rfl, Nat.le_of_ble_eq_true rfl⟩ ⟨Nat.zero_le _, Nat.zero_le _⟩ rfl rfl (Nat.le_of_ble_eq_true rfl) 0 rfl vc1 rfl rfl rfl rfl (by decide) ?_
  refine sw_if_eq 16 32 G dX5_carryOutAdd_16 rfl hf (fun hf => ?_) (fun hf => ?_)
  · refine sw_iconst 32 G (0 : Int32) dX5_carryOutAdd_32 rfl ?_
    cases hf
    exact sw_zret 33 G dX5_carryOutAdd_33 K rfl
  · refine sw_aload_n 19 G dX5_carryOutAdd_19 0 rfl ?_
    refine sw_get 20 G hnX5 0 0 dX5_carryOutAdd_20 vc5 (by decide) (List.mem_cons_of_mem _ lk_c6576e33) rfl rfl ?_
    refine sw_get 23 G hnX4 1 0 dX5_carryOutAdd_23 vc4 (by decide) (List.mem_cons_of_mem _ lk_b490f9e6) rfl rfl ?_
    obtain ⟨r2, hg, hf⟩ := bd1_some hf
    refine sw_callV 26 G ([(x0, .inr (5, [.ref n0, .ref v0, .int x_oldestSaved, .int x_savedStates, .ref t0, .ref l0, .ref c0]))] ++ [(n0, .inr (4, [.ref d0, .ref p0]))] ++ wX1 Θ d0 d1 d2 d3 d_columns d_rows d_carrier d_partMarks d_linkMarks d_operations d_pilots d_settings d_facts d_cells) [2, 3, 4, 5] [0, 1] [0, 1, 2, 3, 4, 5] 0 dX5_carryOutAdd_26 (kX1_isFull Θ d0 d1 d2 d3 d_columns d_rows d_carrier d_partMarks d_linkMarks d_operations d_pilots d_settings d_facts d_cells r2 hg) (gwV lk_4c281b6e lk_ec5cdf02 lk_5fba3b54 lk_cf66e99d lk_9c153725) rfl hvX1_isFull ⟨rfl, rfl⟩ ⟨Nat.le_of_ble_eq_true rfl, Nat.le_of_ble_eq_true rfl⟩ ⟨Nat.zero_le _, Nat.zero_le _⟩ rfl rfl (Nat.le_of_ble_eq_true rfl) 0 rfl vc1 rfl rfl rfl rfl (by decide) ?_
    refine sw_if_eq 29 34 G dX5_carryOutAdd_29 rfl hf (fun hf => ?_) (fun hf => ?_)
    · refine sw_aload_n 34 G dX5_carryOutAdd_34 0 rfl ?_
      refine sw_get 35 G hnX5 0 0 dX5_carryOutAdd_35 vc5 (by decide) (List.mem_cons_of_mem _ lk_c6576e33) rfl rfl ?_
      refine sw_get 38 G hnX4 1 0 dX5_carryOutAdd_38 vc4 (by decide) (List.mem_cons_of_mem _ lk_b490f9e6) rfl rfl ?_
      refine sw_iload_n 41 G dX5_carryOutAdd_41 1 rfl ?_
      refine sw_iload_n 42 G dX5_carryOutAdd_42 2 rfl ?_
      refine sw_iload_n 43 G dX5_carryOutAdd_43 3 rfl ?_
      refine sw_iload 44 G dX5_carryOutAdd_44 4 rfl ?_
      refine sw_iload 46 G dX5_carryOutAdd_46 5 rfl ?_
      obtain ⟨r3, u4, u5, u6, hg, hf⟩ := bd4_some hf
      refine sw_callV 48 G ([(x0, .inr (5, [.ref n0, .ref v0, .int x_oldestSaved, .int x_savedStates, .ref t0, .ref l0, .ref c0]))] ++ [(n0, .inr (4, [.ref d0, .ref p0]))] ++ wX1 Θ d0 d1 d2 d3 d_columns d_rows d_carrier d_partMarks d_linkMarks u4 d_pilots d_settings u5 u6) [2, 3, 4, 5] [0, 1] [0, 1, 2, 3, 4, 5] 5 dX5_carryOutAdd_48 (kX1_append Θ F d0 d1 d2 d3 d_columns d_rows d_carrier d_partMarks d_linkMarks d_operations d_pilots d_settings d_facts d_cells a0 a1 a2 a3 a4 r3 u4 u5 u6 hg) (gwV lk_1fc6a9f5 lk_1da1f078 lk_c1cfaa09 lk_cf66e99d lk_605a4eaf) rfl hvX1_append ⟨rfl, rfl⟩ ⟨Nat.le_of_ble_eq_true rfl, Nat.le_of_ble_eq_true rfl⟩ ⟨Nat.zero_le _, Nat.zero_le _⟩ rfl rfl (Nat.le_of_ble_eq_true rfl) 0 rfl vc1 rfl rfl rfl rfl (by decide) ?_
      refine sw_pop 51 G dX5_carryOutAdd_51 rfl ?_
      refine sw_iconst 52 G (1 : Int32) dX5_carryOutAdd_52 rfl ?_
      cases hf
      exact sw_zret 53 G dX5_carryOutAdd_53 K rfl
    · refine sw_iconst 32 G (0 : Int32) dX5_carryOutAdd_32 rfl ?_
      cases hf
      exact sw_zret 33 G dX5_carryOutAdd_33 K rfl
abbrev rmX5_carryOutPlace : Room := { frames := 1, cells := 0, slots := 0, locals := 24 }
theorem hvX5_carryOutPlace : yX5_carryOutPlace.cls = RX5 ∧ yX5_carryOutPlace.cls ≠ "java/lang/invoke/MethodHandle" ∧ yX5_carryOutPlace.cls ≠ "java/lang/invoke/VarHandle" ∧ (parseMethodDescriptor yX5_carryOutPlace.desc).map (fun d => d.parameters.length) = some 2 := by decide +kernel
set_option maxRecDepth 100000 in
set_option maxHeartbeats 4000000 in
theorem kX5_carryOutPlace (Θ : Tht) (x0 n0 d0 d1 d2 d3 v0 t0 l0 c0 p0 : Nat) (x_oldestSaved : Int32) (x_savedStates : Int32) (d_columns : Int32) (d_rows : Int32) (d_carrier : Int32) (d_partMarks : Int64) (d_linkMarks : Int64) (d_operations : Int32) (d_pilots : Int32) (d_settings : Nat → Int32) (d_facts : Nat → Int32) (d_cells : Nat → Int64) (a0 : Int32) (a1 : Int32) (ro : Int32) (o_d_facts : Nat → Int32) (hf : fX5_carryOutPlace d_operations d_facts a0 a1 = some (ro, o_d_facts)) : Fn Θ yX5_carryOutPlace (Cond.code yX5_carryOutPlace cX5_carryOutPlace 3 (some .boolean) :: GW) rmX5_carryOutPlace [.ref x0, .int a0, .int a1] ([(x0, .inr (5, [.ref n0, .ref v0, .int x_oldestSaved, .int x_savedStates, .ref t0, .ref l0, .ref c0]))] ++ [(n0, .inr (4, [.ref d0, .ref p0]))] ++ wX1 Θ d0 d1 d2 d3 d_columns d_rows d_carrier d_partMarks d_linkMarks d_operations d_pilots d_settings d_facts d_cells) (some (.int ro)) ([(x0, .inr (5, [.ref n0, .ref v0, .int x_oldestSaved, .int x_savedStates, .ref t0, .ref l0, .ref c0]))] ++ [(n0, .inr (4, [.ref d0, .ref p0]))] ++ wX1 Θ d0 d1 d2 d3 d_columns d_rows d_carrier d_partMarks d_linkMarks d_operations d_pilots d_settings o_d_facts d_cells) := by
  delta fX5_carryOutPlace at hf
  refine Fn.of (by decide +kernel) rfl (Nat.le_of_ble_eq_true rfl) (fun p e s m args below meth c A Q G K => ?_)
  show sw Θ p e rmX5_carryOutPlace s m args below meth c A Q 3 0 0 0 [(0, .ref x0), (1, .int a0), (2, .int a1)] [] ([(x0, .inr (5, [.ref n0, .ref v0, .int x_oldestSaved, .int x_savedStates, .ref t0, .ref l0, .ref c0]))] ++ [(n0, .inr (4, [.ref d0, .ref p0]))] ++ wX1 Θ d0 d1 d2 d3 d_columns d_rows d_carrier d_partMarks d_linkMarks d_operations d_pilots d_settings d_facts d_cells)
  refine sw_aload_n 0 G dX5_carryOutPlace_0 0 rfl ?_
  refine sw_get 1 G hnX5 0 0 dX5_carryOutPlace_1 vc5 (by decide) (List.mem_cons_of_mem _ lk_c6576e33) rfl rfl ?_
  refine sw_get 4 G hnX4 1 0 dX5_carryOutPlace_4 vc4 (by decide) (List.mem_cons_of_mem _ lk_b490f9e6) rfl rfl ?_
  refine sw_iload_n 7 G dX5_carryOutPlace_7 1 rfl ?_
  obtain ⟨r1, hg, hf⟩ := bd1_some hf
  refine sw_callV 8 G ([(x0, .inr (5, [.ref n0, .ref v0, .int x_oldestSaved, .int x_savedStates, .ref t0, .ref l0, .ref c0]))] ++ [(n0, .inr (4, [.ref d0, .ref p0]))] ++ wX1 Θ d0 d1 d2 d3 d_columns d_rows d_carrier d_partMarks d_linkMarks d_operations d_pilots d_settings d_facts d_cells) [2, 3, 4, 5] [0, 1] [0, 1, 2, 3, 4, 5] 1 dX5_carryOutPlace_8 (kX1_hasOperation Θ d0 d1 d2 d3 d_columns d_rows d_carrier d_partMarks d_linkMarks d_operations d_pilots d_settings d_facts d_cells a0 r1 hg) (gwV lk_02fe585c lk_bab4024f lk_df64b95a lk_cf66e99d lk_740542d2) rfl hvX1_hasOperation ⟨rfl, rfl⟩ ⟨Nat.le_of_ble_eq_true rfl, Nat.le_of_ble_eq_true rfl⟩ ⟨Nat.zero_le _, Nat.zero_le _⟩ rfl rfl (Nat.le_of_ble_eq_true rfl) 0 rfl vc1 rfl rfl rfl rfl (by decide) ?_
  refine sw_if_eq 11 21 G dX5_carryOutPlace_11 rfl hf (fun hf => ?_) (fun hf => ?_)
  · refine sw_iconst 21 G (0 : Int32) dX5_carryOutPlace_21 rfl ?_
    cases hf
    exact sw_zret 22 G dX5_carryOutPlace_22 K rfl
  · refine sw_iload_n 14 G dX5_carryOutPlace_14 2 rfl ?_
    obtain ⟨r2, hg, hf⟩ := bd1_some hf
    refine sw_callS 15 G ([(x0, .inr (5, [.ref n0, .ref v0, .int x_oldestSaved, .int x_savedStates, .ref t0, .ref l0, .ref c0]))] ++ [(n0, .inr (4, [.ref d0, .ref p0]))] ++ wX1 Θ d0 d1 d2 d3 d_columns d_rows d_carrier d_partMarks d_linkMarks d_operations d_pilots d_settings d_facts d_cells) [] [0, 1, 2, 3, 4, 5] [0, 1, 2, 3, 4, 5] 1 dX5_carryOutPlace_15 (kX5_isStation Θ a1 r2 hg) (gwS lk_e51f5f2c lk_69b39882 lk_01b5d93a lk_08337533) rfl hsX5_isStation ⟨rfl, rfl⟩ ⟨Nat.le_of_ble_eq_true rfl, Nat.le_of_ble_eq_true rfl⟩ ⟨Nat.zero_le _, Nat.zero_le _⟩ rfl rfl (Nat.le_of_ble_eq_true rfl) rfl rfl rfl (by decide) ?_
    refine sw_if_ne 18 23 G dX5_carryOutPlace_18 rfl hf (fun hf => ?_) (fun hf => ?_)
    · refine sw_aload_n 23 G dX5_carryOutPlace_23 0 rfl ?_
      refine sw_get 24 G hnX5 0 0 dX5_carryOutPlace_24 vc5 (by decide) (List.mem_cons_of_mem _ lk_c6576e33) rfl rfl ?_
      refine sw_get 27 G hnX4 1 0 dX5_carryOutPlace_27 vc4 (by decide) (List.mem_cons_of_mem _ lk_b490f9e6) rfl rfl ?_
      refine sw_iload_n 30 G dX5_carryOutPlace_30 1 rfl ?_
      refine sw_bipush 31 G (6 : Int32) dX5_carryOutPlace_31 rfl ?_
      refine sw_iload_n 33 G dX5_carryOutPlace_33 2 rfl ?_
      obtain ⟨u3, hg, hf⟩ := bd1_some hf
      refine sw_callV 34 G ([(x0, .inr (5, [.ref n0, .ref v0, .int x_oldestSaved, .int x_savedStates, .ref t0, .ref l0, .ref c0]))] ++ [(n0, .inr (4, [.ref d0, .ref p0]))] ++ wX1 Θ d0 d1 d2 d3 d_columns d_rows d_carrier d_partMarks d_linkMarks d_operations d_pilots d_settings u3 d_cells) [2, 3, 4, 5] [0, 1] [0, 1, 2, 3, 4, 5] 3 dX5_carryOutPlace_34 (kX1_changeFact Θ d0 d1 d2 d3 d_columns d_rows d_carrier d_partMarks d_linkMarks d_operations d_pilots d_settings d_facts d_cells a0 (6 : Int32) a1 u3 hg) (gwV lk_27c946b1 lk_96ca5489 lk_0b461f27 lk_cf66e99d lk_e5cced47) rfl hvX1_changeFact ⟨rfl, rfl⟩ ⟨Nat.le_of_ble_eq_true rfl, Nat.le_of_ble_eq_true rfl⟩ ⟨Nat.zero_le _, Nat.zero_le _⟩ rfl rfl (Nat.le_of_ble_eq_true rfl) 0 rfl vc1 rfl rfl rfl rfl (by decide) ?_
      refine sw_iconst 37 G (1 : Int32) dX5_carryOutPlace_37 rfl ?_
      cases hf
      exact sw_zret 38 G dX5_carryOutPlace_38 K rfl
    · refine sw_iconst 21 G (0 : Int32) dX5_carryOutPlace_21 rfl ?_
      cases hf
      exact sw_zret 22 G dX5_carryOutPlace_22 K rfl
abbrev rmX5_carryOutPlan : Room := { frames := 2, cells := 0, slots := 0, locals := 46 }
theorem hvX5_carryOutPlan : yX5_carryOutPlan.cls = RX5 ∧ yX5_carryOutPlan.cls ≠ "java/lang/invoke/MethodHandle" ∧ yX5_carryOutPlan.cls ≠ "java/lang/invoke/VarHandle" ∧ (parseMethodDescriptor yX5_carryOutPlan.desc).map (fun d => d.parameters.length) = some 1 := by decide +kernel
set_option maxRecDepth 100000 in
set_option maxHeartbeats 4000000 in
theorem kX5_carryOutPlan (Θ : Tht) (F : Nat) (x0 n0 d0 d1 d2 d3 l0 l1 l2 l3 v0 t0 c0 p0 : Nat) (x_oldestSaved : Int32) (x_savedStates : Int32) (d_columns : Int32) (d_rows : Int32) (d_carrier : Int32) (d_partMarks : Int64) (d_linkMarks : Int64) (d_operations : Int32) (d_pilots : Int32) (d_settings : Nat → Int32) (d_facts : Nat → Int32) (d_cells : Nat → Int64) (l_operations : Int32) (l_limit : Int32) (l_gap : Int32) (l_bends : Int32) (l_greatestForce : Int32) (l_chosen : Nat → Int32) (l_touching : Nat → Int32) (l_forces : Nat → Int32) (a0 : Int32) (ro : Int32) (o_d_facts : Nat → Int32) (hf : fX5_carryOutPlan F d_operations d_facts l_chosen a0 = some (ro, o_d_facts)) : Fn Θ yX5_carryOutPlan (Cond.code yX5_carryOutPlan cX5_carryOutPlan 2 (some .boolean) :: GW) rmX5_carryOutPlan [.ref x0, .int a0] ([(x0, .inr (5, [.ref n0, .ref v0, .int x_oldestSaved, .int x_savedStates, .ref t0, .ref l0, .ref c0]))] ++ [(n0, .inr (4, [.ref d0, .ref p0]))] ++ wX1 Θ d0 d1 d2 d3 d_columns d_rows d_carrier d_partMarks d_linkMarks d_operations d_pilots d_settings d_facts d_cells ++ wX2 Θ l0 l1 l2 l3 l_operations l_limit l_gap l_bends l_greatestForce l_chosen l_touching l_forces) (some (.int ro)) ([(x0, .inr (5, [.ref n0, .ref v0, .int x_oldestSaved, .int x_savedStates, .ref t0, .ref l0, .ref c0]))] ++ [(n0, .inr (4, [.ref d0, .ref p0]))] ++ wX1 Θ d0 d1 d2 d3 d_columns d_rows d_carrier d_partMarks d_linkMarks d_operations d_pilots d_settings o_d_facts d_cells ++ wX2 Θ l0 l1 l2 l3 l_operations l_limit l_gap l_bends l_greatestForce l_chosen l_touching l_forces) := by
  delta fX5_carryOutPlan at hf
  refine Fn.of (by decide +kernel) rfl (Nat.le_of_ble_eq_true rfl) (fun p e s m args below meth c A Q G K => ?_)
  show sw Θ p e rmX5_carryOutPlan s m args below meth c A Q 2 0 0 0 [(0, .ref x0), (1, .int a0)] [] ([(x0, .inr (5, [.ref n0, .ref v0, .int x_oldestSaved, .int x_savedStates, .ref t0, .ref l0, .ref c0]))] ++ [(n0, .inr (4, [.ref d0, .ref p0]))] ++ wX1 Θ d0 d1 d2 d3 d_columns d_rows d_carrier d_partMarks d_linkMarks d_operations d_pilots d_settings d_facts d_cells ++ wX2 Θ l0 l1 l2 l3 l_operations l_limit l_gap l_bends l_greatestForce l_chosen l_touching l_forces)
  refine sw_iload_n 0 G dX5_carryOutPlan_0 1 rfl ?_
  refine sw_iconst 1 G (-1 : Int32) dX5_carryOutPlan_1 rfl ?_
  refine sw_icmp_ne 2 7 G dX5_carryOutPlan_2 rfl hf (fun hf => ?_) (fun hf => ?_)
  · refine sw_aload_n 7 G dX5_carryOutPlan_7 0 rfl ?_
    refine sw_get 8 G hnX5 0 5 dX5_carryOutPlan_8 vc5 (by decide) (List.mem_cons_of_mem _ lk_a45d4547) rfl rfl ?_
    refine sw_aload_n 11 G dX5_carryOutPlan_11 0 rfl ?_
    refine sw_get 12 G hnX5 0 0 dX5_carryOutPlan_12 vc5 (by decide) (List.mem_cons_of_mem _ lk_c6576e33) rfl rfl ?_
    refine sw_get 15 G hnX4 1 0 dX5_carryOutPlan_15 vc4 (by decide) (List.mem_cons_of_mem _ lk_b490f9e6) rfl rfl ?_
    obtain ⟨u1, hg, hf⟩ := bd1_some hf
    refine sw_callV 18 G ([(x0, .inr (5, [.ref n0, .ref v0, .int x_oldestSaved, .int x_savedStates, .ref t0, .ref l0, .ref c0]))] ++ [(n0, .inr (4, [.ref d0, .ref p0]))] ++ wX1 Θ d0 d1 d2 d3 d_columns d_rows d_carrier d_partMarks d_linkMarks d_operations d_pilots d_settings u1 d_cells ++ wX2 Θ l0 l1 l2 l3 l_operations l_limit l_gap l_bends l_greatestForce l_chosen l_touching l_forces) [6, 7, 8, 9, 2, 3, 4, 5] [0, 1] [0, 1, 6, 7, 8, 9, 2, 3, 4, 5] 1 dX5_carryOutPlan_18 (kX2_putInto Θ F l0 l1 l2 l3 d0 d1 d2 d3 l_operations l_limit l_gap l_bends l_greatestForce l_chosen l_touching l_forces d_columns d_rows d_carrier d_partMarks d_linkMarks d_operations d_pilots d_settings d_facts d_cells u1 hg) (gwV lk_3db69589 lk_ebaa18c9 lk_131b16d7 lk_d27e9d3e lk_adbd48c9) rfl hvX2_putInto ⟨rfl, rfl⟩ ⟨Nat.le_of_ble_eq_true rfl, Nat.le_of_ble_eq_true rfl⟩ ⟨Nat.zero_le _, Nat.zero_le _⟩ rfl rfl (Nat.le_of_ble_eq_true rfl) 0 rfl vc2 rfl rfl rfl rfl (by decide) ?_
    refine sw_iconst 21 G (1 : Int32) dX5_carryOutPlan_21 rfl ?_
    cases hf
    exact sw_zret 22 G dX5_carryOutPlan_22 K rfl
  · refine sw_iconst 5 G (0 : Int32) dX5_carryOutPlan_5 rfl ?_
    cases hf
    exact sw_zret 6 G dX5_carryOutPlan_6 K rfl
abbrev rmX5_carryOutPilot : Room := { frames := 1, cells := 0, slots := 0, locals := 22 }
theorem hvX5_carryOutPilot : yX5_carryOutPilot.cls = RX5 ∧ yX5_carryOutPilot.cls ≠ "java/lang/invoke/MethodHandle" ∧ yX5_carryOutPilot.cls ≠ "java/lang/invoke/VarHandle" ∧ (parseMethodDescriptor yX5_carryOutPilot.desc).map (fun d => d.parameters.length) = some 1 := by decide +kernel
set_option maxRecDepth 100000 in
set_option maxHeartbeats 4000000 in
theorem kX5_carryOutPilot (Θ : Tht) (x0 n0 d0 d1 d2 d3 v0 t0 l0 c0 p0 : Nat) (x_oldestSaved : Int32) (x_savedStates : Int32) (d_columns : Int32) (d_rows : Int32) (d_carrier : Int32) (d_partMarks : Int64) (d_linkMarks : Int64) (d_operations : Int32) (d_pilots : Int32) (d_settings : Nat → Int32) (d_facts : Nat → Int32) (d_cells : Nat → Int64) (a0 : Int32) (ro : Int32) (o_d_pilots : Int32) (hf : fX5_carryOutPilot d_pilots a0 = some (ro, o_d_pilots)) : Fn Θ yX5_carryOutPilot (Cond.code yX5_carryOutPilot cX5_carryOutPilot 2 (some .boolean) :: GW) rmX5_carryOutPilot [.ref x0, .int a0] ([(x0, .inr (5, [.ref n0, .ref v0, .int x_oldestSaved, .int x_savedStates, .ref t0, .ref l0, .ref c0]))] ++ [(n0, .inr (4, [.ref d0, .ref p0]))] ++ wX1 Θ d0 d1 d2 d3 d_columns d_rows d_carrier d_partMarks d_linkMarks d_operations d_pilots d_settings d_facts d_cells) (some (.int ro)) ([(x0, .inr (5, [.ref n0, .ref v0, .int x_oldestSaved, .int x_savedStates, .ref t0, .ref l0, .ref c0]))] ++ [(n0, .inr (4, [.ref d0, .ref p0]))] ++ wX1 Θ d0 d1 d2 d3 d_columns d_rows d_carrier d_partMarks d_linkMarks d_operations o_d_pilots d_settings d_facts d_cells) := by
  delta fX5_carryOutPilot at hf
  refine Fn.of (by decide +kernel) rfl (Nat.le_of_ble_eq_true rfl) (fun p e s m args below meth c A Q G K => ?_)
  show sw Θ p e rmX5_carryOutPilot s m args below meth c A Q 2 0 0 0 [(0, .ref x0), (1, .int a0)] [] ([(x0, .inr (5, [.ref n0, .ref v0, .int x_oldestSaved, .int x_savedStates, .ref t0, .ref l0, .ref c0]))] ++ [(n0, .inr (4, [.ref d0, .ref p0]))] ++ wX1 Θ d0 d1 d2 d3 d_columns d_rows d_carrier d_partMarks d_linkMarks d_operations d_pilots d_settings d_facts d_cells)
  refine sw_iload_n 0 G dX5_carryOutPilot_0 1 rfl ?_
  obtain ⟨r1, hg, hf⟩ := bd1_some hf
  refine sw_callS 1 G ([(x0, .inr (5, [.ref n0, .ref v0, .int x_oldestSaved, .int x_savedStates, .ref t0, .ref l0, .ref c0]))] ++ [(n0, .inr (4, [.ref d0, .ref p0]))] ++ wX1 Θ d0 d1 d2 d3 d_columns d_rows d_carrier d_partMarks d_linkMarks d_operations d_pilots d_settings d_facts d_cells) [] [0, 1, 2, 3, 4, 5] [0, 1, 2, 3, 4, 5] 1 dX5_carryOutPilot_1 (kX5_isStation Θ a0 r1 hg) (gwS lk_e51f5f2c lk_69b39882 lk_01b5d93a lk_08337533) rfl hsX5_isStation ⟨rfl, rfl⟩ ⟨Nat.le_of_ble_eq_true rfl, Nat.le_of_ble_eq_true rfl⟩ ⟨Nat.zero_le _, Nat.zero_le _⟩ rfl rfl (Nat.le_of_ble_eq_true rfl) rfl rfl rfl (by decide) ?_
  refine sw_if_ne 4 9 G dX5_carryOutPilot_4 rfl hf (fun hf => ?_) (fun hf => ?_)
  · refine sw_aload_n 9 G dX5_carryOutPilot_9 0 rfl ?_
    refine sw_get 10 G hnX5 0 0 dX5_carryOutPilot_10 vc5 (by decide) (List.mem_cons_of_mem _ lk_c6576e33) rfl rfl ?_
    refine sw_get 13 G hnX4 1 0 dX5_carryOutPilot_13 vc4 (by decide) (List.mem_cons_of_mem _ lk_b490f9e6) rfl rfl ?_
    refine sw_iload_n 16 G dX5_carryOutPilot_16 1 rfl ?_
    refine sw_iconst 17 G (1 : Int32) dX5_carryOutPilot_17 rfl ?_
    obtain ⟨u2, hg, hf⟩ := bd1_some hf
    refine sw_callV 18 G ([(x0, .inr (5, [.ref n0, .ref v0, .int x_oldestSaved, .int x_savedStates, .ref t0, .ref l0, .ref c0]))] ++ [(n0, .inr (4, [.ref d0, .ref p0]))] ++ wX1 Θ d0 d1 d2 d3 d_columns d_rows d_carrier d_partMarks d_linkMarks d_operations u2 d_settings d_facts d_cells) [2, 3, 4, 5] [0, 1] [0, 1, 2, 3, 4, 5] 2 dX5_carryOutPilot_18 (kX1_changePilot Θ d0 d1 d2 d3 d_columns d_rows d_carrier d_partMarks d_linkMarks d_operations d_pilots d_settings d_facts d_cells a0 (1 : Int32) u2 hg) (gwV lk_a5bafc2a lk_066454b8 lk_59e4fede lk_cf66e99d lk_d77c5548) rfl hvX1_changePilot ⟨rfl, rfl⟩ ⟨Nat.le_of_ble_eq_true rfl, Nat.le_of_ble_eq_true rfl⟩ ⟨Nat.zero_le _, Nat.zero_le _⟩ rfl rfl (Nat.le_of_ble_eq_true rfl) 0 rfl vc1 rfl rfl rfl rfl (by decide) ?_
    refine sw_iconst 21 G (1 : Int32) dX5_carryOutPilot_21 rfl ?_
    cases hf
    exact sw_zret 22 G dX5_carryOutPilot_22 K rfl
  · refine sw_iconst 7 G (0 : Int32) dX5_carryOutPilot_7 rfl ?_
    cases hf
    exact sw_zret 8 G dX5_carryOutPilot_8 K rfl
abbrev rmX5_carryOutStrokes : Room := { frames := 4, cells := 0, slots := 0, locals := 96 }
theorem hvX5_carryOutStrokes : yX5_carryOutStrokes.cls = RX5 ∧ yX5_carryOutStrokes.cls ≠ "java/lang/invoke/MethodHandle" ∧ yX5_carryOutStrokes.cls ≠ "java/lang/invoke/VarHandle" ∧ (parseMethodDescriptor yX5_carryOutStrokes.desc).map (fun d => d.parameters.length) = some 1 := by decide +kernel
set_option maxRecDepth 100000 in
set_option maxHeartbeats 4000000 in
theorem kX5_carryOutStrokes (Θ : Tht) (F : Nat) (x0 n0 d0 d1 d2 d3 p0 p1 p2 p3 v0 t0 l0 c0 : Nat) (x_oldestSaved : Int32) (x_savedStates : Int32) (d_columns : Int32) (d_rows : Int32) (d_carrier : Int32) (d_partMarks : Int64) (d_linkMarks : Int64) (d_operations : Int32) (d_pilots : Int32) (d_settings : Nat → Int32) (d_facts : Nat → Int32) (d_cells : Nat → Int64) (p_pitches : Int32) (p_spoiled : Int32) (p_cells : Nat → Int64) (p_bends : Nat → Int32) (p_offsets : Nat → Int32) (p_strokes : Int32) (p_goodParts : Int32) (p_badParts : Int32) (p_slugs : Int32) (a0 : Int32) (ro : Int32) (o_p_pitches : Int32) (o_p_spoiled : Int32) (o_p_cells : Nat → Int64) (o_p_bends : Nat → Int32) (o_p_offsets : Nat → Int32) (o_p_strokes : Int32) (o_p_goodParts : Int32) (o_p_badParts : Int32) (o_p_slugs : Int32) (hf : fX5_carryOutStrokes F d_columns d_rows d_carrier d_partMarks d_linkMarks d_operations d_pilots d_settings d_facts d_cells p_pitches p_spoiled p_cells p_bends p_offsets p_strokes p_goodParts p_badParts p_slugs a0 = some (ro, o_p_pitches, o_p_spoiled, o_p_cells, o_p_bends, o_p_offsets, o_p_strokes, o_p_goodParts, o_p_badParts, o_p_slugs)) : Fn Θ yX5_carryOutStrokes (Cond.code yX5_carryOutStrokes cX5_carryOutStrokes 3 (some .boolean) :: GW) rmX5_carryOutStrokes [.ref x0, .int a0] ([(x0, .inr (5, [.ref n0, .ref v0, .int x_oldestSaved, .int x_savedStates, .ref t0, .ref l0, .ref c0]))] ++ [(n0, .inr (4, [.ref d0, .ref p0]))] ++ wX1 Θ d0 d1 d2 d3 d_columns d_rows d_carrier d_partMarks d_linkMarks d_operations d_pilots d_settings d_facts d_cells ++ wX3 Θ p0 p1 p2 p3 p_pitches p_spoiled p_cells p_bends p_offsets p_strokes p_goodParts p_badParts p_slugs) (some (.int ro)) ([(x0, .inr (5, [.ref n0, .ref v0, .int x_oldestSaved, .int x_savedStates, .ref t0, .ref l0, .ref c0]))] ++ [(n0, .inr (4, [.ref d0, .ref p0]))] ++ wX1 Θ d0 d1 d2 d3 d_columns d_rows d_carrier d_partMarks d_linkMarks d_operations d_pilots d_settings d_facts d_cells ++ wX3 Θ p0 p1 p2 p3 o_p_pitches o_p_spoiled o_p_cells o_p_bends o_p_offsets o_p_strokes o_p_goodParts o_p_badParts o_p_slugs) := by
  delta fX5_carryOutStrokes at hf
  refine Fn.of (by decide +kernel) rfl (Nat.le_of_ble_eq_true rfl) (fun p e s m args below meth c A Q G K => ?_)
  show sw Θ p e rmX5_carryOutStrokes s m args below meth c A Q 3 0 0 0 [(0, .ref x0), (1, .int a0)] [] ([(x0, .inr (5, [.ref n0, .ref v0, .int x_oldestSaved, .int x_savedStates, .ref t0, .ref l0, .ref c0]))] ++ [(n0, .inr (4, [.ref d0, .ref p0]))] ++ wX1 Θ d0 d1 d2 d3 d_columns d_rows d_carrier d_partMarks d_linkMarks d_operations d_pilots d_settings d_facts d_cells ++ wX3 Θ p0 p1 p2 p3 p_pitches p_spoiled p_cells p_bends p_offsets p_strokes p_goodParts p_badParts p_slugs)
  refine sw_iload_n 0 G dX5_carryOutStrokes_0 1 rfl ?_
  refine sw_iconst 1 G (1 : Int32) dX5_carryOutStrokes_1 rfl ?_
  refine sw_icmp_lt 2 11 G dX5_carryOutStrokes_2 rfl hf (fun hf => ?_) (fun hf => ?_)
  · refine sw_iconst 11 G (0 : Int32) dX5_carryOutStrokes_11 rfl ?_
    cases hf
    exact sw_zret 12 G dX5_carryOutStrokes_12 K rfl
  · refine sw_iload_n 5 G dX5_carryOutStrokes_5 1 rfl ?_
    refine sw_bipush 6 G (50 : Int32) dX5_carryOutStrokes_6 rfl ?_
    refine sw_icmp_le 8 13 G dX5_carryOutStrokes_8 rfl hf (fun hf => ?_) (fun hf => ?_)
    · refine sw_iconst 13 G (0 : Int32) dX5_carryOutStrokes_13 rfl ?_
      refine sw_istore_n 14 G [(2, .int (0 : Int32)), (0, .ref x0), (1, .int a0)] dX5_carryOutStrokes_14 (by decide) rfl ?_
      obtain ⟨v1, v2, v3, v4, v5, v6, v7, v8, v9, hl, hf⟩ := bd9_some hf
      have hx15_44 : sw Θ p e rmX5_carryOutStrokes s m args below meth c A Q 3 0 0 44 [] [] ([(x0, .inr (5, [.ref n0, .ref v0, .int x_oldestSaved, .int x_savedStates, .ref t0, .ref l0, .ref c0]))] ++ [(n0, .inr (4, [.ref d0, .ref p0]))] ++ wX1 Θ d0 d1 d2 d3 d_columns d_rows d_carrier d_partMarks d_linkMarks d_operations d_pilots d_settings d_facts d_cells ++ wX3 Θ p0 p1 p2 p3 v1 v2 v3 v4 v5 v6 v7 v8 v9) := by
        refine sw_iconst 44 G (1 : Int32) dX5_carryOutStrokes_44 rfl ?_
        cases hf
        exact sw_zret 45 G dX5_carryOutStrokes_45 K rfl
      refine sw_lv [(0, .ref x0), (1, .int a0), (2, .int (0 : Int32))] [1, 2, 0] rfl ?_
      refine lp_walk (P := fun (t : Int32 × Int32 × Int32 × (Nat → Int64) × (Nat → Int32) × (Nat → Int32) × Int32 × Int32 × Int32 × Int32) => sw Θ p e rmX5_carryOutStrokes s m args below meth c A Q 3 0 0 15 [(0, .ref x0), (1, .int a0), (2, .int t.1)] [] ([(x0, .inr (5, [.ref n0, .ref v0, .int x_oldestSaved, .int x_savedStates, .ref t0, .ref l0, .ref c0]))] ++ [(n0, .inr (4, [.ref d0, .ref p0]))] ++ wX1 Θ d0 d1 d2 d3 d_columns d_rows d_carrier d_partMarks d_linkMarks d_operations d_pilots d_settings d_facts d_cells ++ wX3 Θ p0 p1 p2 p3 t.2.1 t.2.2.1 t.2.2.2.1 t.2.2.2.2.1 t.2.2.2.2.2.1 t.2.2.2.2.2.2.1 t.2.2.2.2.2.2.2.1 t.2.2.2.2.2.2.2.2.1 t.2.2.2.2.2.2.2.2.2)) hl (fun t15 y15 hf hin15 hex15 => ?_)
      obtain ⟨v10, v11, v12, v13, v14, v15, v16, v17, v18, v19⟩ := t15
      show sw Θ p e rmX5_carryOutStrokes s m args below meth c A Q 3 0 0 15 [(0, .ref x0), (1, .int a0), (2, .int v10)] [] ([(x0, .inr (5, [.ref n0, .ref v0, .int x_oldestSaved, .int x_savedStates, .ref t0, .ref l0, .ref c0]))] ++ [(n0, .inr (4, [.ref d0, .ref p0]))] ++ wX1 Θ d0 d1 d2 d3 d_columns d_rows d_carrier d_partMarks d_linkMarks d_operations d_pilots d_settings d_facts d_cells ++ wX3 Θ p0 p1 p2 p3 v11 v12 v13 v14 v15 v16 v17 v18 v19)
      have hf := uc10_some (K := _) hf
      refine sw_iload_n 15 G dX5_carryOutStrokes_15 2 rfl ?_
      refine sw_iload_n 16 G dX5_carryOutStrokes_16 1 rfl ?_
      refine sw_icmp_ge 17 44 G dX5_carryOutStrokes_17 rfl hf (fun hf => ?_) (fun hf => ?_)
      · cases hf
        cases hex15 _ rfl
        exact sw_lv _ [] rfl hx15_44
      · refine sw_aload_n 20 G dX5_carryOutStrokes_20 0 rfl ?_
        refine sw_get 21 G hnX5 0 0 dX5_carryOutStrokes_21 vc5 (by decide) (List.mem_cons_of_mem _ lk_c6576e33) rfl rfl ?_
        refine sw_get 24 G hnX4 1 1 dX5_carryOutStrokes_24 vc4 (by decide) (List.mem_cons_of_mem _ lk_3ac9de3e) rfl rfl ?_
        refine sw_aload_n 27 G dX5_carryOutStrokes_27 0 rfl ?_
        refine sw_get 28 G hnX5 0 0 dX5_carryOutStrokes_28 vc5 (by decide) (List.mem_cons_of_mem _ lk_c6576e33) rfl rfl ?_
        refine sw_get 31 G hnX4 1 0 dX5_carryOutStrokes_31 vc4 (by decide) (List.mem_cons_of_mem _ lk_b490f9e6) rfl rfl ?_
        obtain ⟨r20, u21, u22, u23, u24, u25, u26, u27, u28, u29, hg, hf⟩ := bd10_some hf
        refine sw_callV 34 G ([(x0, .inr (5, [.ref n0, .ref v0, .int x_oldestSaved, .int x_savedStates, .ref t0, .ref l0, .ref c0]))] ++ [(n0, .inr (4, [.ref d0, .ref p0]))] ++ wX1 Θ d0 d1 d2 d3 d_columns d_rows d_carrier d_partMarks d_linkMarks d_operations d_pilots d_settings d_facts d_cells ++ wX3 Θ p0 p1 p2 p3 u21 u22 u23 u24 u25 u26 u27 u28 u29) [6, 7, 8, 9, 2, 3, 4, 5] [0, 1] [0, 1, 6, 7, 8, 9, 2, 3, 4, 5] 1 dX5_carryOutStrokes_34 (kX3_feed Θ F p0 p1 p2 p3 d0 d1 d2 d3 v11 v12 v13 v14 v15 v16 v17 v18 v19 d_columns d_rows d_carrier d_partMarks d_linkMarks d_operations d_pilots d_settings d_facts d_cells r20 u21 u22 u23 u24 u25 u26 u27 u28 u29 hg) (gwV lk_20f2b810 lk_bd6e1689 lk_71b73a8f lk_106b7259 lk_0822d573) rfl hvX3_feed ⟨rfl, rfl⟩ ⟨Nat.le_of_ble_eq_true rfl, Nat.le_of_ble_eq_true rfl⟩ ⟨Nat.zero_le _, Nat.zero_le _⟩ rfl rfl (Nat.le_of_ble_eq_true rfl) 0 rfl vc3 rfl rfl rfl rfl (by decide) ?_
        refine sw_pop 37 G dX5_carryOutStrokes_37 rfl ?_
        refine sw_iinc 38 G (v10 + (1 : Int32)) [(2, .int (v10 + (1 : Int32))), (0, .ref x0), (1, .int a0)] dX5_carryOutStrokes_38 2 rfl rfl (by decide) rfl ?_
        refine sw_goto 41 G 15 dX5_carryOutStrokes_41 rfl ?_
        cases hf
        have hb := hin15 _ rfl
        exact sw_lv _ [1, 2, 0] (by rfl) hb
    · refine sw_iconst 11 G (0 : Int32) dX5_carryOutStrokes_11 rfl ?_
      cases hf
      exact sw_zret 12 G dX5_carryOutStrokes_12 K rfl
abbrev rmX5_carryOut : Room := { frames := 5, cells := 0, slots := 0, locals := 128 }
theorem hvX5_carryOut : yX5_carryOut.cls = RX5 ∧ yX5_carryOut.cls ≠ "java/lang/invoke/MethodHandle" ∧ yX5_carryOut.cls ≠ "java/lang/invoke/VarHandle" ∧ (parseMethodDescriptor yX5_carryOut.desc).map (fun d => d.parameters.length) = some 0 := by decide +kernel
set_option maxRecDepth 100000 in
set_option maxHeartbeats 4000000 in
theorem kX5_carryOut (Θ : Tht) (F : Nat) (x0 n0 d0 d1 d2 d3 p0 p1 p2 p3 l0 l1 l2 l3 c0 c1 c2 v0 t0 : Nat) (x_oldestSaved : Int32) (x_savedStates : Int32) (d_columns : Int32) (d_rows : Int32) (d_carrier : Int32) (d_partMarks : Int64) (d_linkMarks : Int64) (d_operations : Int32) (d_pilots : Int32) (d_settings : Nat → Int32) (d_facts : Nat → Int32) (d_cells : Nat → Int64) (p_pitches : Int32) (p_spoiled : Int32) (p_cells : Nat → Int64) (p_bends : Nat → Int32) (p_offsets : Nat → Int32) (p_strokes : Int32) (p_goodParts : Int32) (p_badParts : Int32) (p_slugs : Int32) (l_operations : Int32) (l_limit : Int32) (l_gap : Int32) (l_bends : Int32) (l_greatestForce : Int32) (l_chosen : Nat → Int32) (l_touching : Nat → Int32) (l_forces : Nat → Int32) (c_bytes : Nat → Int32) (c_numbers : Nat → Int32) (c_length : Int32) (c_at : Int32) (c_word : Int32) (ro : Int32) (o_d_columns : Int32) (o_d_rows : Int32) (o_d_partMarks : Int64) (o_d_linkMarks : Int64) (o_d_operations : Int32) (o_d_pilots : Int32) (o_d_facts : Nat → Int32) (o_d_cells : Nat → Int64) (o_p_pitches : Int32) (o_p_spoiled : Int32) (o_p_cells : Nat → Int64) (o_p_bends : Nat → Int32) (o_p_offsets : Nat → Int32) (o_p_strokes : Int32) (o_p_goodParts : Int32) (o_p_badParts : Int32) (o_p_slugs : Int32) (o_l_operations : Int32) (o_l_limit : Int32) (o_l_gap : Int32) (o_l_bends : Int32) (o_l_greatestForce : Int32) (o_l_chosen : Nat → Int32) (o_l_touching : Nat → Int32) (o_l_forces : Nat → Int32) (hf : fX5_carryOut F d_columns d_rows d_carrier d_partMarks d_linkMarks d_operations d_pilots d_settings d_facts d_cells p_pitches p_spoiled p_cells p_bends p_offsets p_strokes p_goodParts p_badParts p_slugs l_operations l_limit l_gap l_bends l_greatestForce l_chosen l_touching l_forces c_numbers c_word = some (ro, o_d_columns, o_d_rows, o_d_partMarks, o_d_linkMarks, o_d_operations, o_d_pilots, o_d_facts, o_d_cells, o_p_pitches, o_p_spoiled, o_p_cells, o_p_bends, o_p_offsets, o_p_strokes, o_p_goodParts, o_p_badParts, o_p_slugs, o_l_operations, o_l_limit, o_l_gap, o_l_bends, o_l_greatestForce, o_l_chosen, o_l_touching, o_l_forces)) : Fn Θ yX5_carryOut (Cond.code yX5_carryOut cX5_carryOut 5 (some .boolean) :: GW) rmX5_carryOut [.ref x0] ([(x0, .inr (5, [.ref n0, .ref v0, .int x_oldestSaved, .int x_savedStates, .ref t0, .ref l0, .ref c0]))] ++ [(n0, .inr (4, [.ref d0, .ref p0]))] ++ wX1 Θ d0 d1 d2 d3 d_columns d_rows d_carrier d_partMarks d_linkMarks d_operations d_pilots d_settings d_facts d_cells ++ wX3 Θ p0 p1 p2 p3 p_pitches p_spoiled p_cells p_bends p_offsets p_strokes p_goodParts p_badParts p_slugs ++ wX2 Θ l0 l1 l2 l3 l_operations l_limit l_gap l_bends l_greatestForce l_chosen l_touching l_forces ++ wX0 Θ c0 c1 c2 c_bytes c_numbers c_length c_at c_word) (some (.int ro)) ([(x0, .inr (5, [.ref n0, .ref v0, .int x_oldestSaved, .int x_savedStates, .ref t0, .ref l0, .ref c0]))] ++ [(n0, .inr (4, [.ref d0, .ref p0]))] ++ wX1 Θ d0 d1 d2 d3 o_d_columns o_d_rows d_carrier o_d_partMarks o_d_linkMarks o_d_operations o_d_pilots d_settings o_d_facts o_d_cells ++ wX3 Θ p0 p1 p2 p3 o_p_pitches o_p_spoiled o_p_cells o_p_bends o_p_offsets o_p_strokes o_p_goodParts o_p_badParts o_p_slugs ++ wX2 Θ l0 l1 l2 l3 o_l_operations o_l_limit o_l_gap o_l_bends o_l_greatestForce o_l_chosen o_l_touching o_l_forces ++ wX0 Θ c0 c1 c2 c_bytes c_numbers c_length c_at c_word) := by
  delta fX5_carryOut at hf
  refine Fn.of (by decide +kernel) rfl (Nat.le_of_ble_eq_true rfl) (fun p e s m args below meth c A Q G K => ?_)
  show sw Θ p e rmX5_carryOut s m args below meth c A Q 5 0 0 0 [(0, .ref x0)] [] ([(x0, .inr (5, [.ref n0, .ref v0, .int x_oldestSaved, .int x_savedStates, .ref t0, .ref l0, .ref c0]))] ++ [(n0, .inr (4, [.ref d0, .ref p0]))] ++ wX1 Θ d0 d1 d2 d3 d_columns d_rows d_carrier d_partMarks d_linkMarks d_operations d_pilots d_settings d_facts d_cells ++ wX3 Θ p0 p1 p2 p3 p_pitches p_spoiled p_cells p_bends p_offsets p_strokes p_goodParts p_badParts p_slugs ++ wX2 Θ l0 l1 l2 l3 l_operations l_limit l_gap l_bends l_greatestForce l_chosen l_touching l_forces ++ wX0 Θ c0 c1 c2 c_bytes c_numbers c_length c_at c_word)
  refine sw_aload_n 0 G dX5_carryOut_0 0 rfl ?_
  refine sw_get 1 G hnX5 0 6 dX5_carryOut_1 vc5 (by decide) (List.mem_cons_of_mem _ lk_0b6ebd02) rfl rfl ?_
  refine sw_iconst 4 G (0 : Int32) dX5_carryOut_4 rfl ?_
  obtain ⟨r1, hg, hf⟩ := bd1_some hf
  refine sw_callV 5 G ([(x0, .inr (5, [.ref n0, .ref v0, .int x_oldestSaved, .int x_savedStates, .ref t0, .ref l0, .ref c0]))] ++ [(n0, .inr (4, [.ref d0, .ref p0]))] ++ wX1 Θ d0 d1 d2 d3 d_columns d_rows d_carrier d_partMarks d_linkMarks d_operations d_pilots d_settings d_facts d_cells ++ wX3 Θ p0 p1 p2 p3 p_pitches p_spoiled p_cells p_bends p_offsets p_strokes p_goodParts p_badParts p_slugs ++ wX2 Θ l0 l1 l2 l3 l_operations l_limit l_gap l_bends l_greatestForce l_chosen l_touching l_forces ++ wX0 Θ c0 c1 c2 c_bytes c_numbers c_length c_at c_word) [14, 15, 16] [0, 1, 2, 3, 4, 5, 6, 7, 8, 9, 10, 11, 12, 13] [0, 1, 2, 3, 4, 5, 6, 7, 8, 9, 10, 11, 12, 13, 14, 15, 16] 1 dX5_carryOut_5 (kX0_number Θ c0 c1 c2 c_bytes c_numbers c_length c_at c_word (0 : Int32) r1 hg) (gwV lk_7d0f2d4e lk_b83b036c lk_d2cb4d87 lk_82b0ef51 lk_2674d7fd) rfl hvX0_number ⟨rfl, rfl⟩ ⟨Nat.le_of_ble_eq_true rfl, Nat.le_of_ble_eq_true rfl⟩ ⟨Nat.zero_le _, Nat.zero_le _⟩ rfl rfl (Nat.le_of_ble_eq_true rfl) 0 rfl vc0 rfl rfl rfl rfl (by decide) ?_
  refine sw_istore_n 8 G [(1, .int r1), (0, .ref x0)] dX5_carryOut_8 (by decide) rfl ?_
  refine sw_aload_n 9 G dX5_carryOut_9 1 rfl ?_
  refine sw_get 10 G hnX5 0 6 dX5_carryOut_10 vc5 (by decide) (List.mem_cons_of_mem _ lk_0b6ebd02) rfl rfl ?_
  refine sw_iconst 13 G (1 : Int32) dX5_carryOut_13 rfl ?_
  obtain ⟨r2, hg, hf⟩ := bd1_some hf
  refine sw_callV 14 G ([(x0, .inr (5, [.ref n0, .ref v0, .int x_oldestSaved, .int x_savedStates, .ref t0, .ref l0, .ref c0]))] ++ [(n0, .inr (4, [.ref d0, .ref p0]))] ++ wX1 Θ d0 d1 d2 d3 d_columns d_rows d_carrier d_partMarks d_linkMarks d_operations d_pilots d_settings d_facts d_cells ++ wX3 Θ p0 p1 p2 p3 p_pitches p_spoiled p_cells p_bends p_offsets p_strokes p_goodParts p_badParts p_slugs ++ wX2 Θ l0 l1 l2 l3 l_operations l_limit l_gap l_bends l_greatestForce l_chosen l_touching l_forces ++ wX0 Θ c0 c1 c2 c_bytes c_numbers c_length c_at c_word) [14, 15, 16] [0, 1, 2, 3, 4, 5, 6, 7, 8, 9, 10, 11, 12, 13] [0, 1, 2, 3, 4, 5, 6, 7, 8, 9, 10, 11, 12, 13, 14, 15, 16] 1 dX5_carryOut_14 (kX0_number Θ c0 c1 c2 c_bytes c_numbers c_length c_at c_word (1 : Int32) r2 hg) (gwV lk_7d0f2d4e lk_b83b036c lk_d2cb4d87 lk_82b0ef51 lk_2674d7fd) rfl hvX0_number ⟨rfl, rfl⟩ ⟨Nat.le_of_ble_eq_true rfl, Nat.le_of_ble_eq_true rfl⟩ ⟨Nat.zero_le _, Nat.zero_le _⟩ rfl rfl (Nat.le_of_ble_eq_true rfl) 0 rfl vc0 rfl rfl rfl rfl (by decide) ?_
  refine sw_istore_n 17 G [(2, .int r2), (1, .int r1), (0, .ref x0)] dX5_carryOut_17 (by decide) rfl ?_
  refine sw_aload_n 18 G dX5_carryOut_18 2 rfl ?_
  refine sw_get 19 G hnX5 0 6 dX5_carryOut_19 vc5 (by decide) (List.mem_cons_of_mem _ lk_0b6ebd02) rfl rfl ?_
  refine sw_iconst 22 G (2 : Int32) dX5_carryOut_22 rfl ?_
  obtain ⟨r3, hg, hf⟩ := bd1_some hf
  refine sw_callV 23 G ([(x0, .inr (5, [.ref n0, .ref v0, .int x_oldestSaved, .int x_savedStates, .ref t0, .ref l0, .ref c0]))] ++ [(n0, .inr (4, [.ref d0, .ref p0]))] ++ wX1 Θ d0 d1 d2 d3 d_columns d_rows d_carrier d_partMarks d_linkMarks d_operations d_pilots d_settings d_facts d_cells ++ wX3 Θ p0 p1 p2 p3 p_pitches p_spoiled p_cells p_bends p_offsets p_strokes p_goodParts p_badParts p_slugs ++ wX2 Θ l0 l1 l2 l3 l_operations l_limit l_gap l_bends l_greatestForce l_chosen l_touching l_forces ++ wX0 Θ c0 c1 c2 c_bytes c_numbers c_length c_at c_word) [14, 15, 16] [0, 1, 2, 3, 4, 5, 6, 7, 8, 9, 10, 11, 12, 13] [0, 1, 2, 3, 4, 5, 6, 7, 8, 9, 10, 11, 12, 13, 14, 15, 16] 1 dX5_carryOut_23 (kX0_number Θ c0 c1 c2 c_bytes c_numbers c_length c_at c_word (2 : Int32) r3 hg) (gwV lk_7d0f2d4e lk_b83b036c lk_d2cb4d87 lk_82b0ef51 lk_2674d7fd) rfl hvX0_number ⟨rfl, rfl⟩ ⟨Nat.le_of_ble_eq_true rfl, Nat.le_of_ble_eq_true rfl⟩ ⟨Nat.zero_le _, Nat.zero_le _⟩ rfl rfl (Nat.le_of_ble_eq_true rfl) 0 rfl vc0 rfl rfl rfl rfl (by decide) ?_
  refine sw_istore_n 26 G [(3, .int r3), (2, .int r2), (1, .int r1), (0, .ref x0)] dX5_carryOut_26 (by decide) rfl ?_
  refine sw_aload_n 27 G dX5_carryOut_27 3 rfl ?_
  refine sw_get 28 G hnX5 0 6 dX5_carryOut_28 vc5 (by decide) (List.mem_cons_of_mem _ lk_0b6ebd02) rfl rfl ?_
  refine sw_iconst 31 G (3 : Int32) dX5_carryOut_31 rfl ?_
  obtain ⟨r4, hg, hf⟩ := bd1_some hf
  refine sw_callV 32 G ([(x0, .inr (5, [.ref n0, .ref v0, .int x_oldestSaved, .int x_savedStates, .ref t0, .ref l0, .ref c0]))] ++ [(n0, .inr (4, [.ref d0, .ref p0]))] ++ wX1 Θ d0 d1 d2 d3 d_columns d_rows d_carrier d_partMarks d_linkMarks d_operations d_pilots d_settings d_facts d_cells ++ wX3 Θ p0 p1 p2 p3 p_pitches p_spoiled p_cells p_bends p_offsets p_strokes p_goodParts p_badParts p_slugs ++ wX2 Θ l0 l1 l2 l3 l_operations l_limit l_gap l_bends l_greatestForce l_chosen l_touching l_forces ++ wX0 Θ c0 c1 c2 c_bytes c_numbers c_length c_at c_word) [14, 15, 16] [0, 1, 2, 3, 4, 5, 6, 7, 8, 9, 10, 11, 12, 13] [0, 1, 2, 3, 4, 5, 6, 7, 8, 9, 10, 11, 12, 13, 14, 15, 16] 1 dX5_carryOut_32 (kX0_number Θ c0 c1 c2 c_bytes c_numbers c_length c_at c_word (3 : Int32) r4 hg) (gwV lk_7d0f2d4e lk_b83b036c lk_d2cb4d87 lk_82b0ef51 lk_2674d7fd) rfl hvX0_number ⟨rfl, rfl⟩ ⟨Nat.le_of_ble_eq_true rfl, Nat.le_of_ble_eq_true rfl⟩ ⟨Nat.zero_le _, Nat.zero_le _⟩ rfl rfl (Nat.le_of_ble_eq_true rfl) 0 rfl vc0 rfl rfl rfl rfl (by decide) ?_
  refine sw_istore 35 G [(4, .int r4), (3, .int r3), (2, .int r2), (1, .int r1), (0, .ref x0)] dX5_carryOut_35 (by decide) rfl ?_
  refine sw_aload_n 37 G dX5_carryOut_37 4 rfl ?_
  refine sw_get 38 G hnX5 0 6 dX5_carryOut_38 vc5 (by decide) (List.mem_cons_of_mem _ lk_0b6ebd02) rfl rfl ?_
  refine sw_get 41 G hnX0 14 4 dX5_carryOut_41 vc0 (by decide) (List.mem_cons_of_mem _ lk_95e1082c) rfl rfl ?_
  refine sw_tsw 44 184 G dX5_carryOut_44 rfl hf (fun hf => ?_) (fun j hj hf => ?_)
  · refine sw_iconst 184 G (0 : Int32) dX5_carryOut_184 rfl ?_
    cases hf
    exact sw_zret 185 G dX5_carryOut_185 K rfl
  · rcases (show j = 0 ∨ j = 1 ∨ j = 2 ∨ j = 3 ∨ j = 4 ∨ j = 5 ∨ j = 6 ∨ j = 7 ∨ j = 8 by omega) with rfl | rfl | rfl | rfl | rfl | rfl | rfl | rfl | rfl
    · refine ⟨52, 96, rfl, rfl, ?_⟩
      have hf := tc_0 hf
      refine sw_aload_n 96 G dX5_carryOut_96 4 rfl ?_
      refine sw_iload_n 97 G dX5_carryOut_97 3 rfl ?_
      refine sw_iload_n 98 G dX5_carryOut_98 2 rfl ?_
      obtain ⟨r5, u6, u7, u8, u9, u10, u11, u12, u13, u14, u15, u16, u17, hg, hf⟩ := bd13_some hf
      refine sw_callV 99 G ([(x0, .inr (5, [.ref n0, .ref v0, .int x_oldestSaved, .int x_savedStates, .ref t0, .ref l0, .ref c0]))] ++ [(n0, .inr (4, [.ref d0, .ref p0]))] ++ wX1 Θ d0 d1 d2 d3 u6 u7 d_carrier u8 u9 u10 u11 d_settings d_facts d_cells ++ wX3 Θ p0 p1 p2 p3 u12 u13 p_cells p_bends p_offsets u14 u15 u16 u17 ++ wX2 Θ l0 l1 l2 l3 l_operations l_limit l_gap l_bends l_greatestForce l_chosen l_touching l_forces ++ wX0 Θ c0 c1 c2 c_bytes c_numbers c_length c_at c_word) [0, 1, 2, 3, 4, 5, 6, 7, 8, 9] [10, 11, 12, 13, 14, 15, 16] [7, 8, 9, 10, 11, 12, 13, 14, 15, 16, 0, 1, 2, 3, 4, 5, 6] 2 dX5_carryOut_99 (kX5_carryOutPitch Θ x0 n0 d0 d1 d2 d3 p0 p1 p2 p3 v0 t0 l0 c0 x_oldestSaved x_savedStates d_columns d_rows d_carrier d_partMarks d_linkMarks d_operations d_pilots d_settings d_facts d_cells p_pitches p_spoiled p_cells p_bends p_offsets p_strokes p_goodParts p_badParts p_slugs r1 r2 r5 u6 u7 u8 u9 u10 u11 u12 u13 u14 u15 u16 u17 hg) (gwV lk_ab65060d lk_b388f0a9 lk_099f8155 lk_5f14f758 lk_c9b6f117) rfl hvX5_carryOutPitch ⟨rfl, rfl⟩ ⟨Nat.le_of_ble_eq_true rfl, Nat.le_of_ble_eq_true rfl⟩ ⟨Nat.zero_le _, Nat.zero_le _⟩ rfl rfl (Nat.le_of_ble_eq_true rfl) 0 rfl vc5 rfl rfl rfl rfl (by decide) ?_
      obtain ⟨hz, hf⟩ := gb_some hf
      cases hf
      exact sw_zret 102 G dX5_carryOut_102 K hz
    · refine ⟨59, 103, rfl, rfl, ?_⟩
      have hf := tc_1 hf
      refine sw_aload_n 103 G dX5_carryOut_103 4 rfl ?_
      refine sw_iload_n 104 G dX5_carryOut_104 3 rfl ?_
      refine sw_iload_n 105 G dX5_carryOut_105 2 rfl ?_
      refine sw_iload_n 106 G dX5_carryOut_106 1 rfl ?_
      refine sw_iload 107 G dX5_carryOut_107 0 rfl ?_
      refine sw_iconst 109 G (1 : Int32) dX5_carryOut_109 rfl ?_
      obtain ⟨r18, u19, u20, hg, hf⟩ := bd3_some hf
      refine sw_callV 110 G ([(x0, .inr (5, [.ref n0, .ref v0, .int x_oldestSaved, .int x_savedStates, .ref t0, .ref l0, .ref c0]))] ++ [(n0, .inr (4, [.ref d0, .ref p0]))] ++ wX1 Θ d0 d1 d2 d3 d_columns d_rows d_carrier u19 u20 d_operations d_pilots d_settings d_facts d_cells ++ wX3 Θ p0 p1 p2 p3 p_pitches p_spoiled p_cells p_bends p_offsets p_strokes p_goodParts p_badParts p_slugs ++ wX2 Θ l0 l1 l2 l3 l_operations l_limit l_gap l_bends l_greatestForce l_chosen l_touching l_forces ++ wX0 Θ c0 c1 c2 c_bytes c_numbers c_length c_at c_word) [0, 1, 2, 3, 4, 5] [6, 7, 8, 9, 10, 11, 12, 13, 14, 15, 16] [11, 12, 13, 14, 15, 16, 0, 1, 2, 3, 4, 5, 6, 7, 8, 9, 10] 5 dX5_carryOut_110 (kX5_carryOutMark Θ F x0 n0 d0 d1 d2 d3 v0 t0 l0 c0 p0 x_oldestSaved x_savedStates d_columns d_rows d_carrier d_partMarks d_linkMarks d_operations d_pilots d_settings d_facts d_cells r1 r2 r3 r4 (1 : Int32) r18 u19 u20 hg) (gwV lk_9112807f lk_061603ce lk_d62916fa lk_5f14f758 lk_635a80d0) rfl hvX5_carryOutMark ⟨rfl, rfl⟩ ⟨Nat.le_of_ble_eq_true rfl, Nat.le_of_ble_eq_true rfl⟩ ⟨Nat.zero_le _, Nat.zero_le _⟩ rfl rfl (Nat.le_of_ble_eq_true rfl) 0 rfl vc5 rfl rfl rfl rfl (by decide) ?_
      obtain ⟨hz, hf⟩ := gb_some hf
      cases hf
      exact sw_zret 113 G dX5_carryOut_113 K hz
    · refine ⟨70, 114, rfl, rfl, ?_⟩
      have hf := tc_2 hf
      refine sw_aload_n 114 G dX5_carryOut_114 4 rfl ?_
      refine sw_iload_n 115 G dX5_carryOut_115 3 rfl ?_
      refine sw_iload_n 116 G dX5_carryOut_116 2 rfl ?_
      refine sw_iload_n 117 G dX5_carryOut_117 1 rfl ?_
      refine sw_iload 118 G dX5_carryOut_118 0 rfl ?_
      refine sw_iconst 120 G (2 : Int32) dX5_carryOut_120 rfl ?_
      obtain ⟨r21, u22, u23, hg, hf⟩ := bd3_some hf
      refine sw_callV 121 G ([(x0, .inr (5, [.ref n0, .ref v0, .int x_oldestSaved, .int x_savedStates, .ref t0, .ref l0, .ref c0]))] ++ [(n0, .inr (4, [.ref d0, .ref p0]))] ++ wX1 Θ d0 d1 d2 d3 d_columns d_rows d_carrier u22 u23 d_operations d_pilots d_settings d_facts d_cells ++ wX3 Θ p0 p1 p2 p3 p_pitches p_spoiled p_cells p_bends p_offsets p_strokes p_goodParts p_badParts p_slugs ++ wX2 Θ l0 l1 l2 l3 l_operations l_limit l_gap l_bends l_greatestForce l_chosen l_touching l_forces ++ wX0 Θ c0 c1 c2 c_bytes c_numbers c_length c_at c_word) [0, 1, 2, 3, 4, 5] [6, 7, 8, 9, 10, 11, 12, 13, 14, 15, 16] [11, 12, 13, 14, 15, 16, 0, 1, 2, 3, 4, 5, 6, 7, 8, 9, 10] 5 dX5_carryOut_121 (kX5_carryOutMark Θ F x0 n0 d0 d1 d2 d3 v0 t0 l0 c0 p0 x_oldestSaved x_savedStates d_columns d_rows d_carrier d_partMarks d_linkMarks d_operations d_pilots d_settings d_facts d_cells r1 r2 r3 r4 (2 : Int32) r21 u22 u23 hg) (gwV lk_9112807f lk_061603ce lk_d62916fa lk_5f14f758 lk_635a80d0) rfl hvX5_carryOutMark ⟨rfl, rfl⟩ ⟨Nat.le_of_ble_eq_true rfl, Nat.le_of_ble_eq_true rfl⟩ ⟨Nat.zero_le _, Nat.zero_le _⟩ rfl rfl (Nat.le_of_ble_eq_true rfl) 0 rfl vc5 rfl rfl rfl rfl (by decide) ?_
      obtain ⟨hz, hf⟩ := gb_some hf
      cases hf
      exact sw_zret 124 G dX5_carryOut_124 K hz
    · refine ⟨81, 125, rfl, rfl, ?_⟩
      have hf := tc_3 hf
      refine sw_aload_n 125 G dX5_carryOut_125 4 rfl ?_
      refine sw_iconst 126 G (0 : Int32) dX5_carryOut_126 rfl ?_
      refine sw_iload_n 127 G dX5_carryOut_127 3 rfl ?_
      refine sw_iload_n 128 G dX5_carryOut_128 2 rfl ?_
      refine sw_iload_n 129 G dX5_carryOut_129 1 rfl ?_
      refine sw_iload 130 G dX5_carryOut_130 0 rfl ?_
      obtain ⟨r24, u25, u26, u27, hg, hf⟩ := bd4_some hf
      refine sw_callV 132 G ([(x0, .inr (5, [.ref n0, .ref v0, .int x_oldestSaved, .int x_savedStates, .ref t0, .ref l0, .ref c0]))] ++ [(n0, .inr (4, [.ref d0, .ref p0]))] ++ wX1 Θ d0 d1 d2 d3 d_columns d_rows d_carrier d_partMarks d_linkMarks u25 d_pilots d_settings u26 u27 ++ wX3 Θ p0 p1 p2 p3 p_pitches p_spoiled p_cells p_bends p_offsets p_strokes p_goodParts p_badParts p_slugs ++ wX2 Θ l0 l1 l2 l3 l_operations l_limit l_gap l_bends l_greatestForce l_chosen l_touching l_forces ++ wX0 Θ c0 c1 c2 c_bytes c_numbers c_length c_at c_word) [0, 1, 2, 3, 4, 5] [6, 7, 8, 9, 10, 11, 12, 13, 14, 15, 16] [11, 12, 13, 14, 15, 16, 0, 1, 2, 3, 4, 5, 6, 7, 8, 9, 10] 5 dX5_carryOut_132 (kX5_carryOutAdd Θ F x0 n0 d0 d1 d2 d3 v0 t0 l0 c0 p0 x_oldestSaved x_savedStates d_columns d_rows d_carrier d_partMarks d_linkMarks d_operations d_pilots d_settings d_facts d_cells (0 : Int32) r1 r2 r3 r4 r24 u25 u26 u27 hg) (gwV lk_dc602fe9 lk_33065ef4 lk_bc9921a9 lk_5f14f758 lk_99c7d15a) rfl hvX5_carryOutAdd ⟨rfl, rfl⟩ ⟨Nat.le_of_ble_eq_true rfl, Nat.le_of_ble_eq_true rfl⟩ ⟨Nat.zero_le _, Nat.zero_le _⟩ rfl rfl (Nat.le_of_ble_eq_true rfl) 0 rfl vc5 rfl rfl rfl rfl (by decide) ?_
      obtain ⟨hz, hf⟩ := gb_some hf
      cases hf
      exact sw_zret 135 G dX5_carryOut_135 K hz
    · refine ⟨92, 136, rfl, rfl, ?_⟩
      have hf := tc_4 hf
      refine sw_aload_n 136 G dX5_carryOut_136 4 rfl ?_
      refine sw_iconst 137 G (1 : Int32) dX5_carryOut_137 rfl ?_
      refine sw_iload_n 138 G dX5_carryOut_138 3 rfl ?_
      refine sw_iload_n 139 G dX5_carryOut_139 2 rfl ?_
      refine sw_iload_n 140 G dX5_carryOut_140 1 rfl ?_
      refine sw_iconst 141 G (1 : Int32) dX5_carryOut_141 rfl ?_
      obtain ⟨r28, u29, u30, u31, hg, hf⟩ := bd4_some hf
      refine sw_callV 142 G ([(x0, .inr (5, [.ref n0, .ref v0, .int x_oldestSaved, .int x_savedStates, .ref t0, .ref l0, .ref c0]))] ++ [(n0, .inr (4, [.ref d0, .ref p0]))] ++ wX1 Θ d0 d1 d2 d3 d_columns d_rows d_carrier d_partMarks d_linkMarks u29 d_pilots d_settings u30 u31 ++ wX3 Θ p0 p1 p2 p3 p_pitches p_spoiled p_cells p_bends p_offsets p_strokes p_goodParts p_badParts p_slugs ++ wX2 Θ l0 l1 l2 l3 l_operations l_limit l_gap l_bends l_greatestForce l_chosen l_touching l_forces ++ wX0 Θ c0 c1 c2 c_bytes c_numbers c_length c_at c_word) [0, 1, 2, 3, 4, 5] [6, 7, 8, 9, 10, 11, 12, 13, 14, 15, 16] [11, 12, 13, 14, 15, 16, 0, 1, 2, 3, 4, 5, 6, 7, 8, 9, 10] 5 dX5_carryOut_142 (kX5_carryOutAdd Θ F x0 n0 d0 d1 d2 d3 v0 t0 l0 c0 p0 x_oldestSaved x_savedStates d_columns d_rows d_carrier d_partMarks d_linkMarks d_operations d_pilots d_settings d_facts d_cells (1 : Int32) r1 r2 r3 (1 : Int32) r28 u29 u30 u31 hg) (gwV lk_dc602fe9 lk_33065ef4 lk_bc9921a9 lk_5f14f758 lk_99c7d15a) rfl hvX5_carryOutAdd ⟨rfl, rfl⟩ ⟨Nat.le_of_ble_eq_true rfl, Nat.le_of_ble_eq_true rfl⟩ ⟨Nat.zero_le _, Nat.zero_le _⟩ rfl rfl (Nat.le_of_ble_eq_true rfl) 0 rfl vc5 rfl rfl rfl rfl (by decide) ?_
      obtain ⟨hz, hf⟩ := gb_some hf
      cases hf
      exact sw_zret 145 G dX5_carryOut_145 K hz
    · refine ⟨102, 146, rfl, rfl, ?_⟩
      have hf := tc_5 hf
      refine sw_aload_n 146 G dX5_carryOut_146 4 rfl ?_
      refine sw_iload_n 147 G dX5_carryOut_147 3 rfl ?_
      refine sw_iload_n 148 G dX5_carryOut_148 2 rfl ?_
      obtain ⟨r32, u33, hg, hf⟩ := bd2_some hf
      refine sw_callV 149 G ([(x0, .inr (5, [.ref n0, .ref v0, .int x_oldestSaved, .int x_savedStates, .ref t0, .ref l0, .ref c0]))] ++ [(n0, .inr (4, [.ref d0, .ref p0]))] ++ wX1 Θ d0 d1 d2 d3 d_columns d_rows d_carrier d_partMarks d_linkMarks d_operations d_pilots d_settings u33 d_cells ++ wX3 Θ p0 p1 p2 p3 p_pitches p_spoiled p_cells p_bends p_offsets p_strokes p_goodParts p_badParts p_slugs ++ wX2 Θ l0 l1 l2 l3 l_operations l_limit l_gap l_bends l_greatestForce l_chosen l_touching l_forces ++ wX0 Θ c0 c1 c2 c_bytes c_numbers c_length c_at c_word) [0, 1, 2, 3, 4, 5] [6, 7, 8, 9, 10, 11, 12, 13, 14, 15, 16] [11, 12, 13, 14, 15, 16, 0, 1, 2, 3, 4, 5, 6, 7, 8, 9, 10] 2 dX5_carryOut_149 (kX5_carryOutPlace Θ x0 n0 d0 d1 d2 d3 v0 t0 l0 c0 p0 x_oldestSaved x_savedStates d_columns d_rows d_carrier d_partMarks d_linkMarks d_operations d_pilots d_settings d_facts d_cells r1 r2 r32 u33 hg) (gwV lk_339e944b lk_dcd3f275 lk_5fcd9a42 lk_5f14f758 lk_b6176c3d) rfl hvX5_carryOutPlace ⟨rfl, rfl⟩ ⟨Nat.le_of_ble_eq_true rfl, Nat.le_of_ble_eq_true rfl⟩ ⟨Nat.zero_le _, Nat.zero_le _⟩ rfl rfl (Nat.le_of_ble_eq_true rfl) 0 rfl vc5 rfl rfl rfl rfl (by decide) ?_
      obtain ⟨hz, hf⟩ := gb_some hf
      cases hf
      exact sw_zret 152 G dX5_carryOut_152 K hz
    · refine ⟨109, 153, rfl, rfl, ?_⟩
      have hf := tc_6 hf
      refine sw_aload_n 153 G dX5_carryOut_153 4 rfl ?_
      refine sw_aload_n 154 G dX5_carryOut_154 4 rfl ?_
      refine sw_get 155 G hnX5 0 5 dX5_carryOut_155 vc5 (by decide) (List.mem_cons_of_mem _ lk_a45d4547) rfl rfl ?_
      refine sw_aload_n 158 G dX5_carryOut_158 4 rfl ?_
      refine sw_get 159 G hnX5 0 0 dX5_carryOut_159 vc5 (by decide) (List.mem_cons_of_mem _ lk_c6576e33) rfl rfl ?_
      refine sw_get 162 G hnX4 1 0 dX5_carryOut_162 vc4 (by decide) (List.mem_cons_of_mem _ lk_b490f9e6) rfl rfl ?_
      obtain ⟨r34, u35, u36, u37, u38, u39, u40, u41, u42, hg, hf⟩ := bd9_some hf
      refine sw_callV 165 G ([(x0, .inr (5, [.ref n0, .ref v0, .int x_oldestSaved, .int x_savedStates, .ref t0, .ref l0, .ref c0]))] ++ [(n0, .inr (4, [.ref d0, .ref p0]))] ++ wX1 Θ d0 d1 d2 d3 d_columns d_rows d_carrier d_partMarks d_linkMarks d_operations d_pilots d_settings d_facts d_cells ++ wX3 Θ p0 p1 p2 p3 p_pitches p_spoiled p_cells p_bends p_offsets p_strokes p_goodParts p_badParts p_slugs ++ wX2 Θ l0 l1 l2 l3 u35 u36 u37 u38 u39 u40 u41 u42 ++ wX0 Θ c0 c1 c2 c_bytes c_numbers c_length c_at c_word) [10, 11, 12, 13, 2, 3, 4, 5] [0, 1, 6, 7, 8, 9, 14, 15, 16] [0, 1, 13, 14, 15, 16, 2, 3, 4, 5, 9, 10, 11, 12, 6, 7, 8] 1 dX5_carryOut_165 (kX2_findBest Θ F l0 l1 l2 l3 d0 d1 d2 d3 l_operations l_limit l_gap l_bends l_greatestForce l_chosen l_touching l_forces d_columns d_rows d_carrier d_partMarks d_linkMarks d_operations d_pilots d_settings d_facts d_cells r34 u35 u36 u37 u38 u39 u40 u41 u42 hg) (gwV lk_86176403 lk_2e86f8d8 lk_ce5cd719 lk_d27e9d3e lk_1f104a63) rfl hvX2_findBest ⟨rfl, rfl⟩ ⟨Nat.le_of_ble_eq_true rfl, Nat.le_of_ble_eq_true rfl⟩ ⟨Nat.zero_le _, Nat.zero_le _⟩ rfl rfl (Nat.le_of_ble_eq_true rfl) 0 rfl vc2 rfl rfl rfl rfl (by decide) ?_
      obtain ⟨r43, u44, hg, hf⟩ := bd2_some hf
      refine sw_callV 168 G ([(x0, .inr (5, [.ref n0, .ref v0, .int x_oldestSaved, .int x_savedStates, .ref t0, .ref l0, .ref c0]))] ++ [(n0, .inr (4, [.ref d0, .ref p0]))] ++ wX1 Θ d0 d1 d2 d3 d_columns d_rows d_carrier d_partMarks d_linkMarks d_operations d_pilots d_settings u44 d_cells ++ wX3 Θ p0 p1 p2 p3 p_pitches p_spoiled p_cells p_bends p_offsets p_strokes p_goodParts p_badParts p_slugs ++ wX2 Θ l0 l1 l2 l3 u35 u36 u37 u38 u39 u40 u41 u42 ++ wX0 Θ c0 c1 c2 c_bytes c_numbers c_length c_at c_word) [0, 1, 2, 3, 4, 5, 10, 11, 12, 13] [6, 7, 8, 9, 14, 15, 16] [7, 8, 9, 10, 11, 12, 0, 1, 2, 3, 13, 14, 15, 16, 4, 5, 6] 1 dX5_carryOut_168 (kX5_carryOutPlan Θ F x0 n0 d0 d1 d2 d3 l0 l1 l2 l3 v0 t0 c0 p0 x_oldestSaved x_savedStates d_columns d_rows d_carrier d_partMarks d_linkMarks d_operations d_pilots d_settings d_facts d_cells u35 u36 u37 u38 u39 u40 u41 u42 r34 r43 u44 hg) (gwV lk_6920dce4 lk_0d2c58de lk_808ea0c4 lk_5f14f758 lk_42f2d33b) rfl hvX5_carryOutPlan ⟨rfl, rfl⟩ ⟨Nat.le_of_ble_eq_true rfl, Nat.le_of_ble_eq_true rfl⟩ ⟨Nat.zero_le _, Nat.zero_le _⟩ rfl rfl (Nat.le_of_ble_eq_true rfl) 0 rfl vc5 rfl rfl rfl rfl (by decide) ?_
      obtain ⟨hz, hf⟩ := gb_some hf
      cases hf
      exact sw_zret 171 G dX5_carryOut_171 K hz
    · refine ⟨128, 172, rfl, rfl, ?_⟩
      have hf := tc_7 hf
      refine sw_aload_n 172 G dX5_carryOut_172 4 rfl ?_
      refine sw_iload_n 173 G dX5_carryOut_173 3 rfl ?_
      obtain ⟨r45, u46, hg, hf⟩ := bd2_some hf
      refine sw_callV 174 G ([(x0, .inr (5, [.ref n0, .ref v0, .int x_oldestSaved, .int x_savedStates, .ref t0, .ref l0, .ref c0]))] ++ [(n0, .inr (4, [.ref d0, .ref p0]))] ++ wX1 Θ d0 d1 d2 d3 d_columns d_rows d_carrier d_partMarks d_linkMarks d_operations u46 d_settings d_facts d_cells ++ wX3 Θ p0 p1 p2 p3 p_pitches p_spoiled p_cells p_bends p_offsets p_strokes p_goodParts p_badParts p_slugs ++ wX2 Θ l0 l1 l2 l3 l_operations l_limit l_gap l_bends l_greatestForce l_chosen l_touching l_forces ++ wX0 Θ c0 c1 c2 c_bytes c_numbers c_length c_at c_word) [0, 1, 2, 3, 4, 5] [6, 7, 8, 9, 10, 11, 12, 13, 14, 15, 16] [11, 12, 13, 14, 15, 16, 0, 1, 2, 3, 4, 5, 6, 7, 8, 9, 10] 1 dX5_carryOut_174 (kX5_carryOutPilot Θ x0 n0 d0 d1 d2 d3 v0 t0 l0 c0 p0 x_oldestSaved x_savedStates d_columns d_rows d_carrier d_partMarks d_linkMarks d_operations d_pilots d_settings d_facts d_cells r1 r45 u46 hg) (gwV lk_57d3425a lk_d8f4ef83 lk_2084aa64 lk_5f14f758 lk_019d7029) rfl hvX5_carryOutPilot ⟨rfl, rfl⟩ ⟨Nat.le_of_ble_eq_true rfl, Nat.le_of_ble_eq_true rfl⟩ ⟨Nat.zero_le _, Nat.zero_le _⟩ rfl rfl (Nat.le_of_ble_eq_true rfl) 0 rfl vc5 rfl rfl rfl rfl (by decide) ?_
      obtain ⟨hz, hf⟩ := gb_some hf
      cases hf
      exact sw_zret 177 G dX5_carryOut_177 K hz
    · refine ⟨134, 178, rfl, rfl, ?_⟩
      have hf := tc_8 hf
      refine sw_aload_n 178 G dX5_carryOut_178 4 rfl ?_
      refine sw_iload_n 179 G dX5_carryOut_179 3 rfl ?_
      obtain ⟨r47, u48, u49, u50, u51, u52, u53, u54, u55, u56, hg, hf⟩ := bd10_some hf
      refine sw_callV 180 G ([(x0, .inr (5, [.ref n0, .ref v0, .int x_oldestSaved, .int x_savedStates, .ref t0, .ref l0, .ref c0]))] ++ [(n0, .inr (4, [.ref d0, .ref p0]))] ++ wX1 Θ d0 d1 d2 d3 d_columns d_rows d_carrier d_partMarks d_linkMarks d_operations d_pilots d_settings d_facts d_cells ++ wX3 Θ p0 p1 p2 p3 u48 u49 u50 u51 u52 u53 u54 u55 u56 ++ wX2 Θ l0 l1 l2 l3 l_operations l_limit l_gap l_bends l_greatestForce l_chosen l_touching l_forces ++ wX0 Θ c0 c1 c2 c_bytes c_numbers c_length c_at c_word) [0, 1, 2, 3, 4, 5, 6, 7, 8, 9] [10, 11, 12, 13, 14, 15, 16] [7, 8, 9, 10, 11, 12, 13, 14, 15, 16, 0, 1, 2, 3, 4, 5, 6] 1 dX5_carryOut_180 (kX5_carryOutStrokes Θ F x0 n0 d0 d1 d2 d3 p0 p1 p2 p3 v0 t0 l0 c0 x_oldestSaved x_savedStates d_columns d_rows d_carrier d_partMarks d_linkMarks d_operations d_pilots d_settings d_facts d_cells p_pitches p_spoiled p_cells p_bends p_offsets p_strokes p_goodParts p_badParts p_slugs r1 r47 u48 u49 u50 u51 u52 u53 u54 u55 u56 hg) (gwV lk_3526602d lk_9cc5d99e lk_31a59d15 lk_5f14f758 lk_859ec1a8) rfl hvX5_carryOutStrokes ⟨rfl, rfl⟩ ⟨Nat.le_of_ble_eq_true rfl, Nat.le_of_ble_eq_true rfl⟩ ⟨Nat.zero_le _, Nat.zero_le _⟩ rfl rfl (Nat.le_of_ble_eq_true rfl) 0 rfl vc5 rfl rfl rfl rfl (by decide) ?_
      obtain ⟨hz, hf⟩ := gb_some hf
      cases hf
      exact sw_zret 183 G dX5_carryOut_183 K hz
