theorem lk_f13984ab : Cond.methodLink RX5 126 yX1_remove ∈ GW := GW_of 765 (by decide +kernel) (by decide +kernel)
theorem lk_b5287a62 : Cond.instanceMethod yX1_remove ∈ GW := GW_of 766 (by decide +kernel) (by decide +kernel)
theorem lk_ff8a8455 : Cond.selects RX1 yX1_remove yX1_remove ∈ GW := GW_of 767 (by decide +kernel) (by decide +kernel)
theorem lk_e67f8785 : Cond.code yX1_remove cX1_remove 4 none ∈ GW := GW_of 768 (by decide +kernel) (by decide +kernel)
theorem lk_bc4c3587 : Cond.methodLink RX5 133 yX3_forgetBend ∈ GW := GW_of 769 (by decide +kernel) (by decide +kernel)
theorem lk_65d08649 : Cond.instanceMethod yX3_forgetBend ∈ GW := GW_of 770 (by decide +kernel) (by decide +kernel)
theorem lk_4f718f9c : Cond.selects RX3 yX3_forgetBend yX3_forgetBend ∈ GW := GW_of 771 (by decide +kernel) (by decide +kernel)
theorem lk_ccbbffc6 : Cond.code yX3_forgetBend cX3_forgetBend 4 none ∈ GW := GW_of 772 (by decide +kernel) (by decide +kernel)
abbrev rmX5_dropOperation : Room := { frames := 7, cells := 0, slots := 0, locals := 141 }
theorem hvX5_dropOperation : yX5_dropOperation.cls = RX5 ∧ yX5_dropOperation.cls ≠ "java/lang/invoke/MethodHandle" ∧ yX5_dropOperation.cls ≠ "java/lang/invoke/VarHandle" ∧ (parseMethodDescriptor yX5_dropOperation.desc).map (fun d => d.parameters.length) = some 1 := by decide +kernel
set_option maxRecDepth 100000 in
set_option maxHeartbeats 4000000 in
theorem kX5_dropOperation (Θ : Tht) (F : Nat) (x0 n0 d0 d1 d2 d3 p0 p1 p2 p3 v0 z1 z2 z3 z4 z5 z6 z7 z8 z9 z10 z11 z12 z13 z14 z15 z16 z17 z18 z19 z20 z21 z22 z23 z24 z25 z26 z27 z28 z29 z30 z31 z32 z33 z34 z35 z36 t0 l0 c0 : Nat) (x_oldestSaved : Int32) (x_savedStates : Int32) (d_columns : Int32) (d_rows : Int32) (d_carrier : Int32) (d_partMarks : Int64) (d_linkMarks : Int64) (d_operations : Int32) (d_pilots : Int32) (d_settings : Nat → Int32) (d_facts : Nat → Int32) (d_cells : Nat → Int64) (p_pitches : Int32) (p_spoiled : Int32) (p_cells : Nat → Int64) (p_bends : Nat → Int32) (p_offsets : Nat → Int32) (p_strokes : Int32) (p_goodParts : Int32) (p_badParts : Int32) (p_slugs : Int32) (s_S : Nat → Snap) (a0 : Int32) (ro : Int32) (o_x_oldestSaved : Int32) (o_x_savedStates : Int32) (o_d_operations : Int32) (o_d_facts : Nat → Int32) (o_d_cells : Nat → Int64) (o_p_bends : Nat → Int32) (o_s_S : Nat → Snap) (hf : fX5_dropOperation F x_oldestSaved x_savedStates d_columns d_rows d_carrier d_partMarks d_linkMarks d_operations d_pilots d_settings d_facts d_cells p_pitches p_spoiled p_cells p_bends p_offsets p_strokes p_goodParts p_badParts p_slugs s_S a0 = some (ro, o_x_oldestSaved, o_x_savedStates, o_d_operations, o_d_facts, o_d_cells, o_p_bends, o_s_S)) : Fn Θ yX5_dropOperation (Cond.code yX5_dropOperation cX5_dropOperation 2 (some .int) :: GW) rmX5_dropOperation [.ref x0, .int a0] ([(x0, .inr (5, [.ref n0, .ref v0, .int x_oldestSaved, .int x_savedStates, .ref t0, .ref l0, .ref c0]))] ++ [(n0, .inr (4, [.ref d0, .ref p0]))] ++ wX1 Θ d0 d1 d2 d3 d_columns d_rows d_carrier d_partMarks d_linkMarks d_operations d_pilots d_settings d_facts d_cells ++ wX3 Θ p0 p1 p2 p3 p_pitches p_spoiled p_cells p_bends p_offsets p_strokes p_goodParts p_badParts p_slugs ++ wSV Θ v0 z1 z2 z3 z4 z5 z6 z7 z8 z9 z10 z11 z12 z13 z14 z15 z16 z17 z18 z19 z20 z21 z22 z23 z24 z25 z26 z27 z28 z29 z30 z31 z32 z33 z34 z35 z36 s_S) (some (.int ro)) ([(x0, .inr (5, [.ref n0, .ref v0, .int o_x_oldestSaved, .int o_x_savedStates, .ref t0, .ref l0, .ref c0]))] ++ [(n0, .inr (4, [.ref d0, .ref p0]))] ++ wX1 Θ d0 d1 d2 d3 d_columns d_rows d_carrier d_partMarks d_linkMarks o_d_operations d_pilots d_settings o_d_facts o_d_cells ++ wX3 Θ p0 p1 p2 p3 p_pitches p_spoiled p_cells o_p_bends p_offsets p_strokes p_goodParts p_badParts p_slugs ++ wSV Θ v0 z1 z2 z3 z4 z5 z6 z7 z8 z9 z10 z11 z12 z13 z14 z15 z16 z17 z18 z19 z20 z21 z22 z23 z24 z25 z26 z27 z28 z29 z30 z31 z32 z33 z34 z35 z36 o_s_S) := by
  delta fX5_dropOperation at hf
  refine Fn.of (by decide +kernel) rfl (Nat.le_of_ble_eq_true rfl) (fun p e s m args below meth c A Q G K => ?_)
  show sw Θ p e rmX5_dropOperation s m args below meth c A Q 2 0 0 0 [(0, .ref x0), (1, .int a0)] [] ([(x0, .inr (5, [.ref n0, .ref v0, .int x_oldestSaved, .int x_savedStates, .ref t0, .ref l0, .ref c0]))] ++ [(n0, .inr (4, [.ref d0, .ref p0]))] ++ wX1 Θ d0 d1 d2 d3 d_columns d_rows d_carrier d_partMarks d_linkMarks d_operations d_pilots d_settings d_facts d_cells ++ wX3 Θ p0 p1 p2 p3 p_pitches p_spoiled p_cells p_bends p_offsets p_strokes p_goodParts p_badParts p_slugs ++ wSV Θ v0 z1 z2 z3 z4 z5 z6 z7 z8 z9 z10 z11 z12 z13 z14 z15 z16 z17 z18 z19 z20 z21 z22 z23 z24 z25 z26 z27 z28 z29 z30 z31 z32 z33 z34 z35 z36 s_S)
  refine sw_aload_n 0 G dX5_dropOperation_0 0 rfl ?_
  refine sw_get 1 G hnX5 0 0 dX5_dropOperation_1 vc5 (by decide) (List.mem_cons_of_mem _ lk_c6576e33) rfl rfl ?_
  refine sw_get 4 G hnX4 1 0 dX5_dropOperation_4 vc4 (by decide) (List.mem_cons_of_mem _ lk_b490f9e6) rfl rfl ?_
  refine sw_iload_n 7 G dX5_dropOperation_7 1 rfl ?_
  obtain ⟨r1, hg, hf⟩ := bd1_some hf
  refine sw_callVW 8 G 1 dX5_dropOperation_8 (Fn.q_xndps_d _ _ _ _ _ _ (kX1_hasOperation Θ d0 d1 d2 d3 d_columns d_rows d_carrier d_partMarks d_linkMarks d_operations d_pilots d_settings d_facts d_cells a0 r1 hg)) (gwV lk_02fe585c lk_bab4024f lk_df64b95a lk_cf66e99d lk_740542d2) rfl hvX1_hasOperation ⟨rfl, rfl⟩ ⟨Nat.le_of_ble_eq_true rfl, Nat.le_of_ble_eq_true rfl⟩ ⟨Nat.zero_le _, Nat.zero_le _⟩ rfl rfl (Nat.le_of_ble_eq_true rfl) 2 rfl vc1 rfl ?_
  refine sw_if_ne 11 24 G dX5_dropOperation_11 rfl hf (fun hf => ?_) (fun hf => ?_)
  · refine sw_aload_n 24 G dX5_dropOperation_24 0 rfl ?_
    obtain ⟨u2, u3, u4, hg, hf⟩ := bd3_some hf
    refine sw_callVW 25 G 0 dX5_dropOperation_25 (Fn.q_xndps_xndps _ _ _ _ _ _ _ _ _ _ (kX5_save Θ x0 n0 d0 d1 d2 d3 p0 p1 p2 p3 v0 z1 z2 z3 z4 z5 z6 z7 z8 z9 z10 z11 z12 z13 z14 z15 z16 z17 z18 z19 z20 z21 z22 z23 z24 z25 z26 z27 z28 z29 z30 z31 z32 z33 z34 z35 z36 t0 l0 c0 x_oldestSaved x_savedStates d_columns d_rows d_carrier d_partMarks d_linkMarks d_operations d_pilots d_settings d_facts d_cells p_pitches p_spoiled p_cells p_bends p_offsets p_strokes p_goodParts p_badParts p_slugs s_S u2 u3 u4 hg)) (gwV lk_54a9e5c6 lk_dd34ac34 lk_369f0a84 lk_5f14f758 lk_28293ef5) rfl hvX5_save ⟨rfl, rfl⟩ ⟨Nat.le_of_ble_eq_true rfl, Nat.le_of_ble_eq_true rfl⟩ ⟨Nat.zero_le _, Nat.zero_le _⟩ rfl rfl (Nat.le_of_ble_eq_true rfl) 0 rfl vc5 rfl ?_
    refine sw_aload_n 28 G dX5_dropOperation_28 0 rfl ?_
    refine sw_get 29 G hnX5 0 0 dX5_dropOperation_29 vc5 (by decide) (List.mem_cons_of_mem _ lk_c6576e33) rfl rfl ?_
    refine sw_get 32 G hnX4 1 0 dX5_dropOperation_32 vc4 (by decide) (List.mem_cons_of_mem _ lk_b490f9e6) rfl rfl ?_
    refine sw_iload_n 35 G dX5_dropOperation_35 1 rfl ?_
    obtain ⟨u5, u6, u7, hg, hf⟩ := bd3_some hf
    refine sw_callVW 36 G 1 dX5_dropOperation_36 (Fn.q_xndps_d _ _ _ _ _ _ (kX1_remove Θ F d0 d1 d2 d3 d_columns d_rows d_carrier d_partMarks d_linkMarks d_operations d_pilots d_settings d_facts d_cells a0 u5 u6 u7 hg)) (gwV lk_f13984ab lk_b5287a62 lk_ff8a8455 lk_cf66e99d lk_e67f8785) rfl hvX1_remove ⟨rfl, rfl⟩ ⟨Nat.le_of_ble_eq_true rfl, Nat.le_of_ble_eq_true rfl⟩ ⟨Nat.zero_le _, Nat.zero_le _⟩ rfl rfl (Nat.le_of_ble_eq_true rfl) 2 rfl vc1 rfl ?_
    refine sw_aload_n 39 G dX5_dropOperation_39 0 rfl ?_
    refine sw_get 40 G hnX5 0 0 dX5_dropOperation_40 vc5 (by decide) (List.mem_cons_of_mem _ lk_c6576e33) rfl rfl ?_
    refine sw_get 43 G hnX4 1 1 dX5_dropOperation_43 vc4 (by decide) (List.mem_cons_of_mem _ lk_3ac9de3e) rfl rfl ?_
    refine sw_iload_n 46 G dX5_dropOperation_46 1 rfl ?_
    obtain ⟨u8, hg, hf⟩ := bd1_some hf
    refine sw_callVW 47 G 1 dX5_dropOperation_47 (Fn.q_xndps_p _ _ _ _ _ _ (kX3_forgetBend Θ F p0 p1 p2 p3 p_pitches p_spoiled p_cells p_bends p_offsets p_strokes p_goodParts p_badParts p_slugs a0 u8 hg)) (gwV lk_bc4c3587 lk_65d08649 lk_4f718f9c lk_106b7259 lk_ccbbffc6) rfl hvX3_forgetBend ⟨rfl, rfl⟩ ⟨Nat.le_of_ble_eq_true rfl, Nat.le_of_ble_eq_true rfl⟩ ⟨Nat.zero_le _, Nat.zero_le _⟩ rfl rfl (Nat.le_of_ble_eq_true rfl) 6 rfl vc3 rfl ?_
    refine sw_aload_n 50 G dX5_dropOperation_50 0 rfl ?_
    refine sw_get 51 G hnX5 0 0 dX5_dropOperation_51 vc5 (by decide) (List.mem_cons_of_mem _ lk_c6576e33) rfl rfl ?_
    refine sw_get 54 G hnX4 1 0 dX5_dropOperation_54 vc4 (by decide) (List.mem_cons_of_mem _ lk_b490f9e6) rfl rfl ?_
    refine sw_get 57 G hnX1 2 5 dX5_dropOperation_57 vc1 (by decide) (List.mem_cons_of_mem _ lk_3b59aa98) rfl rfl ?_
    cases hf
    exact sw_iret 60 G dX5_dropOperation_60 K
  · cases hf
