theorem lk_a5bafc2a : Cond.methodLink RX5 161 yX1_changePilot ∈ GW := GW_of 749 (by decide +kernel) (by decide +kernel)
theorem lk_066454b8 : Cond.instanceMethod yX1_changePilot ∈ GW := GW_of 750 (by decide +kernel) (by decide +kernel)
theorem lk_59e4fede : Cond.selects RX1 yX1_changePilot yX1_changePilot ∈ GW := GW_of 751 (by decide +kernel) (by decide +kernel)
theorem lk_d77c5548 : Cond.code yX1_changePilot cX1_changePilot 3 none ∈ GW := GW_of 752 (by decide +kernel) (by decide +kernel)
abbrev rmX5_setPilot : Room := { frames := 7, cells := 0, slots := 0, locals := 141 }
theorem hvX5_setPilot : yX5_setPilot.cls = RX5 ∧ yX5_setPilot.cls ≠ "java/lang/invoke/MethodHandle" ∧ yX5_setPilot.cls ≠ "java/lang/invoke/VarHandle" ∧ (parseMethodDescriptor yX5_setPilot.desc).map (fun d => d.parameters.length) = some 2 := by decide +kernel
set_option maxRecDepth 100000 in
set_option maxHeartbeats 4000000 in
theorem kX5_setPilot (Θ : Tht) (x0 n0 d0 d1 d2 d3 p0 p1 p2 p3 v0 z1 z2 z3 z4 z5 z6 z7 z8 z9 z10 z11 z12 z13 z14 z15 z16 z17 z18 z19 z20 z21 z22 z23 z24 z25 z26 z27 z28 z29 z30 z31 z32 z33 z34 z35 z36 t0 l0 c0 : Nat) (x_oldestSaved : Int32) (x_savedStates : Int32) (d_columns : Int32) (d_rows : Int32) (d_carrier : Int32) (d_partMarks : Int64) (d_linkMarks : Int64) (d_operations : Int32) (d_pilots : Int32) (d_settings : Nat → Int32) (d_facts : Nat → Int32) (d_cells : Nat → Int64) (p_pitches : Int32) (p_spoiled : Int32) (p_cells : Nat → Int64) (p_bends : Nat → Int32) (p_offsets : Nat → Int32) (p_strokes : Int32) (p_goodParts : Int32) (p_badParts : Int32) (p_slugs : Int32) (s_S : Nat → Snap) (a0 : Int32) (a1 : Int32) (ro : Int32) (o_x_oldestSaved : Int32) (o_x_savedStates : Int32) (o_d_pilots : Int32) (o_s_S : Nat → Snap) (hf : fX5_setPilot x_oldestSaved x_savedStates d_columns d_rows d_carrier d_partMarks d_linkMarks d_operations d_pilots d_settings d_facts d_cells p_pitches p_spoiled p_cells p_bends p_offsets p_strokes p_goodParts p_badParts p_slugs s_S a0 a1 = some (ro, o_x_oldestSaved, o_x_savedStates, o_d_pilots, o_s_S)) : Fn Θ yX5_setPilot (Cond.code yX5_setPilot cX5_setPilot 3 (some .int) :: GW) rmX5_setPilot [.ref x0, .int a0, .int a1] ([(x0, .inr (5, [.ref n0, .ref v0, .int x_oldestSaved, .int x_savedStates, .ref t0, .ref l0, .ref c0]))] ++ [(n0, .inr (4, [.ref d0, .ref p0]))] ++ wX1 Θ d0 d1 d2 d3 d_columns d_rows d_carrier d_partMarks d_linkMarks d_operations d_pilots d_settings d_facts d_cells ++ wX3 Θ p0 p1 p2 p3 p_pitches p_spoiled p_cells p_bends p_offsets p_strokes p_goodParts p_badParts p_slugs ++ wSV Θ v0 z1 z2 z3 z4 z5 z6 z7 z8 z9 z10 z11 z12 z13 z14 z15 z16 z17 z18 z19 z20 z21 z22 z23 z24 z25 z26 z27 z28 z29 z30 z31 z32 z33 z34 z35 z36 s_S) (some (.int ro)) ([(x0, .inr (5, [.ref n0, .ref v0, .int o_x_oldestSaved, .int o_x_savedStates, .ref t0, .ref l0, .ref c0]))] ++ [(n0, .inr (4, [.ref d0, .ref p0]))] ++ wX1 Θ d0 d1 d2 d3 d_columns d_rows d_carrier d_partMarks d_linkMarks d_operations o_d_pilots d_settings d_facts d_cells ++ wX3 Θ p0 p1 p2 p3 p_pitches p_spoiled p_cells p_bends p_offsets p_strokes p_goodParts p_badParts p_slugs ++ wSV Θ v0 z1 z2 z3 z4 z5 z6 z7 z8 z9 z10 z11 z12 z13 z14 z15 z16 z17 z18 z19 z20 z21 z22 z23 z24 z25 z26 z27 z28 z29 z30 z31 z32 z33 z34 z35 z36 o_s_S) := by
  delta fX5_setPilot at hf
  refine Fn.of (by decide +kernel) rfl (Nat.le_of_ble_eq_true rfl) (fun p e s m args below meth c A Q G K => ?_)
  show sw Θ p e rmX5_setPilot s m args below meth c A Q 3 0 0 0 [(0, .ref x0), (1, .int a0), (2, .int a1)] [] ([(x0, .inr (5, [.ref n0, .ref v0, .int x_oldestSaved, .int x_savedStates, .ref t0, .ref l0, .ref c0]))] ++ [(n0, .inr (4, [.ref d0, .ref p0]))] ++ wX1 Θ d0 d1 d2 d3 d_columns d_rows d_carrier d_partMarks d_linkMarks d_operations d_pilots d_settings d_facts d_cells ++ wX3 Θ p0 p1 p2 p3 p_pitches p_spoiled p_cells p_bends p_offsets p_strokes p_goodParts p_badParts p_slugs ++ wSV Θ v0 z1 z2 z3 z4 z5 z6 z7 z8 z9 z10 z11 z12 z13 z14 z15 z16 z17 z18 z19 z20 z21 z22 z23 z24 z25 z26 z27 z28 z29 z30 z31 z32 z33 z34 z35 z36 s_S)
  refine sw_iload_n 0 G dX5_setPilot_0 1 rfl ?_
  obtain ⟨r1, hg, hf⟩ := bd1_some hf
  refine sw_callSW 1 G 1 dX5_setPilot_1 (Fn.q_xndps_ _ _ _ _ _ (kX5_isStation Θ a0 r1 hg)) (gwS lk_e51f5f2c lk_69b39882 lk_01b5d93a lk_08337533) rfl hsX5_isStation ⟨rfl, rfl⟩ ⟨Nat.le_of_ble_eq_true rfl, Nat.le_of_ble_eq_true rfl⟩ ⟨Nat.zero_le _, Nat.zero_le _⟩ rfl rfl (Nat.le_of_ble_eq_true rfl) ?_
  refine sw_if_ne 4 17 G dX5_setPilot_4 rfl hf (fun hf => ?_) (fun hf => ?_)
  · refine sw_aload_n 17 G dX5_setPilot_17 0 rfl ?_
    obtain ⟨u2, u3, u4, hg, hf⟩ := bd3_some hf
    refine sw_callVW 18 G 0 dX5_setPilot_18 (Fn.q_xndps_xndps _ _ _ _ _ _ _ _ _ _ (kX5_save Θ x0 n0 d0 d1 d2 d3 p0 p1 p2 p3 v0 z1 z2 z3 z4 z5 z6 z7 z8 z9 z10 z11 z12 z13 z14 z15 z16 z17 z18 z19 z20 z21 z22 z23 z24 z25 z26 z27 z28 z29 z30 z31 z32 z33 z34 z35 z36 t0 l0 c0 x_oldestSaved x_savedStates d_columns d_rows d_carrier d_partMarks d_linkMarks d_operations d_pilots d_settings d_facts d_cells p_pitches p_spoiled p_cells p_bends p_offsets p_strokes p_goodParts p_badParts p_slugs s_S u2 u3 u4 hg)) (gwV lk_54a9e5c6 lk_dd34ac34 lk_369f0a84 lk_5f14f758 lk_28293ef5) rfl hvX5_save ⟨rfl, rfl⟩ ⟨Nat.le_of_ble_eq_true rfl, Nat.le_of_ble_eq_true rfl⟩ ⟨Nat.zero_le _, Nat.zero_le _⟩ rfl rfl (Nat.le_of_ble_eq_true rfl) 0 rfl vc5 rfl ?_
    refine sw_aload_n 21 G dX5_setPilot_21 0 rfl ?_
    refine sw_get 22 G hnX5 0 0 dX5_setPilot_22 vc5 (by decide) (List.mem_cons_of_mem _ lk_c6576e33) rfl rfl ?_
    refine sw_get 25 G hnX4 1 0 dX5_setPilot_25 vc4 (by decide) (List.mem_cons_of_mem _ lk_b490f9e6) rfl rfl ?_
    refine sw_iload_n 28 G dX5_setPilot_28 1 rfl ?_
    refine sw_iload_n 29 G dX5_setPilot_29 2 rfl ?_
    obtain ⟨u5, hg, hf⟩ := bd1_some hf
    refine sw_callVW 30 G 2 dX5_setPilot_30 (Fn.q_xndps_d _ _ _ _ _ _ (kX1_changePilot Θ d0 d1 d2 d3 d_columns d_rows d_carrier d_partMarks d_linkMarks d_operations d_pilots d_settings d_facts d_cells a0 a1 u5 hg)) (gwV lk_a5bafc2a lk_066454b8 lk_59e4fede lk_cf66e99d lk_d77c5548) rfl hvX1_changePilot ⟨rfl, rfl⟩ ⟨Nat.le_of_ble_eq_true rfl, Nat.le_of_ble_eq_true rfl⟩ ⟨Nat.zero_le _, Nat.zero_le _⟩ rfl rfl (Nat.le_of_ble_eq_true rfl) 2 rfl vc1 rfl ?_
    refine sw_aload_n 33 G dX5_setPilot_33 0 rfl ?_
    refine sw_get 34 G hnX5 0 0 dX5_setPilot_34 vc5 (by decide) (List.mem_cons_of_mem _ lk_c6576e33) rfl rfl ?_
    refine sw_get 37 G hnX4 1 0 dX5_setPilot_37 vc4 (by decide) (List.mem_cons_of_mem _ lk_b490f9e6) rfl rfl ?_
    refine sw_get 40 G hnX1 2 6 dX5_setPilot_40 vc1 (by decide) (List.mem_cons_of_mem _ lk_4a34e39d) rfl rfl ?_
    obtain ⟨r6, hg, hf⟩ := bd1_some hf
    refine sw_callSW 43 G 1 dX5_setPilot_43 (Fn.q_xndps_ _ _ _ _ _ (kJ6_bitCount_0f7a4 Θ u5 r6 hg)) (gwS lk_fe1a3ea6 lk_d625a12f lk_2df2c76b lk_723f897f) rfl hsJ6_bitCount_0f7a4 ⟨rfl, rfl⟩ ⟨Nat.le_of_ble_eq_true rfl, Nat.le_of_ble_eq_true rfl⟩ ⟨Nat.zero_le _, Nat.zero_le _⟩ rfl rfl (Nat.le_of_ble_eq_true rfl) ?_
    cases hf
    exact sw_iret 46 G dX5_setPilot_46 K
  · cases hf
