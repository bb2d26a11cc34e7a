theorem lk_e2ba7ad6 : Cond.methodLink RX5 93 yX1_setting ∈ GW := GW_of 735 (by decide +kernel) (by decide +kernel)
theorem lk_f04897ce : Cond.methodLink RX5 97 yX1_changeSetting ∈ GW := GW_of 736 (by decide +kernel) (by decide +kernel)
theorem lk_0dae2960 : Cond.instanceMethod yX1_changeSetting ∈ GW := GW_of 737 (by decide +kernel) (by decide +kernel)
theorem lk_99f1ff08 : Cond.selects RX1 yX1_changeSetting yX1_changeSetting ∈ GW := GW_of 738 (by decide +kernel) (by decide +kernel)
theorem lk_76a372e9 : Cond.code yX1_changeSetting cX1_changeSetting 3 none ∈ GW := GW_of 739 (by decide +kernel) (by decide +kernel)
abbrev rmX5_set : Room := { frames := 7, cells := 0, slots := 0, locals := 141 }
theorem hvX5_set : yX5_set.cls = RX5 ∧ yX5_set.cls ≠ "java/lang/invoke/MethodHandle" ∧ yX5_set.cls ≠ "java/lang/invoke/VarHandle" ∧ (parseMethodDescriptor yX5_set.desc).map (fun d => d.parameters.length) = some 2 := by decide +kernel
set_option maxRecDepth 100000 in
set_option maxHeartbeats 4000000 in
theorem kX5_set (Θ : Tht) (x0 n0 d0 d1 d2 d3 p0 p1 p2 p3 v0 z1 z2 z3 z4 z5 z6 z7 z8 z9 z10 z11 z12 z13 z14 z15 z16 z17 z18 z19 z20 z21 z22 z23 z24 z25 z26 z27 z28 z29 z30 z31 z32 z33 z34 z35 z36 t0 l0 c0 : Nat) (x_oldestSaved : Int32) (x_savedStates : Int32) (d_columns : Int32) (d_rows : Int32) (d_carrier : Int32) (d_partMarks : Int64) (d_linkMarks : Int64) (d_operations : Int32) (d_pilots : Int32) (d_settings : Nat → Int32) (d_facts : Nat → Int32) (d_cells : Nat → Int64) (p_pitches : Int32) (p_spoiled : Int32) (p_cells : Nat → Int64) (p_bends : Nat → Int32) (p_offsets : Nat → Int32) (p_strokes : Int32) (p_goodParts : Int32) (p_badParts : Int32) (p_slugs : Int32) (s_S : Nat → Snap) (a0 : Int32) (a1 : Int32) (ro : Int32) (o_x_oldestSaved : Int32) (o_x_savedStates : Int32) (o_d_settings : Nat → Int32) (o_s_S : Nat → Snap) (hf : fX5_set x_oldestSaved x_savedStates d_columns d_rows d_carrier d_partMarks d_linkMarks d_operations d_pilots d_settings d_facts d_cells p_pitches p_spoiled p_cells p_bends p_offsets p_strokes p_goodParts p_badParts p_slugs s_S a0 a1 = some (ro, o_x_oldestSaved, o_x_savedStates, o_d_settings, o_s_S)) : Fn Θ yX5_set (Cond.code yX5_set cX5_set 4 (some .int) :: GW) rmX5_set [.ref x0, .int a0, .int a1] ([(x0, .inr (5, [.ref n0, .ref v0, .int x_oldestSaved, .int x_savedStates, .ref t0, .ref l0, .ref c0]))] ++ [(n0, .inr (4, [.ref d0, .ref p0]))] ++ wX1 Θ d0 d1 d2 d3 d_columns d_rows d_carrier d_partMarks d_linkMarks d_operations d_pilots d_settings d_facts d_cells ++ wX3 Θ p0 p1 p2 p3 p_pitches p_spoiled p_cells p_bends p_offsets p_strokes p_goodParts p_badParts p_slugs ++ wSV Θ v0 z1 z2 z3 z4 z5 z6 z7 z8 z9 z10 z11 z12 z13 z14 z15 z16 z17 z18 z19 z20 z21 z22 z23 z24 z25 z26 z27 z28 z29 z30 z31 z32 z33 z34 z35 z36 s_S) (some (.int ro)) ([(x0, .inr (5, [.ref n0, .ref v0, .int o_x_oldestSaved, .int o_x_savedStates, .ref t0, .ref l0, .ref c0]))] ++ [(n0, .inr (4, [.ref d0, .ref p0]))] ++ wX1 Θ d0 d1 d2 d3 d_columns d_rows d_carrier d_partMarks d_linkMarks d_operations d_pilots o_d_settings d_facts d_cells ++ wX3 Θ p0 p1 p2 p3 p_pitches p_spoiled p_cells p_bends p_offsets p_strokes p_goodParts p_badParts p_slugs ++ wSV Θ v0 z1 z2 z3 z4 z5 z6 z7 z8 z9 z10 z11 z12 z13 z14 z15 z16 z17 z18 z19 z20 z21 z22 z23 z24 z25 z26 z27 z28 z29 z30 z31 z32 z33 z34 z35 z36 o_s_S) := by
  delta fX5_set at hf
  refine Fn.of (by decide +kernel) rfl (Nat.le_of_ble_eq_true rfl) (fun p e s m args below meth c A Q G K => ?_)
  show sw Θ p e rmX5_set s m args below meth c A Q 4 0 0 0 [(0, .ref x0), (1, .int a0), (2, .int a1)] [] ([(x0, .inr (5, [.ref n0, .ref v0, .int x_oldestSaved, .int x_savedStates, .ref t0, .ref l0, .ref c0]))] ++ [(n0, .inr (4, [.ref d0, .ref p0]))] ++ wX1 Θ d0 d1 d2 d3 d_columns d_rows d_carrier d_partMarks d_linkMarks d_operations d_pilots d_settings d_facts d_cells ++ wX3 Θ p0 p1 p2 p3 p_pitches p_spoiled p_cells p_bends p_offsets p_strokes p_goodParts p_badParts p_slugs ++ wSV Θ v0 z1 z2 z3 z4 z5 z6 z7 z8 z9 z10 z11 z12 z13 z14 z15 z16 z17 z18 z19 z20 z21 z22 z23 z24 z25 z26 z27 z28 z29 z30 z31 z32 z33 z34 z35 z36 s_S)
  refine sw_iload_n 0 G dX5_set_0 1 rfl ?_
  refine sw_iload_n 1 G dX5_set_1 2 rfl ?_
  obtain ⟨r1, hg, hf⟩ := bd1_some hf
  refine sw_callSW 2 G 2 dX5_set_2 (Fn.q_xndps_ _ _ _ _ _ (kX5_isSettingValue Θ a0 a1 r1 hg)) (gwS lk_6d6784af lk_1cdda5d6 lk_5d2a005b lk_d9001382) rfl hsX5_isSettingValue ⟨rfl, rfl⟩ ⟨Nat.le_of_ble_eq_true rfl, Nat.le_of_ble_eq_true rfl⟩ ⟨Nat.zero_le _, Nat.zero_le _⟩ rfl rfl (Nat.le_of_ble_eq_true rfl) ?_
  refine sw_if_ne 5 18 G dX5_set_5 rfl hf (fun hf => ?_) (fun hf => ?_)
  · refine sw_aload_n 18 G dX5_set_18 0 rfl ?_
    obtain ⟨u2, u3, u4, hg, hf⟩ := bd3_some hf
    refine sw_callVW 19 G 0 dX5_set_19 (Fn.q_xndps_xndps _ _ _ _ _ _ _ _ _ _ (kX5_save Θ x0 n0 d0 d1 d2 d3 p0 p1 p2 p3 v0 z1 z2 z3 z4 z5 z6 z7 z8 z9 z10 z11 z12 z13 z14 z15 z16 z17 z18 z19 z20 z21 z22 z23 z24 z25 z26 z27 z28 z29 z30 z31 z32 z33 z34 z35 z36 t0 l0 c0 x_oldestSaved x_savedStates d_columns d_rows d_carrier d_partMarks d_linkMarks d_operations d_pilots d_settings d_facts d_cells p_pitches p_spoiled p_cells p_bends p_offsets p_strokes p_goodParts p_badParts p_slugs s_S u2 u3 u4 hg)) (gwV lk_54a9e5c6 lk_dd34ac34 lk_369f0a84 lk_5f14f758 lk_28293ef5) rfl hvX5_save ⟨rfl, rfl⟩ ⟨Nat.le_of_ble_eq_true rfl, Nat.le_of_ble_eq_true rfl⟩ ⟨Nat.zero_le _, Nat.zero_le _⟩ rfl rfl (Nat.le_of_ble_eq_true rfl) 0 rfl vc5 rfl ?_
    refine sw_aload_n 22 G dX5_set_22 0 rfl ?_
    refine sw_get 23 G hnX5 0 0 dX5_set_23 vc5 (by decide) (List.mem_cons_of_mem _ lk_c6576e33) rfl rfl ?_
    refine sw_get 26 G hnX4 1 0 dX5_set_26 vc4 (by decide) (List.mem_cons_of_mem _ lk_b490f9e6) rfl rfl ?_
    refine sw_iload_n 29 G dX5_set_29 1 rfl ?_
    obtain ⟨r5, hg, hf⟩ := bd1_some hf
    refine sw_callVW 30 G 1 dX5_set_30 (Fn.q_xndps_d _ _ _ _ _ _ (kX1_setting Θ d0 d1 d2 d3 d_columns d_rows d_carrier d_partMarks d_linkMarks d_operations d_pilots d_settings d_facts d_cells a0 r5 hg)) (gwV lk_e2ba7ad6 lk_6c5b2bed lk_42f14101 lk_cf66e99d lk_45fed558) rfl hvX1_setting ⟨rfl, rfl⟩ ⟨Nat.le_of_ble_eq_true rfl, Nat.le_of_ble_eq_true rfl⟩ ⟨Nat.zero_le _, Nat.zero_le _⟩ rfl rfl (Nat.le_of_ble_eq_true rfl) 2 rfl vc1 rfl ?_
    refine sw_istore_n 33 G [(3, .int r5), (0, .ref x0), (1, .int a0), (2, .int a1)] dX5_set_33 (by decide) rfl ?_
    refine sw_aload_n 34 G dX5_set_34 1 rfl ?_
    refine sw_get 35 G hnX5 0 0 dX5_set_35 vc5 (by decide) (List.mem_cons_of_mem _ lk_c6576e33) rfl rfl ?_
    refine sw_get 38 G hnX4 1 0 dX5_set_38 vc4 (by decide) (List.mem_cons_of_mem _ lk_b490f9e6) rfl rfl ?_
    refine sw_iload_n 41 G dX5_set_41 2 rfl ?_
    refine sw_iload_n 42 G dX5_set_42 3 rfl ?_
    obtain ⟨u6, hg, hf⟩ := bd1_some hf
    refine sw_callVW 43 G 2 dX5_set_43 (Fn.q_xndps_d _ _ _ _ _ _ (kX1_changeSetting Θ d0 d1 d2 d3 d_columns d_rows d_carrier d_partMarks d_linkMarks d_operations d_pilots d_settings d_facts d_cells a0 a1 u6 hg)) (gwV lk_f04897ce lk_0dae2960 lk_99f1ff08 lk_cf66e99d lk_76a372e9) rfl hvX1_changeSetting ⟨rfl, rfl⟩ ⟨Nat.le_of_ble_eq_true rfl, Nat.le_of_ble_eq_true rfl⟩ ⟨Nat.zero_le _, Nat.zero_le _⟩ rfl rfl (Nat.le_of_ble_eq_true rfl) 2 rfl vc1 rfl ?_
    refine sw_iload_n 46 G dX5_set_46 0 rfl ?_
    cases hf
    exact sw_iret 47 G dX5_set_47 K
  · cases hf
