theorem lk_369f0a84 : Cond.selects RX5 yX5_save yX5_save ∈ GW := GW_of 1 (by decide +kernel) (by decide +kernel)
theorem lk_3a68ea02 : Cond.fieldLink RX5 85 "StripDie$Die" "carrier" "I" ∈ GW := GW_of 58 (by decide +kernel) (by decide +kernel)
theorem lk_54a9e5c6 : Cond.methodLink RX5 52 yX5_save ∈ GW := GW_of 288 (by decide +kernel) (by decide +kernel)
theorem lk_dd34ac34 : Cond.instanceMethod yX5_save ∈ GW := GW_of 290 (by decide +kernel) (by decide +kernel)
theorem lk_28293ef5 : Cond.code yX5_save cX5_save 2 none ∈ GW := GW_of 291 (by decide +kernel) (by decide +kernel)
abbrev rmX5_setCarrier : Room := { frames := 7, cells := 0, slots := 0, locals := 141 }
theorem hvX5_setCarrier : yX5_setCarrier.cls = RX5 ∧ yX5_setCarrier.cls ≠ "java/lang/invoke/MethodHandle" ∧ yX5_setCarrier.cls ≠ "java/lang/invoke/VarHandle" ∧ (parseMethodDescriptor yX5_setCarrier.desc).map (fun d => d.parameters.length) = some 1 := by decide +kernel
set_option maxRecDepth 100000 in
set_option maxHeartbeats 4000000 in
theorem kX5_setCarrier (Θ : Tht) (x0 n0 d0 d1 d2 d3 p0 p1 p2 p3 v0 z1 z2 z3 z4 z5 z6 z7 z8 z9 z10 z11 z12 z13 z14 z15 z16 z17 z18 z19 z20 z21 z22 z23 z24 z25 z26 z27 z28 z29 z30 z31 z32 z33 z34 z35 z36 t0 l0 c0 : Nat) (x_oldestSaved : Int32) (x_savedStates : Int32) (d_columns : Int32) (d_rows : Int32) (d_carrier : Int32) (d_partMarks : Int64) (d_linkMarks : Int64) (d_operations : Int32) (d_pilots : Int32) (d_settings : Nat → Int32) (d_facts : Nat → Int32) (d_cells : Nat → Int64) (p_pitches : Int32) (p_spoiled : Int32) (p_cells : Nat → Int64) (p_bends : Nat → Int32) (p_offsets : Nat → Int32) (p_strokes : Int32) (p_goodParts : Int32) (p_badParts : Int32) (p_slugs : Int32) (s_S : Nat → Snap) (a0 : Int32) (ro : Int32) (o_x_oldestSaved : Int32) (o_x_savedStates : Int32) (o_d_carrier : Int32) (o_s_S : Nat → Snap) (hf : fX5_setCarrier x_oldestSaved x_savedStates d_columns d_rows d_carrier d_partMarks d_linkMarks d_operations d_pilots d_settings d_facts d_cells p_pitches p_spoiled p_cells p_bends p_offsets p_strokes p_goodParts p_badParts p_slugs s_S a0 = some (ro, o_x_oldestSaved, o_x_savedStates, o_d_carrier, o_s_S)) : Fn Θ yX5_setCarrier (Cond.code yX5_setCarrier cX5_setCarrier 3 (some .int) :: GW) rmX5_setCarrier [.ref x0, .int a0] ([(x0, .inr (5, [.ref n0, .ref v0, .int x_oldestSaved, .int x_savedStates, .ref t0, .ref l0, .ref c0]))] ++ [(n0, .inr (4, [.ref d0, .ref p0]))] ++ wX1 Θ d0 d1 d2 d3 d_columns d_rows d_carrier d_partMarks d_linkMarks d_operations d_pilots d_settings d_facts d_cells ++ wX3 Θ p0 p1 p2 p3 p_pitches p_spoiled p_cells p_bends p_offsets p_strokes p_goodParts p_badParts p_slugs ++ wSV Θ v0 z1 z2 z3 z4 z5 z6 z7 z8 z9 z10 z11 z12 z13 z14 z15 z16 z17 z18 z19 z20 z21 z22 z23 z24 z25 z26 z27 z28 z29 z30 z31 z32 z33 z34 z35 z36 s_S) (some (.int ro)) ([(x0, .inr (5, [.ref n0, .ref v0, .int o_x_oldestSaved, .int o_x_savedStates, .ref t0, .ref l0, .ref c0]))] ++ [(n0, .inr (4, [.ref d0, .ref p0]))] ++ wX1 Θ d0 d1 d2 d3 d_columns d_rows o_d_carrier d_partMarks d_linkMarks d_operations d_pilots d_settings d_facts d_cells ++ wX3 Θ p0 p1 p2 p3 p_pitches p_spoiled p_cells p_bends p_offsets p_strokes p_goodParts p_badParts p_slugs ++ wSV Θ v0 z1 z2 z3 z4 z5 z6 z7 z8 z9 z10 z11 z12 z13 z14 z15 z16 z17 z18 z19 z20 z21 z22 z23 z24 z25 z26 z27 z28 z29 z30 z31 z32 z33 z34 z35 z36 o_s_S) := by
  delta fX5_setCarrier at hf
  refine Fn.of (by decide +kernel) rfl (Nat.le_of_ble_eq_true rfl) (fun p e s m args below meth c A Q G K => ?_)
  show sw Θ p e rmX5_setCarrier s m args below meth c A Q 3 0 0 0 [(0, .ref x0), (1, .int a0)] [] ([(x0, .inr (5, [.ref n0, .ref v0, .int x_oldestSaved, .int x_savedStates, .ref t0, .ref l0, .ref c0]))] ++ [(n0, .inr (4, [.ref d0, .ref p0]))] ++ wX1 Θ d0 d1 d2 d3 d_columns d_rows d_carrier d_partMarks d_linkMarks d_operations d_pilots d_settings d_facts d_cells ++ wX3 Θ p0 p1 p2 p3 p_pitches p_spoiled p_cells p_bends p_offsets p_strokes p_goodParts p_badParts p_slugs ++ wSV Θ v0 z1 z2 z3 z4 z5 z6 z7 z8 z9 z10 z11 z12 z13 z14 z15 z16 z17 z18 z19 z20 z21 z22 z23 z24 z25 z26 z27 z28 z29 z30 z31 z32 z33 z34 z35 z36 s_S)
  refine sw_iload_n 0 G dX5_setCarrier_0 1 rfl ?_
  refine sw_if_lt 1 9 G dX5_setCarrier_1 rfl hf (fun hf => ?_) (fun hf => ?_)
  · cases hf
  · refine sw_iload_n 4 G dX5_setCarrier_4 1 rfl ?_
    refine sw_iconst 5 G (2 : Int32) dX5_setCarrier_5 rfl ?_
    refine sw_icmp_le 6 19 G dX5_setCarrier_6 rfl hf (fun hf => ?_) (fun hf => ?_)
    · refine sw_aload_n 19 G dX5_setCarrier_19 0 rfl ?_
      obtain ⟨u1, u2, u3, hg, hf⟩ := bd3_some hf
      refine sw_callVW 20 G 0 dX5_setCarrier_20 (Fn.q_xndps_xndps _ _ _ _ _ _ _ _ _ _ (kX5_save Θ x0 n0 d0 d1 d2 d3 p0 p1 p2 p3 v0 z1 z2 z3 z4 z5 z6 z7 z8 z9 z10 z11 z12 z13 z14 z15 z16 z17 z18 z19 z20 z21 z22 z23 z24 z25 z26 z27 z28 z29 z30 z31 z32 z33 z34 z35 z36 t0 l0 c0 x_oldestSaved x_savedStates d_columns d_rows d_carrier d_partMarks d_linkMarks d_operations d_pilots d_settings d_facts d_cells p_pitches p_spoiled p_cells p_bends p_offsets p_strokes p_goodParts p_badParts p_slugs s_S u1 u2 u3 hg)) (gwV lk_54a9e5c6 lk_dd34ac34 lk_369f0a84 lk_5f14f758 lk_28293ef5) rfl hvX5_save ⟨rfl, rfl⟩ ⟨Nat.le_of_ble_eq_true rfl, Nat.le_of_ble_eq_true rfl⟩ ⟨Nat.zero_le _, Nat.zero_le _⟩ rfl rfl (Nat.le_of_ble_eq_true rfl) 0 rfl vc5 rfl ?_
      refine sw_aload_n 23 G dX5_setCarrier_23 0 rfl ?_
      refine sw_get 24 G hnX5 0 0 dX5_setCarrier_24 vc5 (by decide) (List.mem_cons_of_mem _ lk_c6576e33) rfl rfl ?_
      refine sw_get 27 G hnX4 1 0 dX5_setCarrier_27 vc4 (by decide) (List.mem_cons_of_mem _ lk_b490f9e6) rfl rfl ?_
      refine sw_get 30 G hnX1 2 2 dX5_setCarrier_30 vc1 (by decide) (List.mem_cons_of_mem _ lk_3a68ea02) rfl rfl ?_
      refine sw_istore_n 33 G [(2, .int d_carrier), (0, .ref x0), (1, .int a0)] dX5_setCarrier_33 (by decide) rfl ?_
      refine sw_aload_n 34 G dX5_setCarrier_34 1 rfl ?_
      refine sw_get 35 G hnX5 0 0 dX5_setCarrier_35 vc5 (by decide) (List.mem_cons_of_mem _ lk_c6576e33) rfl rfl ?_
      refine sw_get 38 G hnX4 1 0 dX5_setCarrier_38 vc4 (by decide) (List.mem_cons_of_mem _ lk_b490f9e6) rfl rfl ?_
      refine sw_iload_n 41 G dX5_setCarrier_41 2 rfl ?_
      refine sw_put 42 G hnX1 tyX1_ok nmX1 2 2 ([(x0, .inr (5, [.ref n0, .ref v0, .int u1, .int u2, .ref t0, .ref l0, .ref c0]))] ++ [(n0, .inr (4, [.ref d0, .ref p0]))] ++ wX1 Θ d0 d1 d2 d3 d_columns d_rows a0 d_partMarks d_linkMarks d_operations d_pilots d_settings d_facts d_cells ++ wX3 Θ p0 p1 p2 p3 p_pitches p_spoiled p_cells p_bends p_offsets p_strokes p_goodParts p_badParts p_slugs ++ wSV Θ v0 z1 z2 z3 z4 z5 z6 z7 z8 z9 z10 z11 z12 z13 z14 z15 z16 z17 z18 z19 z20 z21 z22 z23 z24 z25 z26 z27 z28 z29 z30 z31 z32 z33 z34 z35 z36 u3) dX5_setCarrier_42 vc1 (by decide) (List.mem_cons_of_mem _ lk_3a68ea02) rfl rfl (Nat.le_of_ble_eq_true rfl) (tyX1_ok 2 (by decide)) rfl rfl rfl ?_
      refine sw_iload_n 45 G dX5_setCarrier_45 0 rfl ?_
      cases hf
      exact sw_iret 46 G dX5_setCarrier_46 K
    · cases hf
