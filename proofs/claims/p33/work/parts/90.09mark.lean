theorem lk_ab9479e3 : Cond.methodLink RX5 75 yX1_rectangle ∈ GW := GW_of 643 (by decide +kernel) (by decide +kernel)
theorem lk_257615a8 : Cond.methodLink RX5 79 yX1_markCells ∈ GW := GW_of 644 (by decide +kernel) (by decide +kernel)
theorem lk_f8b1893c : Cond.instanceMethod yX1_markCells ∈ GW := GW_of 645 (by decide +kernel) (by decide +kernel)
theorem lk_7773c949 : Cond.selects RX1 yX1_markCells yX1_markCells ∈ GW := GW_of 646 (by decide +kernel) (by decide +kernel)
theorem lk_bdf66497 : Cond.code yX1_markCells cX1_markCells 10 (some .int) ∈ GW := GW_of 647 (by decide +kernel) (by decide +kernel)
abbrev rmX5_mark : Room := { frames := 7, cells := 0, slots := 0, locals := 141 }
theorem hvX5_mark : yX5_mark.cls = RX5 ∧ yX5_mark.cls ≠ "java/lang/invoke/MethodHandle" ∧ yX5_mark.cls ≠ "java/lang/invoke/VarHandle" ∧ (parseMethodDescriptor yX5_mark.desc).map (fun d => d.parameters.length) = some 5 := by decide +kernel
set_option maxRecDepth 100000 in
set_option maxHeartbeats 4000000 in
theorem kX5_mark (Θ : Tht) (F : Nat) (x0 n0 d0 d1 d2 d3 p0 p1 p2 p3 v0 z1 z2 z3 z4 z5 z6 z7 z8 z9 z10 z11 z12 z13 z14 z15 z16 z17 z18 z19 z20 z21 z22 z23 z24 z25 z26 z27 z28 z29 z30 z31 z32 z33 z34 z35 z36 t0 l0 c0 : Nat) (x_oldestSaved : Int32) (x_savedStates : Int32) (d_columns : Int32) (d_rows : Int32) (d_carrier : Int32) (d_partMarks : Int64) (d_linkMarks : Int64) (d_operations : Int32) (d_pilots : Int32) (d_settings : Nat → Int32) (d_facts : Nat → Int32) (d_cells : Nat → Int64) (p_pitches : Int32) (p_spoiled : Int32) (p_cells : Nat → Int64) (p_bends : Nat → Int32) (p_offsets : Nat → Int32) (p_strokes : Int32) (p_goodParts : Int32) (p_badParts : Int32) (p_slugs : Int32) (s_S : Nat → Snap) (a0 : Int32) (a1 : Int32) (a2 : Int32) (a3 : Int32) (a4 : Int32) (ro : Int32) (o_x_oldestSaved : Int32) (o_x_savedStates : Int32) (o_d_partMarks : Int64) (o_d_linkMarks : Int64) (o_s_S : Nat → Snap) (hf : fX5_mark F x_oldestSaved x_savedStates d_columns d_rows d_carrier d_partMarks d_linkMarks d_operations d_pilots d_settings d_facts d_cells p_pitches p_spoiled p_cells p_bends p_offsets p_strokes p_goodParts p_badParts p_slugs s_S a0 a1 a2 a3 a4 = some (ro, o_x_oldestSaved, o_x_savedStates, o_d_partMarks, o_d_linkMarks, o_s_S)) : Fn Θ yX5_mark (Cond.code yX5_mark cX5_mark 6 (some .int) :: GW) rmX5_mark [.ref x0, .int a0, .int a1, .int a2, .int a3, .int a4] ([(x0, .inr (5, [.ref n0, .ref v0, .int x_oldestSaved, .int x_savedStates, .ref t0, .ref l0, .ref c0]))] ++ [(n0, .inr (4, [.ref d0, .ref p0]))] ++ wX1 Θ d0 d1 d2 d3 d_columns d_rows d_carrier d_partMarks d_linkMarks d_operations d_pilots d_settings d_facts d_cells ++ wX3 Θ p0 p1 p2 p3 p_pitches p_spoiled p_cells p_bends p_offsets p_strokes p_goodParts p_badParts p_slugs ++ wSV Θ v0 z1 z2 z3 z4 z5 z6 z7 z8 z9 z10 z11 z12 z13 z14 z15 z16 z17 z18 z19 z20 z21 z22 z23 z24 z25 z26 z27 z28 z29 z30 z31 z32 z33 z34 z35 z36 s_S) (some (.int ro)) ([(x0, .inr (5, [.ref n0, .ref v0, .int o_x_oldestSaved, .int o_x_savedStates, .ref t0, .ref l0, .ref c0]))] ++ [(n0, .inr (4, [.ref d0, .ref p0]))] ++ wX1 Θ d0 d1 d2 d3 d_columns d_rows d_carrier o_d_partMarks o_d_linkMarks d_operations d_pilots d_settings d_facts d_cells ++ wX3 Θ p0 p1 p2 p3 p_pitches p_spoiled p_cells p_bends p_offsets p_strokes p_goodParts p_badParts p_slugs ++ wSV Θ v0 z1 z2 z3 z4 z5 z6 z7 z8 z9 z10 z11 z12 z13 z14 z15 z16 z17 z18 z19 z20 z21 z22 z23 z24 z25 z26 z27 z28 z29 z30 z31 z32 z33 z34 z35 z36 o_s_S) := by
  delta fX5_mark at hf
  refine Fn.of (by decide +kernel) rfl (Nat.le_of_ble_eq_true rfl) (fun p e s m args below meth c A Q G K => ?_)
  show sw Θ p e rmX5_mark s m args below meth c A Q 6 0 0 0 [(0, .ref x0), (1, .int a0), (2, .int a1), (3, .int a2), (4, .int a3), (5, .int a4)] [] ([(x0, .inr (5, [.ref n0, .ref v0, .int x_oldestSaved, .int x_savedStates, .ref t0, .ref l0, .ref c0]))] ++ [(n0, .inr (4, [.ref d0, .ref p0]))] ++ wX1 Θ d0 d1 d2 d3 d_columns d_rows d_carrier d_partMarks d_linkMarks d_operations d_pilots d_settings d_facts d_cells ++ wX3 Θ p0 p1 p2 p3 p_pitches p_spoiled p_cells p_bends p_offsets p_strokes p_goodParts p_badParts p_slugs ++ wSV Θ v0 z1 z2 z3 z4 z5 z6 z7 z8 z9 z10 z11 z12 z13 z14 z15 z16 z17 z18 z19 z20 z21 z22 z23 z24 z25 z26 z27 z28 z29 z30 z31 z32 z33 z34 z35 z36 s_S)
  refine sw_aload_n 0 G dX5_mark_0 0 rfl ?_
  refine sw_get 1 G hnX5 0 0 dX5_mark_1 vc5 (by decide) (List.mem_cons_of_mem _ lk_c6576e33) rfl rfl ?_
  refine sw_get 4 G hnX4 1 0 dX5_mark_4 vc4 (by decide) (List.mem_cons_of_mem _ lk_b490f9e6) rfl rfl ?_
  refine sw_iload_n 7 G dX5_mark_7 1 rfl ?_
  refine sw_iload_n 8 G dX5_mark_8 2 rfl ?_
  refine sw_iload_n 9 G dX5_mark_9 3 rfl ?_
  refine sw_iload 10 G dX5_mark_10 4 rfl ?_
  obtain ⟨r1, hg, hf⟩ := bd1_some hf
  refine sw_callVW 12 G 4 dX5_mark_12 (Fn.q_xndps_d _ _ _ _ _ _ (kX1_holds Θ d0 d1 d2 d3 d_columns d_rows d_carrier d_partMarks d_linkMarks d_operations d_pilots d_settings d_facts d_cells a0 a1 a2 a3 r1 hg)) (gwV lk_4fc8583b lk_c194ca58 lk_2d7f3b82 lk_cf66e99d lk_e79936af) rfl hvX1_holds ⟨rfl, rfl⟩ ⟨Nat.le_of_ble_eq_true rfl, Nat.le_of_ble_eq_true rfl⟩ ⟨Nat.zero_le _, Nat.zero_le _⟩ rfl rfl (Nat.le_of_ble_eq_true rfl) 2 rfl vc1 rfl ?_
  refine sw_if_eq 15 29 G dX5_mark_15 rfl hf (fun hf => ?_) (fun hf => ?_)
  · cases hf
  · refine sw_iload 18 G dX5_mark_18 5 rfl ?_
    refine sw_if_lt 20 29 G dX5_mark_20 rfl hf (fun hf => ?_) (fun hf => ?_)
    · cases hf
    · refine sw_iload 23 G dX5_mark_23 5 rfl ?_
      refine sw_iconst 25 G (2 : Int32) dX5_mark_25 rfl ?_
      refine sw_icmp_le 26 39 G dX5_mark_26 rfl hf (fun hf => ?_) (fun hf => ?_)
      · refine sw_aload_n 39 G dX5_mark_39 0 rfl ?_
        obtain ⟨u2, u3, u4, hg, hf⟩ := bd3_some hf
        refine sw_callVW 40 G 0 dX5_mark_40 (Fn.q_xndps_xndps _ _ _ _ _ _ _ _ _ _ (kX5_save Θ x0 n0 d0 d1 d2 d3 p0 p1 p2 p3 v0 z1 z2 z3 z4 z5 z6 z7 z8 z9 z10 z11 z12 z13 z14 z15 z16 z17 z18 z19 z20 z21 z22 z23 z24 z25 z26 z27 z28 z29 z30 z31 z32 z33 z34 z35 z36 t0 l0 c0 x_oldestSaved x_savedStates d_columns d_rows d_carrier d_partMarks d_linkMarks d_operations d_pilots d_settings d_facts d_cells p_pitches p_spoiled p_cells p_bends p_offsets p_strokes p_goodParts p_badParts p_slugs s_S u2 u3 u4 hg)) (gwV lk_54a9e5c6 lk_dd34ac34 lk_369f0a84 lk_5f14f758 lk_28293ef5) rfl hvX5_save ⟨rfl, rfl⟩ ⟨Nat.le_of_ble_eq_true rfl, Nat.le_of_ble_eq_true rfl⟩ ⟨Nat.zero_le _, Nat.zero_le _⟩ rfl rfl (Nat.le_of_ble_eq_true rfl) 0 rfl vc5 rfl ?_
        refine sw_aload_n 43 G dX5_mark_43 0 rfl ?_
        refine sw_get 44 G hnX5 0 0 dX5_mark_44 vc5 (by decide) (List.mem_cons_of_mem _ lk_c6576e33) rfl rfl ?_
        refine sw_get 47 G hnX4 1 0 dX5_mark_47 vc4 (by decide) (List.mem_cons_of_mem _ lk_b490f9e6) rfl rfl ?_
        refine sw_aload_n 50 G dX5_mark_50 0 rfl ?_
        refine sw_get 51 G hnX5 0 0 dX5_mark_51 vc5 (by decide) (List.mem_cons_of_mem _ lk_c6576e33) rfl rfl ?_
        refine sw_get 54 G hnX4 1 0 dX5_mark_54 vc4 (by decide) (List.mem_cons_of_mem _ lk_b490f9e6) rfl rfl ?_
        refine sw_iload_n 57 G dX5_mark_57 1 rfl ?_
        refine sw_iload_n 58 G dX5_mark_58 2 rfl ?_
        refine sw_iload_n 59 G dX5_mark_59 3 rfl ?_
        refine sw_iload 60 G dX5_mark_60 4 rfl ?_
        obtain ⟨r5, hg, hf⟩ := bd1_some hf
        refine sw_callVW 62 G 4 dX5_mark_62 (Fn.q_xndps_d _ _ _ _ _ _ (kX1_rectangle Θ F d0 d1 d2 d3 d_columns d_rows d_carrier d_partMarks d_linkMarks d_operations d_pilots d_settings d_facts d_cells a0 a1 a2 a3 r5 hg)) (gwV lk_ab9479e3 lk_78a614ff lk_2de1bfb6 lk_cf66e99d lk_cb7364a8) rfl hvX1_rectangle ⟨rfl, rfl⟩ ⟨Nat.le_of_ble_eq_true rfl, Nat.le_of_ble_eq_true rfl⟩ ⟨Nat.zero_le _, Nat.zero_le _⟩ rfl rfl (Nat.le_of_ble_eq_true rfl) 2 rfl vc1 rfl ?_
        refine sw_iload 65 G dX5_mark_65 5 rfl ?_
        obtain ⟨r6, u7, u8, hg, hf⟩ := bd3_some hf
        refine sw_callVW 67 G 2 dX5_mark_67 (Fn.q_xndps_d _ _ _ _ _ _ (kX1_markCells Θ d0 d1 d2 d3 d_columns d_rows d_carrier d_partMarks d_linkMarks d_operations d_pilots d_settings d_facts d_cells r5 a4 r6 u7 u8 hg)) (gwV lk_257615a8 lk_f8b1893c lk_7773c949 lk_cf66e99d lk_bdf66497) rfl hvX1_markCells ⟨rfl, rfl⟩ ⟨Nat.le_of_ble_eq_true rfl, Nat.le_of_ble_eq_true rfl⟩ ⟨Nat.zero_le _, Nat.zero_le _⟩ rfl rfl (Nat.le_of_ble_eq_true rfl) 2 rfl vc1 rfl ?_
        cases hf
        exact sw_iret 70 G dX5_mark_70 K
      · cases hf
