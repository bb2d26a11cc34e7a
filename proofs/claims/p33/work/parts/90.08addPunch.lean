
abbrev rmX5_addPunch : Room := { frames := 7, cells := 0, slots := 0, locals := 141 }
theorem hvX5_addPunch : yX5_addPunch.cls = RX5 ∧ yX5_addPunch.cls ≠ "java/lang/invoke/MethodHandle" ∧ yX5_addPunch.cls ≠ "java/lang/invoke/VarHandle" ∧ (parseMethodDescriptor yX5_addPunch.desc).map (fun d => d.parameters.length) = some 4 := by decide +kernel
set_option maxRecDepth 100000 in
set_option maxHeartbeats 4000000 in
theorem kX5_addPunch (Θ : Tht) (F : Nat) (x0 n0 d0 d1 d2 d3 p0 p1 p2 p3 v0 z1 z2 z3 z4 z5 z6 z7 z8 z9 z10 z11 z12 z13 z14 z15 z16 z17 z18 z19 z20 z21 z22 z23 z24 z25 z26 z27 z28 z29 z30 z31 z32 z33 z34 z35 z36 t0 l0 c0 : Nat) (x_oldestSaved : Int32) (x_savedStates : Int32) (d_columns : Int32) (d_rows : Int32) (d_carrier : Int32) (d_partMarks : Int64) (d_linkMarks : Int64) (d_operations : Int32) (d_pilots : Int32) (d_settings : Nat → Int32) (d_facts : Nat → Int32) (d_cells : Nat → Int64) (p_pitches : Int32) (p_spoiled : Int32) (p_cells : Nat → Int64) (p_bends : Nat → Int32) (p_offsets : Nat → Int32) (p_strokes : Int32) (p_goodParts : Int32) (p_badParts : Int32) (p_slugs : Int32) (s_S : Nat → Snap) (a0 : Int32) (a1 : Int32) (a2 : Int32) (a3 : Int32) (ro : Int32) (o_x_oldestSaved : Int32) (o_x_savedStates : Int32) (o_d_operations : Int32) (o_d_facts : Nat → Int32) (o_d_cells : Nat → Int64) (o_s_S : Nat → Snap) (hf : fX5_addPunch F x_oldestSaved x_savedStates d_columns d_rows d_carrier d_partMarks d_linkMarks d_operations d_pilots d_settings d_facts d_cells p_pitches p_spoiled p_cells p_bends p_offsets p_strokes p_goodParts p_badParts p_slugs s_S a0 a1 a2 a3 = some (ro, o_x_oldestSaved, o_x_savedStates, o_d_operations, o_d_facts, o_d_cells, o_s_S)) : Fn Θ yX5_addPunch (Cond.code yX5_addPunch cX5_addPunch 5 (some .int) :: GW) rmX5_addPunch [.ref x0, .int a0, .int a1, .int a2, .int a3] ([(x0, .inr (5, [.ref n0, .ref v0, .int x_oldestSaved, .int x_savedStates, .ref t0, .ref l0, .ref c0]))] ++ [(n0, .inr (4, [.ref d0, .ref p0]))] ++ wX1 Θ d0 d1 d2 d3 d_columns d_rows d_carrier d_partMarks d_linkMarks d_operations d_pilots d_settings d_facts d_cells ++ wX3 Θ p0 p1 p2 p3 p_pitches p_spoiled p_cells p_bends p_offsets p_strokes p_goodParts p_badParts p_slugs ++ wSV Θ v0 z1 z2 z3 z4 z5 z6 z7 z8 z9 z10 z11 z12 z13 z14 z15 z16 z17 z18 z19 z20 z21 z22 z23 z24 z25 z26 z27 z28 z29 z30 z31 z32 z33 z34 z35 z36 s_S) (some (.int ro)) ([(x0, .inr (5, [.ref n0, .ref v0, .int o_x_oldestSaved, .int o_x_savedStates, .ref t0, .ref l0, .ref c0]))] ++ [(n0, .inr (4, [.ref d0, .ref p0]))] ++ wX1 Θ d0 d1 d2 d3 d_columns d_rows d_carrier d_partMarks d_linkMarks o_d_operations d_pilots d_settings o_d_facts o_d_cells ++ wX3 Θ p0 p1 p2 p3 p_pitches p_spoiled p_cells p_bends p_offsets p_strokes p_goodParts p_badParts p_slugs ++ wSV Θ v0 z1 z2 z3 z4 z5 z6 z7 z8 z9 z10 z11 z12 z13 z14 z15 z16 z17 z18 z19 z20 z21 z22 z23 z24 z25 z26 z27 z28 z29 z30 z31 z32 z33 z34 z35 z36 o_s_S) := by
  delta fX5_addPunch at hf
  refine Fn.of (by decide +kernel) rfl (Nat.le_of_ble_eq_true rfl) (fun p e s m args below meth c A Q G K => ?_)
  show sw Θ p e rmX5_addPunch s m args below meth c A Q 5 0 0 0 [(0, .ref x0), (1, .int a0), (2, .int a1), (3, .int a2), (4, .int a3)] [] ([(x0, .inr (5, [.ref n0, .ref v0, .int x_oldestSaved, .int x_savedStates, .ref t0, .ref l0, .ref c0]))] ++ [(n0, .inr (4, [.ref d0, .ref p0]))] ++ wX1 Θ d0 d1 d2 d3 d_columns d_rows d_carrier d_partMarks d_linkMarks d_operations d_pilots d_settings d_facts d_cells ++ wX3 Θ p0 p1 p2 p3 p_pitches p_spoiled p_cells p_bends p_offsets p_strokes p_goodParts p_badParts p_slugs ++ wSV Θ v0 z1 z2 z3 z4 z5 z6 z7 z8 z9 z10 z11 z12 z13 z14 z15 z16 z17 z18 z19 z20 z21 z22 z23 z24 z25 z26 z27 z28 z29 z30 z31 z32 z33 z34 z35 z36 s_S)
  refine sw_aload_n 0 G dX5_addPunch_0 0 rfl ?_
  refine sw_get 1 G hnX5 0 0 dX5_addPunch_1 vc5 (by decide) (List.mem_cons_of_mem _ lk_c6576e33) rfl rfl ?_
  refine sw_get 4 G hnX4 1 0 dX5_addPunch_4 vc4 (by decide) (List.mem_cons_of_mem _ lk_b490f9e6) rfl rfl ?_
  refine sw_iload_n 7 G dX5_addPunch_7 1 rfl ?_
  refine sw_iload_n 8 G dX5_addPunch_8 2 rfl ?_
  refine sw_iload_n 9 G dX5_addPunch_9 3 rfl ?_
  refine sw_iload 10 G dX5_addPunch_10 4 rfl ?_
  obtain ⟨r1, hg, hf⟩ := bd1_some hf
  refine sw_callVW 12 G 4 dX5_addPunch_12 (Fn.q_xndps_d _ _ _ _ _ _ (kX1_holds Θ d0 d1 d2 d3 d_columns d_rows d_carrier d_partMarks d_linkMarks d_operations d_pilots d_settings d_facts d_cells a0 a1 a2 a3 r1 hg)) (gwV lk_4fc8583b lk_c194ca58 lk_2d7f3b82 lk_cf66e99d lk_e79936af) rfl hvX1_holds ⟨rfl, rfl⟩ ⟨Nat.le_of_ble_eq_true rfl, Nat.le_of_ble_eq_true rfl⟩ ⟨Nat.zero_le _, Nat.zero_le _⟩ rfl rfl (Nat.le_of_ble_eq_true rfl) 2 rfl vc1 rfl ?_
  refine sw_if_ne 15 28 G dX5_addPunch_15 rfl hf (fun hf => ?_) (fun hf => ?_)
  · refine sw_aload_n 28 G dX5_addPunch_28 0 rfl ?_
    refine sw_get 29 G hnX5 0 0 dX5_addPunch_29 vc5 (by decide) (List.mem_cons_of_mem _ lk_c6576e33) rfl rfl ?_
    refine sw_get 32 G hnX4 1 0 dX5_addPunch_32 vc4 (by decide) (List.mem_cons_of_mem _ lk_b490f9e6) rfl rfl ?_
    obtain ⟨r2, hg, hf⟩ := bd1_some hf
    refine sw_callVW 35 G 0 dX5_addPunch_35 (Fn.q_xndps_d _ _ _ _ _ _ (kX1_isFull Θ d0 d1 d2 d3 d_columns d_rows d_carrier d_partMarks d_linkMarks d_operations d_pilots d_settings d_facts d_cells r2 hg)) (gwV lk_4c281b6e lk_ec5cdf02 lk_5fba3b54 lk_cf66e99d lk_9c153725) rfl hvX1_isFull ⟨rfl, rfl⟩ ⟨Nat.le_of_ble_eq_true rfl, Nat.le_of_ble_eq_true rfl⟩ ⟨Nat.zero_le _, Nat.zero_le _⟩ rfl rfl (Nat.le_of_ble_eq_true rfl) 2 rfl vc1 rfl ?_
    refine sw_if_eq 38 51 G dX5_addPunch_38 rfl hf (fun hf => ?_) (fun hf => ?_)
    · refine sw_aload_n 51 G dX5_addPunch_51 0 rfl ?_
      obtain ⟨u3, u4, u5, hg, hf⟩ := bd3_some hf
      refine sw_callVW 52 G 0 dX5_addPunch_52 (Fn.q_xndps_xndps _ _ _ _ _ _ _ _ _ _ (kX5_save Θ x0 n0 d0 d1 d2 d3 p0 p1 p2 p3 v0 z1 z2 z3 z4 z5 z6 z7 z8 z9 z10 z11 z12 z13 z14 z15 z16 z17 z18 z19 z20 z21 z22 z23 z24 z25 z26 z27 z28 z29 z30 z31 z32 z33 z34 z35 z36 t0 l0 c0 x_oldestSaved x_savedStates d_columns d_rows d_carrier d_partMarks d_linkMarks d_operations d_pilots d_settings d_facts d_cells p_pitches p_spoiled p_cells p_bends p_offsets p_strokes p_goodParts p_badParts p_slugs s_S u3 u4 u5 hg)) (gwV lk_54a9e5c6 lk_dd34ac34 lk_369f0a84 lk_5f14f758 lk_28293ef5) rfl hvX5_save ⟨rfl, rfl⟩ ⟨Nat.le_of_ble_eq_true rfl, Nat.le_of_ble_eq_true rfl⟩ ⟨Nat.zero_le _, Nat.zero_le _⟩ rfl rfl (Nat.le_of_ble_eq_true rfl) 0 rfl vc5 rfl ?_
      refine sw_aload_n 55 G dX5_addPunch_55 0 rfl ?_
      refine sw_get 56 G hnX5 0 0 dX5_addPunch_56 vc5 (by decide) (List.mem_cons_of_mem _ lk_c6576e33) rfl rfl ?_
      refine sw_get 59 G hnX4 1 0 dX5_addPunch_59 vc4 (by decide) (List.mem_cons_of_mem _ lk_b490f9e6) rfl rfl ?_
      refine sw_iconst 62 G (0 : Int32) dX5_addPunch_62 rfl ?_
      refine sw_iload_n 63 G dX5_addPunch_63 1 rfl ?_
      refine sw_iload_n 64 G dX5_addPunch_64 2 rfl ?_
      refine sw_iload_n 65 G dX5_addPunch_65 3 rfl ?_
      refine sw_iload 66 G dX5_addPunch_66 4 rfl ?_
      obtain ⟨r6, u7, u8, u9, hg, hf⟩ := bd4_some hf
      refine sw_callVW 68 G 5 dX5_addPunch_68 (Fn.q_xndps_d _ _ _ _ _ _ (kX1_append Θ F d0 d1 d2 d3 d_columns d_rows d_carrier d_partMarks d_linkMarks d_operations d_pilots d_settings d_facts d_cells (0 : Int32) a0 a1 a2 a3 r6 u7 u8 u9 hg)) (gwV lk_1fc6a9f5 lk_1da1f078 lk_c1cfaa09 lk_cf66e99d lk_605a4eaf) rfl hvX1_append ⟨rfl, rfl⟩ ⟨Nat.le_of_ble_eq_true rfl, Nat.le_of_ble_eq_true rfl⟩ ⟨Nat.zero_le _, Nat.zero_le _⟩ rfl rfl (Nat.le_of_ble_eq_true rfl) 2 rfl vc1 rfl ?_
      cases hf
      exact sw_iret 71 G dX5_addPunch_71 K
    · cases hf
  · cases hf
