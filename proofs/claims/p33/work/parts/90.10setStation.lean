theorem lk_27c946b1 : Cond.methodLink RX5 145 yX1_changeFact ∈ GW := GW_of 713 (by decide +kernel) (by decide +kernel)
abbrev rmX5_setStation : Room := { frames := 7, cells := 0, slots := 0, locals := 141 }
theorem hvX5_setStation : yX5_setStation.cls = RX5 ∧ yX5_setStation.cls ≠ "java/lang/invoke/MethodHandle" ∧ yX5_setStation.cls ≠ "java/lang/invoke/VarHandle" ∧ (parseMethodDescriptor yX5_setStation.desc).map (fun d => d.parameters.length) = some 2 := by decide +kernel
set_option maxRecDepth 100000 in
set_option maxHeartbeats 4000000 in
theorem kX5_setStation (Θ : Tht) (x0 n0 d0 d1 d2 d3 p0 p1 p2 p3 v0 z1 z2 z3 z4 z5 z6 z7 z8 z9 z10 z11 z12 z13 z14 z15 z16 z17 z18 z19 z20 z21 z22 z23 z24 z25 z26 z27 z28 z29 z30 z31 z32 z33 z34 z35 z36 t0 l0 c0 : Nat) (x_oldestSaved : Int32) (x_savedStates : Int32) (d_columns : Int32) (d_rows : Int32) (d_carrier : Int32) (d_partMarks : Int64) (d_linkMarks : Int64) (d_operations : Int32) (d_pilots : Int32) (d_settings : Nat → Int32) (d_facts : Nat → Int32) (d_cells : Nat → Int64) (p_pitches : Int32) (p_spoiled : Int32) (p_cells : Nat → Int64) (p_bends : Nat → Int32) (p_offsets : Nat → Int32) (p_strokes : Int32) (p_goodParts : Int32) (p_badParts : Int32) (p_slugs : Int32) (s_S : Nat → Snap) (a0 : Int32) (a1 : Int32) (ro : Int32) (o_x_oldestSaved : Int32) (o_x_savedStates : Int32) (o_d_facts : Nat → Int32) (o_s_S : Nat → Snap) (hf : fX5_setStation x_oldestSaved x_savedStates d_columns d_rows d_carrier d_partMarks d_linkMarks d_operations d_pilots d_settings d_facts d_cells p_pitches p_spoiled p_cells p_bends p_offsets p_strokes p_goodParts p_badParts p_slugs s_S a0 a1 = some (ro, o_x_oldestSaved, o_x_savedStates, o_d_facts, o_s_S)) : Fn Θ yX5_setStation (Cond.code yX5_setStation cX5_setStation 4 (some .int) :: GW) rmX5_setStation [.ref x0, .int a0, .int a1] ([(x0, .inr (5, [.ref n0, .ref v0, .int x_oldestSaved, .int x_savedStates, .ref t0, .ref l0, .ref c0]))] ++ [(n0, .inr (4, [.ref d0, .ref p0]))] ++ wX1 Θ d0 d1 d2 d3 d_columns d_rows d_carrier d_partMarks d_linkMarks d_operations d_pilots d_settings d_facts d_cells ++ wX3 Θ p0 p1 p2 p3 p_pitches p_spoiled p_cells p_bends p_offsets p_strokes p_goodParts p_badParts p_slugs ++ wSV Θ v0 z1 z2 z3 z4 z5 z6 z7 z8 z9 z10 z11 z12 z13 z14 z15 z16 z17 z18 z19 z20 z21 z22 z23 z24 z25 z26 z27 z28 z29 z30 z31 z32 z33 z34 z35 z36 s_S) (some (.int ro)) ([(x0, .inr (5, [.ref n0, .ref v0, .int o_x_oldestSaved, .int o_x_savedStates, .ref t0, .ref l0, .ref c0]))] ++ [(n0, .inr (4, [.ref d0, .ref p0]))] ++ wX1 Θ d0 d1 d2 d3 d_columns d_rows d_carrier d_partMarks d_linkMarks d_operations d_pilots d_settings o_d_facts d_cells ++ wX3 Θ p0 p1 p2 p3 p_pitches p_spoiled p_cells p_bends p_offsets p_strokes p_goodParts p_badParts p_slugs ++ wSV Θ v0 z1 z2 z3 z4 z5 z6 z7 z8 z9 z10 z11 z12 z13 z14 z15 z16 z17 z18 z19 z20 z21 z22 z23 z24 z25 z26 z27 z28 z29 z30 z31 z32 z33 z34 z35 z36 o_s_S) := by
  delta fX5_setStation at hf
  refine Fn.of (by decide +kernel) rfl (Nat.le_of_ble_eq_true rfl) (fun p e s m args below meth c A Q G K => ?_)
  show sw Θ p e rmX5_setStation s m args below meth c A Q 4 0 0 0 [(0, .ref x0), (1, .int a0), (2, .int a1)] [] ([(x0, .inr (5, [.ref n0, .ref v0, .int x_oldestSaved, .int x_savedStates, .ref t0, .ref l0, .ref c0]))] ++ [(n0, .inr (4, [.ref d0, .ref p0]))] ++ wX1 Θ d0 d1 d2 d3 d_columns d_rows d_carrier d_partMarks d_linkMarks d_operations d_pilots d_settings d_facts d_cells ++ wX3 Θ p0 p1 p2 p3 p_pitches p_spoiled p_cells p_bends p_offsets p_strokes p_goodParts p_badParts p_slugs ++ wSV Θ v0 z1 z2 z3 z4 z5 z6 z7 z8 z9 z10 z11 z12 z13 z14 z15 z16 z17 z18 z19 z20 z21 z22 z23 z24 z25 z26 z27 z28 z29 z30 z31 z32 z33 z34 z35 z36 s_S)
  refine sw_aload_n 0 G dX5_setStation_0 0 rfl ?_
  refine sw_get 1 G hnX5 0 0 dX5_setStation_1 vc5 (by decide) (List.mem_cons_of_mem _ lk_c6576e33) rfl rfl ?_
  refine sw_get 4 G hnX4 1 0 dX5_setStation_4 vc4 (by decide) (List.mem_cons_of_mem _ lk_b490f9e6) rfl rfl ?_
  refine sw_iload_n 7 G dX5_setStation_7 1 rfl ?_
  obtain ⟨r1, hg, hf⟩ := bd1_some hf
  refine sw_callVW 8 G 1 dX5_setStation_8 (Fn.q_xndps_d _ _ _ _ _ _ (kX1_hasOperation Θ d0 d1 d2 d3 d_columns d_rows d_carrier d_partMarks d_linkMarks d_operations d_pilots d_settings d_facts d_cells a0 r1 hg)) (gwV lk_02fe585c lk_bab4024f lk_df64b95a lk_cf66e99d lk_740542d2) rfl hvX1_hasOperation ⟨rfl, rfl⟩ ⟨Nat.le_of_ble_eq_true rfl, Nat.le_of_ble_eq_true rfl⟩ ⟨Nat.zero_le _, Nat.zero_le _⟩ rfl rfl (Nat.le_of_ble_eq_true rfl) 2 rfl vc1 rfl ?_
  refine sw_if_ne 11 24 G dX5_setStation_11 rfl hf (fun hf => ?_) (fun hf => ?_)
  · refine sw_iload_n 24 G dX5_setStation_24 2 rfl ?_
    refine sw_iconst 25 G (-1 : Int32) dX5_setStation_25 rfl ?_
    refine sw_icmp_eq 26 46 G dX5_setStation_26 rfl hf (fun hf => ?_) (fun hf => ?_)
    · refine sw_aload_n 46 G dX5_setStation_46 0 rfl ?_
      obtain ⟨u2, u3, u4, hg, hf⟩ := bd3_some hf
      refine sw_callVW 47 G 0 dX5_setStation_47 (Fn.q_xndps_xndps _ _ _ _ _ _ _ _ _ _ (kX5_save Θ x0 n0 d0 d1 d2 d3 p0 p1 p2 p3 v0 z1 z2 z3 z4 z5 z6 z7 z8 z9 z10 z11 z12 z13 z14 z15 z16 z17 z18 z19 z20 z21 z22 z23 z24 z25 z26 z27 z28 z29 z30 z31 z32 z33 z34 z35 z36 t0 l0 c0 x_oldestSaved x_savedStates d_columns d_rows d_carrier d_partMarks d_linkMarks d_operations d_pilots d_settings d_facts d_cells p_pitches p_spoiled p_cells p_bends p_offsets p_strokes p_goodParts p_badParts p_slugs s_S u2 u3 u4 hg)) (gwV lk_54a9e5c6 lk_dd34ac34 lk_369f0a84 lk_5f14f758 lk_28293ef5) rfl hvX5_save ⟨rfl, rfl⟩ ⟨Nat.le_of_ble_eq_true rfl, Nat.le_of_ble_eq_true rfl⟩ ⟨Nat.zero_le _, Nat.zero_le _⟩ rfl rfl (Nat.le_of_ble_eq_true rfl) 0 rfl vc5 rfl ?_
      refine sw_aload_n 50 G dX5_setStation_50 0 rfl ?_
      refine sw_get 51 G hnX5 0 0 dX5_setStation_51 vc5 (by decide) (List.mem_cons_of_mem _ lk_c6576e33) rfl rfl ?_
      refine sw_get 54 G hnX4 1 0 dX5_setStation_54 vc4 (by decide) (List.mem_cons_of_mem _ lk_b490f9e6) rfl rfl ?_
      refine sw_iload_n 57 G dX5_setStation_57 1 rfl ?_
      refine sw_bipush 58 G (6 : Int32) dX5_setStation_58 rfl ?_
      obtain ⟨r5, hg, hf⟩ := bd1_some hf
      refine sw_callVW 60 G 2 dX5_setStation_60 (Fn.q_xndps_d _ _ _ _ _ _ (kX1_fact Θ d0 d1 d2 d3 d_columns d_rows d_carrier d_partMarks d_linkMarks d_operations d_pilots d_settings d_facts d_cells a0 (6 : Int32) r5 hg)) (gwV lk_7da35f5b lk_e025dfb3 lk_773339a1 lk_cf66e99d lk_334ef9fb) rfl hvX1_fact ⟨rfl, rfl⟩ ⟨Nat.le_of_ble_eq_true rfl, Nat.le_of_ble_eq_true rfl⟩ ⟨Nat.zero_le _, Nat.zero_le _⟩ rfl rfl (Nat.le_of_ble_eq_true rfl) 2 rfl vc1 rfl ?_
      refine sw_istore_n 63 G [(3, .int r5), (0, .ref x0), (1, .int a0), (2, .int a1)] dX5_setStation_63 (by decide) rfl ?_
      refine sw_aload_n 64 G dX5_setStation_64 1 rfl ?_
      refine sw_get 65 G hnX5 0 0 dX5_setStation_65 vc5 (by decide) (List.mem_cons_of_mem _ lk_c6576e33) rfl rfl ?_
      refine sw_get 68 G hnX4 1 0 dX5_setStation_68 vc4 (by decide) (List.mem_cons_of_mem _ lk_b490f9e6) rfl rfl ?_
      refine sw_iload_n 71 G dX5_setStation_71 2 rfl ?_
      refine sw_bipush 72 G (6 : Int32) dX5_setStation_72 rfl ?_
      refine sw_iload_n 74 G dX5_setStation_74 3 rfl ?_
      obtain ⟨u6, hg, hf⟩ := bd1_some hf
      refine sw_callVW 75 G 3 dX5_setStation_75 (Fn.q_xndps_d _ _ _ _ _ _ (kX1_changeFact Θ d0 d1 d2 d3 d_columns d_rows d_carrier d_partMarks d_linkMarks d_operations d_pilots d_settings d_facts d_cells a0 (6 : Int32) a1 u6 hg)) (gwV lk_27c946b1 lk_96ca5489 lk_0b461f27 lk_cf66e99d lk_e5cced47) rfl hvX1_changeFact ⟨rfl, rfl⟩ ⟨Nat.le_of_ble_eq_true rfl, Nat.le_of_ble_eq_true rfl⟩ ⟨Nat.zero_le _, Nat.zero_le _⟩ rfl rfl (Nat.le_of_ble_eq_true rfl) 2 rfl vc1 rfl ?_
      refine sw_iload_n 78 G dX5_setStation_78 0 rfl ?_
      cases hf
      exact sw_iret 79 G dX5_setStation_79 K
    · refine sw_iload_n 29 G dX5_setStation_29 2 rfl ?_
      obtain ⟨r7, hg, hf⟩ := bd1_some hf
      refine sw_callSW 30 G 1 dX5_setStation_30 (Fn.q_xndps_ _ _ _ _ _ (kX5_isStation Θ a1 r7 hg)) (gwS lk_e51f5f2c lk_69b39882 lk_01b5d93a lk_08337533) rfl hsX5_isStation ⟨rfl, rfl⟩ ⟨Nat.le_of_ble_eq_true rfl, Nat.le_of_ble_eq_true rfl⟩ ⟨Nat.zero_le _, Nat.zero_le _⟩ rfl rfl (Nat.le_of_ble_eq_true rfl) ?_
      refine sw_if_ne 33 46 G dX5_setStation_33 rfl hf (fun hf => ?_) (fun hf => ?_)
      · refine sw_aload_n 46 G dX5_setStation_46 0 rfl ?_
        obtain ⟨u8, u9, u10, hg, hf⟩ := bd3_some hf
        refine sw_callVW 47 G 0 dX5_setStation_47 (Fn.q_xndps_xndps _ _ _ _ _ _ _ _ _ _ (kX5_save Θ x0 n0 d0 d1 d2 d3 p0 p1 p2 p3 v0 z1 z2 z3 z4 z5 z6 z7 z8 z9 z10 z11 z12 z13 z14 z15 z16 z17 z18 z19 z20 z21 z22 z23 z24 z25 z26 z27 z28 z29 z30 z31 z32 z33 z34 z35 z36 t0 l0 c0 x_oldestSaved x_savedStates d_columns d_rows d_carrier d_partMarks d_linkMarks d_operations d_pilots d_settings d_facts d_cells p_pitches p_spoiled p_cells p_bends p_offsets p_strokes p_goodParts p_badParts p_slugs s_S u8 u9 u10 hg)) (gwV lk_54a9e5c6 lk_dd34ac34 lk_369f0a84 lk_5f14f758 lk_28293ef5) rfl hvX5_save ⟨rfl, rfl⟩ ⟨Nat.le_of_ble_eq_true rfl, Nat.le_of_ble_eq_true rfl⟩ ⟨Nat.zero_le _, Nat.zero_le _⟩ rfl rfl (Nat.le_of_ble_eq_true rfl) 0 rfl vc5 rfl ?_
        refine sw_aload_n 50 G dX5_setStation_50 0 rfl ?_
        refine sw_get 51 G hnX5 0 0 dX5_setStation_51 vc5 (by decide) (List.mem_cons_of_mem _ lk_c6576e33) rfl rfl ?_
        refine sw_get 54 G hnX4 1 0 dX5_setStation_54 vc4 (by decide) (List.mem_cons_of_mem _ lk_b490f9e6) rfl rfl ?_
        refine sw_iload_n 57 G dX5_setStation_57 1 rfl ?_
        refine sw_bipush 58 G (6 : Int32) dX5_setStation_58 rfl ?_
        obtain ⟨r11, hg, hf⟩ := bd1_some hf
        refine sw_callVW 60 G 2 dX5_setStation_60 (Fn.q_xndps_d _ _ _ _ _ _ (kX1_fact Θ d0 d1 d2 d3 d_columns d_rows d_carrier d_partMarks d_linkMarks d_operations d_pilots d_settings d_facts d_cells a0 (6 : Int32) r11 hg)) (gwV lk_7da35f5b lk_e025dfb3 lk_773339a1 lk_cf66e99d lk_334ef9fb) rfl hvX1_fact ⟨rfl, rfl⟩ ⟨Nat.le_of_ble_eq_true rfl, Nat.le_of_ble_eq_true rfl⟩ ⟨Nat.zero_le _, Nat.zero_le _⟩ rfl rfl (Nat.le_of_ble_eq_true rfl) 2 rfl vc1 rfl ?_
        refine sw_istore_n 63 G [(3, .int r11), (0, .ref x0), (1, .int a0), (2, .int a1)] dX5_setStation_63 (by decide) rfl ?_
        refine sw_aload_n 64 G dX5_setStation_64 1 rfl ?_
        refine sw_get 65 G hnX5 0 0 dX5_setStation_65 vc5 (by decide) (List.mem_cons_of_mem _ lk_c6576e33) rfl rfl ?_
        refine sw_get 68 G hnX4 1 0 dX5_setStation_68 vc4 (by decide) (List.mem_cons_of_mem _ lk_b490f9e6) rfl rfl ?_
        refine sw_iload_n 71 G dX5_setStation_71 2 rfl ?_
        refine sw_bipush 72 G (6 : Int32) dX5_setStation_72 rfl ?_
        refine sw_iload_n 74 G dX5_setStation_74 3 rfl ?_
        obtain ⟨u12, hg, hf⟩ := bd1_some hf
        refine sw_callVW 75 G 3 dX5_setStation_75 (Fn.q_xndps_d _ _ _ _ _ _ (kX1_changeFact Θ d0 d1 d2 d3 d_columns d_rows d_carrier d_partMarks d_linkMarks d_operations d_pilots d_settings d_facts d_cells a0 (6 : Int32) a1 u12 hg)) (gwV lk_27c946b1 lk_96ca5489 lk_0b461f27 lk_cf66e99d lk_e5cced47) rfl hvX1_changeFact ⟨rfl, rfl⟩ ⟨Nat.le_of_ble_eq_true rfl, Nat.le_of_ble_eq_true rfl⟩ ⟨Nat.zero_le _, Nat.zero_le _⟩ rfl rfl (Nat.le_of_ble_eq_true rfl) 2 rfl vc1 rfl ?_
        refine sw_iload_n 78 G dX5_setStation_78 0 rfl ?_
        cases hf
        exact sw_iret 79 G dX5_setStation_79 K
      · cases hf
  · cases hf
