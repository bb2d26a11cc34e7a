abbrev rmX3_copyFrom : Room := { frames := 1, cells := 0, slots := 0, locals := 22 }
theorem hvX3_copyFrom : yX3_copyFrom.cls = RX3 ∧ yX3_copyFrom.cls ≠ "java/lang/invoke/MethodHandle" ∧ yX3_copyFrom.cls ≠ "java/lang/invoke/VarHandle" ∧ (parseMethodDescriptor yX3_copyFrom.desc).map (fun d => d.parameters.length) = some 1 := by decide +kernel
set_option maxRecDepth 100000 in
set_option maxHeartbeats 4000000 in
theorem kX3_copyFrom (Θ : Tht) (F : Nat) (p0 p1 p2 p3 o0 o1 o2 o3 : Nat) (p_pitches : Int32) (p_spoiled : Int32) (p_cells : Nat → Int64) (p_bends : Nat → Int32) (p_offsets : Nat → Int32) (p_strokes : Int32) (p_goodParts : Int32) (p_badParts : Int32) (p_slugs : Int32) (o_pitches : Int32) (o_spoiled : Int32) (o_cells : Nat → Int64) (o_bends : Nat → Int32) (o_offsets : Nat → Int32) (o_strokes : Int32) (o_goodParts : Int32) (o_badParts : Int32) (o_slugs : Int32) (o_p_pitches : Int32) (o_p_spoiled : Int32) (o_p_cells : Nat → Int64) (o_p_bends : Nat → Int32) (o_p_offsets : Nat → Int32) (o_p_strokes : Int32) (o_p_goodParts : Int32) (o_p_badParts : Int32) (o_p_slugs : Int32) (hf : fX3_copyFrom F p_cells p_bends p_offsets o_pitches o_spoiled o_cells o_bends o_offsets o_strokes o_goodParts o_badParts o_slugs = some (o_p_pitches, o_p_spoiled, o_p_cells, o_p_bends, o_p_offsets, o_p_strokes, o_p_goodParts, o_p_badParts, o_p_slugs)) : Fn Θ yX3_copyFrom (Cond.code yX3_copyFrom cX3_copyFrom 2 none :: GW) rmX3_copyFrom [.ref p0, .ref o0] (wX3 Θ p0 p1 p2 p3 p_pitches p_spoiled p_cells p_bends p_offsets p_strokes p_goodParts p_badParts p_slugs ++ wX3 Θ o0 o1 o2 o3 o_pitches o_spoiled o_cells o_bends o_offsets o_strokes o_goodParts o_badParts o_slugs) none (wX3 Θ p0 p1 p2 p3 o_p_pitches o_p_spoiled o_p_cells o_p_bends o_p_offsets o_p_strokes o_p_goodParts o_p_badParts o_p_slugs ++ wX3 Θ o0 o1 o2 o3 o_pitches o_spoiled o_cells o_bends o_offsets o_strokes o_goodParts o_badParts o_slugs) := by
  delta fX3_copyFrom at hf
  refine Fn.of (by decide +kernel) rfl (Nat.le_of_ble_eq_true rfl) (fun p e s m args below meth c A Q G K => ?_)
  show sw Θ p e rmX3_copyFrom s m args below meth c A Q 2 0 0 0 [(0, .ref p0), (1, .ref o0)] [] (wX3 Θ p0 p1 p2 p3 p_pitches p_spoiled p_cells p_bends p_offsets p_strokes p_goodParts p_badParts p_slugs ++ wX3 Θ o0 o1 o2 o3 o_pitches o_spoiled o_cells o_bends o_offsets o_strokes o_goodParts o_badParts o_slugs)
  refine sw_aload_n 0 G dX3_copyFrom_0 0 rfl ?_
  refine sw_aload_n 1 G dX3_copyFrom_1 1 rfl ?_
  refine sw_get 2 G hnX3 4 0 dX3_copyFrom_2 vc3 (by decide) (List.mem_cons_of_mem _ lk_25c1e955) rfl rfl ?_
  refine sw_put 5 G hnX3 tyX3_ok nmX3 0 0 (wX3 Θ p0 p1 p2 p3 o_pitches p_spoiled p_cells p_bends p_offsets p_strokes p_goodParts p_badParts p_slugs ++ wX3 Θ o0 o1 o2 o3 o_pitches o_spoiled o_cells o_bends o_offsets o_strokes o_goodParts o_badParts o_slugs) dX3_copyFrom_5 vc3 (by decide) (List.mem_cons_of_mem _ lk_25c1e955) rfl rfl (Nat.le_of_ble_eq_true rfl) (tyX3_ok 0 (by decide)) rfl rfl rfl ?_
  refine sw_aload_n 8 G dX3_copyFrom_8 0 rfl ?_
  refine sw_aload_n 9 G dX3_copyFrom_9 1 rfl ?_
  refine sw_get 10 G hnX3 4 1 dX3_copyFrom_10 vc3 (by decide) (List.mem_cons_of_mem _ lk_731f9edd) rfl rfl ?_
  refine sw_put 13 G hnX3 tyX3_ok nmX3 0 1 (wX3 Θ p0 p1 p2 p3 o_pitches o_spoiled p_cells p_bends p_offsets p_strokes p_goodParts p_badParts p_slugs ++ wX3 Θ o0 o1 o2 o3 o_pitches o_spoiled o_cells o_bends o_offsets o_strokes o_goodParts o_badParts o_slugs) dX3_copyFrom_13 vc3 (by decide) (List.mem_cons_of_mem _ lk_731f9edd) rfl rfl (Nat.le_of_ble_eq_true rfl) (tyX3_ok 1 (by decide)) rfl rfl rfl ?_
  refine sw_aload_n 16 G dX3_copyFrom_16 1 rfl ?_
  refine sw_get 17 G hnX3 4 2 dX3_copyFrom_17 vc3 (by decide) (List.mem_cons_of_mem _ lk_6e4be49b) rfl rfl ?_
  refine sw_aload_n 20 G dX3_copyFrom_20 0 rfl ?_
  refine sw_get 21 G hnX3 0 2 dX3_copyFrom_21 vc3 (by decide) (List.mem_cons_of_mem _ lk_6e4be49b) rfl rfl ?_
  obtain ⟨u1, hg, hf⟩ := bd1_some hf
  refine sw_callSN 24 G (wX3 Θ p0 p1 p2 p3 o_pitches o_spoiled u1 p_bends p_offsets p_strokes p_goodParts p_badParts p_slugs ++ wX3 Θ o0 o1 o2 o3 o_pitches o_spoiled o_cells o_bends o_offsets o_strokes o_goodParts o_badParts o_slugs) [5, 1] [0, 2, 3, 4, 6, 7] [0, 7, 1, 2, 3, 6, 4, 5] 2 dX3_copyFrom_24 (kX5_copyLongs Θ F o1 p1 9 9 o_cells p_cells u1 hg) (gwN lk_aeba33e1) (List.mem_of_getElem? (i := 8) rfl) (List.mem_cons_of_mem _ lk_aa7a931f) (List.mem_cons_of_mem _ lk_4c9912ca) rfl hsX5_copyLongs ⟨rfl, rfl⟩ ⟨Nat.le_of_ble_eq_true rfl, Nat.le_of_ble_eq_true rfl⟩ ⟨Nat.zero_le _, Nat.zero_le _⟩ rfl rfl (Nat.le_of_ble_eq_true rfl) rfl rfl rfl (by decide) ?_
  refine sw_aload_n 27 G dX3_copyFrom_27 1 rfl ?_
  refine sw_get 28 G hnX3 4 3 dX3_copyFrom_28 vc3 (by decide) (List.mem_cons_of_mem _ lk_9393079b) rfl rfl ?_
  refine sw_aload_n 31 G dX3_copyFrom_31 0 rfl ?_
  refine sw_get 32 G hnX3 0 3 dX3_copyFrom_32 vc3 (by decide) (List.mem_cons_of_mem _ lk_9393079b) rfl rfl ?_
  obtain ⟨u2, hg, hf⟩ := bd1_some hf
  refine sw_callSN 35 G (wX3 Θ p0 p1 p2 p3 o_pitches o_spoiled u1 u2 p_offsets p_strokes p_goodParts p_badParts p_slugs ++ wX3 Θ o0 o1 o2 o3 o_pitches o_spoiled o_cells o_bends o_offsets o_strokes o_goodParts o_badParts o_slugs) [6, 2] [0, 1, 3, 4, 5, 7] [0, 1, 7, 2, 3, 4, 6, 5] 2 dX3_copyFrom_35 (kX5_copyInts Θ F o2 p2 9 9 o_bends p_bends u2 hg) (gwN lk_73dda350) (List.mem_of_getElem? (i := 9) rfl) (List.mem_cons_of_mem _ lk_c5872254) (List.mem_cons_of_mem _ lk_8ee2523c) rfl hsX5_copyInts ⟨rfl, rfl⟩ ⟨Nat.le_of_ble_eq_true rfl, Nat.le_of_ble_eq_true rfl⟩ ⟨Nat.zero_le _, Nat.zero_le _⟩ rfl rfl (Nat.le_of_ble_eq_true rfl) rfl rfl rfl (by decide) ?_
  refine sw_aload_n 38 G dX3_copyFrom_38 1 rfl ?_
  refine sw_get 39 G hnX3 4 4 dX3_copyFrom_39 vc3 (by decide) (List.mem_cons_of_mem _ lk_bcc7f147) rfl rfl ?_
  refine sw_aload_n 42 G dX3_copyFrom_42 0 rfl ?_
  refine sw_get 43 G hnX3 0 4 dX3_copyFrom_43 vc3 (by decide) (List.mem_cons_of_mem _ lk_bcc7f147) rfl rfl ?_
  obtain ⟨u3, hg, hf⟩ := bd1_some hf
  refine sw_callSN 46 G (wX3 Θ p0 p1 p2 p3 o_pitches o_spoiled u1 u2 u3 p_strokes p_goodParts p_badParts p_slugs ++ wX3 Θ o0 o1 o2 o3 o_pitches o_spoiled o_cells o_bends o_offsets o_strokes o_goodParts o_badParts o_slugs) [7, 3] [0, 1, 2, 4, 5, 6] [0, 1, 2, 7, 3, 4, 5, 6] 2 dX3_copyFrom_46 (kX5_copyInts Θ F o3 p3 9 9 o_offsets p_offsets u3 hg) (gwN lk_73dda350) (List.mem_of_getElem? (i := 9) rfl) (List.mem_cons_of_mem _ lk_c5872254) (List.mem_cons_of_mem _ lk_8ee2523c) rfl hsX5_copyInts ⟨rfl, rfl⟩ ⟨Nat.le_of_ble_eq_true rfl, Nat.le_of_ble_eq_true rfl⟩ ⟨Nat.zero_le _, Nat.zero_le _⟩ rfl rfl (Nat.le_of_ble_eq_true rfl) rfl rfl rfl (by decide) ?_
  refine sw_aload_n 49 G dX3_copyFrom_49 0 rfl ?_
  refine sw_aload_n 50 G dX3_copyFrom_50 1 rfl ?_
  refine sw_get 51 G hnX3 4 5 dX3_copyFrom_51 vc3 (by decide) (List.mem_cons_of_mem _ lk_7185157a) rfl rfl ?_
  refine sw_put 54 G hnX3 tyX3_ok nmX3 0 5 (wX3 Θ p0 p1 p2 p3 o_pitches o_spoiled u1 u2 u3 o_strokes p_goodParts p_badParts p_slugs ++ wX3 Θ o0 o1 o2 o3 o_pitches o_spoiled o_cells o_bends o_offsets o_strokes o_goodParts o_badParts o_slugs) dX3_copyFrom_54 vc3 (by decide) (List.mem_cons_of_mem _ lk_7185157a) rfl rfl (Nat.le_of_ble_eq_true rfl) (tyX3_ok 5 (by decide)) rfl rfl rfl ?_
  refine sw_aload_n 57 G dX3_copyFrom_57 0 rfl ?_
  refine sw_aload_n 58 G dX3_copyFrom_58 1 rfl ?_
  refine sw_get 59 G hnX3 4 6 dX3_copyFrom_59 vc3 (by decide) (List.mem_cons_of_mem _ lk_123d7bc8) rfl rfl ?_
  refine sw_put 62 G hnX3 tyX3_ok nmX3 0 6 (wX3 Θ p0 p1 p2 p3 o_pitches o_spoiled u1 u2 u3 o_strokes o_goodParts p_badParts p_slugs ++ wX3 Θ o0 o1 o2 o3 o_pitches o_spoiled o_cells o_bends o_offsets o_strokes o_goodParts o_badParts o_slugs) dX3_copyFrom_62 vc3 (by decide) (List.mem_cons_of_mem _ lk_123d7bc8) rfl rfl (Nat.le_of_ble_eq_true rfl) (tyX3_ok 6 (by decide)) rfl rfl rfl ?_
  refine sw_aload_n 65 G dX3_copyFrom_65 0 rfl ?_
  refine sw_aload_n 66 G dX3_copyFrom_66 1 rfl ?_
  refine sw_get 67 G hnX3 4 7 dX3_copyFrom_67 vc3 (by decide) (List.mem_cons_of_mem _ lk_0f797579) rfl rfl ?_
  refine sw_put 70 G hnX3 tyX3_ok nmX3 0 7 (wX3 Θ p0 p1 p2 p3 o_pitches o_spoiled u1 u2 u3 o_strokes o_goodParts o_badParts p_slugs ++ wX3 Θ o0 o1 o2 o3 o_pitches o_spoiled o_cells o_bends o_offsets o_strokes o_goodParts o_badParts o_slugs) dX3_copyFrom_70 vc3 (by decide) (List.mem_cons_of_mem _ lk_0f797579) rfl rfl (Nat.le_of_ble_eq_true rfl) (tyX3_ok 7 (by decide)) rfl rfl rfl ?_
  refine sw_aload_n 73 G dX3_copyFrom_73 0 rfl ?_
  refine sw_aload_n 74 G dX3_copyFrom_74 1 rfl ?_
  refine sw_get 75 G hnX3 4 8 dX3_copyFrom_75 vc3 (by decide) (List.mem_cons_of_mem _ lk_f0cdd896) rfl rfl ?_
  refine sw_put 78 G hnX3 tyX3_ok nmX3 0 8 (wX3 Θ p0 p1 p2 p3 o_pitches o_spoiled u1 u2 u3 o_strokes o_goodParts o_badParts o_slugs ++ wX3 Θ o0 o1 o2 o3 o_pitches o_spoiled o_cells o_bends o_offsets o_strokes o_goodParts o_badParts o_slugs) dX3_copyFrom_78 vc3 (by decide) (List.mem_cons_of_mem _ lk_f0cdd896) rfl rfl (Nat.le_of_ble_eq_true rfl) (tyX3_ok 8 (by decide)) rfl rfl rfl ?_
  cases hf
  exact sw_vret 81 G dX3_copyFrom_81 K
abbrev rmX3_clearPitches : Room := { frames := 1, cells := 0, slots := 0, locals := 20 }
theorem hvX3_clearPitches : yX3_clearPitches.cls = RX3 ∧ yX3_clearPitches.cls ≠ "java/lang/invoke/MethodHandle" ∧ yX3_clearPitches.cls ≠ "java/lang/invoke/VarHandle" ∧ (parseMethodDescriptor yX3_clearPitches.desc).map (fun d => d.parameters.length) = some 0 := by decide +kernel
set_option maxRecDepth 100000 in
set_option maxHeartbeats 4000000 in
theorem kX3_clearPitches (Θ : Tht) (p0 p1 p2 p3 : Nat) (p_pitches : Int32) (p_spoiled : Int32) (p_cells : Nat → Int64) (p_bends : Nat → Int32) (p_offsets : Nat → Int32) (p_strokes : Int32) (p_goodParts : Int32) (p_badParts : Int32) (p_slugs : Int32) (ro : Int32) (o_p_pitches : Int32) (o_p_spoiled : Int32) (hf : fX3_clearPitches p_pitches = some (ro, o_p_pitches, o_p_spoiled)) : Fn Θ yX3_clearPitches (Cond.code yX3_clearPitches cX3_clearPitches 2 (some .int) :: GW) rmX3_clearPitches [.ref p0] (wX3 Θ p0 p1 p2 p3 p_pitches p_spoiled p_cells p_bends p_offsets p_strokes p_goodParts p_badParts p_slugs) (some (.int ro)) (wX3 Θ p0 p1 p2 p3 o_p_pitches o_p_spoiled p_cells p_bends p_offsets p_strokes p_goodParts p_badParts p_slugs) := by
  delta fX3_clearPitches at hf
  refine Fn.of (by decide +kernel) rfl (Nat.le_of_ble_eq_true rfl) (fun p e s m args below meth c A Q G K => ?_)
  show sw Θ p e rmX3_clearPitches s m args below meth c A Q 2 0 0 0 [(0, .ref p0)] [] (wX3 Θ p0 p1 p2 p3 p_pitches p_spoiled p_cells p_bends p_offsets p_strokes p_goodParts p_badParts p_slugs)
  refine sw_aload_n 0 G dX3_clearPitches_0 0 rfl ?_
  refine sw_get 1 G hnX3 0 0 dX3_clearPitches_1 vc3 (by decide) (List.mem_cons_of_mem _ lk_25c1e955) rfl rfl ?_
  obtain ⟨r1, hg, hf⟩ := bd1_some hf
  refine sw_callS 4 G (wX3 Θ p0 p1 p2 p3 p_pitches p_spoiled p_cells p_bends p_offsets p_strokes p_goodParts p_badParts p_slugs) [] [0, 1, 2, 3] [0, 1, 2, 3] 1 dX3_clearPitches_4 (kJ6_bitCount_0f7a4 Θ p_pitches r1 hg) (gwS lk_bd15cd69 lk_d625a12f lk_2df2c76b lk_723f897f) rfl hsJ6_bitCount_0f7a4 ⟨rfl, rfl⟩ ⟨Nat.le_of_ble_eq_true rfl, Nat.le_of_ble_eq_true rfl⟩ ⟨Nat.zero_le _, Nat.zero_le _⟩ rfl rfl (Nat.le_of_ble_eq_true rfl) rfl rfl rfl (by decide) ?_
  refine sw_istore_n 7 G [(1, .int r1), (0, .ref p0)] dX3_clearPitches_7 (by decide) rfl ?_
  refine sw_aload_n 8 G dX3_clearPitches_8 1 rfl ?_
  refine sw_iconst 9 G (0 : Int32) dX3_clearPitches_9 rfl ?_
  refine sw_put 10 G hnX3 tyX3_ok nmX3 0 0 (wX3 Θ p0 p1 p2 p3 (0 : Int32) p_spoiled p_cells p_bends p_offsets p_strokes p_goodParts p_badParts p_slugs) dX3_clearPitches_10 vc3 (by decide) (List.mem_cons_of_mem _ lk_25c1e955) rfl rfl (Nat.le_of_ble_eq_true rfl) (tyX3_ok 0 (by decide)) rfl rfl rfl ?_
  refine sw_aload_n 13 G dX3_clearPitches_13 1 rfl ?_
  refine sw_iconst 14 G (0 : Int32) dX3_clearPitches_14 rfl ?_
  refine sw_put 15 G hnX3 tyX3_ok nmX3 0 1 (wX3 Θ p0 p1 p2 p3 (0 : Int32) (0 : Int32) p_cells p_bends p_offsets p_strokes p_goodParts p_badParts p_slugs) dX3_clearPitches_15 vc3 (by decide) (List.mem_cons_of_mem _ lk_731f9edd) rfl rfl (Nat.le_of_ble_eq_true rfl) (tyX3_ok 1 (by decide)) rfl rfl rfl ?_
  refine sw_iload_n 18 G dX3_clearPitches_18 0 rfl ?_
  cases hf
  exact sw_iret 19 G dX3_clearPitches_19 K
abbrev rmX3_startOver : Room := { frames := 2, cells := 0, slots := 0, locals := 41 }
theorem hvX3_startOver : yX3_startOver.cls = RX3 ∧ yX3_startOver.cls ≠ "java/lang/invoke/MethodHandle" ∧ yX3_startOver.cls ≠ "java/lang/invoke/VarHandle" ∧ (parseMethodDescriptor yX3_startOver.desc).map (fun d => d.parameters.length) = some 0 := by decide +kernel
set_option maxRecDepth 100000 in
set_option maxHeartbeats 4000000 in
theorem kX3_startOver (Θ : Tht) (p0 p1 p2 p3 : Nat) (p_pitches : Int32) (p_spoiled : Int32) (p_cells : Nat → Int64) (p_bends : Nat → Int32) (p_offsets : Nat → Int32) (p_strokes : Int32) (p_goodParts : Int32) (p_badParts : Int32) (p_slugs : Int32) (o_p_pitches : Int32) (o_p_spoiled : Int32) (o_p_strokes : Int32) (o_p_goodParts : Int32) (o_p_badParts : Int32) (o_p_slugs : Int32) (hf : fX3_startOver p_pitches = some (o_p_pitches, o_p_spoiled, o_p_strokes, o_p_goodParts, o_p_badParts, o_p_slugs)) : Fn Θ yX3_startOver (Cond.code yX3_startOver cX3_startOver 1 none :: GW) rmX3_startOver [.ref p0] (wX3 Θ p0 p1 p2 p3 p_pitches p_spoiled p_cells p_bends p_offsets p_strokes p_goodParts p_badParts p_slugs) none (wX3 Θ p0 p1 p2 p3 o_p_pitches o_p_spoiled p_cells p_bends p_offsets o_p_strokes o_p_goodParts o_p_badParts o_p_slugs) := by
  delta fX3_startOver at hf
  refine Fn.of (by decide +kernel) rfl (Nat.le_of_ble_eq_true rfl) (fun p e s m args below meth c A Q G K => ?_)
  show sw Θ p e rmX3_startOver s m args below meth c A Q 1 0 0 0 [(0, .ref p0)] [] (wX3 Θ p0 p1 p2 p3 p_pitches p_spoiled p_cells p_bends p_offsets p_strokes p_goodParts p_badParts p_slugs)
  refine sw_aload_n 0 G dX3_startOver_0 0 rfl ?_
  obtain ⟨r1, u2, u3, hg, hf⟩ := bd3_some hf
  refine sw_callV 1 G (wX3 Θ p0 p1 p2 p3 u2 u3 p_cells p_bends p_offsets p_strokes p_goodParts p_badParts p_slugs) [0, 1, 2, 3] [] [0, 1, 2, 3] 0 dX3_startOver_1 (kX3_clearPitches Θ p0 p1 p2 p3 p_pitches p_spoiled p_cells p_bends p_offsets p_strokes p_goodParts p_badParts p_slugs r1 u2 u3 hg) (gwV lk_e50ecb57 lk_fb801f58 lk_dab50d25 lk_106b7259 lk_628f4df5) rfl hvX3_clearPitches ⟨rfl, rfl⟩ ⟨Nat.le_of_ble_eq_true rfl, Nat.le_of_ble_eq_true rfl⟩ ⟨Nat.zero_le _, Nat.zero_le _⟩ rfl rfl (Nat.le_of_ble_eq_true rfl) 0 rfl vc3 rfl rfl rfl rfl (by decide) ?_
  refine sw_pop 4 G dX3_startOver_4 rfl ?_
  refine sw_aload_n 5 G dX3_startOver_5 0 rfl ?_
  refine sw_iconst 6 G (0 : Int32) dX3_startOver_6 rfl ?_
  refine sw_put 7 G hnX3 tyX3_ok nmX3 0 5 (wX3 Θ p0 p1 p2 p3 u2 u3 p_cells p_bends p_offsets (0 : Int32) p_goodParts p_badParts p_slugs) dX3_startOver_7 vc3 (by decide) (List.mem_cons_of_mem _ lk_7185157a) rfl rfl (Nat.le_of_ble_eq_true rfl) (tyX3_ok 5 (by decide)) rfl rfl rfl ?_
  refine sw_aload_n 10 G dX3_startOver_10 0 rfl ?_
  refine sw_iconst 11 G (0 : Int32) dX3_startOver_11 rfl ?_
  refine sw_put 12 G hnX3 tyX3_ok nmX3 0 6 (wX3 Θ p0 p1 p2 p3 u2 u3 p_cells p_bends p_offsets (0 : Int32) (0 : Int32) p_badParts p_slugs) dX3_startOver_12 vc3 (by decide) (List.mem_cons_of_mem _ lk_123d7bc8) rfl rfl (Nat.le_of_ble_eq_true rfl) (tyX3_ok 6 (by decide)) rfl rfl rfl ?_
  refine sw_aload_n 15 G dX3_startOver_15 0 rfl ?_
  refine sw_iconst 16 G (0 : Int32) dX3_startOver_16 rfl ?_
  refine sw_put 17 G hnX3 tyX3_ok nmX3 0 7 (wX3 Θ p0 p1 p2 p3 u2 u3 p_cells p_bends p_offsets (0 : Int32) (0 : Int32) (0 : Int32) p_slugs) dX3_startOver_17 vc3 (by decide) (List.mem_cons_of_mem _ lk_0f797579) rfl rfl (Nat.le_of_ble_eq_true rfl) (tyX3_ok 7 (by decide)) rfl rfl rfl ?_
  refine sw_aload_n 20 G dX3_startOver_20 0 rfl ?_
  refine sw_iconst 21 G (0 : Int32) dX3_startOver_21 rfl ?_
  refine sw_put 22 G hnX3 tyX3_ok nmX3 0 8 (wX3 Θ p0 p1 p2 p3 u2 u3 p_cells p_bends p_offsets (0 : Int32) (0 : Int32) (0 : Int32) (0 : Int32)) dX3_startOver_22 vc3 (by decide) (List.mem_cons_of_mem _ lk_f0cdd896) rfl rfl (Nat.le_of_ble_eq_true rfl) (tyX3_ok 8 (by decide)) rfl rfl rfl ?_
  cases hf
  exact sw_vret 25 G dX3_startOver_25 K
abbrev rmX3_hasPitch : Room := { frames := 1, cells := 0, slots := 0, locals := 21 }
theorem hvX3_hasPitch : yX3_hasPitch.cls = RX3 ∧ yX3_hasPitch.cls ≠ "java/lang/invoke/MethodHandle" ∧ yX3_hasPitch.cls ≠ "java/lang/invoke/VarHandle" ∧ (parseMethodDescriptor yX3_hasPitch.desc).map (fun d => d.parameters.length) = some 1 := by decide +kernel
set_option maxRecDepth 100000 in
set_option maxHeartbeats 4000000 in
theorem kX3_hasPitch (Θ : Tht) (p0 p1 p2 p3 : Nat) (p_pitches : Int32) (p_spoiled : Int32) (p_cells : Nat → Int64) (p_bends : Nat → Int32) (p_offsets : Nat → Int32) (p_strokes : Int32) (p_goodParts : Int32) (p_badParts : Int32) (p_slugs : Int32) (a0 : Int32) (ro : Int32) (hf : fX3_hasPitch p_pitches a0 = some ro) : Fn Θ yX3_hasPitch (Cond.code yX3_hasPitch cX3_hasPitch 2 (some .boolean) :: GW) rmX3_hasPitch [.ref p0, .int a0] (wX3 Θ p0 p1 p2 p3 p_pitches p_spoiled p_cells p_bends p_offsets p_strokes p_goodParts p_badParts p_slugs) (some (.int ro)) (wX3 Θ p0 p1 p2 p3 p_pitches p_spoiled p_cells p_bends p_offsets p_strokes p_goodParts p_badParts p_slugs) := by
  delta fX3_hasPitch at hf
  refine Fn.of (by decide +kernel) rfl (Nat.le_of_ble_eq_true rfl) (fun p e s m args below meth c A Q G K => ?_)
  show sw Θ p e rmX3_hasPitch s m args below meth c A Q 2 0 0 0 [(0, .ref p0), (1, .int a0)] [] (wX3 Θ p0 p1 p2 p3 p_pitches p_spoiled p_cells p_bends p_offsets p_strokes p_goodParts p_badParts p_slugs)
  refine sw_aload_n 0 G dX3_hasPitch_0 0 rfl ?_
  refine sw_get 1 G hnX3 0 0 dX3_hasPitch_1 vc3 (by decide) (List.mem_cons_of_mem _ lk_25c1e955) rfl rfl ?_
  refine sw_iload_n 4 G dX3_hasPitch_4 1 rfl ?_
  obtain ⟨r1, hg, hf⟩ := bd1_some hf
  refine sw_callSN 5 G (wX3 Θ p0 p1 p2 p3 p_pitches p_spoiled p_cells p_bends p_offsets p_strokes p_goodParts p_badParts p_slugs) [] [0, 1, 2, 3] [0, 1, 2, 3] 2 dX3_hasPitch_5 (kX5_isIn Θ p_pitches a0 r1 hg) (gwN lk_9805779a) (List.mem_of_getElem? (i := 11) rfl) (List.mem_cons_of_mem _ lk_17fb23dc) (List.mem_cons_of_mem _ lk_b26544b5) rfl hsX5_isIn ⟨rfl, rfl⟩ ⟨Nat.le_of_ble_eq_true rfl, Nat.le_of_ble_eq_true rfl⟩ ⟨Nat.zero_le _, Nat.zero_le _⟩ rfl rfl (Nat.le_of_ble_eq_true rfl) rfl rfl rfl (by decide) ?_
  obtain ⟨hz, hf⟩ := gb_some hf
  cases hf
  exact sw_zret 8 G dX3_hasPitch_8 K hz
abbrev rmX3_cellsAt : Room := { frames := 0, cells := 0, slots := 0, locals := 0 }
theorem hvX3_cellsAt : yX3_cellsAt.cls = RX3 ∧ yX3_cellsAt.cls ≠ "java/lang/invoke/MethodHandle" ∧ yX3_cellsAt.cls ≠ "java/lang/invoke/VarHandle" ∧ (parseMethodDescriptor yX3_cellsAt.desc).map (fun d => d.parameters.length) = some 1 := by decide +kernel
set_option maxRecDepth 100000 in
set_option maxHeartbeats 4000000 in
theorem kX3_cellsAt (Θ : Tht) (p0 p1 p2 p3 : Nat) (p_pitches : Int32) (p_spoiled : Int32) (p_cells : Nat → Int64) (p_bends : Nat → Int32) (p_offsets : Nat → Int32) (p_strokes : Int32) (p_goodParts : Int32) (p_badParts : Int32) (p_slugs : Int32) (a0 : Int32) (ro : Int64) (hf : fX3_cellsAt p_cells a0 = some ro) : Fn Θ yX3_cellsAt (Cond.code yX3_cellsAt cX3_cellsAt 2 (some .long) :: GW) rmX3_cellsAt [.ref p0, .int a0] (wX3 Θ p0 p1 p2 p3 p_pitches p_spoiled p_cells p_bends p_offsets p_strokes p_goodParts p_badParts p_slugs) (some (.long ro)) (wX3 Θ p0 p1 p2 p3 p_pitches p_spoiled p_cells p_bends p_offsets p_strokes p_goodParts p_badParts p_slugs) := by
  delta fX3_cellsAt at hf
  refine Fn.of (by decide +kernel) rfl (Nat.le_of_ble_eq_true rfl) (fun p e s m args below meth c A Q G K => ?_)
  show sw Θ p e rmX3_cellsAt s m args below meth c A Q 2 0 0 0 [(0, .ref p0), (1, .int a0)] [] (wX3 Θ p0 p1 p2 p3 p_pitches p_spoiled p_cells p_bends p_offsets p_strokes p_goodParts p_badParts p_slugs)
  refine sw_iload_n 0 G dX3_cellsAt_0 1 rfl ?_
  refine sw_if_lt 1 22 G dX3_cellsAt_1 rfl hf (fun hf => ?_) (fun hf => ?_)
  · refine sw_lconst 22 G (0 : Int64) dX3_cellsAt_22 rfl ?_
    cases hf
    exact sw_lret 23 G dX3_cellsAt_23 K
  · refine sw_iload_n 4 G dX3_cellsAt_4 1 rfl ?_
    refine sw_aload_n 5 G dX3_cellsAt_5 0 rfl ?_
    refine sw_get 6 G hnX3 0 2 dX3_cellsAt_6 vc3 (by decide) (List.mem_cons_of_mem _ lk_6e4be49b) rfl rfl ?_
    refine sw_alen 9 G 1 2 (9 : Int32) dX3_cellsAt_9 rfl rfl rfl ?_
    refine sw_icmp_ge 10 22 G dX3_cellsAt_10 rfl hf (fun hf => ?_) (fun hf => ?_)
    · refine sw_lconst 22 G (0 : Int64) dX3_cellsAt_22 rfl ?_
      cases hf
      exact sw_lret 23 G dX3_cellsAt_23 K
    · refine sw_aload_n 13 G dX3_cellsAt_13 0 rfl ?_
      refine sw_get 14 G hnX3 0 2 dX3_cellsAt_14 vc3 (by decide) (List.mem_cons_of_mem _ lk_6e4be49b) rfl rfl ?_
      refine sw_iload_n 17 G dX3_cellsAt_17 1 rfl ?_
      refine sw_lald 18 G 1 dX3_cellsAt_18 rfl hf (fun hf => ?_)
      refine sw_goto 19 G 23 dX3_cellsAt_19 rfl ?_
      cases hf
      exact sw_lret 23 G dX3_cellsAt_23 K
abbrev rmX3_bendsAt : Room := { frames := 0, cells := 0, slots := 0, locals := 0 }
theorem hvX3_bendsAt : yX3_bendsAt.cls = RX3 ∧ yX3_bendsAt.cls ≠ "java/lang/invoke/MethodHandle" ∧ yX3_bendsAt.cls ≠ "java/lang/invoke/VarHandle" ∧ (parseMethodDescriptor yX3_bendsAt.desc).map (fun d => d.parameters.length) = some 1 := by decide +kernel
set_option maxRecDepth 100000 in
set_option maxHeartbeats 4000000 in
theorem kX3_bendsAt (Θ : Tht) (p0 p1 p2 p3 : Nat) (p_pitches : Int32) (p_spoiled : Int32) (p_cells : Nat → Int64) (p_bends : Nat → Int32) (p_offsets : Nat → Int32) (p_strokes : Int32) (p_goodParts : Int32) (p_badParts : Int32) (p_slugs : Int32) (a0 : Int32) (ro : Int32) (hf : fX3_bendsAt p_bends a0 = some ro) : Fn Θ yX3_bendsAt (Cond.code yX3_bendsAt cX3_bendsAt 2 (some .int) :: GW) rmX3_bendsAt [.ref p0, .int a0] (wX3 Θ p0 p1 p2 p3 p_pitches p_spoiled p_cells p_bends p_offsets p_strokes p_goodParts p_badParts p_slugs) (some (.int ro)) (wX3 Θ p0 p1 p2 p3 p_pitches p_spoiled p_cells p_bends p_offsets p_strokes p_goodParts p_badParts p_slugs) := by
  delta fX3_bendsAt at hf
  refine Fn.of (by decide +kernel) rfl (Nat.le_of_ble_eq_true rfl) (fun p e s m args below meth c A Q G K => ?_)
  show sw Θ p e rmX3_bendsAt s m args below meth c A Q 2 0 0 0 [(0, .ref p0), (1, .int a0)] [] (wX3 Θ p0 p1 p2 p3 p_pitches p_spoiled p_cells p_bends p_offsets p_strokes p_goodParts p_badParts p_slugs)
  refine sw_iload_n 0 G dX3_bendsAt_0 1 rfl ?_
  refine sw_if_lt 1 22 G dX3_bendsAt_1 rfl hf (fun hf => ?_) (fun hf => ?_)
  · refine sw_iconst 22 G (0 : Int32) dX3_bendsAt_22 rfl ?_
    cases hf
    exact sw_iret 23 G dX3_bendsAt_23 K
  · refine sw_iload_n 4 G dX3_bendsAt_4 1 rfl ?_
    refine sw_aload_n 5 G dX3_bendsAt_5 0 rfl ?_
    refine sw_get 6 G hnX3 0 3 dX3_bendsAt_6 vc3 (by decide) (List.mem_cons_of_mem _ lk_9393079b) rfl rfl ?_
    refine sw_alen 9 G 2 1 (9 : Int32) dX3_bendsAt_9 rfl rfl rfl ?_
    refine sw_icmp_ge 10 22 G dX3_bendsAt_10 rfl hf (fun hf => ?_) (fun hf => ?_)
    · refine sw_iconst 22 G (0 : Int32) dX3_bendsAt_22 rfl ?_
      cases hf
      exact sw_iret 23 G dX3_bendsAt_23 K
    · refine sw_aload_n 13 G dX3_bendsAt_13 0 rfl ?_
      refine sw_get 14 G hnX3 0 3 dX3_bendsAt_14 vc3 (by decide) (List.mem_cons_of_mem _ lk_9393079b) rfl rfl ?_
      refine sw_iload_n 17 G dX3_bendsAt_17 1 rfl ?_
      refine sw_iald 18 G 2 dX3_bendsAt_18 rfl hf (fun hf => ?_)
      refine sw_goto 19 G 23 dX3_bendsAt_19 rfl ?_
      cases hf
      exact sw_iret 23 G dX3_bendsAt_23 K
abbrev rmX3_offsetAt : Room := { frames := 0, cells := 0, slots := 0, locals := 0 }
theorem hvX3_offsetAt : yX3_offsetAt.cls = RX3 ∧ yX3_offsetAt.cls ≠ "java/lang/invoke/MethodHandle" ∧ yX3_offsetAt.cls ≠ "java/lang/invoke/VarHandle" ∧ (parseMethodDescriptor yX3_offsetAt.desc).map (fun d => d.parameters.length) = some 1 := by decide +kernel
set_option maxRecDepth 100000 in
set_option maxHeartbeats 4000000 in
theorem kX3_offsetAt (Θ : Tht) (p0 p1 p2 p3 : Nat) (p_pitches : Int32) (p_spoiled : Int32) (p_cells : Nat → Int64) (p_bends : Nat → Int32) (p_offsets : Nat → Int32) (p_strokes : Int32) (p_goodParts : Int32) (p_badParts : Int32) (p_slugs : Int32) (a0 : Int32) (ro : Int32) (hf : fX3_offsetAt p_offsets a0 = some ro) : Fn Θ yX3_offsetAt (Cond.code yX3_offsetAt cX3_offsetAt 2 (some .int) :: GW) rmX3_offsetAt [.ref p0, .int a0] (wX3 Θ p0 p1 p2 p3 p_pitches p_spoiled p_cells p_bends p_offsets p_strokes p_goodParts p_badParts p_slugs) (some (.int ro)) (wX3 Θ p0 p1 p2 p3 p_pitches p_spoiled p_cells p_bends p_offsets p_strokes p_goodParts p_badParts p_slugs) := by
  delta fX3_offsetAt at hf
  refine Fn.of (by decide +kernel) rfl (Nat.le_of_ble_eq_true rfl) (fun p e s m args below meth c A Q G K => ?_)
  show sw Θ p e rmX3_offsetAt s m args below meth c A Q 2 0 0 0 [(0, .ref p0), (1, .int a0)] [] (wX3 Θ p0 p1 p2 p3 p_pitches p_spoiled p_cells p_bends p_offsets p_strokes p_goodParts p_badParts p_slugs)
  refine sw_iload_n 0 G dX3_offsetAt_0 1 rfl ?_
  refine sw_if_lt 1 22 G dX3_offsetAt_1 rfl hf (fun hf => ?_) (fun hf => ?_)
  · refine sw_iconst 22 G (0 : Int32) dX3_offsetAt_22 rfl ?_
    cases hf
    exact sw_iret 23 G dX3_offsetAt_23 K
  · refine sw_iload_n 4 G dX3_offsetAt_4 1 rfl ?_
    refine sw_aload_n 5 G dX3_offsetAt_5 0 rfl ?_
    refine sw_get 6 G hnX3 0 4 dX3_offsetAt_6 vc3 (by decide) (List.mem_cons_of_mem _ lk_bcc7f147) rfl rfl ?_
    refine sw_alen 9 G 3 1 (9 : Int32) dX3_offsetAt_9 rfl rfl rfl ?_
    refine sw_icmp_ge 10 22 G dX3_offsetAt_10 rfl hf (fun hf => ?_) (fun hf => ?_)
    · refine sw_iconst 22 G (0 : Int32) dX3_offsetAt_22 rfl ?_
      cases hf
      exact sw_iret 23 G dX3_offsetAt_23 K
    · refine sw_aload_n 13 G dX3_offsetAt_13 0 rfl ?_
      refine sw_get 14 G hnX3 0 4 dX3_offsetAt_14 vc3 (by decide) (List.mem_cons_of_mem _ lk_bcc7f147) rfl rfl ?_
      refine sw_iload_n 17 G dX3_offsetAt_17 1 rfl ?_
      refine sw_iald 18 G 3 dX3_offsetAt_18 rfl hf (fun hf => ?_)
      refine sw_goto 19 G 23 dX3_offsetAt_19 rfl ?_
      cases hf
      exact sw_iret 23 G dX3_offsetAt_23 K
abbrev rmX3_changePitch : Room := { frames := 0, cells := 0, slots := 0, locals := 0 }
theorem hvX3_changePitch : yX3_changePitch.cls = RX3 ∧ yX3_changePitch.cls ≠ "java/lang/invoke/MethodHandle" ∧ yX3_changePitch.cls ≠ "java/lang/invoke/VarHandle" ∧ (parseMethodDescriptor yX3_changePitch.desc).map (fun d => d.parameters.length) = some 4 := by decide +kernel
set_option maxRecDepth 100000 in
set_option maxHeartbeats 4000000 in
theorem kX3_changePitch (Θ : Tht) (p0 p1 p2 p3 : Nat) (p_pitches : Int32) (p_spoiled : Int32) (p_cells : Nat → Int64) (p_bends : Nat → Int32) (p_offsets : Nat → Int32) (p_strokes : Int32) (p_goodParts : Int32) (p_badParts : Int32) (p_slugs : Int32) (a0 : Int32) (a1 : Int64) (a2 : Int32) (a3 : Int32) (o_p_cells : Nat → Int64) (o_p_bends : Nat → Int32) (o_p_offsets : Nat → Int32) (hf : fX3_changePitch p_cells p_bends p_offsets a0 a1 a2 a3 = some (o_p_cells, o_p_bends, o_p_offsets)) : Fn Θ yX3_changePitch (Cond.code yX3_changePitch cX3_changePitch 6 none :: GW) rmX3_changePitch [.ref p0, .int a0, .long a1, .int a2, .int a3] (wX3 Θ p0 p1 p2 p3 p_pitches p_spoiled p_cells p_bends p_offsets p_strokes p_goodParts p_badParts p_slugs) none (wX3 Θ p0 p1 p2 p3 p_pitches p_spoiled o_p_cells o_p_bends o_p_offsets p_strokes p_goodParts p_badParts p_slugs) := by
  delta fX3_changePitch at hf
  refine Fn.of (by decide +kernel) rfl (Nat.le_of_ble_eq_true rfl) (fun p e s m args below meth c A Q G K => ?_)
  show sw Θ p e rmX3_changePitch s m args below meth c A Q 6 0 0 0 [(0, .ref p0), (1, .int a0), (2, .long a1), (4, .int a2), (5, .int a3)] [] (wX3 Θ p0 p1 p2 p3 p_pitches p_spoiled p_cells p_bends p_offsets p_strokes p_goodParts p_badParts p_slugs)
  refine sw_iload_n 0 G dX3_changePitch_0 1 rfl ?_
  refine sw_if_lt 1 54 G dX3_changePitch_1 rfl hf (fun hf => ?_) (fun hf => ?_)
  · cases hf
    exact sw_vret 54 G dX3_changePitch_54 K
  · refine sw_iload_n 4 G dX3_changePitch_4 1 rfl ?_
    refine sw_aload_n 5 G dX3_changePitch_5 0 rfl ?_
    refine sw_get 6 G hnX3 0 2 dX3_changePitch_6 vc3 (by decide) (List.mem_cons_of_mem _ lk_6e4be49b) rfl rfl ?_
    refine sw_alen 9 G 1 2 (9 : Int32) dX3_changePitch_9 rfl rfl rfl ?_
    refine sw_icmp_ge 10 54 G dX3_changePitch_10 rfl hf (fun hf => ?_) (fun hf => ?_)
    · cases hf
      exact sw_vret 54 G dX3_changePitch_54 K
    · refine sw_iload_n 13 G dX3_changePitch_13 1 rfl ?_
      refine sw_aload_n 14 G dX3_changePitch_14 0 rfl ?_
      refine sw_get 15 G hnX3 0 3 dX3_changePitch_15 vc3 (by decide) (List.mem_cons_of_mem _ lk_9393079b) rfl rfl ?_
      refine sw_alen 18 G 2 1 (9 : Int32) dX3_changePitch_18 rfl rfl rfl ?_
      refine sw_icmp_ge 19 54 G dX3_changePitch_19 rfl hf (fun hf => ?_) (fun hf => ?_)
      · cases hf
        exact sw_vret 54 G dX3_changePitch_54 K
      · refine sw_iload_n 22 G dX3_changePitch_22 1 rfl ?_
        refine sw_aload_n 23 G dX3_changePitch_23 0 rfl ?_
        refine sw_get 24 G hnX3 0 4 dX3_changePitch_24 vc3 (by decide) (List.mem_cons_of_mem _ lk_bcc7f147) rfl rfl ?_
        refine sw_alen 27 G 3 1 (9 : Int32) dX3_changePitch_27 rfl rfl rfl ?_
        refine sw_icmp_ge 28 54 G dX3_changePitch_28 rfl hf (fun hf => ?_) (fun hf => ?_)
        · cases hf
          exact sw_vret 54 G dX3_changePitch_54 K
        · refine sw_aload_n 31 G dX3_changePitch_31 0 rfl ?_
          refine sw_get 32 G hnX3 0 2 dX3_changePitch_32 vc3 (by decide) (List.mem_cons_of_mem _ lk_6e4be49b) rfl rfl ?_
          refine sw_iload_n 35 G dX3_changePitch_35 1 rfl ?_
          refine sw_lload_n 36 G dX3_changePitch_36 2 rfl ?_
          refine sw_last 37 G 1 (wX3 Θ p0 p1 p2 p3 p_pitches p_spoiled (vp_updL p_cells a0.toNatClampNeg a1) p_bends p_offsets p_strokes p_goodParts p_badParts p_slugs) dX3_changePitch_37 rfl rfl hf (fun hf => ?_)
          refine sw_aload_n 38 G dX3_changePitch_38 0 rfl ?_
          refine sw_get 39 G hnX3 0 3 dX3_changePitch_39 vc3 (by decide) (List.mem_cons_of_mem _ lk_9393079b) rfl rfl ?_
          refine sw_iload_n 42 G dX3_changePitch_42 1 rfl ?_
          refine sw_iload 43 G dX3_changePitch_43 3 rfl ?_
          refine sw_iast 45 G 2 (wX3 Θ p0 p1 p2 p3 p_pitches p_spoiled (vp_updL p_cells a0.toNatClampNeg a1) (upd p_bends a0.toNatClampNeg a2) p_offsets p_strokes p_goodParts p_badParts p_slugs) dX3_changePitch_45 rfl rfl hf (fun hf => ?_)
          refine sw_aload_n 46 G dX3_changePitch_46 0 rfl ?_
          refine sw_get 47 G hnX3 0 4 dX3_changePitch_47 vc3 (by decide) (List.mem_cons_of_mem _ lk_bcc7f147) rfl rfl ?_
          refine sw_iload_n 50 G dX3_changePitch_50 1 rfl ?_
          refine sw_iload 51 G dX3_changePitch_51 4 rfl ?_
          refine sw_iast 53 G 3 (wX3 Θ p0 p1 p2 p3 p_pitches p_spoiled (vp_updL p_cells a0.toNatClampNeg a1) (upd p_bends a0.toNatClampNeg a2) (upd p_offsets a0.toNatClampNeg a3) p_strokes p_goodParts p_badParts p_slugs) dX3_changePitch_53 rfl rfl hf (fun hf => ?_)
          cases hf
          exact sw_vret 54 G dX3_changePitch_54 K
abbrev rmX3_valueOf : Room := { frames := 1, cells := 0, slots := 0, locals := 21 }
theorem hvX3_valueOf : yX3_valueOf.cls = RX3 ∧ yX3_valueOf.cls ≠ "java/lang/invoke/MethodHandle" ∧ yX3_valueOf.cls ≠ "java/lang/invoke/VarHandle" ∧ (parseMethodDescriptor yX3_valueOf.desc).map (fun d => d.parameters.length) = some 2 := by decide +kernel
set_option maxRecDepth 100000 in
set_option maxHeartbeats 4000000 in
theorem kX3_valueOf (Θ : Tht) (p0 p1 p2 p3 : Nat) (p_pitches : Int32) (p_spoiled : Int32) (p_cells : Nat → Int64) (p_bends : Nat → Int32) (p_offsets : Nat → Int32) (p_strokes : Int32) (p_goodParts : Int32) (p_badParts : Int32) (p_slugs : Int32) (a0 : Int32) (a1 : Int32) (ro : Int32) (hf : fX3_valueOf p_spoiled p_cells p_bends p_offsets a0 a1 = some ro) : Fn Θ yX3_valueOf (Cond.code yX3_valueOf cX3_valueOf 3 (some .int) :: GW) rmX3_valueOf [.ref p0, .int a0, .int a1] (wX3 Θ p0 p1 p2 p3 p_pitches p_spoiled p_cells p_bends p_offsets p_strokes p_goodParts p_badParts p_slugs) (some (.int ro)) (wX3 Θ p0 p1 p2 p3 p_pitches p_spoiled p_cells p_bends p_offsets p_strokes p_goodParts p_badParts p_slugs) := by
  delta fX3_valueOf at hf
  refine Fn.of (by decide +kernel) rfl (Nat.le_of_ble_eq_true rfl) (fun p e s m args below meth c A Q G K => ?_)
  show sw Θ p e rmX3_valueOf s m args below meth c A Q 3 0 0 0 [(0, .ref p0), (1, .int a0), (2, .int a1)] [] (wX3 Θ p0 p1 p2 p3 p_pitches p_spoiled p_cells p_bends p_offsets p_strokes p_goodParts p_badParts p_slugs)
  refine sw_iload_n 0 G dX3_valueOf_0 2 rfl ?_
  refine sw_tsw 1 57 G dX3_valueOf_1 rfl hf (fun hf => ?_) (fun j hj hf => ?_)
  · refine sw_aload_n 57 G dX3_valueOf_57 0 rfl ?_
    refine sw_iload_n 58 G dX3_valueOf_58 1 rfl ?_
    obtain ⟨r1, hg, hf⟩ := bd1_some hf
    refine sw_callV 59 G (wX3 Θ p0 p1 p2 p3 p_pitches p_spoiled p_cells p_bends p_offsets p_strokes p_goodParts p_badParts p_slugs) [0, 1, 2, 3] [] [0, 1, 2, 3] 1 dX3_valueOf_59 (kX3_cellsAt Θ p0 p1 p2 p3 p_pitches p_spoiled p_cells p_bends p_offsets p_strokes p_goodParts p_badParts p_slugs a0 r1 hg) (gwV lk_b2e51c0f lk_efd6e65a lk_d5dc047d lk_106b7259 lk_cecdbcae) rfl hvX3_cellsAt ⟨rfl, rfl⟩ ⟨Nat.le_of_ble_eq_true rfl, Nat.le_of_ble_eq_true rfl⟩ ⟨Nat.zero_le _, Nat.zero_le _⟩ rfl rfl (Nat.le_of_ble_eq_true rfl) 0 rfl vc3 rfl rfl rfl rfl (by decide) ?_
    obtain ⟨r2, hg, hf⟩ := bd1_some hf
    refine sw_callS 62 G (wX3 Θ p0 p1 p2 p3 p_pitches p_spoiled p_cells p_bends p_offsets p_strokes p_goodParts p_badParts p_slugs) [] [0, 1, 2, 3] [0, 1, 2, 3] 1 dX3_valueOf_62 (kJ13_bitCount_95d88 Θ r1 r2 hg) (gwS lk_0f3a4dd4 lk_6bfbc13d lk_b04e2cc5 lk_77169b53) rfl hsJ13_bitCount_95d88 ⟨rfl, rfl⟩ ⟨Nat.le_of_ble_eq_true rfl, Nat.le_of_ble_eq_true rfl⟩ ⟨Nat.zero_le _, Nat.zero_le _⟩ rfl rfl (Nat.le_of_ble_eq_true rfl) rfl rfl rfl (by decide) ?_
    cases hf
    exact sw_iret 65 G dX3_valueOf_65 K
  · rcases (show j = 0 ∨ j = 1 ∨ j = 2 by omega) with rfl | rfl | rfl
    · refine ⟨27, 28, rfl, rfl, ?_⟩
      have hf := tc_0 hf
      refine sw_aload_n 28 G dX3_valueOf_28 0 rfl ?_
      refine sw_iload_n 29 G dX3_valueOf_29 1 rfl ?_
      obtain ⟨r3, hg, hf⟩ := bd1_some hf
      refine sw_callV 30 G (wX3 Θ p0 p1 p2 p3 p_pitches p_spoiled p_cells p_bends p_offsets p_strokes p_goodParts p_badParts p_slugs) [0, 1, 2, 3] [] [0, 1, 2, 3] 1 dX3_valueOf_30 (kX3_bendsAt Θ p0 p1 p2 p3 p_pitches p_spoiled p_cells p_bends p_offsets p_strokes p_goodParts p_badParts p_slugs a0 r3 hg) (gwV lk_0ac4e58a lk_62f9d61d lk_1bfc3192 lk_106b7259 lk_b1d3b07c) rfl hvX3_bendsAt ⟨rfl, rfl⟩ ⟨Nat.le_of_ble_eq_true rfl, Nat.le_of_ble_eq_true rfl⟩ ⟨Nat.zero_le _, Nat.zero_le _⟩ rfl rfl (Nat.le_of_ble_eq_true rfl) 0 rfl vc3 rfl rfl rfl rfl (by decide) ?_
      cases hf
      exact sw_iret 33 G dX3_valueOf_33 K
    · refine ⟨33, 34, rfl, rfl, ?_⟩
      have hf := tc_1 hf
      refine sw_aload_n 34 G dX3_valueOf_34 0 rfl ?_
      refine sw_iload_n 35 G dX3_valueOf_35 1 rfl ?_
      obtain ⟨r4, hg, hf⟩ := bd1_some hf
      refine sw_callV 36 G (wX3 Θ p0 p1 p2 p3 p_pitches p_spoiled p_cells p_bends p_offsets p_strokes p_goodParts p_badParts p_slugs) [0, 1, 2, 3] [] [0, 1, 2, 3] 1 dX3_valueOf_36 (kX3_offsetAt Θ p0 p1 p2 p3 p_pitches p_spoiled p_cells p_bends p_offsets p_strokes p_goodParts p_badParts p_slugs a0 r4 hg) (gwV lk_4e3d7500 lk_293f6e01 lk_14cdca78 lk_106b7259 lk_0d50ea30) rfl hvX3_offsetAt ⟨rfl, rfl⟩ ⟨Nat.le_of_ble_eq_true rfl, Nat.le_of_ble_eq_true rfl⟩ ⟨Nat.zero_le _, Nat.zero_le _⟩ rfl rfl (Nat.le_of_ble_eq_true rfl) 0 rfl vc3 rfl rfl rfl rfl (by decide) ?_
      cases hf
      exact sw_iret 39 G dX3_valueOf_39 K
    · refine ⟨39, 40, rfl, rfl, ?_⟩
      have hf := tc_2 hf
      refine sw_aload_n 40 G dX3_valueOf_40 0 rfl ?_
      refine sw_get 41 G hnX3 0 1 dX3_valueOf_41 vc3 (by decide) (List.mem_cons_of_mem _ lk_731f9edd) rfl rfl ?_
      refine sw_iload_n 44 G dX3_valueOf_44 1 rfl ?_
      obtain ⟨r5, hg, hf⟩ := bd1_some hf
      refine sw_callSN 45 G (wX3 Θ p0 p1 p2 p3 p_pitches p_spoiled p_cells p_bends p_offsets p_strokes p_goodParts p_badParts p_slugs) [] [0, 1, 2, 3] [0, 1, 2, 3] 2 dX3_valueOf_45 (kX5_isIn Θ p_spoiled a0 r5 hg) (gwN lk_9805779a) (List.mem_of_getElem? (i := 11) rfl) (List.mem_cons_of_mem _ lk_17fb23dc) (List.mem_cons_of_mem _ lk_b26544b5) rfl hsX5_isIn ⟨rfl, rfl⟩ ⟨Nat.le_of_ble_eq_true rfl, Nat.le_of_ble_eq_true rfl⟩ ⟨Nat.zero_le _, Nat.zero_le _⟩ rfl rfl (Nat.le_of_ble_eq_true rfl) rfl rfl rfl (by decide) ?_
      refine sw_if_eq 48 55 G dX3_valueOf_48 rfl hf (fun hf => ?_) (fun hf => ?_)
      · refine sw_iconst 55 G (0 : Int32) dX3_valueOf_55 rfl ?_
        cases hf
        exact sw_iret 56 G dX3_valueOf_56 K
      · refine sw_iconst 51 G (1 : Int32) dX3_valueOf_51 rfl ?_
        refine sw_goto 52 G 56 dX3_valueOf_52 rfl ?_
        cases hf
        exact sw_iret 56 G dX3_valueOf_56 K
abbrev rmX3_wholeValue : Room := { frames := 1, cells := 0, slots := 0, locals := 20 }
theorem hvX3_wholeValue : yX3_wholeValue.cls = RX3 ∧ yX3_wholeValue.cls ≠ "java/lang/invoke/MethodHandle" ∧ yX3_wholeValue.cls ≠ "java/lang/invoke/VarHandle" ∧ (parseMethodDescriptor yX3_wholeValue.desc).map (fun d => d.parameters.length) = some 1 := by decide +kernel
set_option maxRecDepth 100000 in
set_option maxHeartbeats 4000000 in
theorem kX3_wholeValue (Θ : Tht) (p0 p1 p2 p3 : Nat) (p_pitches : Int32) (p_spoiled : Int32) (p_cells : Nat → Int64) (p_bends : Nat → Int32) (p_offsets : Nat → Int32) (p_strokes : Int32) (p_goodParts : Int32) (p_badParts : Int32) (p_slugs : Int32) (a0 : Int32) (ro : Int32) (hf : fX3_wholeValue p_pitches p_strokes p_goodParts p_badParts p_slugs a0 = some ro) : Fn Θ yX3_wholeValue (Cond.code yX3_wholeValue cX3_wholeValue 2 (some .int) :: GW) rmX3_wholeValue [.ref p0, .int a0] (wX3 Θ p0 p1 p2 p3 p_pitches p_spoiled p_cells p_bends p_offsets p_strokes p_goodParts p_badParts p_slugs) (some (.int ro)) (wX3 Θ p0 p1 p2 p3 p_pitches p_spoiled p_cells p_bends p_offsets p_strokes p_goodParts p_badParts p_slugs) := by
  delta fX3_wholeValue at hf
  refine Fn.of (by decide +kernel) rfl (Nat.le_of_ble_eq_true rfl) (fun p e s m args below meth c A Q G K => ?_)
  show sw Θ p e rmX3_wholeValue s m args below meth c A Q 2 0 0 0 [(0, .ref p0), (1, .int a0)] [] (wX3 Θ p0 p1 p2 p3 p_pitches p_spoiled p_cells p_bends p_offsets p_strokes p_goodParts p_badParts p_slugs)
  refine sw_iload_n 0 G dX3_wholeValue_0 1 rfl ?_
  refine sw_tsw 1 55 G dX3_wholeValue_1 rfl hf (fun hf => ?_) (fun j hj hf => ?_)
  · refine sw_aload_n 55 G dX3_wholeValue_55 0 rfl ?_
    refine sw_get 56 G hnX3 0 8 dX3_wholeValue_56 vc3 (by decide) (List.mem_cons_of_mem _ lk_f0cdd896) rfl rfl ?_
    cases hf
    exact sw_iret 59 G dX3_wholeValue_59 K
  · rcases (show j = 0 ∨ j = 1 ∨ j = 2 ∨ j = 3 by omega) with rfl | rfl | rfl | rfl
    · refine ⟨31, 32, rfl, rfl, ?_⟩
      have hf := tc_0 hf
      refine sw_aload_n 32 G dX3_wholeValue_32 0 rfl ?_
      refine sw_get 33 G hnX3 0 0 dX3_wholeValue_33 vc3 (by decide) (List.mem_cons_of_mem _ lk_25c1e955) rfl rfl ?_
      obtain ⟨r1, hg, hf⟩ := bd1_some hf
      refine sw_callS 36 G (wX3 Θ p0 p1 p2 p3 p_pitches p_spoiled p_cells p_bends p_offsets p_strokes p_goodParts p_badParts p_slugs) [] [0, 1, 2, 3] [0, 1, 2, 3] 1 dX3_wholeValue_36 (kJ6_bitCount_0f7a4 Θ p_pitches r1 hg) (gwS lk_bd15cd69 lk_d625a12f lk_2df2c76b lk_723f897f) rfl hsJ6_bitCount_0f7a4 ⟨rfl, rfl⟩ ⟨Nat.le_of_ble_eq_true rfl, Nat.le_of_ble_eq_true rfl⟩ ⟨Nat.zero_le _, Nat.zero_le _⟩ rfl rfl (Nat.le_of_ble_eq_true rfl) rfl rfl rfl (by decide) ?_
      cases hf
      exact sw_iret 39 G dX3_wholeValue_39 K
    · refine ⟨39, 40, rfl, rfl, ?_⟩
      have hf := tc_1 hf
      refine sw_aload_n 40 G dX3_wholeValue_40 0 rfl ?_
      refine sw_get 41 G hnX3 0 5 dX3_wholeValue_41 vc3 (by decide) (List.mem_cons_of_mem _ lk_7185157a) rfl rfl ?_
      cases hf
      exact sw_iret 44 G dX3_wholeValue_44 K
    · refine ⟨44, 45, rfl, rfl, ?_⟩
      have hf := tc_2 hf
      refine sw_aload_n 45 G dX3_wholeValue_45 0 rfl ?_
      refine sw_get 46 G hnX3 0 6 dX3_wholeValue_46 vc3 (by decide) (List.mem_cons_of_mem _ lk_123d7bc8) rfl rfl ?_
      cases hf
      exact sw_iret 49 G dX3_wholeValue_49 K
    · refine ⟨49, 50, rfl, rfl, ?_⟩
      have hf := tc_3 hf
      refine sw_aload_n 50 G dX3_wholeValue_50 0 rfl ?_
      refine sw_get 51 G hnX3 0 7 dX3_wholeValue_51 vc3 (by decide) (List.mem_cons_of_mem _ lk_0f797579) rfl rfl ?_
      cases hf
      exact sw_iret 54 G dX3_wholeValue_54 K
abbrev rmX3_forgetBend : Room := { frames := 0, cells := 0, slots := 0, locals := 0 }
theorem hvX3_forgetBend : yX3_forgetBend.cls = RX3 ∧ yX3_forgetBend.cls ≠ "java/lang/invoke/MethodHandle" ∧ yX3_forgetBend.cls ≠ "java/lang/invoke/VarHandle" ∧ (parseMethodDescriptor yX3_forgetBend.desc).map (fun d => d.parameters.length) = some 1 := by decide +kernel
set_option maxRecDepth 100000 in
set_option maxHeartbeats 4000000 in
theorem kX3_forgetBend (Θ : Tht) (F : Nat) (p0 p1 p2 p3 : Nat) (p_pitches : Int32) (p_spoiled : Int32) (p_cells : Nat → Int64) (p_bends : Nat → Int32) (p_offsets : Nat → Int32) (p_strokes : Int32) (p_goodParts : Int32) (p_badParts : Int32) (p_slugs : Int32) (a0 : Int32) (o_p_bends : Nat → Int32) (hf : fX3_forgetBend F p_bends a0 = some o_p_bends) : Fn Θ yX3_forgetBend (Cond.code yX3_forgetBend cX3_forgetBend 4 none :: GW) rmX3_forgetBend [.ref p0, .int a0] (wX3 Θ p0 p1 p2 p3 p_pitches p_spoiled p_cells p_bends p_offsets p_strokes p_goodParts p_badParts p_slugs) none (wX3 Θ p0 p1 p2 p3 p_pitches p_spoiled p_cells o_p_bends p_offsets p_strokes p_goodParts p_badParts p_slugs) := by
  delta fX3_forgetBend at hf
  refine Fn.of (by decide +kernel) rfl (Nat.le_of_ble_eq_true rfl) (fun p e s m args below meth c A Q G K => ?_)
  show sw Θ p e rmX3_forgetBend s m args below meth c A Q 4 0 0 0 [(0, .ref p0), (1, .int a0)] [] (wX3 Θ p0 p1 p2 p3 p_pitches p_spoiled p_cells p_bends p_offsets p_strokes p_goodParts p_badParts p_slugs)
  refine sw_iconst 0 G (1 : Int32) dX3_forgetBend_0 rfl ?_
  refine sw_iload_n 1 G dX3_forgetBend_1 1 rfl ?_
  refine sw_ishl 2 G dX3_forgetBend_2 ?_
  refine sw_iconst 3 G (1 : Int32) dX3_forgetBend_3 rfl ?_
  refine sw_isub 4 G dX3_forgetBend_4 ?_
  refine sw_nmi hf (fun v1 hf => ?_)
  refine sw_istore_n 5 G [(2, .int v1), (0, .ref p0), (1, .int a0)] dX3_forgetBend_5 (by decide) rfl ?_
  refine sw_iconst 6 G (0 : Int32) dX3_forgetBend_6 rfl ?_
  refine sw_istore_n 7 G [(3, .int (0 : Int32)), (2, .int v1), (0, .ref p0), (1, .int a0)] dX3_forgetBend_7 (by decide) rfl ?_
  obtain ⟨v2, hl, hf⟩ := bd1_some hf
  have hx8_50 : sw Θ p e rmX3_forgetBend s m args below meth c A Q 4 0 0 50 [] [] (wX3 Θ p0 p1 p2 p3 p_pitches p_spoiled p_cells v2 p_offsets p_strokes p_goodParts p_badParts p_slugs) := by
    cases hf
    exact sw_vret 50 G dX3_forgetBend_50 K
  refine sw_lv [(0, .ref p0), (2, .int v1), (3, .int (0 : Int32))] [2, 1, 0] rfl ?_
  refine lp_walk (P := fun (t : Int32 × (Nat → Int32)) => sw Θ p e rmX3_forgetBend s m args below meth c A Q 4 0 0 8 [(0, .ref p0), (2, .int v1), (3, .int t.1)] [] (wX3 Θ p0 p1 p2 p3 p_pitches p_spoiled p_cells t.2 p_offsets p_strokes p_goodParts p_badParts p_slugs)) hl (fun t8 y8 hf hin8 hex8 => ?_)
  obtain ⟨v3, v4⟩ := t8
  show sw Θ p e rmX3_forgetBend s m args below meth c A Q 4 0 0 8 [(0, .ref p0), (2, .int v1), (3, .int v3)] [] (wX3 Θ p0 p1 p2 p3 p_pitches p_spoiled p_cells v4 p_offsets p_strokes p_goodParts p_badParts p_slugs)
  have hf := uc2_some (K := _) hf
  refine sw_iload_n 8 G dX3_forgetBend_8 2 rfl ?_
  refine sw_aload_n 9 G dX3_forgetBend_9 0 rfl ?_
  refine sw_get 10 G hnX3 0 3 dX3_forgetBend_10 vc3 (by decide) (List.mem_cons_of_mem _ lk_9393079b) rfl rfl ?_
  refine sw_alen 13 G 2 1 (9 : Int32) dX3_forgetBend_13 rfl rfl rfl ?_
  refine sw_icmp_ge 14 50 G dX3_forgetBend_14 rfl hf (fun hf => ?_) (fun hf => ?_)
  · cases hf
    cases hex8 _ rfl
    exact sw_lv _ [] rfl hx8_50
  · refine sw_aload_n 17 G dX3_forgetBend_17 0 rfl ?_
    refine sw_get 18 G hnX3 0 3 dX3_forgetBend_18 vc3 (by decide) (List.mem_cons_of_mem _ lk_9393079b) rfl rfl ?_
    refine sw_iload_n 21 G dX3_forgetBend_21 2 rfl ?_
    refine sw_aload_n 22 G dX3_forgetBend_22 0 rfl ?_
    refine sw_get 23 G hnX3 0 3 dX3_forgetBend_23 vc3 (by decide) (List.mem_cons_of_mem _ lk_9393079b) rfl rfl ?_
    refine sw_iload_n 26 G dX3_forgetBend_26 2 rfl ?_
    refine sw_iald 27 G 2 dX3_forgetBend_27 rfl hf (fun hf => ?_)
    refine sw_iload_n 28 G dX3_forgetBend_28 1 rfl ?_
    refine sw_iand 29 G dX3_forgetBend_29 ?_
    refine sw_aload_n 30 G dX3_forgetBend_30 0 rfl ?_
    refine sw_get 31 G hnX3 0 3 dX3_forgetBend_31 vc3 (by decide) (List.mem_cons_of_mem _ lk_9393079b) rfl rfl ?_
    refine sw_iload_n 34 G dX3_forgetBend_34 2 rfl ?_
    refine sw_iald 35 G 2 dX3_forgetBend_35 rfl hf (fun hf => ?_)
    refine sw_iconst 36 G (1 : Int32) dX3_forgetBend_36 rfl ?_
    refine sw_ishr 37 G dX3_forgetBend_37 ?_
    refine sw_iload_n 38 G dX3_forgetBend_38 1 rfl ?_
    refine sw_iconst 39 G (-1 : Int32) dX3_forgetBend_39 rfl ?_
    refine sw_ixor 40 G dX3_forgetBend_40 ?_
    refine sw_iand 41 G dX3_forgetBend_41 ?_
    refine sw_ior 42 G dX3_forgetBend_42 ?_
    refine sw_nmi hf (fun v5 hf => ?_)
    refine sw_iast 43 G 2 (wX3 Θ p0 p1 p2 p3 p_pitches p_spoiled p_cells (upd v4 v3.toNatClampNeg v5) p_offsets p_strokes p_goodParts p_badParts p_slugs) dX3_forgetBend_43 rfl rfl hf (fun hf => ?_)
    refine sw_iinc 44 G (v3 + (1 : Int32)) [(3, .int (v3 + (1 : Int32))), (0, .ref p0), (2, .int v1)] dX3_forgetBend_44 2 rfl rfl (by decide) rfl ?_
    refine sw_goto 47 G 8 dX3_forgetBend_47 rfl ?_
    cases hf
    have hb := hin8 _ rfl
    exact sw_lv _ [1, 2, 0] (by rfl) hb
abbrev rmX3_moveOn : Room := { frames := 1, cells := 0, slots := 0, locals := 25 }
theorem hvX3_moveOn : yX3_moveOn.cls = RX3 ∧ yX3_moveOn.cls ≠ "java/lang/invoke/MethodHandle" ∧ yX3_moveOn.cls ≠ "java/lang/invoke/VarHandle" ∧ (parseMethodDescriptor yX3_moveOn.desc).map (fun d => d.parameters.length) = some 1 := by decide +kernel
set_option maxRecDepth 100000 in
set_option maxHeartbeats 4000000 in
theorem kX3_moveOn (Θ : Tht) (F : Nat) (p0 p1 p2 p3 d0 d1 d2 d3 : Nat) (p_pitches : Int32) (p_spoiled : Int32) (p_cells : Nat → Int64) (p_bends : Nat → Int32) (p_offsets : Nat → Int32) (p_strokes : Int32) (p_goodParts : Int32) (p_badParts : Int32) (p_slugs : Int32) (d_columns : Int32) (d_rows : Int32) (d_carrier : Int32) (d_partMarks : Int64) (d_linkMarks : Int64) (d_operations : Int32) (d_pilots : Int32) (d_settings : Nat → Int32) (d_facts : Nat → Int32) (d_cells : Nat → Int64) (o_p_pitches : Int32) (o_p_spoiled : Int32) (o_p_cells : Nat → Int64) (o_p_bends : Nat → Int32) (o_p_offsets : Nat → Int32) (hf : fX3_moveOn F p_pitches p_spoiled p_cells p_bends p_offsets d_columns d_rows d_settings = some (o_p_pitches, o_p_spoiled, o_p_cells, o_p_bends, o_p_offsets)) : Fn Θ yX3_moveOn (Cond.code yX3_moveOn cX3_moveOn 3 none :: GW) rmX3_moveOn [.ref p0, .ref d0] (wX3 Θ p0 p1 p2 p3 p_pitches p_spoiled p_cells p_bends p_offsets p_strokes p_goodParts p_badParts p_slugs ++ wX1 Θ d0 d1 d2 d3 d_columns d_rows d_carrier d_partMarks d_linkMarks d_operations d_pilots d_settings d_facts d_cells) none (wX3 Θ p0 p1 p2 p3 o_p_pitches o_p_spoiled o_p_cells o_p_bends o_p_offsets p_strokes p_goodParts p_badParts p_slugs ++ wX1 Θ d0 d1 d2 d3 d_columns d_rows d_carrier d_partMarks d_linkMarks d_operations d_pilots d_settings d_facts d_cells) := by
  delta fX3_moveOn at hf
  refine Fn.of (by decide +kernel) rfl (Nat.le_of_ble_eq_true rfl) (fun p e s m args below meth c A Q G K => ?_)
  show sw Θ p e rmX3_moveOn s m args below meth c A Q 3 0 0 0 [(0, .ref p0), (1, .ref d0)] [] (wX3 Θ p0 p1 p2 p3 p_pitches p_spoiled p_cells p_bends p_offsets p_strokes p_goodParts p_badParts p_slugs ++ wX1 Θ d0 d1 d2 d3 d_columns d_rows d_carrier d_partMarks d_linkMarks d_operations d_pilots d_settings d_facts d_cells)
  refine sw_bipush 0 G (8 : Int32) dX3_moveOn_0 rfl ?_
  refine sw_istore_n 2 G [(2, .int (8 : Int32)), (0, .ref p0), (1, .ref d0)] dX3_moveOn_2 (by decide) rfl ?_
  obtain ⟨v1, v2, v3, hl, hf⟩ := bd3_some hf
  have hx3_46 : sw Θ p e rmX3_moveOn s m args below meth c A Q 3 0 0 46 [(0, .ref p0), (1, .ref d0)] [] (wX3 Θ p0 p1 p2 p3 p_pitches p_spoiled v1 v2 v3 p_strokes p_goodParts p_badParts p_slugs ++ wX1 Θ d0 d1 d2 d3 d_columns d_rows d_carrier d_partMarks d_linkMarks d_operations d_pilots d_settings d_facts d_cells) := by
    refine sw_aload_n 46 G dX3_moveOn_46 0 rfl ?_
    refine sw_iconst 47 G (0 : Int32) dX3_moveOn_47 rfl ?_
    refine sw_aload_n 48 G dX3_moveOn_48 1 rfl ?_
    obtain ⟨r4, hg, hf⟩ := bd1_some hf
    refine sw_callV 49 G (wX3 Θ p0 p1 p2 p3 p_pitches p_spoiled v1 v2 v3 p_strokes p_goodParts p_badParts p_slugs ++ wX1 Θ d0 d1 d2 d3 d_columns d_rows d_carrier d_partMarks d_linkMarks d_operations d_pilots d_settings d_facts d_cells) [4, 5, 6, 7] [0, 1, 2, 3] [0, 1, 2, 3, 4, 5, 6, 7] 0 dX3_moveOn_49 (kX1_allCells Θ d0 d1 d2 d3 d_columns d_rows d_carrier d_partMarks d_linkMarks d_operations d_pilots d_settings d_facts d_cells r4 hg) (gwV lk_f0822c60 lk_d46b963c lk_bc6f34fe lk_cf66e99d lk_d819ec8a) rfl hvX1_allCells ⟨rfl, rfl⟩ ⟨Nat.le_of_ble_eq_true rfl, Nat.le_of_ble_eq_true rfl⟩ ⟨Nat.zero_le _, Nat.zero_le _⟩ rfl rfl (Nat.le_of_ble_eq_true rfl) 0 rfl vc1 rfl rfl rfl rfl (by decide) ?_
    refine sw_iconst 52 G (0 : Int32) dX3_moveOn_52 rfl ?_
    refine sw_iconst 53 G (0 : Int32) dX3_moveOn_53 rfl ?_
    obtain ⟨u5, u6, u7, hg, hf⟩ := bd3_some hf
    refine sw_callV 54 G (wX3 Θ p0 p1 p2 p3 p_pitches p_spoiled u5 u6 u7 p_strokes p_goodParts p_badParts p_slugs ++ wX1 Θ d0 d1 d2 d3 d_columns d_rows d_carrier d_partMarks d_linkMarks d_operations d_pilots d_settings d_facts d_cells) [0, 1, 2, 3] [4, 5, 6, 7] [4, 5, 6, 7, 0, 1, 2, 3] 4 dX3_moveOn_54 (kX3_changePitch Θ p0 p1 p2 p3 p_pitches p_spoiled v1 v2 v3 p_strokes p_goodParts p_badParts p_slugs (0 : Int32) r4 (0 : Int32) (0 : Int32) u5 u6 u7 hg) (gwV lk_9e02a978 lk_9b1473f3 lk_28f6ff40 lk_106b7259 lk_f4a9229d) rfl hvX3_changePitch ⟨rfl, rfl⟩ ⟨Nat.le_of_ble_eq_true rfl, Nat.le_of_ble_eq_true rfl⟩ ⟨Nat.zero_le _, Nat.zero_le _⟩ rfl rfl (Nat.le_of_ble_eq_true rfl) 0 rfl vc3 rfl rfl rfl rfl (by decide) ?_
    refine sw_aload_n 57 G dX3_moveOn_57 0 rfl ?_
    refine sw_aload_n 58 G dX3_moveOn_58 0 rfl ?_
    refine sw_get 59 G hnX3 0 0 dX3_moveOn_59 vc3 (by decide) (List.mem_cons_of_mem _ lk_25c1e955) rfl rfl ?_
    refine sw_iconst 62 G (1 : Int32) dX3_moveOn_62 rfl ?_
    refine sw_ishl 63 G dX3_moveOn_63 ?_
    refine sw_iconst 64 G (1 : Int32) dX3_moveOn_64 rfl ?_
    refine sw_ior 65 G dX3_moveOn_65 ?_
    refine sw_nmi hf (fun v8 hf => ?_)
    refine sw_put 66 G hnX3 tyX3_ok nmX3 0 0 (wX3 Θ p0 p1 p2 p3 v8 p_spoiled u5 u6 u7 p_strokes p_goodParts p_badParts p_slugs ++ wX1 Θ d0 d1 d2 d3 d_columns d_rows d_carrier d_partMarks d_linkMarks d_operations d_pilots d_settings d_facts d_cells) dX3_moveOn_66 vc3 (by decide) (List.mem_cons_of_mem _ lk_25c1e955) rfl rfl (Nat.le_of_ble_eq_true rfl) (tyX3_ok 0 (by decide)) rfl rfl rfl ?_
    refine sw_aload_n 69 G dX3_moveOn_69 0 rfl ?_
    refine sw_aload_n 70 G dX3_moveOn_70 0 rfl ?_
    refine sw_get 71 G hnX3 0 1 dX3_moveOn_71 vc3 (by decide) (List.mem_cons_of_mem _ lk_731f9edd) rfl rfl ?_
    refine sw_iconst 74 G (1 : Int32) dX3_moveOn_74 rfl ?_
    refine sw_ishl 75 G dX3_moveOn_75 ?_
    refine sw_nmi hf (fun v9 hf => ?_)
    refine sw_put 76 G hnX3 tyX3_ok nmX3 0 1 (wX3 Θ p0 p1 p2 p3 v8 v9 u5 u6 u7 p_strokes p_goodParts p_badParts p_slugs ++ wX1 Θ d0 d1 d2 d3 d_columns d_rows d_carrier d_partMarks d_linkMarks d_operations d_pilots d_settings d_facts d_cells) dX3_moveOn_76 vc3 (by decide) (List.mem_cons_of_mem _ lk_731f9edd) rfl rfl (Nat.le_of_ble_eq_true rfl) (tyX3_ok 1 (by decide)) rfl rfl rfl ?_
    cases hf
    exact sw_vret 79 G dX3_moveOn_79 K
  refine sw_lv [(0, .ref p0), (1, .ref d0), (2, .int (8 : Int32))] [1, 2, 0] rfl ?_
  refine lp_walk (P := fun (t : Int32 × (Nat → Int64) × (Nat → Int32) × (Nat → Int32)) => sw Θ p e rmX3_moveOn s m args below meth c A Q 3 0 0 3 [(0, .ref p0), (1, .ref d0), (2, .int t.1)] [] (wX3 Θ p0 p1 p2 p3 p_pitches p_spoiled t.2.1 t.2.2.1 t.2.2.2 p_strokes p_goodParts p_badParts p_slugs ++ wX1 Θ d0 d1 d2 d3 d_columns d_rows d_carrier d_partMarks d_linkMarks d_operations d_pilots d_settings d_facts d_cells)) hl (fun t3 y3 hf hin3 hex3 => ?_)
  obtain ⟨v10, v11, v12, v13⟩ := t3
  show sw Θ p e rmX3_moveOn s m args below meth c A Q 3 0 0 3 [(0, .ref p0), (1, .ref d0), (2, .int v10)] [] (wX3 Θ p0 p1 p2 p3 p_pitches p_spoiled v11 v12 v13 p_strokes p_goodParts p_badParts p_slugs ++ wX1 Θ d0 d1 d2 d3 d_columns d_rows d_carrier d_partMarks d_linkMarks d_operations d_pilots d_settings d_facts d_cells)
  have hf := uc4_some (K := _) hf
  refine sw_iload_n 3 G dX3_moveOn_3 2 rfl ?_
  refine sw_iconst 4 G (1 : Int32) dX3_moveOn_4 rfl ?_
  refine sw_icmp_lt 5 46 G dX3_moveOn_5 rfl hf (fun hf => ?_) (fun hf => ?_)
  · cases hf
    cases hex3 _ rfl
    exact sw_lv _ [0, 1] rfl hx3_46
  · refine sw_aload_n 8 G dX3_moveOn_8 0 rfl ?_
    refine sw_iload_n 9 G dX3_moveOn_9 2 rfl ?_
    refine sw_aload_n 10 G dX3_moveOn_10 0 rfl ?_
    refine sw_iload_n 11 G dX3_moveOn_11 2 rfl ?_
    refine sw_iconst 12 G (1 : Int32) dX3_moveOn_12 rfl ?_
    refine sw_isub 13 G dX3_moveOn_13 ?_
    obtain ⟨r14, hg, hf⟩ := bd1_some hf
    refine sw_callV 14 G (wX3 Θ p0 p1 p2 p3 p_pitches p_spoiled v11 v12 v13 p_strokes p_goodParts p_badParts p_slugs ++ wX1 Θ d0 d1 d2 d3 d_columns d_rows d_carrier d_partMarks d_linkMarks d_operations d_pilots d_settings d_facts d_cells) [0, 1, 2, 3] [4, 5, 6, 7] [4, 5, 6, 7, 0, 1, 2, 3] 1 dX3_moveOn_14 (kX3_cellsAt Θ p0 p1 p2 p3 p_pitches p_spoiled v11 v12 v13 p_strokes p_goodParts p_badParts p_slugs (v10 - (1 : Int32)) r14 hg) (gwV lk_b2e51c0f lk_efd6e65a lk_d5dc047d lk_106b7259 lk_cecdbcae) rfl hvX3_cellsAt ⟨rfl, rfl⟩ ⟨Nat.le_of_ble_eq_true rfl, Nat.le_of_ble_eq_true rfl⟩ ⟨Nat.zero_le _, Nat.zero_le _⟩ rfl rfl (Nat.le_of_ble_eq_true rfl) 0 rfl vc3 rfl rfl rfl rfl (by decide) ?_
    refine sw_aload_n 17 G dX3_moveOn_17 0 rfl ?_
    refine sw_iload_n 18 G dX3_moveOn_18 2 rfl ?_
    refine sw_iconst 19 G (1 : Int32) dX3_moveOn_19 rfl ?_
    refine sw_isub 20 G dX3_moveOn_20 ?_
    obtain ⟨r15, hg, hf⟩ := bd1_some hf
    refine sw_callV 21 G (wX3 Θ p0 p1 p2 p3 p_pitches p_spoiled v11 v12 v13 p_strokes p_goodParts p_badParts p_slugs ++ wX1 Θ d0 d1 d2 d3 d_columns d_rows d_carrier d_partMarks d_linkMarks d_operations d_pilots d_settings d_facts d_cells) [0, 1, 2, 3] [4, 5, 6, 7] [4, 5, 6, 7, 0, 1, 2, 3] 1 dX3_moveOn_21 (kX3_bendsAt Θ p0 p1 p2 p3 p_pitches p_spoiled v11 v12 v13 p_strokes p_goodParts p_badParts p_slugs (v10 - (1 : Int32)) r15 hg) (gwV lk_0ac4e58a lk_62f9d61d lk_1bfc3192 lk_106b7259 lk_b1d3b07c) rfl hvX3_bendsAt ⟨rfl, rfl⟩ ⟨Nat.le_of_ble_eq_true rfl, Nat.le_of_ble_eq_true rfl⟩ ⟨Nat.zero_le _, Nat.zero_le _⟩ rfl rfl (Nat.le_of_ble_eq_true rfl) 0 rfl vc3 rfl rfl rfl rfl (by decide) ?_
    refine sw_aload_n 24 G dX3_moveOn_24 0 rfl ?_
    refine sw_iload_n 25 G dX3_moveOn_25 2 rfl ?_
    refine sw_iconst 26 G (1 : Int32) dX3_moveOn_26 rfl ?_
    refine sw_isub 27 G dX3_moveOn_27 ?_
    obtain ⟨r16, hg, hf⟩ := bd1_some hf
    refine sw_callV 28 G (wX3 Θ p0 p1 p2 p3 p_pitches p_spoiled v11 v12 v13 p_strokes p_goodParts p_badParts p_slugs ++ wX1 Θ d0 d1 d2 d3 d_columns d_rows d_carrier d_partMarks d_linkMarks d_operations d_pilots d_settings d_facts d_cells) [0, 1, 2, 3] [4, 5, 6, 7] [4, 5, 6, 7, 0, 1, 2, 3] 1 dX3_moveOn_28 (kX3_offsetAt Θ p0 p1 p2 p3 p_pitches p_spoiled v11 v12 v13 p_strokes p_goodParts p_badParts p_slugs (v10 - (1 : Int32)) r16 hg) (gwV lk_4e3d7500 lk_293f6e01 lk_14cdca78 lk_106b7259 lk_0d50ea30) rfl hvX3_offsetAt ⟨rfl, rfl⟩ ⟨Nat.le_of_ble_eq_true rfl, Nat.le_of_ble_eq_true rfl⟩ ⟨Nat.zero_le _, Nat.zero_le _⟩ rfl rfl (Nat.le_of_ble_eq_true rfl) 0 rfl vc3 rfl rfl rfl rfl (by decide) ?_
    refine sw_aload_n 31 G dX3_moveOn_31 1 rfl ?_
    refine sw_iconst 32 G (2 : Int32) dX3_moveOn_32 rfl ?_
    obtain ⟨r17, hg, hf⟩ := bd1_some hf
    refine sw_callV 33 G (wX3 Θ p0 p1 p2 p3 p_pitches p_spoiled v11 v12 v13 p_strokes p_goodParts p_badParts p_slugs ++ wX1 Θ d0 d1 d2 d3 d_columns d_rows d_carrier d_partMarks d_linkMarks d_operations d_pilots d_settings d_facts d_cells) [4, 5, 6, 7] [0, 1, 2, 3] [0, 1, 2, 3, 4, 5, 6, 7] 1 dX3_moveOn_33 (kX1_setting Θ d0 d1 d2 d3 d_columns d_rows d_carrier d_partMarks d_linkMarks d_operations d_pilots d_settings d_facts d_cells (2 : Int32) r17 hg) (gwV lk_2b14e00b lk_6c5b2bed lk_42f14101 lk_cf66e99d lk_45fed558) rfl hvX1_setting ⟨rfl, rfl⟩ ⟨Nat.le_of_ble_eq_true rfl, Nat.le_of_ble_eq_true rfl⟩ ⟨Nat.zero_le _, Nat.zero_le _⟩ rfl rfl (Nat.le_of_ble_eq_true rfl) 0 rfl vc1 rfl rfl rfl rfl (by decide) ?_
    refine sw_iadd 36 G dX3_moveOn_36 ?_
    obtain ⟨u18, u19, u20, hg, hf⟩ := bd3_some hf
    refine sw_callV 37 G (wX3 Θ p0 p1 p2 p3 p_pitches p_spoiled u18 u19 u20 p_strokes p_goodParts p_badParts p_slugs ++ wX1 Θ d0 d1 d2 d3 d_columns d_rows d_carrier d_partMarks d_linkMarks d_operations d_pilots d_settings d_facts d_cells) [0, 1, 2, 3] [4, 5, 6, 7] [4, 5, 6, 7, 0, 1, 2, 3] 4 dX3_moveOn_37 (kX3_changePitch Θ p0 p1 p2 p3 p_pitches p_spoiled v11 v12 v13 p_strokes p_goodParts p_badParts p_slugs v10 r14 r15 (r16 + r17) u18 u19 u20 hg) (gwV lk_9e02a978 lk_9b1473f3 lk_28f6ff40 lk_106b7259 lk_f4a9229d) rfl hvX3_changePitch ⟨rfl, rfl⟩ ⟨Nat.le_of_ble_eq_true rfl, Nat.le_of_ble_eq_true rfl⟩ ⟨Nat.zero_le _, Nat.zero_le _⟩ rfl rfl (Nat.le_of_ble_eq_true rfl) 0 rfl vc3 rfl rfl rfl rfl (by decide) ?_
    refine sw_iinc 40 G (v10 + (-1 : Int32)) [(2, .int (v10 + (-1 : Int32))), (0, .ref p0), (1, .ref d0)] dX3_moveOn_40 2 rfl rfl (by decide) rfl ?_
    refine sw_goto 43 G 3 dX3_moveOn_43 rfl ?_
    cases hf
    have hb := hin3 _ rfl
    exact sw_lv _ [1, 2, 0] (by rfl) hb
abbrev rmX3_hasAllBends : Room := { frames := 1, cells := 0, slots := 0, locals := 23 }
theorem hvX3_hasAllBends : yX3_hasAllBends.cls = RX3 ∧ yX3_hasAllBends.cls ≠ "java/lang/invoke/MethodHandle" ∧ yX3_hasAllBends.cls ≠ "java/lang/invoke/VarHandle" ∧ (parseMethodDescriptor yX3_hasAllBends.desc).map (fun d => d.parameters.length) = some 2 := by decide +kernel
set_option maxRecDepth 100000 in
set_option maxHeartbeats 4000000 in
theorem kX3_hasAllBends (Θ : Tht) (F : Nat) (p0 p1 p2 p3 d0 d1 d2 d3 : Nat) (p_pitches : Int32) (p_spoiled : Int32) (p_cells : Nat → Int64) (p_bends : Nat → Int32) (p_offsets : Nat → Int32) (p_strokes : Int32) (p_goodParts : Int32) (p_badParts : Int32) (p_slugs : Int32) (d_columns : Int32) (d_rows : Int32) (d_carrier : Int32) (d_partMarks : Int64) (d_linkMarks : Int64) (d_operations : Int32) (d_pilots : Int32) (d_settings : Nat → Int32) (d_facts : Nat → Int32) (d_cells : Nat → Int64) (a1 : Int32) (ro : Int32) (hf : fX3_hasAllBends F p_bends d_operations d_facts a1 = some ro) : Fn Θ yX3_hasAllBends (Cond.code yX3_hasAllBends cX3_hasAllBends 4 (some .boolean) :: GW) rmX3_hasAllBends [.ref p0, .ref d0, .int a1] (wX3 Θ p0 p1 p2 p3 p_pitches p_spoiled p_cells p_bends p_offsets p_strokes p_goodParts p_badParts p_slugs ++ wX1 Θ d0 d1 d2 d3 d_columns d_rows d_carrier d_partMarks d_linkMarks d_operations d_pilots d_settings d_facts d_cells) (some (.int ro)) (wX3 Θ p0 p1 p2 p3 p_pitches p_spoiled p_cells p_bends p_offsets p_strokes p_goodParts p_badParts p_slugs ++ wX1 Θ d0 d1 d2 d3 d_columns d_rows d_carrier d_partMarks d_linkMarks d_operations d_pilots d_settings d_facts d_cells) := by
  delta fX3_hasAllBends at hf
  refine Fn.of (by decide +kernel) rfl (Nat.le_of_ble_eq_true rfl) (fun p e s m args below meth c A Q G K => ?_)
  show sw Θ p e rmX3_hasAllBends s m args below meth c A Q 4 0 0 0 [(0, .ref p0), (1, .ref d0), (2, .int a1)] [] (wX3 Θ p0 p1 p2 p3 p_pitches p_spoiled p_cells p_bends p_offsets p_strokes p_goodParts p_badParts p_slugs ++ wX1 Θ d0 d1 d2 d3 d_columns d_rows d_carrier d_partMarks d_linkMarks d_operations d_pilots d_settings d_facts d_cells)
  refine sw_iconst 0 G (0 : Int32) dX3_hasAllBends_0 rfl ?_
  refine sw_istore_n 1 G [(3, .int (0 : Int32)), (0, .ref p0), (1, .ref d0), (2, .int a1)] dX3_hasAllBends_1 (by decide) rfl ?_
  obtain ⟨w2, hl, hf0, hf1⟩ := bdS2_some hf
  have hx2_32 : w2 = .inl () → sw Θ p e rmX3_hasAllBends s m args below meth c A Q 4 0 0 32 [] [] (wX3 Θ p0 p1 p2 p3 p_pitches p_spoiled p_cells p_bends p_offsets p_strokes p_goodParts p_badParts p_slugs ++ wX1 Θ d0 d1 d2 d3 d_columns d_rows d_carrier d_partMarks d_linkMarks d_operations d_pilots d_settings d_facts d_cells) := by
    intro  hw
    have hf := uc0_some (hf0 _ hw)
    refine sw_iconst 32 G (0 : Int32) dX3_hasAllBends_32 rfl ?_
    cases hf
    exact sw_zret 33 G dX3_hasAllBends_33 K rfl
  have hx2_40 : w2 = .inr (()) → sw Θ p e rmX3_hasAllBends s m args below meth c A Q 4 0 0 40 [] [] (wX3 Θ p0 p1 p2 p3 p_pitches p_spoiled p_cells p_bends p_offsets p_strokes p_goodParts p_badParts p_slugs ++ wX1 Θ d0 d1 d2 d3 d_columns d_rows d_carrier d_partMarks d_linkMarks d_operations d_pilots d_settings d_facts d_cells) := by
    intro  hw
    have hf := uc0_some (hf1 _ hw)
    refine sw_iconst 40 G (1 : Int32) dX3_hasAllBends_40 rfl ?_
    cases hf
    exact sw_zret 41 G dX3_hasAllBends_41 K rfl
  refine sw_lv [(0, .ref p0), (1, .ref d0), (2, .int a1), (3, .int (0 : Int32))] [1, 2, 3, 0] rfl ?_
  refine lp_walk (P := fun (t : Int32) => sw Θ p e rmX3_hasAllBends s m args below meth c A Q 4 0 0 2 [(0, .ref p0), (1, .ref d0), (2, .int a1), (3, .int t)] [] (wX3 Θ p0 p1 p2 p3 p_pitches p_spoiled p_cells p_bends p_offsets p_strokes p_goodParts p_badParts p_slugs ++ wX1 Θ d0 d1 d2 d3 d_columns d_rows d_carrier d_partMarks d_linkMarks d_operations d_pilots d_settings d_facts d_cells)) hl (fun t2 y2 hf hin2 hex2 => ?_)
  obtain ⟨v1, rfl⟩ : ∃ z, z = t2 := ⟨_, rfl⟩
  show sw Θ p e rmX3_hasAllBends s m args below meth c A Q 4 0 0 2 [(0, .ref p0), (1, .ref d0), (2, .int a1), (3, .int v1)] [] (wX3 Θ p0 p1 p2 p3 p_pitches p_spoiled p_cells p_bends p_offsets p_strokes p_goodParts p_badParts p_slugs ++ wX1 Θ d0 d1 d2 d3 d_columns d_rows d_carrier d_partMarks d_linkMarks d_operations d_pilots d_settings d_facts d_cells)
  have hf := uc1_some (K := _) hf
  refine sw_iload_n 2 G dX3_hasAllBends_2 3 rfl ?_
  refine sw_aload_n 3 G dX3_hasAllBends_3 1 rfl ?_
  refine sw_get 4 G hnX1 4 5 dX3_hasAllBends_4 vc1 (by decide) (List.mem_cons_of_mem _ lk_7a08871e) rfl rfl ?_
  refine sw_icmp_ge 7 40 G dX3_hasAllBends_7 rfl hf (fun hf => ?_) (fun hf => ?_)
  · cases hf
    exact sw_lv _ [] rfl (hx2_40  (hex2 _ rfl).symm)
  · refine sw_aload_n 10 G dX3_hasAllBends_10 1 rfl ?_
    refine sw_iload_n 11 G dX3_hasAllBends_11 3 rfl ?_
    refine sw_iconst 12 G (0 : Int32) dX3_hasAllBends_12 rfl ?_
    obtain ⟨r2, hg, hf⟩ := bd1_some hf
    refine sw_callV 13 G (wX3 Θ p0 p1 p2 p3 p_pitches p_spoiled p_cells p_bends p_offsets p_strokes p_goodParts p_badParts p_slugs ++ wX1 Θ d0 d1 d2 d3 d_columns d_rows d_carrier d_partMarks d_linkMarks d_operations d_pilots d_settings d_facts d_cells) [4, 5, 6, 7] [0, 1, 2, 3] [0, 1, 2, 3, 4, 5, 6, 7] 2 dX3_hasAllBends_13 (kX1_fact Θ d0 d1 d2 d3 d_columns d_rows d_carrier d_partMarks d_linkMarks d_operations d_pilots d_settings d_facts d_cells v1 (0 : Int32) r2 hg) (gwV lk_e801f31c lk_e025dfb3 lk_773339a1 lk_cf66e99d lk_334ef9fb) rfl hvX1_fact ⟨rfl, rfl⟩ ⟨Nat.le_of_ble_eq_true rfl, Nat.le_of_ble_eq_true rfl⟩ ⟨Nat.zero_le _, Nat.zero_le _⟩ rfl rfl (Nat.le_of_ble_eq_true rfl) 0 rfl vc1 rfl rfl rfl rfl (by decide) ?_
    refine sw_iconst 16 G (1 : Int32) dX3_hasAllBends_16 rfl ?_
    refine sw_icmp_ne 17 34 G dX3_hasAllBends_17 rfl hf (fun hf => ?_) (fun hf => ?_)
    · refine sw_iinc 34 G (v1 + (1 : Int32)) [(3, .int (v1 + (1 : Int32))), (0, .ref p0), (1, .ref d0), (2, .int a1)] dX3_hasAllBends_34 3 rfl rfl (by decide) rfl ?_
      refine sw_goto 37 G 2 dX3_hasAllBends_37 rfl ?_
      cases hf
      have hb := hin2 _ rfl
      exact sw_lv _ [1, 2, 3, 0] (by rfl) hb
    · refine sw_aload_n 20 G dX3_hasAllBends_20 0 rfl ?_
      refine sw_iload_n 21 G dX3_hasAllBends_21 2 rfl ?_
      obtain ⟨r3, hg, hf⟩ := bd1_some hf
      refine sw_callV 22 G (wX3 Θ p0 p1 p2 p3 p_pitches p_spoiled p_cells p_bends p_offsets p_strokes p_goodParts p_badParts p_slugs ++ wX1 Θ d0 d1 d2 d3 d_columns d_rows d_carrier d_partMarks d_linkMarks d_operations d_pilots d_settings d_facts d_cells) [0, 1, 2, 3] [4, 5, 6, 7] [4, 5, 6, 7, 0, 1, 2, 3] 1 dX3_hasAllBends_22 (kX3_bendsAt Θ p0 p1 p2 p3 p_pitches p_spoiled p_cells p_bends p_offsets p_strokes p_goodParts p_badParts p_slugs a1 r3 hg) (gwV lk_0ac4e58a lk_62f9d61d lk_1bfc3192 lk_106b7259 lk_b1d3b07c) rfl hvX3_bendsAt ⟨rfl, rfl⟩ ⟨Nat.le_of_ble_eq_true rfl, Nat.le_of_ble_eq_true rfl⟩ ⟨Nat.zero_le _, Nat.zero_le _⟩ rfl rfl (Nat.le_of_ble_eq_true rfl) 0 rfl vc3 rfl rfl rfl rfl (by decide) ?_
      refine sw_iload_n 25 G dX3_hasAllBends_25 3 rfl ?_
      obtain ⟨r4, hg, hf⟩ := bd1_some hf
      refine sw_callSN 26 G (wX3 Θ p0 p1 p2 p3 p_pitches p_spoiled p_cells p_bends p_offsets p_strokes p_goodParts p_badParts p_slugs ++ wX1 Θ d0 d1 d2 d3 d_columns d_rows d_carrier d_partMarks d_linkMarks d_operations d_pilots d_settings d_facts d_cells) [] [0, 1, 2, 3, 4, 5, 6, 7] [0, 1, 2, 3, 4, 5, 6, 7] 2 dX3_hasAllBends_26 (kX5_isIn Θ r3 v1 r4 hg) (gwN lk_9805779a) (List.mem_of_getElem? (i := 11) rfl) (List.mem_cons_of_mem _ lk_17fb23dc) (List.mem_cons_of_mem _ lk_b26544b5) rfl hsX5_isIn ⟨rfl, rfl⟩ ⟨Nat.le_of_ble_eq_true rfl, Nat.le_of_ble_eq_true rfl⟩ ⟨Nat.zero_le _, Nat.zero_le _⟩ rfl rfl (Nat.le_of_ble_eq_true rfl) rfl rfl rfl (by decide) ?_
      refine sw_if_ne 29 34 G dX3_hasAllBends_29 rfl hf (fun hf => ?_) (fun hf => ?_)
      · refine sw_iinc 34 G (v1 + (1 : Int32)) [(3, .int (v1 + (1 : Int32))), (0, .ref p0), (1, .ref d0), (2, .int a1)] dX3_hasAllBends_34 3 rfl rfl (by decide) rfl ?_
        refine sw_goto 37 G 2 dX3_hasAllBends_37 rfl ?_
        cases hf
        have hb := hin2 _ rfl
        exact sw_lv _ [1, 2, 3, 0] (by rfl) hb
      · cases hf
        exact sw_lv _ [] rfl (hx2_32  (hex2 _ rfl).symm)
abbrev rmX3_cutOff : Room := { frames := 2, cells := 0, slots := 0, locals := 46 }
theorem hvX3_cutOff : yX3_cutOff.cls = RX3 ∧ yX3_cutOff.cls ≠ "java/lang/invoke/MethodHandle" ∧ yX3_cutOff.cls ≠ "java/lang/invoke/VarHandle" ∧ (parseMethodDescriptor yX3_cutOff.desc).map (fun d => d.parameters.length) = some 1 := by decide +kernel
set_option maxRecDepth 100000 in
set_option maxHeartbeats 4000000 in
theorem kX3_cutOff (Θ : Tht) (F : Nat) (p0 p1 p2 p3 d0 d1 d2 d3 : Nat) (p_pitches : Int32) (p_spoiled : Int32) (p_cells : Nat → Int64) (p_bends : Nat → Int32) (p_offsets : Nat → Int32) (p_strokes : Int32) (p_goodParts : Int32) (p_badParts : Int32) (p_slugs : Int32) (d_columns : Int32) (d_rows : Int32) (d_carrier : Int32) (d_partMarks : Int64) (d_linkMarks : Int64) (d_operations : Int32) (d_pilots : Int32) (d_settings : Nat → Int32) (d_facts : Nat → Int32) (d_cells : Nat → Int64) (o_p_pitches : Int32) (o_p_spoiled : Int32) (o_p_goodParts : Int32) (o_p_badParts : Int32) (hf : fX3_cutOff F p_pitches p_spoiled p_cells p_bends p_goodParts p_badParts d_columns d_rows d_carrier d_partMarks d_linkMarks d_operations d_facts = some (o_p_pitches, o_p_spoiled, o_p_goodParts, o_p_badParts)) : Fn Θ yX3_cutOff (Cond.code yX3_cutOff cX3_cutOff 8 none :: GW) rmX3_cutOff [.ref p0, .ref d0] (wX3 Θ p0 p1 p2 p3 p_pitches p_spoiled p_cells p_bends p_offsets p_strokes p_goodParts p_badParts p_slugs ++ wX1 Θ d0 d1 d2 d3 d_columns d_rows d_carrier d_partMarks d_linkMarks d_operations d_pilots d_settings d_facts d_cells) none (wX3 Θ p0 p1 p2 p3 o_p_pitches o_p_spoiled p_cells p_bends p_offsets p_strokes o_p_goodParts o_p_badParts p_slugs ++ wX1 Θ d0 d1 d2 d3 d_columns d_rows d_carrier d_partMarks d_linkMarks d_operations d_pilots d_settings d_facts d_cells) := by
  delta fX3_cutOff at hf
  refine Fn.of (by decide +kernel) rfl (Nat.le_of_ble_eq_true rfl) (fun p e s m args below meth c A Q G K => ?_)
  show sw Θ p e rmX3_cutOff s m args below meth c A Q 8 0 0 0 [(0, .ref p0), (1, .ref d0)] [] (wX3 Θ p0 p1 p2 p3 p_pitches p_spoiled p_cells p_bends p_offsets p_strokes p_goodParts p_badParts p_slugs ++ wX1 Θ d0 d1 d2 d3 d_columns d_rows d_carrier d_partMarks d_linkMarks d_operations d_pilots d_settings d_facts d_cells)
  refine sw_aload_n 0 G dX3_cutOff_0 1 rfl ?_
  obtain ⟨r1, hg, hf⟩ := bd1_some hf
  refine sw_callV 1 G (wX3 Θ p0 p1 p2 p3 p_pitches p_spoiled p_cells p_bends p_offsets p_strokes p_goodParts p_badParts p_slugs ++ wX1 Θ d0 d1 d2 d3 d_columns d_rows d_carrier d_partMarks d_linkMarks d_operations d_pilots d_settings d_facts d_cells) [4, 5, 6, 7] [0, 1, 2, 3] [0, 1, 2, 3, 4, 5, 6, 7] 0 dX3_cutOff_1 (kX1_partCells Θ d0 d1 d2 d3 d_columns d_rows d_carrier d_partMarks d_linkMarks d_operations d_pilots d_settings d_facts d_cells r1 hg) (gwV lk_bcb7ec5c lk_c137cc36 lk_24905df5 lk_cf66e99d lk_e39ae260) rfl hvX1_partCells ⟨rfl, rfl⟩ ⟨Nat.le_of_ble_eq_true rfl, Nat.le_of_ble_eq_true rfl⟩ ⟨Nat.zero_le _, Nat.zero_le _⟩ rfl rfl (Nat.le_of_ble_eq_true rfl) 0 rfl vc1 rfl rfl rfl rfl (by decide) ?_
  refine sw_lstore_n 4 G [(2, .long r1), (0, .ref p0), (1, .ref d0)] dX3_cutOff_4 (by decide) rfl ?_
  refine sw_aload_n 5 G dX3_cutOff_5 2 rfl ?_
  obtain ⟨r2, hg, hf⟩ := bd1_some hf
  refine sw_callV 6 G (wX3 Θ p0 p1 p2 p3 p_pitches p_spoiled p_cells p_bends p_offsets p_strokes p_goodParts p_badParts p_slugs ++ wX1 Θ d0 d1 d2 d3 d_columns d_rows d_carrier d_partMarks d_linkMarks d_operations d_pilots d_settings d_facts d_cells) [4, 5, 6, 7] [0, 1, 2, 3] [0, 1, 2, 3, 4, 5, 6, 7] 0 dX3_cutOff_6 (kX1_wasteCells Θ d0 d1 d2 d3 d_columns d_rows d_carrier d_partMarks d_linkMarks d_operations d_pilots d_settings d_facts d_cells r2 hg) (gwV lk_4e3dcbf1 lk_202d8319 lk_d82e9ee9 lk_cf66e99d lk_69461565) rfl hvX1_wasteCells ⟨rfl, rfl⟩ ⟨Nat.le_of_ble_eq_true rfl, Nat.le_of_ble_eq_true rfl⟩ ⟨Nat.zero_le _, Nat.zero_le _⟩ rfl rfl (Nat.le_of_ble_eq_true rfl) 0 rfl vc1 rfl rfl rfl rfl (by decide) ?_
  refine sw_lstore 9 G [(4, .long r2), (2, .long r1), (0, .ref p0), (1, .ref d0)] dX3_cutOff_9 (by decide) rfl ?_
  refine sw_aload_n 11 G dX3_cutOff_11 3 rfl ?_
  obtain ⟨r3, hg, hf⟩ := bd1_some hf
  refine sw_callV 12 G (wX3 Θ p0 p1 p2 p3 p_pitches p_spoiled p_cells p_bends p_offsets p_strokes p_goodParts p_badParts p_slugs ++ wX1 Θ d0 d1 d2 d3 d_columns d_rows d_carrier d_partMarks d_linkMarks d_operations d_pilots d_settings d_facts d_cells) [4, 5, 6, 7] [0, 1, 2, 3] [0, 1, 2, 3, 4, 5, 6, 7] 0 dX3_cutOff_12 (kX1_planStations Θ F d0 d1 d2 d3 d_columns d_rows d_carrier d_partMarks d_linkMarks d_operations d_pilots d_settings d_facts d_cells r3 hg) (gwV lk_c02748fa lk_689cce7d lk_1bab9988 lk_cf66e99d lk_0742ede3) rfl hvX1_planStations ⟨rfl, rfl⟩ ⟨Nat.le_of_ble_eq_true rfl, Nat.le_of_ble_eq_true rfl⟩ ⟨Nat.zero_le _, Nat.zero_le _⟩ rfl rfl (Nat.le_of_ble_eq_true rfl) 0 rfl vc1 rfl rfl rfl rfl (by decide) ?_
  refine sw_istore 15 G [(6, .int r3), (4, .long r2), (2, .long r1), (0, .ref p0), (1, .ref d0)] dX3_cutOff_15 (by decide) rfl ?_
  obtain ⟨v4, v5, v6, v7, hl, hf⟩ := bd4_some hf
  have hx17_142 : sw Θ p e rmX3_cutOff s m args below meth c A Q 8 0 0 142 [] [] (wX3 Θ p0 p1 p2 p3 v4 v5 p_cells p_bends p_offsets p_strokes v6 v7 p_slugs ++ wX1 Θ d0 d1 d2 d3 d_columns d_rows d_carrier d_partMarks d_linkMarks d_operations d_pilots d_settings d_facts d_cells) := by
    cases hf
    exact sw_vret 142 G dX3_cutOff_142 K
  refine sw_lv [(0, .ref p0), (1, .ref d0), (2, .long r1), (4, .long r2), (6, .int r3)] [3, 4, 2, 1, 0] rfl ?_
  refine lp_walk (P := fun (t : Int32 × Int32 × Int32 × Int32 × Int32) => sw Θ p e rmX3_cutOff s m args below meth c A Q 8 0 0 17 [(0, .ref p0), (1, .ref d0), (2, .long r1), (4, .long r2), (6, .int t.1)] [] (wX3 Θ p0 p1 p2 p3 t.2.1 t.2.2.1 p_cells p_bends p_offsets p_strokes t.2.2.2.1 t.2.2.2.2 p_slugs ++ wX1 Θ d0 d1 d2 d3 d_columns d_rows d_carrier d_partMarks d_linkMarks d_operations d_pilots d_settings d_facts d_cells)) hl (fun t17 y17 hf hin17 hex17 => ?_)
  obtain ⟨v8, v9, v10, v11, v12⟩ := t17
  show sw Θ p e rmX3_cutOff s m args below meth c A Q 8 0 0 17 [(0, .ref p0), (1, .ref d0), (2, .long r1), (4, .long r2), (6, .int v8)] [] (wX3 Θ p0 p1 p2 p3 v9 v10 p_cells p_bends p_offsets p_strokes v11 v12 p_slugs ++ wX1 Θ d0 d1 d2 d3 d_columns d_rows d_carrier d_partMarks d_linkMarks d_operations d_pilots d_settings d_facts d_cells)
  have hf := uc5_some (K := _) hf
  refine sw_iload 17 G dX3_cutOff_17 4 rfl ?_
  refine sw_bipush 19 G (9 : Int32) dX3_cutOff_19 rfl ?_
  refine sw_icmp_ge 21 142 G dX3_cutOff_21 rfl hf (fun hf => ?_) (fun hf => ?_)
  · cases hf
    cases hex17 _ rfl
    exact sw_lv _ [] rfl hx17_142
  · refine sw_aload_n 24 G dX3_cutOff_24 0 rfl ?_
    refine sw_iload 25 G dX3_cutOff_25 4 rfl ?_
    obtain ⟨r13, hg, hf⟩ := bd1_some hf
    refine sw_callV 27 G (wX3 Θ p0 p1 p2 p3 v9 v10 p_cells p_bends p_offsets p_strokes v11 v12 p_slugs ++ wX1 Θ d0 d1 d2 d3 d_columns d_rows d_carrier d_partMarks d_linkMarks d_operations d_pilots d_settings d_facts d_cells) [0, 1, 2, 3] [4, 5, 6, 7] [4, 5, 6, 7, 0, 1, 2, 3] 1 dX3_cutOff_27 (kX3_hasPitch Θ p0 p1 p2 p3 v9 v10 p_cells p_bends p_offsets p_strokes v11 v12 p_slugs v8 r13 hg) (gwV lk_74ea2194 lk_fd3c2946 lk_50272c2a lk_106b7259 lk_6e102d63) rfl hvX3_hasPitch ⟨rfl, rfl⟩ ⟨Nat.le_of_ble_eq_true rfl, Nat.le_of_ble_eq_true rfl⟩ ⟨Nat.zero_le _, Nat.zero_le _⟩ rfl rfl (Nat.le_of_ble_eq_true rfl) 0 rfl vc3 rfl rfl rfl rfl (by decide) ?_
    obtain ⟨v14, v15, v16, v17, hj, hf⟩ := bd4_some hf
    have hx136 : sw Θ p e rmX3_cutOff s m args below meth c A Q 8 0 0 136 [(0, .ref p0), (1, .ref d0), (2, .long r1), (4, .long r2), (6, .int v8)] [] (wX3 Θ p0 p1 p2 p3 v14 v15 p_cells p_bends p_offsets p_strokes v16 v17 p_slugs ++ wX1 Θ d0 d1 d2 d3 d_columns d_rows d_carrier d_partMarks d_linkMarks d_operations d_pilots d_settings d_facts d_cells) := by
      refine sw_iinc 136 G (v8 + (1 : Int32)) [(6, .int (v8 + (1 : Int32))), (0, .ref p0), (1, .ref d0), (2, .long r1), (4, .long r2)] dX3_cutOff_136 4 rfl rfl (by decide) rfl ?_
      refine sw_goto 139 G 17 dX3_cutOff_139 rfl ?_
      cases hf
      have hb := hin17 _ rfl
      exact sw_lv _ [1, 2, 3, 4, 0] (by rfl) hb
    clear hf
    have hf := hj
    clear hj
    refine sw_if_eq 30 136 G dX3_cutOff_30 rfl hf (fun hf => ?_) (fun hf => ?_)
    · cases hf
      exact sw_lv _ [0, 1, 2, 3, 4] rfl hx136
    · refine sw_aload_n 33 G dX3_cutOff_33 0 rfl ?_
      refine sw_iload 34 G dX3_cutOff_34 4 rfl ?_
      obtain ⟨r18, hg, hf⟩ := bd1_some hf
      refine sw_callV 36 G (wX3 Θ p0 p1 p2 p3 v9 v10 p_cells p_bends p_offsets p_strokes v11 v12 p_slugs ++ wX1 Θ d0 d1 d2 d3 d_columns d_rows d_carrier d_partMarks d_linkMarks d_operations d_pilots d_settings d_facts d_cells) [0, 1, 2, 3] [4, 5, 6, 7] [4, 5, 6, 7, 0, 1, 2, 3] 1 dX3_cutOff_36 (kX3_cellsAt Θ p0 p1 p2 p3 v9 v10 p_cells p_bends p_offsets p_strokes v11 v12 p_slugs v8 r18 hg) (gwV lk_b2e51c0f lk_efd6e65a lk_d5dc047d lk_106b7259 lk_cecdbcae) rfl hvX3_cellsAt ⟨rfl, rfl⟩ ⟨Nat.le_of_ble_eq_true rfl, Nat.le_of_ble_eq_true rfl⟩ ⟨Nat.zero_le _, Nat.zero_le _⟩ rfl rfl (Nat.le_of_ble_eq_true rfl) 0 rfl vc3 rfl rfl rfl rfl (by decide) ?_
      refine sw_lload_n 39 G dX3_cutOff_39 2 rfl ?_
      refine sw_lload 40 G dX3_cutOff_40 3 rfl ?_
      refine sw_lor 42 G dX3_cutOff_42 ?_
      refine sw_land 43 G dX3_cutOff_43 ?_
      refine sw_lload_n 44 G dX3_cutOff_44 2 rfl ?_
      refine sw_lcmp 45 G dX3_cutOff_45 ?_
      obtain ⟨v19, hj, hf⟩ := bd1_some hf
      have hx54 : sw Θ p e rmX3_cutOff s m args below meth c A Q 8 0 0 54 [(0, .ref p0), (1, .ref d0), (2, .long r1), (4, .long r2), (6, .int v8)] [.int v19] (wX3 Θ p0 p1 p2 p3 v9 v10 p_cells p_bends p_offsets p_strokes v11 v12 p_slugs ++ wX1 Θ d0 d1 d2 d3 d_columns d_rows d_carrier d_partMarks d_linkMarks d_operations d_pilots d_settings d_facts d_cells) := by
        refine sw_istore 54 G [(7, .int v19), (0, .ref p0), (1, .ref d0), (2, .long r1), (4, .long r2), (6, .int v8)] dX3_cutOff_54 (by decide) rfl ?_
        refine sw_iload 56 G dX3_cutOff_56 0 rfl ?_
        obtain ⟨v20, v21, hj, hf⟩ := bd2_some hf
        have hx106 : sw Θ p e rmX3_cutOff s m args below meth c A Q 8 0 0 106 [(0, .ref p0), (1, .ref d0), (2, .long r1), (4, .long r2), (6, .int v8)] [] (wX3 Θ p0 p1 p2 p3 v9 v10 p_cells p_bends p_offsets p_strokes v20 v21 p_slugs ++ wX1 Θ d0 d1 d2 d3 d_columns d_rows d_carrier d_partMarks d_linkMarks d_operations d_pilots d_settings d_facts d_cells) := by
          refine sw_aload_n 106 G dX3_cutOff_106 0 rfl ?_
          refine sw_dup 107 G dX3_cutOff_107 rfl ?_
          refine sw_get 108 G hnX3 0 0 dX3_cutOff_108 vc3 (by decide) (List.mem_cons_of_mem _ lk_25c1e955) rfl rfl ?_
          refine sw_iconst 111 G (1 : Int32) dX3_cutOff_111 rfl ?_
          refine sw_iload 112 G dX3_cutOff_112 4 rfl ?_
          refine sw_ishl 114 G dX3_cutOff_114 ?_
          refine sw_iconst 115 G (-1 : Int32) dX3_cutOff_115 rfl ?_
          refine sw_ixor 116 G dX3_cutOff_116 ?_
          refine sw_iand 117 G dX3_cutOff_117 ?_
          refine sw_nmi hf (fun v28 hf => ?_)
          refine sw_put 118 G hnX3 tyX3_ok nmX3 0 0 (wX3 Θ p0 p1 p2 p3 v28 v10 p_cells p_bends p_offsets p_strokes v20 v21 p_slugs ++ wX1 Θ d0 d1 d2 d3 d_columns d_rows d_carrier d_partMarks d_linkMarks d_operations d_pilots d_settings d_facts d_cells) dX3_cutOff_118 vc3 (by decide) (List.mem_cons_of_mem _ lk_25c1e955) rfl rfl (Nat.le_of_ble_eq_true rfl) (tyX3_ok 0 (by decide)) rfl rfl rfl ?_
          refine sw_aload_n 121 G dX3_cutOff_121 0 rfl ?_
          refine sw_dup 122 G dX3_cutOff_122 rfl ?_
          refine sw_get 123 G hnX3 0 1 dX3_cutOff_123 vc3 (by decide) (List.mem_cons_of_mem _ lk_731f9edd) rfl rfl ?_
          refine sw_iconst 126 G (1 : Int32) dX3_cutOff_126 rfl ?_
          refine sw_iload 127 G dX3_cutOff_127 4 rfl ?_
          refine sw_ishl 129 G dX3_cutOff_129 ?_
          refine sw_iconst 130 G (-1 : Int32) dX3_cutOff_130 rfl ?_
          refine sw_ixor 131 G dX3_cutOff_131 ?_
          refine sw_iand 132 G dX3_cutOff_132 ?_
          refine sw_nmi hf (fun v29 hf => ?_)
          refine sw_put 133 G hnX3 tyX3_ok nmX3 0 1 (wX3 Θ p0 p1 p2 p3 v28 v29 p_cells p_bends p_offsets p_strokes v20 v21 p_slugs ++ wX1 Θ d0 d1 d2 d3 d_columns d_rows d_carrier d_partMarks d_linkMarks d_operations d_pilots d_settings d_facts d_cells) dX3_cutOff_133 vc3 (by decide) (List.mem_cons_of_mem _ lk_731f9edd) rfl rfl (Nat.le_of_ble_eq_true rfl) (tyX3_ok 1 (by decide)) rfl rfl rfl ?_
          cases hf
          exact sw_lv _ [0, 1, 2, 3, 4] rfl hx136
        clear hf
        have hf := hj
        clear hj
        refine sw_if_eq 58 96 G dX3_cutOff_58 rfl hf (fun hf => ?_) (fun hf => ?_)
        · refine sw_aload_n 96 G dX3_cutOff_96 1 rfl ?_
          refine sw_dup 97 G dX3_cutOff_97 rfl ?_
          refine sw_get 98 G hnX3 0 7 dX3_cutOff_98 vc3 (by decide) (List.mem_cons_of_mem _ lk_0f797579) rfl rfl ?_
          refine sw_iconst 101 G (1 : Int32) dX3_cutOff_101 rfl ?_
          refine sw_iadd 102 G dX3_cutOff_102 ?_
          refine sw_nmi hf (fun v22 hf => ?_)
          refine sw_put 103 G hnX3 tyX3_ok nmX3 0 7 (wX3 Θ p0 p1 p2 p3 v9 v10 p_cells p_bends p_offsets p_strokes v11 v22 p_slugs ++ wX1 Θ d0 d1 d2 d3 d_columns d_rows d_carrier d_partMarks d_linkMarks d_operations d_pilots d_settings d_facts d_cells) dX3_cutOff_103 vc3 (by decide) (List.mem_cons_of_mem _ lk_0f797579) rfl rfl (Nat.le_of_ble_eq_true rfl) (tyX3_ok 7 (by decide)) rfl rfl rfl ?_
          cases hf
          exact sw_lv _ [1, 2, 3, 4, 5] rfl hx106
        · refine sw_aload_n 61 G dX3_cutOff_61 1 rfl ?_
          refine sw_aload_n 62 G dX3_cutOff_62 2 rfl ?_
          refine sw_iload 63 G dX3_cutOff_63 5 rfl ?_
          obtain ⟨r23, hg, hf⟩ := bd1_some hf
          refine sw_callV 65 G (wX3 Θ p0 p1 p2 p3 v9 v10 p_cells p_bends p_offsets p_strokes v11 v12 p_slugs ++ wX1 Θ d0 d1 d2 d3 d_columns d_rows d_carrier d_partMarks d_linkMarks d_operations d_pilots d_settings d_facts d_cells) [0, 1, 2, 3, 4, 5, 6, 7] [] [0, 1, 2, 3, 4, 5, 6, 7] 2 dX3_cutOff_65 (kX3_hasAllBends Θ F p0 p1 p2 p3 d0 d1 d2 d3 v9 v10 p_cells p_bends p_offsets p_strokes v11 v12 p_slugs d_columns d_rows d_carrier d_partMarks d_linkMarks d_operations d_pilots d_settings d_facts d_cells v8 r23 hg) (gwV lk_cc43497b lk_dfee8cff lk_fdc410cb lk_106b7259 lk_615c7225) rfl hvX3_hasAllBends ⟨rfl, rfl⟩ ⟨Nat.le_of_ble_eq_true rfl, Nat.le_of_ble_eq_true rfl⟩ ⟨Nat.zero_le _, Nat.zero_le _⟩ rfl rfl (Nat.le_of_ble_eq_true rfl) 0 rfl vc3 rfl rfl rfl rfl (by decide) ?_
          refine sw_if_eq 68 96 G dX3_cutOff_68 rfl hf (fun hf => ?_) (fun hf => ?_)
          · refine sw_aload_n 96 G dX3_cutOff_96 1 rfl ?_
            refine sw_dup 97 G dX3_cutOff_97 rfl ?_
            refine sw_get 98 G hnX3 0 7 dX3_cutOff_98 vc3 (by decide) (List.mem_cons_of_mem _ lk_0f797579) rfl rfl ?_
            refine sw_iconst 101 G (1 : Int32) dX3_cutOff_101 rfl ?_
            refine sw_iadd 102 G dX3_cutOff_102 ?_
            refine sw_nmi hf (fun v24 hf => ?_)
            refine sw_put 103 G hnX3 tyX3_ok nmX3 0 7 (wX3 Θ p0 p1 p2 p3 v9 v10 p_cells p_bends p_offsets p_strokes v11 v24 p_slugs ++ wX1 Θ d0 d1 d2 d3 d_columns d_rows d_carrier d_partMarks d_linkMarks d_operations d_pilots d_settings d_facts d_cells) dX3_cutOff_103 vc3 (by decide) (List.mem_cons_of_mem _ lk_0f797579) rfl rfl (Nat.le_of_ble_eq_true rfl) (tyX3_ok 7 (by decide)) rfl rfl rfl ?_
            cases hf
            exact sw_lv _ [1, 2, 3, 4, 5] rfl hx106
          · refine sw_aload_n 71 G dX3_cutOff_71 1 rfl ?_
            refine sw_get 72 G hnX3 0 1 dX3_cutOff_72 vc3 (by decide) (List.mem_cons_of_mem _ lk_731f9edd) rfl rfl ?_
            refine sw_iload 75 G dX3_cutOff_75 5 rfl ?_
            obtain ⟨r25, hg, hf⟩ := bd1_some hf
            refine sw_callSN 77 G (wX3 Θ p0 p1 p2 p3 v9 v10 p_cells p_bends p_offsets p_strokes v11 v12 p_slugs ++ wX1 Θ d0 d1 d2 d3 d_columns d_rows d_carrier d_partMarks d_linkMarks d_operations d_pilots d_settings d_facts d_cells) [] [0, 1, 2, 3, 4, 5, 6, 7] [0, 1, 2, 3, 4, 5, 6, 7] 2 dX3_cutOff_77 (kX5_isIn Θ v10 v8 r25 hg) (gwN lk_9805779a) (List.mem_of_getElem? (i := 11) rfl) (List.mem_cons_of_mem _ lk_17fb23dc) (List.mem_cons_of_mem _ lk_b26544b5) rfl hsX5_isIn ⟨rfl, rfl⟩ ⟨Nat.le_of_ble_eq_true rfl, Nat.le_of_ble_eq_true rfl⟩ ⟨Nat.zero_le _, Nat.zero_le _⟩ rfl rfl (Nat.le_of_ble_eq_true rfl) rfl rfl rfl (by decide) ?_
            refine sw_if_ne 80 96 G dX3_cutOff_80 rfl hf (fun hf => ?_) (fun hf => ?_)
            · refine sw_aload_n 96 G dX3_cutOff_96 1 rfl ?_
              refine sw_dup 97 G dX3_cutOff_97 rfl ?_
              refine sw_get 98 G hnX3 0 7 dX3_cutOff_98 vc3 (by decide) (List.mem_cons_of_mem _ lk_0f797579) rfl rfl ?_
              refine sw_iconst 101 G (1 : Int32) dX3_cutOff_101 rfl ?_
              refine sw_iadd 102 G dX3_cutOff_102 ?_
              refine sw_nmi hf (fun v26 hf => ?_)
              refine sw_put 103 G hnX3 tyX3_ok nmX3 0 7 (wX3 Θ p0 p1 p2 p3 v9 v10 p_cells p_bends p_offsets p_strokes v11 v26 p_slugs ++ wX1 Θ d0 d1 d2 d3 d_columns d_rows d_carrier d_partMarks d_linkMarks d_operations d_pilots d_settings d_facts d_cells) dX3_cutOff_103 vc3 (by decide) (List.mem_cons_of_mem _ lk_0f797579) rfl rfl (Nat.le_of_ble_eq_true rfl) (tyX3_ok 7 (by decide)) rfl rfl rfl ?_
              cases hf
              exact sw_lv _ [1, 2, 3, 4, 5] rfl hx106
            · refine sw_aload_n 83 G dX3_cutOff_83 1 rfl ?_
              refine sw_dup 84 G dX3_cutOff_84 rfl ?_
              refine sw_get 85 G hnX3 0 6 dX3_cutOff_85 vc3 (by decide) (List.mem_cons_of_mem _ lk_123d7bc8) rfl rfl ?_
              refine sw_iconst 88 G (1 : Int32) dX3_cutOff_88 rfl ?_
              refine sw_iadd 89 G dX3_cutOff_89 ?_
              refine sw_nmi hf (fun v27 hf => ?_)
              refine sw_put 90 G hnX3 tyX3_ok nmX3 0 6 (wX3 Θ p0 p1 p2 p3 v9 v10 p_cells p_bends p_offsets p_strokes v27 v12 p_slugs ++ wX1 Θ d0 d1 d2 d3 d_columns d_rows d_carrier d_partMarks d_linkMarks d_operations d_pilots d_settings d_facts d_cells) dX3_cutOff_90 vc3 (by decide) (List.mem_cons_of_mem _ lk_123d7bc8) rfl rfl (Nat.le_of_ble_eq_true rfl) (tyX3_ok 6 (by decide)) rfl rfl rfl ?_
              refine sw_goto 93 G 106 dX3_cutOff_93 rfl ?_
              cases hf
              exact sw_lv _ [1, 2, 3, 4, 5] rfl hx106
      clear hf
      have hf := hj
      clear hj
      refine sw_if_ne 46 53 G dX3_cutOff_46 rfl hf (fun hf => ?_) (fun hf => ?_)
      · refine sw_iconst 53 G (0 : Int32) dX3_cutOff_53 rfl ?_
        cases hf
        exact sw_lv _ [0, 1, 2, 3, 4] rfl hx54
      · refine sw_iconst 49 G (1 : Int32) dX3_cutOff_49 rfl ?_
        refine sw_goto 50 G 54 dX3_cutOff_50 rfl ?_
        cases hf
        exact sw_lv _ [0, 1, 2, 3, 4] rfl hx54
abbrev rmX3_catchDrift : Room := { frames := 2, cells := 0, slots := 0, locals := 42 }
theorem hvX3_catchDrift : yX3_catchDrift.cls = RX3 ∧ yX3_catchDrift.cls ≠ "java/lang/invoke/MethodHandle" ∧ yX3_catchDrift.cls ≠ "java/lang/invoke/VarHandle" ∧ (parseMethodDescriptor yX3_catchDrift.desc).map (fun d => d.parameters.length) = some 1 := by decide +kernel
set_option maxRecDepth 100000 in
set_option maxHeartbeats 4000000 in
theorem kX3_catchDrift (Θ : Tht) (F : Nat) (p0 p1 p2 p3 d0 d1 d2 d3 : Nat) (p_pitches : Int32) (p_spoiled : Int32) (p_cells : Nat → Int64) (p_bends : Nat → Int32) (p_offsets : Nat → Int32) (p_strokes : Int32) (p_goodParts : Int32) (p_badParts : Int32) (p_slugs : Int32) (d_columns : Int32) (d_rows : Int32) (d_carrier : Int32) (d_partMarks : Int64) (d_linkMarks : Int64) (d_operations : Int32) (d_pilots : Int32) (d_settings : Nat → Int32) (d_facts : Nat → Int32) (d_cells : Nat → Int64) (o_p_spoiled : Int32) (o_p_cells : Nat → Int64) (o_p_bends : Nat → Int32) (o_p_offsets : Nat → Int32) (hf : fX3_catchDrift F p_pitches p_spoiled p_cells p_bends p_offsets d_pilots d_settings = some (o_p_spoiled, o_p_cells, o_p_bends, o_p_offsets)) : Fn Θ yX3_catchDrift (Cond.code yX3_catchDrift cX3_catchDrift 3 none :: GW) rmX3_catchDrift [.ref p0, .ref d0] (wX3 Θ p0 p1 p2 p3 p_pitches p_spoiled p_cells p_bends p_offsets p_strokes p_goodParts p_badParts p_slugs ++ wX1 Θ d0 d1 d2 d3 d_columns d_rows d_carrier d_partMarks d_linkMarks d_operations d_pilots d_settings d_facts d_cells) none (wX3 Θ p0 p1 p2 p3 p_pitches o_p_spoiled o_p_cells o_p_bends o_p_offsets p_strokes p_goodParts p_badParts p_slugs ++ wX1 Θ d0 d1 d2 d3 d_columns d_rows d_carrier d_partMarks d_linkMarks d_operations d_pilots d_settings d_facts d_cells) := by
  delta fX3_catchDrift at hf
  refine Fn.of (by decide +kernel) rfl (Nat.le_of_ble_eq_true rfl) (fun p e s m args below meth c A Q G K => ?_)
  show sw Θ p e rmX3_catchDrift s m args below meth c A Q 3 0 0 0 [(0, .ref p0), (1, .ref d0)] [] (wX3 Θ p0 p1 p2 p3 p_pitches p_spoiled p_cells p_bends p_offsets p_strokes p_goodParts p_badParts p_slugs ++ wX1 Θ d0 d1 d2 d3 d_columns d_rows d_carrier d_partMarks d_linkMarks d_operations d_pilots d_settings d_facts d_cells)
  refine sw_iconst 0 G (0 : Int32) dX3_catchDrift_0 rfl ?_
  refine sw_istore_n 1 G [(2, .int (0 : Int32)), (0, .ref p0), (1, .ref d0)] dX3_catchDrift_1 (by decide) rfl ?_
  obtain ⟨v1, v2, v3, v4, hl, hf⟩ := bd4_some hf
  have hx2_74 : sw Θ p e rmX3_catchDrift s m args below meth c A Q 3 0 0 74 [] [] (wX3 Θ p0 p1 p2 p3 p_pitches v1 v2 v3 v4 p_strokes p_goodParts p_badParts p_slugs ++ wX1 Θ d0 d1 d2 d3 d_columns d_rows d_carrier d_partMarks d_linkMarks d_operations d_pilots d_settings d_facts d_cells) := by
    cases hf
    exact sw_vret 74 G dX3_catchDrift_74 K
  refine sw_lv [(0, .ref p0), (1, .ref d0), (2, .int (0 : Int32))] [1, 2, 0] rfl ?_
  refine lp_walk (P := fun (t : Int32 × Int32 × (Nat → Int64) × (Nat → Int32) × (Nat → Int32)) => sw Θ p e rmX3_catchDrift s m args below meth c A Q 3 0 0 2 [(0, .ref p0), (1, .ref d0), (2, .int t.1)] [] (wX3 Θ p0 p1 p2 p3 p_pitches t.2.1 t.2.2.1 t.2.2.2.1 t.2.2.2.2 p_strokes p_goodParts p_badParts p_slugs ++ wX1 Θ d0 d1 d2 d3 d_columns d_rows d_carrier d_partMarks d_linkMarks d_operations d_pilots d_settings d_facts d_cells)) hl (fun t2 y2 hf hin2 hex2 => ?_)
  obtain ⟨v5, v6, v7, v8, v9⟩ := t2
  show sw Θ p e rmX3_catchDrift s m args below meth c A Q 3 0 0 2 [(0, .ref p0), (1, .ref d0), (2, .int v5)] [] (wX3 Θ p0 p1 p2 p3 p_pitches v6 v7 v8 v9 p_strokes p_goodParts p_badParts p_slugs ++ wX1 Θ d0 d1 d2 d3 d_columns d_rows d_carrier d_partMarks d_linkMarks d_operations d_pilots d_settings d_facts d_cells)
  have hf := uc5_some (K := _) hf
  refine sw_iload_n 2 G dX3_catchDrift_2 2 rfl ?_
  refine sw_bipush 3 G (8 : Int32) dX3_catchDrift_3 rfl ?_
  refine sw_icmp_ge 5 74 G dX3_catchDrift_5 rfl hf (fun hf => ?_) (fun hf => ?_)
  · cases hf
    cases hex2 _ rfl
    exact sw_lv _ [] rfl hx2_74
  · refine sw_aload_n 8 G dX3_catchDrift_8 0 rfl ?_
    refine sw_iload_n 9 G dX3_catchDrift_9 2 rfl ?_
    obtain ⟨r10, hg, hf⟩ := bd1_some hf
    refine sw_callV 10 G (wX3 Θ p0 p1 p2 p3 p_pitches v6 v7 v8 v9 p_strokes p_goodParts p_badParts p_slugs ++ wX1 Θ d0 d1 d2 d3 d_columns d_rows d_carrier d_partMarks d_linkMarks d_operations d_pilots d_settings d_facts d_cells) [0, 1, 2, 3] [4, 5, 6, 7] [4, 5, 6, 7, 0, 1, 2, 3] 1 dX3_catchDrift_10 (kX3_hasPitch Θ p0 p1 p2 p3 p_pitches v6 v7 v8 v9 p_strokes p_goodParts p_badParts p_slugs v5 r10 hg) (gwV lk_74ea2194 lk_fd3c2946 lk_50272c2a lk_106b7259 lk_6e102d63) rfl hvX3_hasPitch ⟨rfl, rfl⟩ ⟨Nat.le_of_ble_eq_true rfl, Nat.le_of_ble_eq_true rfl⟩ ⟨Nat.zero_le _, Nat.zero_le _⟩ rfl rfl (Nat.le_of_ble_eq_true rfl) 0 rfl vc3 rfl rfl rfl rfl (by decide) ?_
    obtain ⟨v11, v12, v13, v14, hj, hf⟩ := bd4_some hf
    have hx68 : sw Θ p e rmX3_catchDrift s m args below meth c A Q 3 0 0 68 [(0, .ref p0), (1, .ref d0), (2, .int v5)] [] (wX3 Θ p0 p1 p2 p3 p_pitches v11 v12 v13 v14 p_strokes p_goodParts p_badParts p_slugs ++ wX1 Θ d0 d1 d2 d3 d_columns d_rows d_carrier d_partMarks d_linkMarks d_operations d_pilots d_settings d_facts d_cells) := by
      refine sw_iinc 68 G (v5 + (1 : Int32)) [(2, .int (v5 + (1 : Int32))), (0, .ref p0), (1, .ref d0)] dX3_catchDrift_68 2 rfl rfl (by decide) rfl ?_
      refine sw_goto 71 G 2 dX3_catchDrift_71 rfl ?_
      cases hf
      have hb := hin2 _ rfl
      exact sw_lv _ [1, 2, 0] (by rfl) hb
    clear hf
    have hf := hj
    clear hj
    refine sw_if_eq 13 68 G dX3_catchDrift_13 rfl hf (fun hf => ?_) (fun hf => ?_)
    · cases hf
      exact sw_lv _ [0, 1, 2] rfl hx68
    · refine sw_aload_n 16 G dX3_catchDrift_16 1 rfl ?_
      refine sw_iload_n 17 G dX3_catchDrift_17 2 rfl ?_
      obtain ⟨r15, hg, hf⟩ := bd1_some hf
      refine sw_callV 18 G (wX3 Θ p0 p1 p2 p3 p_pitches v6 v7 v8 v9 p_strokes p_goodParts p_badParts p_slugs ++ wX1 Θ d0 d1 d2 d3 d_columns d_rows d_carrier d_partMarks d_linkMarks d_operations d_pilots d_settings d_facts d_cells) [4, 5, 6, 7] [0, 1, 2, 3] [0, 1, 2, 3, 4, 5, 6, 7] 1 dX3_catchDrift_18 (kX1_hasPilot Θ d0 d1 d2 d3 d_columns d_rows d_carrier d_partMarks d_linkMarks d_operations d_pilots d_settings d_facts d_cells v5 r15 hg) (gwV lk_d466c757 lk_6e2a4471 lk_e8fc0f0c lk_cf66e99d lk_e36d835c) rfl hvX1_hasPilot ⟨rfl, rfl⟩ ⟨Nat.le_of_ble_eq_true rfl, Nat.le_of_ble_eq_true rfl⟩ ⟨Nat.zero_le _, Nat.zero_le _⟩ rfl rfl (Nat.le_of_ble_eq_true rfl) 0 rfl vc1 rfl rfl rfl rfl (by decide) ?_
      refine sw_if_eq 21 68 G dX3_catchDrift_21 rfl hf (fun hf => ?_) (fun hf => ?_)
      · cases hf
        exact sw_lv _ [0, 1, 2] rfl hx68
      · refine sw_aload_n 24 G dX3_catchDrift_24 0 rfl ?_
        refine sw_iload_n 25 G dX3_catchDrift_25 2 rfl ?_
        obtain ⟨r16, hg, hf⟩ := bd1_some hf
        refine sw_callV 26 G (wX3 Θ p0 p1 p2 p3 p_pitches v6 v7 v8 v9 p_strokes p_goodParts p_badParts p_slugs ++ wX1 Θ d0 d1 d2 d3 d_columns d_rows d_carrier d_partMarks d_linkMarks d_operations d_pilots d_settings d_facts d_cells) [0, 1, 2, 3] [4, 5, 6, 7] [4, 5, 6, 7, 0, 1, 2, 3] 1 dX3_catchDrift_26 (kX3_offsetAt Θ p0 p1 p2 p3 p_pitches v6 v7 v8 v9 p_strokes p_goodParts p_badParts p_slugs v5 r16 hg) (gwV lk_4e3d7500 lk_293f6e01 lk_14cdca78 lk_106b7259 lk_0d50ea30) rfl hvX3_offsetAt ⟨rfl, rfl⟩ ⟨Nat.le_of_ble_eq_true rfl, Nat.le_of_ble_eq_true rfl⟩ ⟨Nat.zero_le _, Nat.zero_le _⟩ rfl rfl (Nat.le_of_ble_eq_true rfl) 0 rfl vc3 rfl rfl rfl rfl (by decide) ?_
        refine sw_aload_n 29 G dX3_catchDrift_29 1 rfl ?_
        refine sw_iconst 30 G (3 : Int32) dX3_catchDrift_30 rfl ?_
        obtain ⟨r17, hg, hf⟩ := bd1_some hf
        refine sw_callV 31 G (wX3 Θ p0 p1 p2 p3 p_pitches v6 v7 v8 v9 p_strokes p_goodParts p_badParts p_slugs ++ wX1 Θ d0 d1 d2 d3 d_columns d_rows d_carrier d_partMarks d_linkMarks d_operations d_pilots d_settings d_facts d_cells) [4, 5, 6, 7] [0, 1, 2, 3] [0, 1, 2, 3, 4, 5, 6, 7] 1 dX3_catchDrift_31 (kX1_setting Θ d0 d1 d2 d3 d_columns d_rows d_carrier d_partMarks d_linkMarks d_operations d_pilots d_settings d_facts d_cells (3 : Int32) r17 hg) (gwV lk_2b14e00b lk_6c5b2bed lk_42f14101 lk_cf66e99d lk_45fed558) rfl hvX1_setting ⟨rfl, rfl⟩ ⟨Nat.le_of_ble_eq_true rfl, Nat.le_of_ble_eq_true rfl⟩ ⟨Nat.zero_le _, Nat.zero_le _⟩ rfl rfl (Nat.le_of_ble_eq_true rfl) 0 rfl vc1 rfl rfl rfl rfl (by decide) ?_
        refine sw_icmp_gt 34 56 G dX3_catchDrift_34 rfl hf (fun hf => ?_) (fun hf => ?_)
        · refine sw_aload_n 56 G dX3_catchDrift_56 0 rfl ?_
          refine sw_dup 57 G dX3_catchDrift_57 rfl ?_
          refine sw_get 58 G hnX3 0 1 dX3_catchDrift_58 vc3 (by decide) (List.mem_cons_of_mem _ lk_731f9edd) rfl rfl ?_
          refine sw_iconst 61 G (1 : Int32) dX3_catchDrift_61 rfl ?_
          refine sw_iload_n 62 G dX3_catchDrift_62 2 rfl ?_
          refine sw_ishl 63 G dX3_catchDrift_63 ?_
          refine sw_ior 64 G dX3_catchDrift_64 ?_
          refine sw_nmi hf (fun v18 hf => ?_)
          refine sw_put 65 G hnX3 tyX3_ok nmX3 0 1 (wX3 Θ p0 p1 p2 p3 p_pitches v18 v7 v8 v9 p_strokes p_goodParts p_badParts p_slugs ++ wX1 Θ d0 d1 d2 d3 d_columns d_rows d_carrier d_partMarks d_linkMarks d_operations d_pilots d_settings d_facts d_cells) dX3_catchDrift_65 vc3 (by decide) (List.mem_cons_of_mem _ lk_731f9edd) rfl rfl (Nat.le_of_ble_eq_true rfl) (tyX3_ok 1 (by decide)) rfl rfl rfl ?_
          cases hf
          exact sw_lv _ [0, 1, 2] rfl hx68
        · refine sw_aload_n 37 G dX3_catchDrift_37 0 rfl ?_
          refine sw_iload_n 38 G dX3_catchDrift_38 2 rfl ?_
          refine sw_aload_n 39 G dX3_catchDrift_39 0 rfl ?_
          refine sw_iload_n 40 G dX3_catchDrift_40 2 rfl ?_
          obtain ⟨r19, hg, hf⟩ := bd1_some hf
          refine sw_callV 41 G (wX3 Θ p0 p1 p2 p3 p_pitches v6 v7 v8 v9 p_strokes p_goodParts p_badParts p_slugs ++ wX1 Θ d0 d1 d2 d3 d_columns d_rows d_carrier d_partMarks d_linkMarks d_operations d_pilots d_settings d_facts d_cells) [0, 1, 2, 3] [4, 5, 6, 7] [4, 5, 6, 7, 0, 1, 2, 3] 1 dX3_catchDrift_41 (kX3_cellsAt Θ p0 p1 p2 p3 p_pitches v6 v7 v8 v9 p_strokes p_goodParts p_badParts p_slugs v5 r19 hg) (gwV lk_b2e51c0f lk_efd6e65a lk_d5dc047d lk_106b7259 lk_cecdbcae) rfl hvX3_cellsAt ⟨rfl, rfl⟩ ⟨Nat.le_of_ble_eq_true rfl, Nat.le_of_ble_eq_true rfl⟩ ⟨Nat.zero_le _, Nat.zero_le _⟩ rfl rfl (Nat.le_of_ble_eq_true rfl) 0 rfl vc3 rfl rfl rfl rfl (by decide) ?_
          refine sw_aload_n 44 G dX3_catchDrift_44 0 rfl ?_
          refine sw_iload_n 45 G dX3_catchDrift_45 2 rfl ?_
          obtain ⟨r20, hg, hf⟩ := bd1_some hf
          refine sw_callV 46 G (wX3 Θ p0 p1 p2 p3 p_pitches v6 v7 v8 v9 p_strokes p_goodParts p_badParts p_slugs ++ wX1 Θ d0 d1 d2 d3 d_columns d_rows d_carrier d_partMarks d_linkMarks d_operations d_pilots d_settings d_facts d_cells) [0, 1, 2, 3] [4, 5, 6, 7] [4, 5, 6, 7, 0, 1, 2, 3] 1 dX3_catchDrift_46 (kX3_bendsAt Θ p0 p1 p2 p3 p_pitches v6 v7 v8 v9 p_strokes p_goodParts p_badParts p_slugs v5 r20 hg) (gwV lk_0ac4e58a lk_62f9d61d lk_1bfc3192 lk_106b7259 lk_b1d3b07c) rfl hvX3_bendsAt ⟨rfl, rfl⟩ ⟨Nat.le_of_ble_eq_true rfl, Nat.le_of_ble_eq_true rfl⟩ ⟨Nat.zero_le _, Nat.zero_le _⟩ rfl rfl (Nat.le_of_ble_eq_true rfl) 0 rfl vc3 rfl rfl rfl rfl (by decide) ?_
          refine sw_iconst 49 G (0 : Int32) dX3_catchDrift_49 rfl ?_
          obtain ⟨u21, u22, u23, hg, hf⟩ := bd3_some hf
          refine sw_callV 50 G (wX3 Θ p0 p1 p2 p3 p_pitches v6 u21 u22 u23 p_strokes p_goodParts p_badParts p_slugs ++ wX1 Θ d0 d1 d2 d3 d_columns d_rows d_carrier d_partMarks d_linkMarks d_operations d_pilots d_settings d_facts d_cells) [0, 1, 2, 3] [4, 5, 6, 7] [4, 5, 6, 7, 0, 1, 2, 3] 4 dX3_catchDrift_50 (kX3_changePitch Θ p0 p1 p2 p3 p_pitches v6 v7 v8 v9 p_strokes p_goodParts p_badParts p_slugs v5 r19 r20 (0 : Int32) u21 u22 u23 hg) (gwV lk_9e02a978 lk_9b1473f3 lk_28f6ff40 lk_106b7259 lk_f4a9229d) rfl hvX3_changePitch ⟨rfl, rfl⟩ ⟨Nat.le_of_ble_eq_true rfl, Nat.le_of_ble_eq_true rfl⟩ ⟨Nat.zero_le _, Nat.zero_le _⟩ rfl rfl (Nat.le_of_ble_eq_true rfl) 0 rfl vc3 rfl rfl rfl rfl (by decide) ?_
          refine sw_goto 53 G 68 dX3_catchDrift_53 rfl ?_
          cases hf
          exact sw_lv _ [0, 1, 2] rfl hx68
abbrev rmX3_doOperation : Room := { frames := 1, cells := 0, slots := 0, locals := 25 }
theorem hvX3_doOperation : yX3_doOperation.cls = RX3 ∧ yX3_doOperation.cls ≠ "java/lang/invoke/MethodHandle" ∧ yX3_doOperation.cls ≠ "java/lang/invoke/VarHandle" ∧ (parseMethodDescriptor yX3_doOperation.desc).map (fun d => d.parameters.length) = some 3 := by decide +kernel
set_option maxRecDepth 100000 in
set_option maxHeartbeats 4000000 in
theorem kX3_doOperation (Θ : Tht) (p0 p1 p2 p3 d0 d1 d2 d3 : Nat) (p_pitches : Int32) (p_spoiled : Int32) (p_cells : Nat → Int64) (p_bends : Nat → Int32) (p_offsets : Nat → Int32) (p_strokes : Int32) (p_goodParts : Int32) (p_badParts : Int32) (p_slugs : Int32) (d_columns : Int32) (d_rows : Int32) (d_carrier : Int32) (d_partMarks : Int64) (d_linkMarks : Int64) (d_operations : Int32) (d_pilots : Int32) (d_settings : Nat → Int32) (d_facts : Nat → Int32) (d_cells : Nat → Int64) (a1 : Int32) (a2 : Int32) (o_p_spoiled : Int32) (o_p_cells : Nat → Int64) (o_p_bends : Nat → Int32) (o_p_offsets : Nat → Int32) (o_p_slugs : Int32) (hf : fX3_doOperation p_spoiled p_cells p_bends p_offsets p_slugs d_settings d_facts d_cells a1 a2 = some (o_p_spoiled, o_p_cells, o_p_bends, o_p_offsets, o_p_slugs)) : Fn Θ yX3_doOperation (Cond.code yX3_doOperation cX3_doOperation 6 none :: GW) rmX3_doOperation [.ref p0, .ref d0, .int a1, .int a2] (wX3 Θ p0 p1 p2 p3 p_pitches p_spoiled p_cells p_bends p_offsets p_strokes p_goodParts p_badParts p_slugs ++ wX1 Θ d0 d1 d2 d3 d_columns d_rows d_carrier d_partMarks d_linkMarks d_operations d_pilots d_settings d_facts d_cells) none (wX3 Θ p0 p1 p2 p3 p_pitches o_p_spoiled o_p_cells o_p_bends o_p_offsets p_strokes p_goodParts p_badParts o_p_slugs ++ wX1 Θ d0 d1 d2 d3 d_columns d_rows d_carrier d_partMarks d_linkMarks d_operations d_pilots d_settings d_facts d_cells) := by
  delta fX3_doOperation at hf
  refine Fn.of (by decide +kernel) rfl (Nat.le_of_ble_eq_true rfl) (fun p e s m args below meth c A Q G K => ?_)
  show sw Θ p e rmX3_doOperation s m args below meth c A Q 6 0 0 0 [(0, .ref p0), (1, .ref d0), (2, .int a1), (3, .int a2)] [] (wX3 Θ p0 p1 p2 p3 p_pitches p_spoiled p_cells p_bends p_offsets p_strokes p_goodParts p_badParts p_slugs ++ wX1 Θ d0 d1 d2 d3 d_columns d_rows d_carrier d_partMarks d_linkMarks d_operations d_pilots d_settings d_facts d_cells)
  refine sw_aload_n 0 G dX3_doOperation_0 1 rfl ?_
  refine sw_iload_n 1 G dX3_doOperation_1 2 rfl ?_
  refine sw_iconst 2 G (0 : Int32) dX3_doOperation_2 rfl ?_
  obtain ⟨r1, hg, hf⟩ := bd1_some hf
  refine sw_callV 3 G (wX3 Θ p0 p1 p2 p3 p_pitches p_spoiled p_cells p_bends p_offsets p_strokes p_goodParts p_badParts p_slugs ++ wX1 Θ d0 d1 d2 d3 d_columns d_rows d_carrier d_partMarks d_linkMarks d_operations d_pilots d_settings d_facts d_cells) [4, 5, 6, 7] [0, 1, 2, 3] [0, 1, 2, 3, 4, 5, 6, 7] 2 dX3_doOperation_3 (kX1_fact Θ d0 d1 d2 d3 d_columns d_rows d_carrier d_partMarks d_linkMarks d_operations d_pilots d_settings d_facts d_cells a1 (0 : Int32) r1 hg) (gwV lk_e801f31c lk_e025dfb3 lk_773339a1 lk_cf66e99d lk_334ef9fb) rfl hvX1_fact ⟨rfl, rfl⟩ ⟨Nat.le_of_ble_eq_true rfl, Nat.le_of_ble_eq_true rfl⟩ ⟨Nat.zero_le _, Nat.zero_le _⟩ rfl rfl (Nat.le_of_ble_eq_true rfl) 0 rfl vc1 rfl rfl rfl rfl (by decide) ?_
  obtain ⟨v2, v3, v4, v5, hj, hf⟩ := bd4_some hf
  have hx90 : sw Θ p e rmX3_doOperation s m args below meth c A Q 6 0 0 90 [(0, .ref p0), (1, .ref d0), (3, .int a2)] [] (wX3 Θ p0 p1 p2 p3 p_pitches p_spoiled v2 v3 v4 p_strokes p_goodParts p_badParts v5 ++ wX1 Θ d0 d1 d2 d3 d_columns d_rows d_carrier d_partMarks d_linkMarks d_operations d_pilots d_settings d_facts d_cells) := by
    refine sw_aload_n 90 G dX3_doOperation_90 0 rfl ?_
    refine sw_iload_n 91 G dX3_doOperation_91 2 rfl ?_
    obtain ⟨r23, hg, hf⟩ := bd1_some hf
    refine sw_callV 92 G (wX3 Θ p0 p1 p2 p3 p_pitches p_spoiled v2 v3 v4 p_strokes p_goodParts p_badParts v5 ++ wX1 Θ d0 d1 d2 d3 d_columns d_rows d_carrier d_partMarks d_linkMarks d_operations d_pilots d_settings d_facts d_cells) [0, 1, 2, 3] [4, 5, 6, 7] [4, 5, 6, 7, 0, 1, 2, 3] 1 dX3_doOperation_92 (kX3_offsetAt Θ p0 p1 p2 p3 p_pitches p_spoiled v2 v3 v4 p_strokes p_goodParts p_badParts v5 a2 r23 hg) (gwV lk_4e3d7500 lk_293f6e01 lk_14cdca78 lk_106b7259 lk_0d50ea30) rfl hvX3_offsetAt ⟨rfl, rfl⟩ ⟨Nat.le_of_ble_eq_true rfl, Nat.le_of_ble_eq_true rfl⟩ ⟨Nat.zero_le _, Nat.zero_le _⟩ rfl rfl (Nat.le_of_ble_eq_true rfl) 0 rfl vc3 rfl rfl rfl rfl (by decide) ?_
    refine sw_aload_n 95 G dX3_doOperation_95 1 rfl ?_
    refine sw_iconst 96 G (4 : Int32) dX3_doOperation_96 rfl ?_
    obtain ⟨r24, hg, hf⟩ := bd1_some hf
    refine sw_callV 97 G (wX3 Θ p0 p1 p2 p3 p_pitches p_spoiled v2 v3 v4 p_strokes p_goodParts p_badParts v5 ++ wX1 Θ d0 d1 d2 d3 d_columns d_rows d_carrier d_partMarks d_linkMarks d_operations d_pilots d_settings d_facts d_cells) [4, 5, 6, 7] [0, 1, 2, 3] [0, 1, 2, 3, 4, 5, 6, 7] 1 dX3_doOperation_97 (kX1_setting Θ d0 d1 d2 d3 d_columns d_rows d_carrier d_partMarks d_linkMarks d_operations d_pilots d_settings d_facts d_cells (4 : Int32) r24 hg) (gwV lk_2b14e00b lk_6c5b2bed lk_42f14101 lk_cf66e99d lk_45fed558) rfl hvX1_setting ⟨rfl, rfl⟩ ⟨Nat.le_of_ble_eq_true rfl, Nat.le_of_ble_eq_true rfl⟩ ⟨Nat.zero_le _, Nat.zero_le _⟩ rfl rfl (Nat.le_of_ble_eq_true rfl) 0 rfl vc1 rfl rfl rfl rfl (by decide) ?_
    refine sw_icmp_le 100 115 G dX3_doOperation_100 rfl hf (fun hf => ?_) (fun hf => ?_)
    · cases hf
      exact sw_vret 115 G dX3_doOperation_115 K
    · refine sw_aload_n 103 G dX3_doOperation_103 0 rfl ?_
      refine sw_dup 104 G dX3_doOperation_104 rfl ?_
      refine sw_get 105 G hnX3 0 1 dX3_doOperation_105 vc3 (by decide) (List.mem_cons_of_mem _ lk_731f9edd) rfl rfl ?_
      refine sw_iconst 108 G (1 : Int32) dX3_doOperation_108 rfl ?_
      refine sw_iload_n 109 G dX3_doOperation_109 2 rfl ?_
      refine sw_ishl 110 G dX3_doOperation_110 ?_
      refine sw_ior 111 G dX3_doOperation_111 ?_
      refine sw_nmi hf (fun v25 hf => ?_)
      refine sw_put 112 G hnX3 tyX3_ok nmX3 0 1 (wX3 Θ p0 p1 p2 p3 p_pitches v25 v2 v3 v4 p_strokes p_goodParts p_badParts v5 ++ wX1 Θ d0 d1 d2 d3 d_columns d_rows d_carrier d_partMarks d_linkMarks d_operations d_pilots d_settings d_facts d_cells) dX3_doOperation_112 vc3 (by decide) (List.mem_cons_of_mem _ lk_731f9edd) rfl rfl (Nat.le_of_ble_eq_true rfl) (tyX3_ok 1 (by decide)) rfl rfl rfl ?_
      cases hf
      exact sw_vret 115 G dX3_doOperation_115 K
  clear hf
  have hf := hj
  clear hj
  refine sw_if_ne 6 66 G dX3_doOperation_6 rfl hf (fun hf => ?_) (fun hf => ?_)
  · refine sw_aload_n 66 G dX3_doOperation_66 0 rfl ?_
    refine sw_iload_n 67 G dX3_doOperation_67 3 rfl ?_
    refine sw_aload_n 68 G dX3_doOperation_68 0 rfl ?_
    refine sw_iload_n 69 G dX3_doOperation_69 3 rfl ?_
    obtain ⟨r6, hg, hf⟩ := bd1_some hf
    refine sw_callV 70 G (wX3 Θ p0 p1 p2 p3 p_pitches p_spoiled p_cells p_bends p_offsets p_strokes p_goodParts p_badParts p_slugs ++ wX1 Θ d0 d1 d2 d3 d_columns d_rows d_carrier d_partMarks d_linkMarks d_operations d_pilots d_settings d_facts d_cells) [0, 1, 2, 3] [4, 5, 6, 7] [4, 5, 6, 7, 0, 1, 2, 3] 1 dX3_doOperation_70 (kX3_cellsAt Θ p0 p1 p2 p3 p_pitches p_spoiled p_cells p_bends p_offsets p_strokes p_goodParts p_badParts p_slugs a2 r6 hg) (gwV lk_b2e51c0f lk_efd6e65a lk_d5dc047d lk_106b7259 lk_cecdbcae) rfl hvX3_cellsAt ⟨rfl, rfl⟩ ⟨Nat.le_of_ble_eq_true rfl, Nat.le_of_ble_eq_true rfl⟩ ⟨Nat.zero_le _, Nat.zero_le _⟩ rfl rfl (Nat.le_of_ble_eq_true rfl) 0 rfl vc3 rfl rfl rfl rfl (by decide) ?_
    refine sw_aload_n 73 G dX3_doOperation_73 0 rfl ?_
    refine sw_iload_n 74 G dX3_doOperation_74 3 rfl ?_
    obtain ⟨r7, hg, hf⟩ := bd1_some hf
    refine sw_callV 75 G (wX3 Θ p0 p1 p2 p3 p_pitches p_spoiled p_cells p_bends p_offsets p_strokes p_goodParts p_badParts p_slugs ++ wX1 Θ d0 d1 d2 d3 d_columns d_rows d_carrier d_partMarks d_linkMarks d_operations d_pilots d_settings d_facts d_cells) [0, 1, 2, 3] [4, 5, 6, 7] [4, 5, 6, 7, 0, 1, 2, 3] 1 dX3_doOperation_75 (kX3_bendsAt Θ p0 p1 p2 p3 p_pitches p_spoiled p_cells p_bends p_offsets p_strokes p_goodParts p_badParts p_slugs a2 r7 hg) (gwV lk_0ac4e58a lk_62f9d61d lk_1bfc3192 lk_106b7259 lk_b1d3b07c) rfl hvX3_bendsAt ⟨rfl, rfl⟩ ⟨Nat.le_of_ble_eq_true rfl, Nat.le_of_ble_eq_true rfl⟩ ⟨Nat.zero_le _, Nat.zero_le _⟩ rfl rfl (Nat.le_of_ble_eq_true rfl) 0 rfl vc3 rfl rfl rfl rfl (by decide) ?_
    refine sw_iconst 78 G (1 : Int32) dX3_doOperation_78 rfl ?_
    refine sw_iload_n 79 G dX3_doOperation_79 2 rfl ?_
    refine sw_ishl 80 G dX3_doOperation_80 ?_
    refine sw_ior 81 G dX3_doOperation_81 ?_
    refine sw_aload_n 82 G dX3_doOperation_82 0 rfl ?_
    refine sw_iload_n 83 G dX3_doOperation_83 3 rfl ?_
    obtain ⟨r8, hg, hf⟩ := bd1_some hf
    refine sw_callV 84 G (wX3 Θ p0 p1 p2 p3 p_pitches p_spoiled p_cells p_bends p_offsets p_strokes p_goodParts p_badParts p_slugs ++ wX1 Θ d0 d1 d2 d3 d_columns d_rows d_carrier d_partMarks d_linkMarks d_operations d_pilots d_settings d_facts d_cells) [0, 1, 2, 3] [4, 5, 6, 7] [4, 5, 6, 7, 0, 1, 2, 3] 1 dX3_doOperation_84 (kX3_offsetAt Θ p0 p1 p2 p3 p_pitches p_spoiled p_cells p_bends p_offsets p_strokes p_goodParts p_badParts p_slugs a2 r8 hg) (gwV lk_4e3d7500 lk_293f6e01 lk_14cdca78 lk_106b7259 lk_0d50ea30) rfl hvX3_offsetAt ⟨rfl, rfl⟩ ⟨Nat.le_of_ble_eq_true rfl, Nat.le_of_ble_eq_true rfl⟩ ⟨Nat.zero_le _, Nat.zero_le _⟩ rfl rfl (Nat.le_of_ble_eq_true rfl) 0 rfl vc3 rfl rfl rfl rfl (by decide) ?_
    obtain ⟨u9, u10, u11, hg, hf⟩ := bd3_some hf
    refine sw_callV 87 G (wX3 Θ p0 p1 p2 p3 p_pitches p_spoiled u9 u10 u11 p_strokes p_goodParts p_badParts p_slugs ++ wX1 Θ d0 d1 d2 d3 d_columns d_rows d_carrier d_partMarks d_linkMarks d_operations d_pilots d_settings d_facts d_cells) [0, 1, 2, 3] [4, 5, 6, 7] [4, 5, 6, 7, 0, 1, 2, 3] 4 dX3_doOperation_87 (kX3_changePitch Θ p0 p1 p2 p3 p_pitches p_spoiled p_cells p_bends p_offsets p_strokes p_goodParts p_badParts p_slugs a2 r6 (r7 ||| ((1 : Int32) <<< (a1 &&& 31))) r8 u9 u10 u11 hg) (gwV lk_9e02a978 lk_9b1473f3 lk_28f6ff40 lk_106b7259 lk_f4a9229d) rfl hvX3_changePitch ⟨rfl, rfl⟩ ⟨Nat.le_of_ble_eq_true rfl, Nat.le_of_ble_eq_true rfl⟩ ⟨Nat.zero_le _, Nat.zero_le _⟩ rfl rfl (Nat.le_of_ble_eq_true rfl) 0 rfl vc3 rfl rfl rfl rfl (by decide) ?_
    cases hf
    exact sw_lv _ [0, 1, 3] rfl hx90
  · refine sw_aload_n 9 G dX3_doOperation_9 0 rfl ?_
    refine sw_iload_n 10 G dX3_doOperation_10 3 rfl ?_
    obtain ⟨r12, hg, hf⟩ := bd1_some hf
    refine sw_callV 11 G (wX3 Θ p0 p1 p2 p3 p_pitches p_spoiled p_cells p_bends p_offsets p_strokes p_goodParts p_badParts p_slugs ++ wX1 Θ d0 d1 d2 d3 d_columns d_rows d_carrier d_partMarks d_linkMarks d_operations d_pilots d_settings d_facts d_cells) [0, 1, 2, 3] [4, 5, 6, 7] [4, 5, 6, 7, 0, 1, 2, 3] 1 dX3_doOperation_11 (kX3_cellsAt Θ p0 p1 p2 p3 p_pitches p_spoiled p_cells p_bends p_offsets p_strokes p_goodParts p_badParts p_slugs a2 r12 hg) (gwV lk_b2e51c0f lk_efd6e65a lk_d5dc047d lk_106b7259 lk_cecdbcae) rfl hvX3_cellsAt ⟨rfl, rfl⟩ ⟨Nat.le_of_ble_eq_true rfl, Nat.le_of_ble_eq_true rfl⟩ ⟨Nat.zero_le _, Nat.zero_le _⟩ rfl rfl (Nat.le_of_ble_eq_true rfl) 0 rfl vc3 rfl rfl rfl rfl (by decide) ?_
    refine sw_aload_n 14 G dX3_doOperation_14 1 rfl ?_
    refine sw_iload_n 15 G dX3_doOperation_15 2 rfl ?_
    obtain ⟨r13, hg, hf⟩ := bd1_some hf
    refine sw_callV 16 G (wX3 Θ p0 p1 p2 p3 p_pitches p_spoiled p_cells p_bends p_offsets p_strokes p_goodParts p_badParts p_slugs ++ wX1 Θ d0 d1 d2 d3 d_columns d_rows d_carrier d_partMarks d_linkMarks d_operations d_pilots d_settings d_facts d_cells) [4, 5, 6, 7] [0, 1, 2, 3] [0, 1, 2, 3, 4, 5, 6, 7] 1 dX3_doOperation_16 (kX1_cellsOf Θ d0 d1 d2 d3 d_columns d_rows d_carrier d_partMarks d_linkMarks d_operations d_pilots d_settings d_facts d_cells a1 r13 hg) (gwV lk_67feedb1 lk_cd5fd627 lk_1ac25e50 lk_cf66e99d lk_f58614fb) rfl hvX1_cellsOf ⟨rfl, rfl⟩ ⟨Nat.le_of_ble_eq_true rfl, Nat.le_of_ble_eq_true rfl⟩ ⟨Nat.zero_le _, Nat.zero_le _⟩ rfl rfl (Nat.le_of_ble_eq_true rfl) 0 rfl vc1 rfl rfl rfl rfl (by decide) ?_
    refine sw_land 19 G dX3_doOperation_19 ?_
    refine sw_nml hf (fun v14 hf => ?_)
    refine sw_lstore 20 G [(4, .long v14), (0, .ref p0), (1, .ref d0), (2, .int a1), (3, .int a2)] dX3_doOperation_20 (by decide) rfl ?_
    refine sw_aload_n 22 G dX3_doOperation_22 1 rfl ?_
    refine sw_dup 23 G dX3_doOperation_23 rfl ?_
    refine sw_get 24 G hnX3 0 8 dX3_doOperation_24 vc3 (by decide) (List.mem_cons_of_mem _ lk_f0cdd896) rfl rfl ?_
    refine sw_lload 27 G dX3_doOperation_27 0 rfl ?_
    obtain ⟨r15, hg, hf⟩ := bd1_some hf
    refine sw_callS 29 G (wX3 Θ p0 p1 p2 p3 p_pitches p_spoiled p_cells p_bends p_offsets p_strokes p_goodParts p_badParts p_slugs ++ wX1 Θ d0 d1 d2 d3 d_columns d_rows d_carrier d_partMarks d_linkMarks d_operations d_pilots d_settings d_facts d_cells) [] [0, 1, 2, 3, 4, 5, 6, 7] [0, 1, 2, 3, 4, 5, 6, 7] 1 dX3_doOperation_29 (kJ13_bitCount_95d88 Θ v14 r15 hg) (gwS lk_0f3a4dd4 lk_6bfbc13d lk_b04e2cc5 lk_77169b53) rfl hsJ13_bitCount_95d88 ⟨rfl, rfl⟩ ⟨Nat.le_of_ble_eq_true rfl, Nat.le_of_ble_eq_true rfl⟩ ⟨Nat.zero_le _, Nat.zero_le _⟩ rfl rfl (Nat.le_of_ble_eq_true rfl) rfl rfl rfl (by decide) ?_
    refine sw_iadd 32 G dX3_doOperation_32 ?_
    refine sw_nmi hf (fun v16 hf => ?_)
    refine sw_put 33 G hnX3 tyX3_ok nmX3 0 8 (wX3 Θ p0 p1 p2 p3 p_pitches p_spoiled p_cells p_bends p_offsets p_strokes p_goodParts p_badParts v16 ++ wX1 Θ d0 d1 d2 d3 d_columns d_rows d_carrier d_partMarks d_linkMarks d_operations d_pilots d_settings d_facts d_cells) dX3_doOperation_33 vc3 (by decide) (List.mem_cons_of_mem _ lk_f0cdd896) rfl rfl (Nat.le_of_ble_eq_true rfl) (tyX3_ok 8 (by decide)) rfl rfl rfl ?_
    refine sw_aload_n 36 G dX3_doOperation_36 1 rfl ?_
    refine sw_iload_n 37 G dX3_doOperation_37 4 rfl ?_
    refine sw_aload_n 38 G dX3_doOperation_38 1 rfl ?_
    refine sw_iload_n 39 G dX3_doOperation_39 4 rfl ?_
    obtain ⟨r17, hg, hf⟩ := bd1_some hf
    refine sw_callV 40 G (wX3 Θ p0 p1 p2 p3 p_pitches p_spoiled p_cells p_bends p_offsets p_strokes p_goodParts p_badParts v16 ++ wX1 Θ d0 d1 d2 d3 d_columns d_rows d_carrier d_partMarks d_linkMarks d_operations d_pilots d_settings d_facts d_cells) [0, 1, 2, 3] [4, 5, 6, 7] [4, 5, 6, 7, 0, 1, 2, 3] 1 dX3_doOperation_40 (kX3_cellsAt Θ p0 p1 p2 p3 p_pitches p_spoiled p_cells p_bends p_offsets p_strokes p_goodParts p_badParts v16 a2 r17 hg) (gwV lk_b2e51c0f lk_efd6e65a lk_d5dc047d lk_106b7259 lk_cecdbcae) rfl hvX3_cellsAt ⟨rfl, rfl⟩ ⟨Nat.le_of_ble_eq_true rfl, Nat.le_of_ble_eq_true rfl⟩ ⟨Nat.zero_le _, Nat.zero_le _⟩ rfl rfl (Nat.le_of_ble_eq_true rfl) 0 rfl vc3 rfl rfl rfl rfl (by decide) ?_
    refine sw_lload 43 G dX3_doOperation_43 0 rfl ?_
    refine sw_ldc2 45 G (List.mem_cons_of_mem _ lk_f18dd0f5) dX3_doOperation_45 ?_
    refine sw_lxor 48 G dX3_doOperation_48 ?_
    refine sw_land 49 G dX3_doOperation_49 ?_
    refine sw_aload_n 50 G dX3_doOperation_50 1 rfl ?_
    refine sw_iload_n 51 G dX3_doOperation_51 4 rfl ?_
    obtain ⟨r18, hg, hf⟩ := bd1_some hf
    refine sw_callV 52 G (wX3 Θ p0 p1 p2 p3 p_pitches p_spoiled p_cells p_bends p_offsets p_strokes p_goodParts p_badParts v16 ++ wX1 Θ d0 d1 d2 d3 d_columns d_rows d_carrier d_partMarks d_linkMarks d_operations d_pilots d_settings d_facts d_cells) [0, 1, 2, 3] [4, 5, 6, 7] [4, 5, 6, 7, 0, 1, 2, 3] 1 dX3_doOperation_52 (kX3_bendsAt Θ p0 p1 p2 p3 p_pitches p_spoiled p_cells p_bends p_offsets p_strokes p_goodParts p_badParts v16 a2 r18 hg) (gwV lk_0ac4e58a lk_62f9d61d lk_1bfc3192 lk_106b7259 lk_b1d3b07c) rfl hvX3_bendsAt ⟨rfl, rfl⟩ ⟨Nat.le_of_ble_eq_true rfl, Nat.le_of_ble_eq_true rfl⟩ ⟨Nat.zero_le _, Nat.zero_le _⟩ rfl rfl (Nat.le_of_ble_eq_true rfl) 0 rfl vc3 rfl rfl rfl rfl (by decide) ?_
    refine sw_aload_n 55 G dX3_doOperation_55 1 rfl ?_
    refine sw_iload_n 56 G dX3_doOperation_56 4 rfl ?_
    obtain ⟨r19, hg, hf⟩ := bd1_some hf
    refine sw_callV 57 G (wX3 Θ p0 p1 p2 p3 p_pitches p_spoiled p_cells p_bends p_offsets p_strokes p_goodParts p_badParts v16 ++ wX1 Θ d0 d1 d2 d3 d_columns d_rows d_carrier d_partMarks d_linkMarks d_operations d_pilots d_settings d_facts d_cells) [0, 1, 2, 3] [4, 5, 6, 7] [4, 5, 6, 7, 0, 1, 2, 3] 1 dX3_doOperation_57 (kX3_offsetAt Θ p0 p1 p2 p3 p_pitches p_spoiled p_cells p_bends p_offsets p_strokes p_goodParts p_badParts v16 a2 r19 hg) (gwV lk_4e3d7500 lk_293f6e01 lk_14cdca78 lk_106b7259 lk_0d50ea30) rfl hvX3_offsetAt ⟨rfl, rfl⟩ ⟨Nat.le_of_ble_eq_true rfl, Nat.le_of_ble_eq_true rfl⟩ ⟨Nat.zero_le _, Nat.zero_le _⟩ rfl rfl (Nat.le_of_ble_eq_true rfl) 0 rfl vc3 rfl rfl rfl rfl (by decide) ?_
    obtain ⟨u20, u21, u22, hg, hf⟩ := bd3_some hf
    refine sw_callV 60 G (wX3 Θ p0 p1 p2 p3 p_pitches p_spoiled u20 u21 u22 p_strokes p_goodParts p_badParts v16 ++ wX1 Θ d0 d1 d2 d3 d_columns d_rows d_carrier d_partMarks d_linkMarks d_operations d_pilots d_settings d_facts d_cells) [0, 1, 2, 3] [4, 5, 6, 7] [4, 5, 6, 7, 0, 1, 2, 3] 4 dX3_doOperation_60 (kX3_changePitch Θ p0 p1 p2 p3 p_pitches p_spoiled p_cells p_bends p_offsets p_strokes p_goodParts p_badParts v16 a2 (r17 &&& (v14 ^^^ (-1 : Int64))) r18 r19 u20 u21 u22 hg) (gwV lk_9e02a978 lk_9b1473f3 lk_28f6ff40 lk_106b7259 lk_f4a9229d) rfl hvX3_changePitch ⟨rfl, rfl⟩ ⟨Nat.le_of_ble_eq_true rfl, Nat.le_of_ble_eq_true rfl⟩ ⟨Nat.zero_le _, Nat.zero_le _⟩ rfl rfl (Nat.le_of_ble_eq_true rfl) 0 rfl vc3 rfl rfl rfl rfl (by decide) ?_
    refine sw_goto 63 G 90 dX3_doOperation_63 rfl ?_
    cases hf
    exact sw_lv _ [1, 2, 4] rfl hx90
abbrev rmX3_work : Room := { frames := 2, cells := 0, slots := 0, locals := 50 }
theorem hvX3_work : yX3_work.cls = RX3 ∧ yX3_work.cls ≠ "java/lang/invoke/MethodHandle" ∧ yX3_work.cls ≠ "java/lang/invoke/VarHandle" ∧ (parseMethodDescriptor yX3_work.desc).map (fun d => d.parameters.length) = some 1 := by decide +kernel
set_option maxRecDepth 100000 in
set_option maxHeartbeats 4000000 in
theorem kX3_work (Θ : Tht) (F : Nat) (p0 p1 p2 p3 d0 d1 d2 d3 : Nat) (p_pitches : Int32) (p_spoiled : Int32) (p_cells : Nat → Int64) (p_bends : Nat → Int32) (p_offsets : Nat → Int32) (p_strokes : Int32) (p_goodParts : Int32) (p_badParts : Int32) (p_slugs : Int32) (d_columns : Int32) (d_rows : Int32) (d_carrier : Int32) (d_partMarks : Int64) (d_linkMarks : Int64) (d_operations : Int32) (d_pilots : Int32) (d_settings : Nat → Int32) (d_facts : Nat → Int32) (d_cells : Nat → Int64) (o_p_spoiled : Int32) (o_p_cells : Nat → Int64) (o_p_bends : Nat → Int32) (o_p_offsets : Nat → Int32) (o_p_slugs : Int32) (hf : fX3_work F p_pitches p_spoiled p_cells p_bends p_offsets p_slugs d_operations d_settings d_facts d_cells = some (o_p_spoiled, o_p_cells, o_p_bends, o_p_offsets, o_p_slugs)) : Fn Θ yX3_work (Cond.code yX3_work cX3_work 4 none :: GW) rmX3_work [.ref p0, .ref d0] (wX3 Θ p0 p1 p2 p3 p_pitches p_spoiled p_cells p_bends p_offsets p_strokes p_goodParts p_badParts p_slugs ++ wX1 Θ d0 d1 d2 d3 d_columns d_rows d_carrier d_partMarks d_linkMarks d_operations d_pilots d_settings d_facts d_cells) none (wX3 Θ p0 p1 p2 p3 p_pitches o_p_spoiled o_p_cells o_p_bends o_p_offsets p_strokes p_goodParts p_badParts o_p_slugs ++ wX1 Θ d0 d1 d2 d3 d_columns d_rows d_carrier d_partMarks d_linkMarks d_operations d_pilots d_settings d_facts d_cells) := by
  delta fX3_work at hf
  refine Fn.of (by decide +kernel) rfl (Nat.le_of_ble_eq_true rfl) (fun p e s m args below meth c A Q G K => ?_)
  show sw Θ p e rmX3_work s m args below meth c A Q 4 0 0 0 [(0, .ref p0), (1, .ref d0)] [] (wX3 Θ p0 p1 p2 p3 p_pitches p_spoiled p_cells p_bends p_offsets p_strokes p_goodParts p_badParts p_slugs ++ wX1 Θ d0 d1 d2 d3 d_columns d_rows d_carrier d_partMarks d_linkMarks d_operations d_pilots d_settings d_facts d_cells)
  refine sw_iconst 0 G (0 : Int32) dX3_work_0 rfl ?_
  refine sw_istore_n 1 G [(2, .int (0 : Int32)), (0, .ref p0), (1, .ref d0)] dX3_work_1 (by decide) rfl ?_
  obtain ⟨v1, v2, v3, v4, v5, hl, hf⟩ := bd5_some hf
  have hx2_44 : sw Θ p e rmX3_work s m args below meth c A Q 4 0 0 44 [] [] (wX3 Θ p0 p1 p2 p3 p_pitches v1 v2 v3 v4 p_strokes p_goodParts p_badParts v5 ++ wX1 Θ d0 d1 d2 d3 d_columns d_rows d_carrier d_partMarks d_linkMarks d_operations d_pilots d_settings d_facts d_cells) := by
    cases hf
    exact sw_vret 44 G dX3_work_44 K
  refine sw_lv [(0, .ref p0), (1, .ref d0), (2, .int (0 : Int32))] [1, 2, 0] rfl ?_
  refine lp_walk (P := fun (t : Int32 × Int32 × (Nat → Int64) × (Nat → Int32) × (Nat → Int32) × Int32) => sw Θ p e rmX3_work s m args below meth c A Q 4 0 0 2 [(0, .ref p0), (1, .ref d0), (2, .int t.1)] [] (wX3 Θ p0 p1 p2 p3 p_pitches t.2.1 t.2.2.1 t.2.2.2.1 t.2.2.2.2.1 p_strokes p_goodParts p_badParts t.2.2.2.2.2 ++ wX1 Θ d0 d1 d2 d3 d_columns d_rows d_carrier d_partMarks d_linkMarks d_operations d_pilots d_settings d_facts d_cells)) hl (fun t2 y2 hf hin2 hex2 => ?_)
  obtain ⟨v6, v7, v8, v9, v10, v11⟩ := t2
  show sw Θ p e rmX3_work s m args below meth c A Q 4 0 0 2 [(0, .ref p0), (1, .ref d0), (2, .int v6)] [] (wX3 Θ p0 p1 p2 p3 p_pitches v7 v8 v9 v10 p_strokes p_goodParts p_badParts v11 ++ wX1 Θ d0 d1 d2 d3 d_columns d_rows d_carrier d_partMarks d_linkMarks d_operations d_pilots d_settings d_facts d_cells)
  have hf := uc6_some (K := _) hf
  refine sw_iload_n 2 G dX3_work_2 2 rfl ?_
  refine sw_aload_n 3 G dX3_work_3 1 rfl ?_
  refine sw_get 4 G hnX1 4 5 dX3_work_4 vc1 (by decide) (List.mem_cons_of_mem _ lk_7a08871e) rfl rfl ?_
  refine sw_icmp_ge 7 44 G dX3_work_7 rfl hf (fun hf => ?_) (fun hf => ?_)
  · cases hf
    cases hex2 _ rfl
    exact sw_lv _ [] rfl hx2_44
  · refine sw_aload_n 10 G dX3_work_10 1 rfl ?_
    refine sw_iload_n 11 G dX3_work_11 2 rfl ?_
    refine sw_bipush 12 G (6 : Int32) dX3_work_12 rfl ?_
    obtain ⟨r12, hg, hf⟩ := bd1_some hf
    refine sw_callV 14 G (wX3 Θ p0 p1 p2 p3 p_pitches v7 v8 v9 v10 p_strokes p_goodParts p_badParts v11 ++ wX1 Θ d0 d1 d2 d3 d_columns d_rows d_carrier d_partMarks d_linkMarks d_operations d_pilots d_settings d_facts d_cells) [4, 5, 6, 7] [0, 1, 2, 3] [0, 1, 2, 3, 4, 5, 6, 7] 2 dX3_work_14 (kX1_fact Θ d0 d1 d2 d3 d_columns d_rows d_carrier d_partMarks d_linkMarks d_operations d_pilots d_settings d_facts d_cells v6 (6 : Int32) r12 hg) (gwV lk_e801f31c lk_e025dfb3 lk_773339a1 lk_cf66e99d lk_334ef9fb) rfl hvX1_fact ⟨rfl, rfl⟩ ⟨Nat.le_of_ble_eq_true rfl, Nat.le_of_ble_eq_true rfl⟩ ⟨Nat.zero_le _, Nat.zero_le _⟩ rfl rfl (Nat.le_of_ble_eq_true rfl) 0 rfl vc1 rfl rfl rfl rfl (by decide) ?_
    refine sw_istore_n 17 G [(3, .int r12), (0, .ref p0), (1, .ref d0), (2, .int v6)] dX3_work_17 (by decide) rfl ?_
    refine sw_iload_n 18 G dX3_work_18 0 rfl ?_
    refine sw_iconst 19 G (-1 : Int32) dX3_work_19 rfl ?_
    obtain ⟨v13, v14, v15, v16, v17, hj, hf⟩ := bd5_some hf
    have hx38 : sw Θ p e rmX3_work s m args below meth c A Q 4 0 0 38 [(0, .ref p0), (1, .ref d0), (2, .int v6)] [] (wX3 Θ p0 p1 p2 p3 p_pitches v13 v14 v15 v16 p_strokes p_goodParts p_badParts v17 ++ wX1 Θ d0 d1 d2 d3 d_columns d_rows d_carrier d_partMarks d_linkMarks d_operations d_pilots d_settings d_facts d_cells) := by
      refine sw_iinc 38 G (v6 + (1 : Int32)) [(2, .int (v6 + (1 : Int32))), (0, .ref p0), (1, .ref d0)] dX3_work_38 2 rfl rfl (by decide) rfl ?_
      refine sw_goto 41 G 2 dX3_work_41 rfl ?_
      cases hf
      have hb := hin2 _ rfl
      exact sw_lv _ [1, 2, 0] (by rfl) hb
    clear hf
    have hf := hj
    clear hj
    refine sw_icmp_eq 20 38 G dX3_work_20 rfl hf (fun hf => ?_) (fun hf => ?_)
    · cases hf
      exact sw_lv _ [1, 2, 3] rfl hx38
    · refine sw_aload_n 23 G dX3_work_23 1 rfl ?_
      refine sw_iload_n 24 G dX3_work_24 0 rfl ?_
      obtain ⟨r18, hg, hf⟩ := bd1_some hf
      refine sw_callV 25 G (wX3 Θ p0 p1 p2 p3 p_pitches v7 v8 v9 v10 p_strokes p_goodParts p_badParts v11 ++ wX1 Θ d0 d1 d2 d3 d_columns d_rows d_carrier d_partMarks d_linkMarks d_operations d_pilots d_settings d_facts d_cells) [0, 1, 2, 3] [4, 5, 6, 7] [4, 5, 6, 7, 0, 1, 2, 3] 1 dX3_work_25 (kX3_hasPitch Θ p0 p1 p2 p3 p_pitches v7 v8 v9 v10 p_strokes p_goodParts p_badParts v11 r12 r18 hg) (gwV lk_74ea2194 lk_fd3c2946 lk_50272c2a lk_106b7259 lk_6e102d63) rfl hvX3_hasPitch ⟨rfl, rfl⟩ ⟨Nat.le_of_ble_eq_true rfl, Nat.le_of_ble_eq_true rfl⟩ ⟨Nat.zero_le _, Nat.zero_le _⟩ rfl rfl (Nat.le_of_ble_eq_true rfl) 0 rfl vc3 rfl rfl rfl rfl (by decide) ?_
      refine sw_if_eq 28 38 G dX3_work_28 rfl hf (fun hf => ?_) (fun hf => ?_)
      · cases hf
        exact sw_lv _ [1, 2, 3] rfl hx38
      · refine sw_aload_n 31 G dX3_work_31 1 rfl ?_
        refine sw_aload_n 32 G dX3_work_32 2 rfl ?_
        refine sw_iload_n 33 G dX3_work_33 3 rfl ?_
        refine sw_iload_n 34 G dX3_work_34 0 rfl ?_
        obtain ⟨u19, u20, u21, u22, u23, hg, hf⟩ := bd5_some hf
        refine sw_callV 35 G (wX3 Θ p0 p1 p2 p3 p_pitches u19 u20 u21 u22 p_strokes p_goodParts p_badParts u23 ++ wX1 Θ d0 d1 d2 d3 d_columns d_rows d_carrier d_partMarks d_linkMarks d_operations d_pilots d_settings d_facts d_cells) [0, 1, 2, 3, 4, 5, 6, 7] [] [0, 1, 2, 3, 4, 5, 6, 7] 3 dX3_work_35 (kX3_doOperation Θ p0 p1 p2 p3 d0 d1 d2 d3 p_pitches v7 v8 v9 v10 p_strokes p_goodParts p_badParts v11 d_columns d_rows d_carrier d_partMarks d_linkMarks d_operations d_pilots d_settings d_facts d_cells v6 r12 u19 u20 u21 u22 u23 hg) (gwV lk_42eed7de lk_c15bf4aa lk_74db1a64 lk_106b7259 lk_ba3443fb) rfl hvX3_doOperation ⟨rfl, rfl⟩ ⟨Nat.le_of_ble_eq_true rfl, Nat.le_of_ble_eq_true rfl⟩ ⟨Nat.zero_le _, Nat.zero_le _⟩ rfl rfl (Nat.le_of_ble_eq_true rfl) 0 rfl vc3 rfl rfl rfl rfl (by decide) ?_
        cases hf
        exact sw_lv _ [1, 2, 3] rfl hx38
abbrev rmX3_feed : Room := { frames := 3, cells := 0, slots := 0, locals := 73 }
theorem hvX3_feed : yX3_feed.cls = RX3 ∧ yX3_feed.cls ≠ "java/lang/invoke/MethodHandle" ∧ yX3_feed.cls ≠ "java/lang/invoke/VarHandle" ∧ (parseMethodDescriptor yX3_feed.desc).map (fun d => d.parameters.length) = some 1 := by decide +kernel
set_option maxRecDepth 100000 in
set_option maxHeartbeats 4000000 in
theorem kX3_feed (Θ : Tht) (F : Nat) (p0 p1 p2 p3 d0 d1 d2 d3 : Nat) (p_pitches : Int32) (p_spoiled : Int32) (p_cells : Nat → Int64) (p_bends : Nat → Int32) (p_offsets : Nat → Int32) (p_strokes : Int32) (p_goodParts : Int32) (p_badParts : Int32) (p_slugs : Int32) (d_columns : Int32) (d_rows : Int32) (d_carrier : Int32) (d_partMarks : Int64) (d_linkMarks : Int64) (d_operations : Int32) (d_pilots : Int32) (d_settings : Nat → Int32) (d_facts : Nat → Int32) (d_cells : Nat → Int64) (ro : Int32) (o_p_pitches : Int32) (o_p_spoiled : Int32) (o_p_cells : Nat → Int64) (o_p_bends : Nat → Int32) (o_p_offsets : Nat → Int32) (o_p_strokes : Int32) (o_p_goodParts : Int32) (o_p_badParts : Int32) (o_p_slugs : Int32) (hf : fX3_feed F p_pitches p_spoiled p_cells p_bends p_offsets p_strokes p_goodParts p_badParts p_slugs d_columns d_rows d_carrier d_partMarks d_linkMarks d_operations d_pilots d_settings d_facts d_cells = some (ro, o_p_pitches, o_p_spoiled, o_p_cells, o_p_bends, o_p_offsets, o_p_strokes, o_p_goodParts, o_p_badParts, o_p_slugs)) : Fn Θ yX3_feed (Cond.code yX3_feed cX3_feed 4 (some .int) :: GW) rmX3_feed [.ref p0, .ref d0] (wX3 Θ p0 p1 p2 p3 p_pitches p_spoiled p_cells p_bends p_offsets p_strokes p_goodParts p_badParts p_slugs ++ wX1 Θ d0 d1 d2 d3 d_columns d_rows d_carrier d_partMarks d_linkMarks d_operations d_pilots d_settings d_facts d_cells) (some (.int ro)) (wX3 Θ p0 p1 p2 p3 o_p_pitches o_p_spoiled o_p_cells o_p_bends o_p_offsets o_p_strokes o_p_goodParts o_p_badParts o_p_slugs ++ wX1 Θ d0 d1 d2 d3 d_columns d_rows d_carrier d_partMarks d_linkMarks d_operations d_pilots d_settings d_facts d_cells) := by
  delta fX3_feed at hf
  refine Fn.of (by decide +kernel) rfl (Nat.le_of_ble_eq_true rfl) (fun p e s m args below meth c A Q G K => ?_)
  show sw Θ p e rmX3_feed s m args below meth c A Q 4 0 0 0 [(0, .ref p0), (1, .ref d0)] [] (wX3 Θ p0 p1 p2 p3 p_pitches p_spoiled p_cells p_bends p_offsets p_strokes p_goodParts p_badParts p_slugs ++ wX1 Θ d0 d1 d2 d3 d_columns d_rows d_carrier d_partMarks d_linkMarks d_operations d_pilots d_settings d_facts d_cells)
  refine sw_aload_n 0 G dX3_feed_0 0 rfl ?_
  refine sw_get 1 G hnX3 0 6 dX3_feed_1 vc3 (by decide) (List.mem_cons_of_mem _ lk_123d7bc8) rfl rfl ?_
  refine sw_istore_n 4 G [(2, .int p_goodParts), (0, .ref p0), (1, .ref d0)] dX3_feed_4 (by decide) rfl ?_
  refine sw_aload_n 5 G dX3_feed_5 1 rfl ?_
  refine sw_get 6 G hnX3 0 7 dX3_feed_6 vc3 (by decide) (List.mem_cons_of_mem _ lk_0f797579) rfl rfl ?_
  refine sw_istore_n 9 G [(3, .int p_badParts), (2, .int p_goodParts), (0, .ref p0), (1, .ref d0)] dX3_feed_9 (by decide) rfl ?_
  refine sw_aload_n 10 G dX3_feed_10 2 rfl ?_
  refine sw_dup 11 G dX3_feed_11 rfl ?_
  refine sw_get 12 G hnX3 0 5 dX3_feed_12 vc3 (by decide) (List.mem_cons_of_mem _ lk_7185157a) rfl rfl ?_
  refine sw_iconst 15 G (1 : Int32) dX3_feed_15 rfl ?_
  refine sw_iadd 16 G dX3_feed_16 ?_
  refine sw_nmi hf (fun v1 hf => ?_)
  refine sw_put 17 G hnX3 tyX3_ok nmX3 0 5 (wX3 Θ p0 p1 p2 p3 p_pitches p_spoiled p_cells p_bends p_offsets v1 p_goodParts p_badParts p_slugs ++ wX1 Θ d0 d1 d2 d3 d_columns d_rows d_carrier d_partMarks d_linkMarks d_operations d_pilots d_settings d_facts d_cells) dX3_feed_17 vc3 (by decide) (List.mem_cons_of_mem _ lk_7185157a) rfl rfl (Nat.le_of_ble_eq_true rfl) (tyX3_ok 5 (by decide)) rfl rfl rfl ?_
  refine sw_aload_n 20 G dX3_feed_20 2 rfl ?_
  refine sw_aload_n 21 G dX3_feed_21 3 rfl ?_
  obtain ⟨u2, u3, u4, u5, u6, hg, hf⟩ := bd5_some hf
  refine sw_callV 22 G (wX3 Θ p0 p1 p2 p3 u2 u3 u4 u5 u6 v1 p_goodParts p_badParts p_slugs ++ wX1 Θ d0 d1 d2 d3 d_columns d_rows d_carrier d_partMarks d_linkMarks d_operations d_pilots d_settings d_facts d_cells) [0, 1, 2, 3, 4, 5, 6, 7] [] [0, 1, 2, 3, 4, 5, 6, 7] 1 dX3_feed_22 (kX3_moveOn Θ F p0 p1 p2 p3 d0 d1 d2 d3 p_pitches p_spoiled p_cells p_bends p_offsets v1 p_goodParts p_badParts p_slugs d_columns d_rows d_carrier d_partMarks d_linkMarks d_operations d_pilots d_settings d_facts d_cells u2 u3 u4 u5 u6 hg) (gwV lk_8fd78dec lk_69fc095c lk_83be824a lk_106b7259 lk_8022eb0c) rfl hvX3_moveOn ⟨rfl, rfl⟩ ⟨Nat.le_of_ble_eq_true rfl, Nat.le_of_ble_eq_true rfl⟩ ⟨Nat.zero_le _, Nat.zero_le _⟩ rfl rfl (Nat.le_of_ble_eq_true rfl) 0 rfl vc3 rfl rfl rfl rfl (by decide) ?_
  refine sw_aload_n 25 G dX3_feed_25 2 rfl ?_
  refine sw_aload_n 26 G dX3_feed_26 3 rfl ?_
  obtain ⟨u7, u8, u9, u10, hg, hf⟩ := bd4_some hf
  refine sw_callV 27 G (wX3 Θ p0 p1 p2 p3 u7 u8 u4 u5 u6 v1 u9 u10 p_slugs ++ wX1 Θ d0 d1 d2 d3 d_columns d_rows d_carrier d_partMarks d_linkMarks d_operations d_pilots d_settings d_facts d_cells) [0, 1, 2, 3, 4, 5, 6, 7] [] [0, 1, 2, 3, 4, 5, 6, 7] 1 dX3_feed_27 (kX3_cutOff Θ F p0 p1 p2 p3 d0 d1 d2 d3 u2 u3 u4 u5 u6 v1 p_goodParts p_badParts p_slugs d_columns d_rows d_carrier d_partMarks d_linkMarks d_operations d_pilots d_settings d_facts d_cells u7 u8 u9 u10 hg) (gwV lk_f4b197ff lk_bf0f490a lk_8afca824 lk_106b7259 lk_7fb24bd7) rfl hvX3_cutOff ⟨rfl, rfl⟩ ⟨Nat.le_of_ble_eq_true rfl, Nat.le_of_ble_eq_true rfl⟩ ⟨Nat.zero_le _, Nat.zero_le _⟩ rfl rfl (Nat.le_of_ble_eq_true rfl) 0 rfl vc3 rfl rfl rfl rfl (by decide) ?_
  refine sw_aload_n 30 G dX3_feed_30 2 rfl ?_
  refine sw_aload_n 31 G dX3_feed_31 3 rfl ?_
  obtain ⟨u11, u12, u13, u14, hg, hf⟩ := bd4_some hf
  refine sw_callV 32 G (wX3 Θ p0 p1 p2 p3 u7 u11 u12 u13 u14 v1 u9 u10 p_slugs ++ wX1 Θ d0 d1 d2 d3 d_columns d_rows d_carrier d_partMarks d_linkMarks d_operations d_pilots d_settings d_facts d_cells) [0, 1, 2, 3, 4, 5, 6, 7] [] [0, 1, 2, 3, 4, 5, 6, 7] 1 dX3_feed_32 (kX3_catchDrift Θ F p0 p1 p2 p3 d0 d1 d2 d3 u7 u8 u4 u5 u6 v1 u9 u10 p_slugs d_columns d_rows d_carrier d_partMarks d_linkMarks d_operations d_pilots d_settings d_facts d_cells u11 u12 u13 u14 hg) (gwV lk_ec1aecf0 lk_197e0bfa lk_8b94fc16 lk_106b7259 lk_d7406565) rfl hvX3_catchDrift ⟨rfl, rfl⟩ ⟨Nat.le_of_ble_eq_true rfl, Nat.le_of_ble_eq_true rfl⟩ ⟨Nat.zero_le _, Nat.zero_le _⟩ rfl rfl (Nat.le_of_ble_eq_true rfl) 0 rfl vc3 rfl rfl rfl rfl (by decide) ?_
  refine sw_aload_n 35 G dX3_feed_35 2 rfl ?_
  refine sw_aload_n 36 G dX3_feed_36 3 rfl ?_
  obtain ⟨u15, u16, u17, u18, u19, hg, hf⟩ := bd5_some hf
  refine sw_callV 37 G (wX3 Θ p0 p1 p2 p3 u7 u15 u16 u17 u18 v1 u9 u10 u19 ++ wX1 Θ d0 d1 d2 d3 d_columns d_rows d_carrier d_partMarks d_linkMarks d_operations d_pilots d_settings d_facts d_cells) [0, 1, 2, 3, 4, 5, 6, 7] [] [0, 1, 2, 3, 4, 5, 6, 7] 1 dX3_feed_37 (kX3_work Θ F p0 p1 p2 p3 d0 d1 d2 d3 u7 u11 u12 u13 u14 v1 u9 u10 p_slugs d_columns d_rows d_carrier d_partMarks d_linkMarks d_operations d_pilots d_settings d_facts d_cells u15 u16 u17 u18 u19 hg) (gwV lk_487930fb lk_36537740 lk_ad1b2b81 lk_106b7259 lk_1fdf0739) rfl hvX3_work ⟨rfl, rfl⟩ ⟨Nat.le_of_ble_eq_true rfl, Nat.le_of_ble_eq_true rfl⟩ ⟨Nat.zero_le _, Nat.zero_le _⟩ rfl rfl (Nat.le_of_ble_eq_true rfl) 0 rfl vc3 rfl rfl rfl rfl (by decide) ?_
  refine sw_aload_n 40 G dX3_feed_40 2 rfl ?_
  refine sw_get 41 G hnX3 0 7 dX3_feed_41 vc3 (by decide) (List.mem_cons_of_mem _ lk_0f797579) rfl rfl ?_
  refine sw_iload_n 44 G dX3_feed_44 0 rfl ?_
  refine sw_icmp_le 45 50 G dX3_feed_45 rfl hf (fun hf => ?_) (fun hf => ?_)
  · refine sw_aload_n 50 G dX3_feed_50 2 rfl ?_
    refine sw_get 51 G hnX3 0 6 dX3_feed_51 vc3 (by decide) (List.mem_cons_of_mem _ lk_123d7bc8) rfl rfl ?_
    refine sw_iload_n 54 G dX3_feed_54 1 rfl ?_
    refine sw_icmp_le 55 62 G dX3_feed_55 rfl hf (fun hf => ?_) (fun hf => ?_)
    · refine sw_iconst 62 G (0 : Int32) dX3_feed_62 rfl ?_
      cases hf
      exact sw_iret 63 G dX3_feed_63 K
    · refine sw_iconst 58 G (1 : Int32) dX3_feed_58 rfl ?_
      refine sw_goto 59 G 63 dX3_feed_59 rfl ?_
      cases hf
      exact sw_iret 63 G dX3_feed_63 K
  · refine sw_iconst 48 G (2 : Int32) dX3_feed_48 rfl ?_
    cases hf
    exact sw_iret 49 G dX3_feed_49 K
