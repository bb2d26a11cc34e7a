theorem lk_5528814d : Cond.selects RX5 yX5_withStation yX5_withStation ∈ GW := GW_of 30 (by decide +kernel) (by decide +kernel)
theorem lk_3b59aa98 : Cond.fieldLink RX5 59 "StripDie$Die" "operations" "I" ∈ GW := GW_of 131 (by decide +kernel) (by decide +kernel)
theorem lk_4a34e39d : Cond.fieldLink RX5 165 "StripDie$Die" "pilots" "I" ∈ GW := GW_of 136 (by decide +kernel) (by decide +kernel)
theorem lk_c462158b : Cond.instanceMethod yX5_dieFault ∈ GW := GW_of 438 (by decide +kernel) (by decide +kernel)
theorem lk_41251719 : Cond.selects RX5 yX5_dieFault yX5_dieFault ∈ GW := GW_of 439 (by decide +kernel) (by decide +kernel)
theorem lk_f6a455e8 : Cond.code yX5_dieFault cX5_dieFault 1 (some .int) ∈ GW := GW_of 440 (by decide +kernel) (by decide +kernel)
theorem lk_b8b01604 : Cond.instanceMethod yX5_planFault ∈ GW := GW_of 473 (by decide +kernel) (by decide +kernel)
theorem lk_5abe84c7 : Cond.selects RX5 yX5_planFault yX5_planFault ∈ GW := GW_of 474 (by decide +kernel) (by decide +kernel)
theorem lk_9caa16e3 : Cond.code yX5_planFault cX5_planFault 1 (some .int) ∈ GW := GW_of 475 (by decide +kernel) (by decide +kernel)
theorem lk_b6d8f630 : Cond.instanceMethod yX5_fitsTwice ∈ GW := GW_of 543 (by decide +kernel) (by decide +kernel)
theorem lk_8f672cea : Cond.selects RX5 yX5_fitsTwice yX5_fitsTwice ∈ GW := GW_of 544 (by decide +kernel) (by decide +kernel)
theorem lk_fc6b1be2 : Cond.code yX5_fitsTwice cX5_fitsTwice 1 (some .int) ∈ GW := GW_of 545 (by decide +kernel) (by decide +kernel)
theorem lk_89c46ba6 : Cond.instanceMethod yX5_scrap ∈ GW := GW_of 555 (by decide +kernel) (by decide +kernel)
theorem lk_cc13ca5e : Cond.selects RX5 yX5_scrap yX5_scrap ∈ GW := GW_of 556 (by decide +kernel) (by decide +kernel)
theorem lk_c1d0049b : Cond.code yX5_scrap cX5_scrap 4 (some .int) ∈ GW := GW_of 557 (by decide +kernel) (by decide +kernel)
theorem lk_c3e12248 : Cond.methodLink RX5 311 yX5_whole ∈ GW := GW_of 782 (by decide +kernel) (by decide +kernel)
theorem lk_00a700e4 : Cond.instanceMethod yX5_whole ∈ GW := GW_of 783 (by decide +kernel) (by decide +kernel)
theorem lk_1397dd5c : Cond.selects RX5 yX5_whole yX5_whole ∈ GW := GW_of 784 (by decide +kernel) (by decide +kernel)
theorem lk_141fdf1b : Cond.code yX5_whole cX5_whole 2 (some .int) ∈ GW := GW_of 785 (by decide +kernel) (by decide +kernel)
theorem lk_9cd43eef : Cond.methodLink RX5 234 yX1_wholeValue ∈ GW := GW_of 853 (by decide +kernel) (by decide +kernel)
theorem lk_7bf3da9c : Cond.instanceMethod yX1_wholeValue ∈ GW := GW_of 854 (by decide +kernel) (by decide +kernel)
theorem lk_b2d34458 : Cond.selects RX1 yX1_wholeValue yX1_wholeValue ∈ GW := GW_of 855 (by decide +kernel) (by decide +kernel)
theorem lk_61bb7644 : Cond.code yX1_wholeValue cX1_wholeValue 2 (some .int) ∈ GW := GW_of 856 (by decide +kernel) (by decide +kernel)
theorem lk_fe1a3ea6 : Cond.methodLink RX5 168 yJ6_bitCount_0f7a4 ∈ GW := GW_of 858 (by decide +kernel) (by decide +kernel)
theorem lk_c4eb7bcf : Cond.methodLink RX5 240 yX3_wholeValue ∈ GW := GW_of 859 (by decide +kernel) (by decide +kernel)
theorem lk_30e824c5 : Cond.instanceMethod yX3_wholeValue ∈ GW := GW_of 860 (by decide +kernel) (by decide +kernel)
theorem lk_90f33f44 : Cond.selects RX3 yX3_wholeValue yX3_wholeValue ∈ GW := GW_of 861 (by decide +kernel) (by decide +kernel)
theorem lk_5baeb57b : Cond.code yX3_wholeValue cX3_wholeValue 2 (some .int) ∈ GW := GW_of 862 (by decide +kernel) (by decide +kernel)
theorem lk_85c85b19 : Cond.methodLink RX5 314 yX5_cellSet ∈ GW := GW_of 863 (by decide +kernel) (by decide +kernel)
theorem lk_0c6f94f4 : Cond.instanceMethod yX5_cellSet ∈ GW := GW_of 864 (by decide +kernel) (by decide +kernel)
theorem lk_105ccd88 : Cond.selects RX5 yX5_cellSet yX5_cellSet ∈ GW := GW_of 865 (by decide +kernel) (by decide +kernel)
theorem lk_2d194fb3 : Cond.code yX5_cellSet cX5_cellSet 2 (some .long) ∈ GW := GW_of 866 (by decide +kernel) (by decide +kernel)
theorem lk_465a6537 : Cond.methodLink RX5 187 yX1_linkCells ∈ GW := GW_of 867 (by decide +kernel) (by decide +kernel)
theorem lk_3c7e3d62 : Cond.methodLink RX5 190 yX1_carrierCells ∈ GW := GW_of 868 (by decide +kernel) (by decide +kernel)
theorem lk_253e5515 : Cond.methodLink RX5 193 yX1_cellsOfKind ∈ GW := GW_of 869 (by decide +kernel) (by decide +kernel)
theorem lk_9b1e2633 : Cond.methodLink RX5 197 yX1_forgottenCells ∈ GW := GW_of 870 (by decide +kernel) (by decide +kernel)
theorem lk_956de946 : Cond.methodLink RX5 200 yX1_looseCells ∈ GW := GW_of 871 (by decide +kernel) (by decide +kernel)
theorem lk_c34baf88 : Cond.methodLink RX5 317 yX5_operation ∈ GW := GW_of 873 (by decide +kernel) (by decide +kernel)
theorem lk_a2e0504c : Cond.instanceMethod yX5_operation ∈ GW := GW_of 874 (by decide +kernel) (by decide +kernel)
theorem lk_1df469a9 : Cond.selects RX5 yX5_operation yX5_operation ∈ GW := GW_of 875 (by decide +kernel) (by decide +kernel)
theorem lk_91b5c7da : Cond.code yX5_operation cX5_operation 3 (some .int) ∈ GW := GW_of 876 (by decide +kernel) (by decide +kernel)
theorem lk_3fc5db96 : Cond.methodLink RX5 207 yX1_touching ∈ GW := GW_of 894 (by decide +kernel) (by decide +kernel)
theorem lk_7da35f5b : Cond.methodLink RX5 141 yX1_fact ∈ GW := GW_of 895 (by decide +kernel) (by decide +kernel)
theorem lk_0d3e54d8 : Cond.methodLink RX5 320 yX5_withStation ∈ GW := GW_of 896 (by decide +kernel) (by decide +kernel)
theorem lk_0ef405a8 : Cond.instanceMethod yX5_withStation ∈ GW := GW_of 898 (by decide +kernel) (by decide +kernel)
theorem lk_4eb22b0b : Cond.code yX5_withStation cX5_withStation 7 (some .long) ∈ GW := GW_of 899 (by decide +kernel) (by decide +kernel)
theorem lk_e5b97ba1 : Cond.methodLink RX5 340 yX5_station ∈ GW := GW_of 900 (by decide +kernel) (by decide +kernel)
theorem lk_954be666 : Cond.instanceMethod yX5_station ∈ GW := GW_of 901 (by decide +kernel) (by decide +kernel)
theorem lk_48b8789b : Cond.selects RX5 yX5_station yX5_station ∈ GW := GW_of 902 (by decide +kernel) (by decide +kernel)
theorem lk_0e1ef4ca : Cond.code yX5_station cX5_station 3 (some .int) ∈ GW := GW_of 903 (by decide +kernel) (by decide +kernel)
theorem lk_aece8587 : Cond.methodLink RX5 210 yX1_operationsAt ∈ GW := GW_of 905 (by decide +kernel) (by decide +kernel)
theorem lk_8804cf1a : Cond.methodLink RX5 213 yX1_forceAt ∈ GW := GW_of 906 (by decide +kernel) (by decide +kernel)
theorem lk_98e56b6a : Cond.methodLink RX5 216 yX1_hasPilot ∈ GW := GW_of 907 (by decide +kernel) (by decide +kernel)
theorem lk_5b55331c : Cond.methodLink RX5 343 yX5_pitch ∈ GW := GW_of 910 (by decide +kernel) (by decide +kernel)
theorem lk_ad536863 : Cond.instanceMethod yX5_pitch ∈ GW := GW_of 911 (by decide +kernel) (by decide +kernel)
theorem lk_540372d4 : Cond.selects RX5 yX5_pitch yX5_pitch ∈ GW := GW_of 912 (by decide +kernel) (by decide +kernel)
theorem lk_2b94d3f7 : Cond.code yX5_pitch cX5_pitch 3 (some .int) ∈ GW := GW_of 913 (by decide +kernel) (by decide +kernel)
theorem lk_94aace7d : Cond.methodLink RX5 226 yX3_valueOf ∈ GW := GW_of 915 (by decide +kernel) (by decide +kernel)
theorem lk_a0ac316f : Cond.instanceMethod yX3_valueOf ∈ GW := GW_of 916 (by decide +kernel) (by decide +kernel)
theorem lk_77840524 : Cond.selects RX3 yX3_valueOf yX3_valueOf ∈ GW := GW_of 917 (by decide +kernel) (by decide +kernel)
theorem lk_245db28e : Cond.code yX3_valueOf cX3_valueOf 3 (some .int) ∈ GW := GW_of 918 (by decide +kernel) (by decide +kernel)
theorem lk_21b1f0e2 : Cond.methodLink RX5 346 yX5_left ∈ GW := GW_of 919 (by decide +kernel) (by decide +kernel)
theorem lk_cb7a7b42 : Cond.instanceMethod yX5_left ∈ GW := GW_of 920 (by decide +kernel) (by decide +kernel)
theorem lk_2e1ae927 : Cond.selects RX5 yX5_left yX5_left ∈ GW := GW_of 921 (by decide +kernel) (by decide +kernel)
theorem lk_525c92fb : Cond.code yX5_left cX5_left 2 (some .long) ∈ GW := GW_of 922 (by decide +kernel) (by decide +kernel)
theorem lk_77e3fe4b : Cond.methodLink RX5 324 yX5_dieFault ∈ GW := GW_of 924 (by decide +kernel) (by decide +kernel)
theorem lk_d15de929 : Cond.methodLink RX5 327 yX5_planFault ∈ GW := GW_of 925 (by decide +kernel) (by decide +kernel)
theorem lk_e262add3 : Cond.methodLink RX5 330 yX5_planned ∈ GW := GW_of 926 (by decide +kernel) (by decide +kernel)
theorem lk_9ff230cd : Cond.instanceMethod yX5_planned ∈ GW := GW_of 927 (by decide +kernel) (by decide +kernel)
theorem lk_da1c9664 : Cond.selects RX5 yX5_planned yX5_planned ∈ GW := GW_of 928 (by decide +kernel) (by decide +kernel)
theorem lk_cb016474 : Cond.code yX5_planned cX5_planned 3 (some .int) ∈ GW := GW_of 929 (by decide +kernel) (by decide +kernel)
theorem lk_9b9ad937 : Cond.methodLink RX5 333 yX5_fitsTwice ∈ GW := GW_of 931 (by decide +kernel) (by decide +kernel)
theorem lk_7499a81d : Cond.methodLink RX5 336 yX5_scrap ∈ GW := GW_of 932 (by decide +kernel) (by decide +kernel)
theorem lk_b3ef0811 : Cond.methodLink RX5 278 yX0_append ∈ GW := GW_of 1083 (by decide +kernel) (by decide +kernel)
theorem lk_4310ecc2 : Cond.instanceMethod yX0_append ∈ GW := GW_of 1084 (by decide +kernel) (by decide +kernel)
theorem lk_936f8019 : Cond.selects RX0 yX0_append yX0_append ∈ GW := GW_of 1085 (by decide +kernel) (by decide +kernel)
theorem lk_a2767a48 : Cond.code yX0_append cX0_append 2 none ∈ GW := GW_of 1086 (by decide +kernel) (by decide +kernel)
abbrev rmX5_cellSet : Room := { frames := 3, cells := 0, slots := 0, locals := 86 }
theorem hvX5_cellSet : yX5_cellSet.cls = RX5 ∧ yX5_cellSet.cls ≠ "java/lang/invoke/MethodHandle" ∧ yX5_cellSet.cls ≠ "java/lang/invoke/VarHandle" ∧ (parseMethodDescriptor yX5_cellSet.desc).map (fun d => d.parameters.length) = some 1 := by decide +kernel
set_option maxRecDepth 100000 in
set_option maxHeartbeats 4000000 in
theorem kX5_cellSet (Θ : Tht) (F : Nat) (x0 n0 d0 d1 d2 d3 v0 t0 l0 c0 p0 : Nat) (x_oldestSaved : Int32) (x_savedStates : Int32) (d_columns : Int32) (d_rows : Int32) (d_carrier : Int32) (d_partMarks : Int64) (d_linkMarks : Int64) (d_operations : Int32) (d_pilots : Int32) (d_settings : Nat → Int32) (d_facts : Nat → Int32) (d_cells : Nat → Int64) (a0 : Int32) (ro : Int64) (hf : fX5_cellSet F d_columns d_rows d_carrier d_partMarks d_linkMarks d_operations d_facts d_cells a0 = some ro) : Fn Θ yX5_cellSet (Cond.code yX5_cellSet cX5_cellSet 2 (some .long) :: GW) rmX5_cellSet [.ref x0, .int a0] ([(x0, .inr (5, [.ref n0, .ref v0, .int x_oldestSaved, .int x_savedStates, .ref t0, .ref l0, .ref c0]))] ++ [(n0, .inr (4, [.ref d0, .ref p0]))] ++ wX1 Θ d0 d1 d2 d3 d_columns d_rows d_carrier d_partMarks d_linkMarks d_operations d_pilots d_settings d_facts d_cells) (some (.long ro)) ([(x0, .inr (5, [.ref n0, .ref v0, .int x_oldestSaved, .int x_savedStates, .ref t0, .ref l0, .ref c0]))] ++ [(n0, .inr (4, [.ref d0, .ref p0]))] ++ wX1 Θ d0 d1 d2 d3 d_columns d_rows d_carrier d_partMarks d_linkMarks d_operations d_pilots d_settings d_facts d_cells) := by
  delta fX5_cellSet at hf
  refine Fn.of (by decide +kernel) rfl (Nat.le_of_ble_eq_true rfl) (fun p e s m args below meth c A Q G K => ?_)
  show sw Θ p e rmX5_cellSet s m args below meth c A Q 2 0 0 0 [(0, .ref x0), (1, .int a0)] [] ([(x0, .inr (5, [.ref n0, .ref v0, .int x_oldestSaved, .int x_savedStates, .ref t0, .ref l0, .ref c0]))] ++ [(n0, .inr (4, [.ref d0, .ref p0]))] ++ wX1 Θ d0 d1 d2 d3 d_columns d_rows d_carrier d_partMarks d_linkMarks d_operations d_pilots d_settings d_facts d_cells)
  refine sw_iload_n 0 G dX5_cellSet_0 1 rfl ?_
  refine sw_tsw 1 107 G dX5_cellSet_1 rfl hf (fun hf => ?_) (fun j hj hf => ?_)
  · cases hf
  · rcases (show j = 0 ∨ j = 1 ∨ j = 2 ∨ j = 3 ∨ j = 4 ∨ j = 5 by omega) with rfl | rfl | rfl | rfl | rfl | rfl
    · refine ⟨39, 40, rfl, rfl, ?_⟩
      have hf := tc_0 hf
      refine sw_aload_n 40 G dX5_cellSet_40 0 rfl ?_
      refine sw_get 41 G hnX5 0 0 dX5_cellSet_41 vc5 (by decide) (List.mem_cons_of_mem _ lk_c6576e33) rfl rfl ?_
      refine sw_get 44 G hnX4 1 0 dX5_cellSet_44 vc4 (by decide) (List.mem_cons_of_mem _ lk_b490f9e6) rfl rfl ?_
      obtain ⟨r1, hg, hf⟩ := bd1_some hf
      refine sw_callV 47 G ([(x0, .inr (5, [.ref n0, .ref v0, .int x_oldestSaved, .int x_savedStates, .ref t0, .ref l0, .ref c0]))] ++ [(n0, .inr (4, [.ref d0, .ref p0]))] ++ wX1 Θ d0 d1 d2 d3 d_columns d_rows d_carrier d_partMarks d_linkMarks d_operations d_pilots d_settings d_facts d_cells) [2, 3, 4, 5] [0, 1] [0, 1, 2, 3, 4, 5] 0 dX5_cellSet_47 (kX1_partCells Θ d0 d1 d2 d3 d_columns d_rows d_carrier d_partMarks d_linkMarks d_operations d_pilots d_settings d_facts d_cells r1 hg) (gwV lk_489fbd0f lk_c137cc36 lk_24905df5 lk_cf66e99d lk_e39ae260) rfl hvX1_partCells ⟨rfl, rfl⟩ ⟨Nat.le_of_ble_eq_true rfl, Nat.le_of_ble_eq_true rfl⟩ ⟨Nat.zero_le _, Nat.zero_le _⟩ rfl rfl (Nat.le_of_ble_eq_true rfl) 0 rfl vc1 rfl rfl rfl rfl (by decide) ?_
      cases hf
      exact sw_lret 50 G dX5_cellSet_50 K
    · refine ⟨50, 51, rfl, rfl, ?_⟩
      have hf := tc_1 hf
      refine sw_aload_n 51 G dX5_cellSet_51 0 rfl ?_
      refine sw_get 52 G hnX5 0 0 dX5_cellSet_52 vc5 (by decide) (List.mem_cons_of_mem _ lk_c6576e33) rfl rfl ?_
      refine sw_get 55 G hnX4 1 0 dX5_cellSet_55 vc4 (by decide) (List.mem_cons_of_mem _ lk_b490f9e6) rfl rfl ?_
      obtain ⟨r2, hg, hf⟩ := bd1_some hf
      refine sw_callV 58 G ([(x0, .inr (5, [.ref n0, .ref v0, .int x_oldestSaved, .int x_savedStates, .ref t0, .ref l0, .ref c0]))] ++ [(n0, .inr (4, [.ref d0, .ref p0]))] ++ wX1 Θ d0 d1 d2 d3 d_columns d_rows d_carrier d_partMarks d_linkMarks d_operations d_pilots d_settings d_facts d_cells) [2, 3, 4, 5] [0, 1] [0, 1, 2, 3, 4, 5] 0 dX5_cellSet_58 (kX1_linkCells Θ d0 d1 d2 d3 d_columns d_rows d_carrier d_partMarks d_linkMarks d_operations d_pilots d_settings d_facts d_cells r2 hg) (gwV lk_465a6537 lk_7f41af12 lk_aa25bded lk_cf66e99d lk_d7dcb1b0) rfl hvX1_linkCells ⟨rfl, rfl⟩ ⟨Nat.le_of_ble_eq_true rfl, Nat.le_of_ble_eq_true rfl⟩ ⟨Nat.zero_le _, Nat.zero_le _⟩ rfl rfl (Nat.le_of_ble_eq_true rfl) 0 rfl vc1 rfl rfl rfl rfl (by decide) ?_
      cases hf
      exact sw_lret 61 G dX5_cellSet_61 K
    · refine ⟨61, 62, rfl, rfl, ?_⟩
      have hf := tc_2 hf
      refine sw_aload_n 62 G dX5_cellSet_62 0 rfl ?_
      refine sw_get 63 G hnX5 0 0 dX5_cellSet_63 vc5 (by decide) (List.mem_cons_of_mem _ lk_c6576e33) rfl rfl ?_
      refine sw_get 66 G hnX4 1 0 dX5_cellSet_66 vc4 (by decide) (List.mem_cons_of_mem _ lk_b490f9e6) rfl rfl ?_
      obtain ⟨r3, hg, hf⟩ := bd1_some hf
      refine sw_callV 69 G ([(x0, .inr (5, [.ref n0, .ref v0, .int x_oldestSaved, .int x_savedStates, .ref t0, .ref l0, .ref c0]))] ++ [(n0, .inr (4, [.ref d0, .ref p0]))] ++ wX1 Θ d0 d1 d2 d3 d_columns d_rows d_carrier d_partMarks d_linkMarks d_operations d_pilots d_settings d_facts d_cells) [2, 3, 4, 5] [0, 1] [0, 1, 2, 3, 4, 5] 0 dX5_cellSet_69 (kX1_carrierCells Θ d0 d1 d2 d3 d_columns d_rows d_carrier d_partMarks d_linkMarks d_operations d_pilots d_settings d_facts d_cells r3 hg) (gwV lk_3c7e3d62 lk_447df895 lk_ce1f32b3 lk_cf66e99d lk_03889728) rfl hvX1_carrierCells ⟨rfl, rfl⟩ ⟨Nat.le_of_ble_eq_true rfl, Nat.le_of_ble_eq_true rfl⟩ ⟨Nat.zero_le _, Nat.zero_le _⟩ rfl rfl (Nat.le_of_ble_eq_true rfl) 0 rfl vc1 rfl rfl rfl rfl (by decide) ?_
      cases hf
      exact sw_lret 72 G dX5_cellSet_72 K
    · refine ⟨72, 73, rfl, rfl, ?_⟩
      have hf := tc_3 hf
      refine sw_aload_n 73 G dX5_cellSet_73 0 rfl ?_
      refine sw_get 74 G hnX5 0 0 dX5_cellSet_74 vc5 (by decide) (List.mem_cons_of_mem _ lk_c6576e33) rfl rfl ?_
      refine sw_get 77 G hnX4 1 0 dX5_cellSet_77 vc4 (by decide) (List.mem_cons_of_mem _ lk_b490f9e6) rfl rfl ?_
      refine sw_iconst 80 G (0 : Int32) dX5_cellSet_80 rfl ?_
      obtain ⟨r4, hg, hf⟩ := bd1_some hf
      refine sw_callV 81 G ([(x0, .inr (5, [.ref n0, .ref v0, .int x_oldestSaved, .int x_savedStates, .ref t0, .ref l0, .ref c0]))] ++ [(n0, .inr (4, [.ref d0, .ref p0]))] ++ wX1 Θ d0 d1 d2 d3 d_columns d_rows d_carrier d_partMarks d_linkMarks d_operations d_pilots d_settings d_facts d_cells) [2, 3, 4, 5] [0, 1] [0, 1, 2, 3, 4, 5] 1 dX5_cellSet_81 (kX1_cellsOfKind Θ F d0 d1 d2 d3 d_columns d_rows d_carrier d_partMarks d_linkMarks d_operations d_pilots d_settings d_facts d_cells (0 : Int32) r4 hg) (gwV lk_253e5515 lk_0f6337fc lk_1dbc5789 lk_cf66e99d lk_9bdedb27) rfl hvX1_cellsOfKind ⟨rfl, rfl⟩ ⟨Nat.le_of_ble_eq_true rfl, Nat.le_of_ble_eq_true rfl⟩ ⟨Nat.zero_le _, Nat.zero_le _⟩ rfl rfl (Nat.le_of_ble_eq_true rfl) 0 rfl vc1 rfl rfl rfl rfl (by decide) ?_
      cases hf
      exact sw_lret 84 G dX5_cellSet_84 K
    · refine ⟨84, 85, rfl, rfl, ?_⟩
      have hf := tc_4 hf
      refine sw_aload_n 85 G dX5_cellSet_85 0 rfl ?_
      refine sw_get 86 G hnX5 0 0 dX5_cellSet_86 vc5 (by decide) (List.mem_cons_of_mem _ lk_c6576e33) rfl rfl ?_
      refine sw_get 89 G hnX4 1 0 dX5_cellSet_89 vc4 (by decide) (List.mem_cons_of_mem _ lk_b490f9e6) rfl rfl ?_
      obtain ⟨r5, hg, hf⟩ := bd1_some hf
      refine sw_callV 92 G ([(x0, .inr (5, [.ref n0, .ref v0, .int x_oldestSaved, .int x_savedStates, .ref t0, .ref l0, .ref c0]))] ++ [(n0, .inr (4, [.ref d0, .ref p0]))] ++ wX1 Θ d0 d1 d2 d3 d_columns d_rows d_carrier d_partMarks d_linkMarks d_operations d_pilots d_settings d_facts d_cells) [2, 3, 4, 5] [0, 1] [0, 1, 2, 3, 4, 5] 0 dX5_cellSet_92 (kX1_forgottenCells Θ F d0 d1 d2 d3 d_columns d_rows d_carrier d_partMarks d_linkMarks d_operations d_pilots d_settings d_facts d_cells r5 hg) (gwV lk_9b1e2633 lk_80cb1769 lk_6663014f lk_cf66e99d lk_5ec6c11a) rfl hvX1_forgottenCells ⟨rfl, rfl⟩ ⟨Nat.le_of_ble_eq_true rfl, Nat.le_of_ble_eq_true rfl⟩ ⟨Nat.zero_le _, Nat.zero_le _⟩ rfl rfl (Nat.le_of_ble_eq_true rfl) 0 rfl vc1 rfl rfl rfl rfl (by decide) ?_
      cases hf
      exact sw_lret 95 G dX5_cellSet_95 K
    · refine ⟨95, 96, rfl, rfl, ?_⟩
      have hf := tc_5 hf
      refine sw_aload_n 96 G dX5_cellSet_96 0 rfl ?_
      refine sw_get 97 G hnX5 0 0 dX5_cellSet_97 vc5 (by decide) (List.mem_cons_of_mem _ lk_c6576e33) rfl rfl ?_
      refine sw_get 100 G hnX4 1 0 dX5_cellSet_100 vc4 (by decide) (List.mem_cons_of_mem _ lk_b490f9e6) rfl rfl ?_
      obtain ⟨r6, hg, hf⟩ := bd1_some hf
      refine sw_callV 103 G ([(x0, .inr (5, [.ref n0, .ref v0, .int x_oldestSaved, .int x_savedStates, .ref t0, .ref l0, .ref c0]))] ++ [(n0, .inr (4, [.ref d0, .ref p0]))] ++ wX1 Θ d0 d1 d2 d3 d_columns d_rows d_carrier d_partMarks d_linkMarks d_operations d_pilots d_settings d_facts d_cells) [2, 3, 4, 5] [0, 1] [0, 1, 2, 3, 4, 5] 0 dX5_cellSet_103 (kX1_looseCells Θ F d0 d1 d2 d3 d_columns d_rows d_carrier d_partMarks d_linkMarks d_operations d_pilots d_settings d_facts d_cells r6 hg) (gwV lk_956de946 lk_966126ed lk_5701239d lk_cf66e99d lk_6d4184c7) rfl hvX1_looseCells ⟨rfl, rfl⟩ ⟨Nat.le_of_ble_eq_true rfl, Nat.le_of_ble_eq_true rfl⟩ ⟨Nat.zero_le _, Nat.zero_le _⟩ rfl rfl (Nat.le_of_ble_eq_true rfl) 0 rfl vc1 rfl rfl rfl rfl (by decide) ?_
      cases hf
      exact sw_lret 106 G dX5_cellSet_106 K
abbrev rmX5_operation : Room := { frames := 3, cells := 0, slots := 0, locals := 84 }
theorem hvX5_operation : yX5_operation.cls = RX5 ∧ yX5_operation.cls ≠ "java/lang/invoke/MethodHandle" ∧ yX5_operation.cls ≠ "java/lang/invoke/VarHandle" ∧ (parseMethodDescriptor yX5_operation.desc).map (fun d => d.parameters.length) = some 2 := by decide +kernel
set_option maxRecDepth 100000 in
set_option maxHeartbeats 4000000 in
theorem kX5_operation (Θ : Tht) (F : Nat) (x0 n0 d0 d1 d2 d3 v0 t0 l0 c0 p0 : Nat) (x_oldestSaved : Int32) (x_savedStates : Int32) (d_columns : Int32) (d_rows : Int32) (d_carrier : Int32) (d_partMarks : Int64) (d_linkMarks : Int64) (d_operations : Int32) (d_pilots : Int32) (d_settings : Nat → Int32) (d_facts : Nat → Int32) (d_cells : Nat → Int64) (a0 : Int32) (a1 : Int32) (ro : Int32) (hf : fX5_operation F d_columns d_rows d_operations d_facts d_cells a0 a1 = some ro) : Fn Θ yX5_operation (Cond.code yX5_operation cX5_operation 3 (some .int) :: GW) rmX5_operation [.ref x0, .int a0, .int a1] ([(x0, .inr (5, [.ref n0, .ref v0, .int x_oldestSaved, .int x_savedStates, .ref t0, .ref l0, .ref c0]))] ++ [(n0, .inr (4, [.ref d0, .ref p0]))] ++ wX1 Θ d0 d1 d2 d3 d_columns d_rows d_carrier d_partMarks d_linkMarks d_operations d_pilots d_settings d_facts d_cells) (some (.int ro)) ([(x0, .inr (5, [.ref n0, .ref v0, .int x_oldestSaved, .int x_savedStates, .ref t0, .ref l0, .ref c0]))] ++ [(n0, .inr (4, [.ref d0, .ref p0]))] ++ wX1 Θ d0 d1 d2 d3 d_columns d_rows d_carrier d_partMarks d_linkMarks d_operations d_pilots d_settings d_facts d_cells) := by
  delta fX5_operation at hf
  refine Fn.of (by decide +kernel) rfl (Nat.le_of_ble_eq_true rfl) (fun p e s m args below meth c A Q G K => ?_)
  show sw Θ p e rmX5_operation s m args below meth c A Q 3 0 0 0 [(0, .ref x0), (1, .int a0), (2, .int a1)] [] ([(x0, .inr (5, [.ref n0, .ref v0, .int x_oldestSaved, .int x_savedStates, .ref t0, .ref l0, .ref c0]))] ++ [(n0, .inr (4, [.ref d0, .ref p0]))] ++ wX1 Θ d0 d1 d2 d3 d_columns d_rows d_carrier d_partMarks d_linkMarks d_operations d_pilots d_settings d_facts d_cells)
  refine sw_aload_n 0 G dX5_operation_0 0 rfl ?_
  refine sw_get 1 G hnX5 0 0 dX5_operation_1 vc5 (by decide) (List.mem_cons_of_mem _ lk_c6576e33) rfl rfl ?_
  refine sw_get 4 G hnX4 1 0 dX5_operation_4 vc4 (by decide) (List.mem_cons_of_mem _ lk_b490f9e6) rfl rfl ?_
  refine sw_iload_n 7 G dX5_operation_7 1 rfl ?_
  obtain ⟨r1, hg, hf⟩ := bd1_some hf
  refine sw_callV 8 G ([(x0, .inr (5, [.ref n0, .ref v0, .int x_oldestSaved, .int x_savedStates, .ref t0, .ref l0, .ref c0]))] ++ [(n0, .inr (4, [.ref d0, .ref p0]))] ++ wX1 Θ d0 d1 d2 d3 d_columns d_rows d_carrier d_partMarks d_linkMarks d_operations d_pilots d_settings d_facts d_cells) [2, 3, 4, 5] [0, 1] [0, 1, 2, 3, 4, 5] 1 dX5_operation_8 (kX1_hasOperation Θ d0 d1 d2 d3 d_columns d_rows d_carrier d_partMarks d_linkMarks d_operations d_pilots d_settings d_facts d_cells a0 r1 hg) (gwV lk_02fe585c lk_bab4024f lk_df64b95a lk_cf66e99d lk_740542d2) rfl hvX1_hasOperation ⟨rfl, rfl⟩ ⟨Nat.le_of_ble_eq_true rfl, Nat.le_of_ble_eq_true rfl⟩ ⟨Nat.zero_le _, Nat.zero_le _⟩ rfl rfl (Nat.le_of_ble_eq_true rfl) 0 rfl vc1 rfl rfl rfl rfl (by decide) ?_
  refine sw_if_ne 11 24 G dX5_operation_11 rfl hf (fun hf => ?_) (fun hf => ?_)
  · refine sw_iload_n 24 G dX5_operation_24 2 rfl ?_
    refine sw_if_lt 25 34 G dX5_operation_25 rfl hf (fun hf => ?_) (fun hf => ?_)
    · cases hf
    · refine sw_iload_n 28 G dX5_operation_28 2 rfl ?_
      refine sw_bipush 29 G (7 : Int32) dX5_operation_29 rfl ?_
      refine sw_icmp_le 31 44 G dX5_operation_31 rfl hf (fun hf => ?_) (fun hf => ?_)
      · refine sw_iload_n 44 G dX5_operation_44 2 rfl ?_
        refine sw_bipush 45 G (7 : Int32) dX5_operation_45 rfl ?_
        refine sw_icmp_ne 47 64 G dX5_operation_47 rfl hf (fun hf => ?_) (fun hf => ?_)
        · refine sw_aload_n 64 G dX5_operation_64 0 rfl ?_
          refine sw_get 65 G hnX5 0 0 dX5_operation_65 vc5 (by decide) (List.mem_cons_of_mem _ lk_c6576e33) rfl rfl ?_
          refine sw_get 68 G hnX4 1 0 dX5_operation_68 vc4 (by decide) (List.mem_cons_of_mem _ lk_b490f9e6) rfl rfl ?_
          refine sw_iload_n 71 G dX5_operation_71 1 rfl ?_
          refine sw_iload_n 72 G dX5_operation_72 2 rfl ?_
          obtain ⟨r2, hg, hf⟩ := bd1_some hf
          refine sw_callV 73 G ([(x0, .inr (5, [.ref n0, .ref v0, .int x_oldestSaved, .int x_savedStates, .ref t0, .ref l0, .ref c0]))] ++ [(n0, .inr (4, [.ref d0, .ref p0]))] ++ wX1 Θ d0 d1 d2 d3 d_columns d_rows d_carrier d_partMarks d_linkMarks d_operations d_pilots d_settings d_facts d_cells) [2, 3, 4, 5] [0, 1] [0, 1, 2, 3, 4, 5] 2 dX5_operation_73 (kX1_fact Θ d0 d1 d2 d3 d_columns d_rows d_carrier d_partMarks d_linkMarks d_operations d_pilots d_settings d_facts d_cells a0 a1 r2 hg) (gwV lk_7da35f5b lk_e025dfb3 lk_773339a1 lk_cf66e99d lk_334ef9fb) rfl hvX1_fact ⟨rfl, rfl⟩ ⟨Nat.le_of_ble_eq_true rfl, Nat.le_of_ble_eq_true rfl⟩ ⟨Nat.zero_le _, Nat.zero_le _⟩ rfl rfl (Nat.le_of_ble_eq_true rfl) 0 rfl vc1 rfl rfl rfl rfl (by decide) ?_
          cases hf
          exact sw_iret 76 G dX5_operation_76 K
        · refine sw_aload_n 50 G dX5_operation_50 0 rfl ?_
          refine sw_get 51 G hnX5 0 0 dX5_operation_51 vc5 (by decide) (List.mem_cons_of_mem _ lk_c6576e33) rfl rfl ?_
          refine sw_get 54 G hnX4 1 0 dX5_operation_54 vc4 (by decide) (List.mem_cons_of_mem _ lk_b490f9e6) rfl rfl ?_
          refine sw_iload_n 57 G dX5_operation_57 1 rfl ?_
          obtain ⟨r3, hg, hf⟩ := bd1_some hf
          refine sw_callV 58 G ([(x0, .inr (5, [.ref n0, .ref v0, .int x_oldestSaved, .int x_savedStates, .ref t0, .ref l0, .ref c0]))] ++ [(n0, .inr (4, [.ref d0, .ref p0]))] ++ wX1 Θ d0 d1 d2 d3 d_columns d_rows d_carrier d_partMarks d_linkMarks d_operations d_pilots d_settings d_facts d_cells) [2, 3, 4, 5] [0, 1] [0, 1, 2, 3, 4, 5] 1 dX5_operation_58 (kX1_touching Θ F d0 d1 d2 d3 d_columns d_rows d_carrier d_partMarks d_linkMarks d_operations d_pilots d_settings d_facts d_cells a0 r3 hg) (gwV lk_3fc5db96 lk_fbf09312 lk_32ac6146 lk_cf66e99d lk_4d7935db) rfl hvX1_touching ⟨rfl, rfl⟩ ⟨Nat.le_of_ble_eq_true rfl, Nat.le_of_ble_eq_true rfl⟩ ⟨Nat.zero_le _, Nat.zero_le _⟩ rfl rfl (Nat.le_of_ble_eq_true rfl) 0 rfl vc1 rfl rfl rfl rfl (by decide) ?_
          refine sw_goto 61 G 76 dX5_operation_61 rfl ?_
          cases hf
          exact sw_iret 76 G dX5_operation_76 K
      · cases hf
  · cases hf
abbrev rmX5_station : Room := { frames := 2, cells := 0, slots := 0, locals := 46 }
theorem hvX5_station : yX5_station.cls = RX5 ∧ yX5_station.cls ≠ "java/lang/invoke/MethodHandle" ∧ yX5_station.cls ≠ "java/lang/invoke/VarHandle" ∧ (parseMethodDescriptor yX5_station.desc).map (fun d => d.parameters.length) = some 2 := by decide +kernel
set_option maxRecDepth 100000 in
set_option maxHeartbeats 4000000 in
theorem kX5_station (Θ : Tht) (F : Nat) (x0 n0 d0 d1 d2 d3 p0 p1 p2 p3 v0 t0 l0 c0 : Nat) (x_oldestSaved : Int32) (x_savedStates : Int32) (d_columns : Int32) (d_rows : Int32) (d_carrier : Int32) (d_partMarks : Int64) (d_linkMarks : Int64) (d_operations : Int32) (d_pilots : Int32) (d_settings : Nat → Int32) (d_facts : Nat → Int32) (d_cells : Nat → Int64) (p_pitches : Int32) (p_spoiled : Int32) (p_cells : Nat → Int64) (p_bends : Nat → Int32) (p_offsets : Nat → Int32) (p_strokes : Int32) (p_goodParts : Int32) (p_badParts : Int32) (p_slugs : Int32) (a0 : Int32) (a1 : Int32) (ro : Int32) (hf : fX5_station F d_operations d_pilots d_facts p_pitches a0 a1 = some ro) : Fn Θ yX5_station (Cond.code yX5_station cX5_station 3 (some .int) :: GW) rmX5_station [.ref x0, .int a0, .int a1] ([(x0, .inr (5, [.ref n0, .ref v0, .int x_oldestSaved, .int x_savedStates, .ref t0, .ref l0, .ref c0]))] ++ [(n0, .inr (4, [.ref d0, .ref p0]))] ++ wX1 Θ d0 d1 d2 d3 d_columns d_rows d_carrier d_partMarks d_linkMarks d_operations d_pilots d_settings d_facts d_cells ++ wX3 Θ p0 p1 p2 p3 p_pitches p_spoiled p_cells p_bends p_offsets p_strokes p_goodParts p_badParts p_slugs) (some (.int ro)) ([(x0, .inr (5, [.ref n0, .ref v0, .int x_oldestSaved, .int x_savedStates, .ref t0, .ref l0, .ref c0]))] ++ [(n0, .inr (4, [.ref d0, .ref p0]))] ++ wX1 Θ d0 d1 d2 d3 d_columns d_rows d_carrier d_partMarks d_linkMarks d_operations d_pilots d_settings d_facts d_cells ++ wX3 Θ p0 p1 p2 p3 p_pitches p_spoiled p_cells p_bends p_offsets p_strokes p_goodParts p_badParts p_slugs) := by
  delta fX5_station at hf
  refine Fn.of (by decide +kernel) rfl (Nat.le_of_ble_eq_true rfl) (fun p e s m args below meth c A Q G K => ?_)
  show sw Θ p e rmX5_station s m args below meth c A Q 3 0 0 0 [(0, .ref x0), (1, .int a0), (2, .int a1)] [] ([(x0, .inr (5, [.ref n0, .ref v0, .int x_oldestSaved, .int x_savedStates, .ref t0, .ref l0, .ref c0]))] ++ [(n0, .inr (4, [.ref d0, .ref p0]))] ++ wX1 Θ d0 d1 d2 d3 d_columns d_rows d_carrier d_partMarks d_linkMarks d_operations d_pilots d_settings d_facts d_cells ++ wX3 Θ p0 p1 p2 p3 p_pitches p_spoiled p_cells p_bends p_offsets p_strokes p_goodParts p_badParts p_slugs)
  refine sw_iload_n 0 G dX5_station_0 1 rfl ?_
  obtain ⟨r1, hg, hf⟩ := bd1_some hf
  refine sw_callS 1 G ([(x0, .inr (5, [.ref n0, .ref v0, .int x_oldestSaved, .int x_savedStates, .ref t0, .ref l0, .ref c0]))] ++ [(n0, .inr (4, [.ref d0, .ref p0]))] ++ wX1 Θ d0 d1 d2 d3 d_columns d_rows d_carrier d_partMarks d_linkMarks d_operations d_pilots d_settings d_facts d_cells ++ wX3 Θ p0 p1 p2 p3 p_pitches p_spoiled p_cells p_bends p_offsets p_strokes p_goodParts p_badParts p_slugs) [] [0, 1, 2, 3, 4, 5, 6, 7, 8, 9] [0, 1, 2, 3, 4, 5, 6, 7, 8, 9] 1 dX5_station_1 (kX5_isStation Θ a0 r1 hg) (gwS lk_e51f5f2c lk_69b39882 lk_01b5d93a lk_08337533) rfl hsX5_isStation ⟨rfl, rfl⟩ ⟨Nat.le_of_ble_eq_true rfl, Nat.le_of_ble_eq_true rfl⟩ ⟨Nat.zero_le _, Nat.zero_le _⟩ rfl rfl (Nat.le_of_ble_eq_true rfl) rfl rfl rfl (by decide) ?_
  refine sw_if_ne 4 17 G dX5_station_4 rfl hf (fun hf => ?_) (fun hf => ?_)
  · refine sw_iload_n 17 G dX5_station_17 2 rfl ?_
    refine sw_tsw 18 112 G dX5_station_18 rfl hf (fun hf => ?_) (fun j hj hf => ?_)
    · cases hf
    · rcases (show j = 0 ∨ j = 1 ∨ j = 2 ∨ j = 3 by omega) with rfl | rfl | rfl | rfl
      · refine ⟨30, 48, rfl, rfl, ?_⟩
        have hf := tc_0 hf
        refine sw_aload_n 48 G dX5_station_48 0 rfl ?_
        refine sw_get 49 G hnX5 0 0 dX5_station_49 vc5 (by decide) (List.mem_cons_of_mem _ lk_c6576e33) rfl rfl ?_
        refine sw_get 52 G hnX4 1 0 dX5_station_52 vc4 (by decide) (List.mem_cons_of_mem _ lk_b490f9e6) rfl rfl ?_
        refine sw_iload_n 55 G dX5_station_55 1 rfl ?_
        obtain ⟨r2, hg, hf⟩ := bd1_some hf
        refine sw_callV 56 G ([(x0, .inr (5, [.ref n0, .ref v0, .int x_oldestSaved, .int x_savedStates, .ref t0, .ref l0, .ref c0]))] ++ [(n0, .inr (4, [.ref d0, .ref p0]))] ++ wX1 Θ d0 d1 d2 d3 d_columns d_rows d_carrier d_partMarks d_linkMarks d_operations d_pilots d_settings d_facts d_cells ++ wX3 Θ p0 p1 p2 p3 p_pitches p_spoiled p_cells p_bends p_offsets p_strokes p_goodParts p_badParts p_slugs) [2, 3, 4, 5] [0, 1, 6, 7, 8, 9] [0, 1, 6, 7, 8, 9, 2, 3, 4, 5] 1 dX5_station_56 (kX1_operationsAt Θ F d0 d1 d2 d3 d_columns d_rows d_carrier d_partMarks d_linkMarks d_operations d_pilots d_settings d_facts d_cells a0 r2 hg) (gwV lk_aece8587 lk_755282a1 lk_63c36857 lk_cf66e99d lk_02bf5acd) rfl hvX1_operationsAt ⟨rfl, rfl⟩ ⟨Nat.le_of_ble_eq_true rfl, Nat.le_of_ble_eq_true rfl⟩ ⟨Nat.zero_le _, Nat.zero_le _⟩ rfl rfl (Nat.le_of_ble_eq_true rfl) 0 rfl vc1 rfl rfl rfl rfl (by decide) ?_
        cases hf
        exact sw_iret 59 G dX5_station_59 K
      · refine ⟨42, 60, rfl, rfl, ?_⟩
        have hf := tc_1 hf
        refine sw_aload_n 60 G dX5_station_60 0 rfl ?_
        refine sw_get 61 G hnX5 0 0 dX5_station_61 vc5 (by decide) (List.mem_cons_of_mem _ lk_c6576e33) rfl rfl ?_
        refine sw_get 64 G hnX4 1 0 dX5_station_64 vc4 (by decide) (List.mem_cons_of_mem _ lk_b490f9e6) rfl rfl ?_
        refine sw_iload_n 67 G dX5_station_67 1 rfl ?_
        obtain ⟨r3, hg, hf⟩ := bd1_some hf
        refine sw_callV 68 G ([(x0, .inr (5, [.ref n0, .ref v0, .int x_oldestSaved, .int x_savedStates, .ref t0, .ref l0, .ref c0]))] ++ [(n0, .inr (4, [.ref d0, .ref p0]))] ++ wX1 Θ d0 d1 d2 d3 d_columns d_rows d_carrier d_partMarks d_linkMarks d_operations d_pilots d_settings d_facts d_cells ++ wX3 Θ p0 p1 p2 p3 p_pitches p_spoiled p_cells p_bends p_offsets p_strokes p_goodParts p_badParts p_slugs) [2, 3, 4, 5] [0, 1, 6, 7, 8, 9] [0, 1, 6, 7, 8, 9, 2, 3, 4, 5] 1 dX5_station_68 (kX1_forceAt Θ F d0 d1 d2 d3 d_columns d_rows d_carrier d_partMarks d_linkMarks d_operations d_pilots d_settings d_facts d_cells a0 r3 hg) (gwV lk_8804cf1a lk_9a0099b1 lk_44a81cc4 lk_cf66e99d lk_54499c2d) rfl hvX1_forceAt ⟨rfl, rfl⟩ ⟨Nat.le_of_ble_eq_true rfl, Nat.le_of_ble_eq_true rfl⟩ ⟨Nat.zero_le _, Nat.zero_le _⟩ rfl rfl (Nat.le_of_ble_eq_true rfl) 0 rfl vc1 rfl rfl rfl rfl (by decide) ?_
        cases hf
        exact sw_iret 71 G dX5_station_71 K
      · refine ⟨54, 72, rfl, rfl, ?_⟩
        have hf := tc_2 hf
        refine sw_aload_n 72 G dX5_station_72 0 rfl ?_
        refine sw_get 73 G hnX5 0 0 dX5_station_73 vc5 (by decide) (List.mem_cons_of_mem _ lk_c6576e33) rfl rfl ?_
        refine sw_get 76 G hnX4 1 0 dX5_station_76 vc4 (by decide) (List.mem_cons_of_mem _ lk_b490f9e6) rfl rfl ?_
        refine sw_iload_n 79 G dX5_station_79 1 rfl ?_
        obtain ⟨r4, hg, hf⟩ := bd1_some hf
        refine sw_callV 80 G ([(x0, .inr (5, [.ref n0, .ref v0, .int x_oldestSaved, .int x_savedStates, .ref t0, .ref l0, .ref c0]))] ++ [(n0, .inr (4, [.ref d0, .ref p0]))] ++ wX1 Θ d0 d1 d2 d3 d_columns d_rows d_carrier d_partMarks d_linkMarks d_operations d_pilots d_settings d_facts d_cells ++ wX3 Θ p0 p1 p2 p3 p_pitches p_spoiled p_cells p_bends p_offsets p_strokes p_goodParts p_badParts p_slugs) [2, 3, 4, 5] [0, 1, 6, 7, 8, 9] [0, 1, 6, 7, 8, 9, 2, 3, 4, 5] 1 dX5_station_80 (kX1_hasPilot Θ d0 d1 d2 d3 d_columns d_rows d_carrier d_partMarks d_linkMarks d_operations d_pilots d_settings d_facts d_cells a0 r4 hg) (gwV lk_98e56b6a lk_6e2a4471 lk_e8fc0f0c lk_cf66e99d lk_e36d835c) rfl hvX1_hasPilot ⟨rfl, rfl⟩ ⟨Nat.le_of_ble_eq_true rfl, Nat.le_of_ble_eq_true rfl⟩ ⟨Nat.zero_le _, Nat.zero_le _⟩ rfl rfl (Nat.le_of_ble_eq_true rfl) 0 rfl vc1 rfl rfl rfl rfl (by decide) ?_
        refine sw_if_eq 83 90 G dX5_station_83 rfl hf (fun hf => ?_) (fun hf => ?_)
        · refine sw_iconst 90 G (0 : Int32) dX5_station_90 rfl ?_
          cases hf
          exact sw_iret 91 G dX5_station_91 K
        · refine sw_iconst 86 G (1 : Int32) dX5_station_86 rfl ?_
          refine sw_goto 87 G 91 dX5_station_87 rfl ?_
          cases hf
          exact sw_iret 91 G dX5_station_91 K
      · refine ⟨74, 92, rfl, rfl, ?_⟩
        have hf := tc_3 hf
        refine sw_aload_n 92 G dX5_station_92 0 rfl ?_
        refine sw_get 93 G hnX5 0 0 dX5_station_93 vc5 (by decide) (List.mem_cons_of_mem _ lk_c6576e33) rfl rfl ?_
        refine sw_get 96 G hnX4 1 1 dX5_station_96 vc4 (by decide) (List.mem_cons_of_mem _ lk_3ac9de3e) rfl rfl ?_
        refine sw_iload_n 99 G dX5_station_99 1 rfl ?_
        obtain ⟨r5, hg, hf⟩ := bd1_some hf
        refine sw_callV 100 G ([(x0, .inr (5, [.ref n0, .ref v0, .int x_oldestSaved, .int x_savedStates, .ref t0, .ref l0, .ref c0]))] ++ [(n0, .inr (4, [.ref d0, .ref p0]))] ++ wX1 Θ d0 d1 d2 d3 d_columns d_rows d_carrier d_partMarks d_linkMarks d_operations d_pilots d_settings d_facts d_cells ++ wX3 Θ p0 p1 p2 p3 p_pitches p_spoiled p_cells p_bends p_offsets p_strokes p_goodParts p_badParts p_slugs) [6, 7, 8, 9] [0, 1, 2, 3, 4, 5] [0, 1, 2, 3, 4, 5, 6, 7, 8, 9] 1 dX5_station_100 (kX3_hasPitch Θ p0 p1 p2 p3 p_pitches p_spoiled p_cells p_bends p_offsets p_strokes p_goodParts p_badParts p_slugs a0 r5 hg) (gwV lk_a6808fa9 lk_fd3c2946 lk_50272c2a lk_106b7259 lk_6e102d63) rfl hvX3_hasPitch ⟨rfl, rfl⟩ ⟨Nat.le_of_ble_eq_true rfl, Nat.le_of_ble_eq_true rfl⟩ ⟨Nat.zero_le _, Nat.zero_le _⟩ rfl rfl (Nat.le_of_ble_eq_true rfl) 0 rfl vc3 rfl rfl rfl rfl (by decide) ?_
        refine sw_if_eq 103 110 G dX5_station_103 rfl hf (fun hf => ?_) (fun hf => ?_)
        · refine sw_iconst 110 G (0 : Int32) dX5_station_110 rfl ?_
          cases hf
          exact sw_iret 111 G dX5_station_111 K
        · refine sw_iconst 106 G (1 : Int32) dX5_station_106 rfl ?_
          refine sw_goto 107 G 111 dX5_station_107 rfl ?_
          cases hf
          exact sw_iret 111 G dX5_station_111 K
  · cases hf
abbrev rmX5_pitch : Room := { frames := 2, cells := 0, slots := 0, locals := 43 }
theorem hvX5_pitch : yX5_pitch.cls = RX5 ∧ yX5_pitch.cls ≠ "java/lang/invoke/MethodHandle" ∧ yX5_pitch.cls ≠ "java/lang/invoke/VarHandle" ∧ (parseMethodDescriptor yX5_pitch.desc).map (fun d => d.parameters.length) = some 2 := by decide +kernel
set_option maxRecDepth 100000 in
set_option maxHeartbeats 4000000 in
theorem kX5_pitch (Θ : Tht) (x0 n0 p0 p1 p2 p3 v0 t0 l0 c0 d0 : Nat) (x_oldestSaved : Int32) (x_savedStates : Int32) (p_pitches : Int32) (p_spoiled : Int32) (p_cells : Nat → Int64) (p_bends : Nat → Int32) (p_offsets : Nat → Int32) (p_strokes : Int32) (p_goodParts : Int32) (p_badParts : Int32) (p_slugs : Int32) (a0 : Int32) (a1 : Int32) (ro : Int32) (hf : fX5_pitch p_pitches p_spoiled p_cells p_bends p_offsets a0 a1 = some ro) : Fn Θ yX5_pitch (Cond.code yX5_pitch cX5_pitch 3 (some .int) :: GW) rmX5_pitch [.ref x0, .int a0, .int a1] ([(x0, .inr (5, [.ref n0, .ref v0, .int x_oldestSaved, .int x_savedStates, .ref t0, .ref l0, .ref c0]))] ++ [(n0, .inr (4, [.ref d0, .ref p0]))] ++ wX3 Θ p0 p1 p2 p3 p_pitches p_spoiled p_cells p_bends p_offsets p_strokes p_goodParts p_badParts p_slugs) (some (.int ro)) ([(x0, .inr (5, [.ref n0, .ref v0, .int x_oldestSaved, .int x_savedStates, .ref t0, .ref l0, .ref c0]))] ++ [(n0, .inr (4, [.ref d0, .ref p0]))] ++ wX3 Θ p0 p1 p2 p3 p_pitches p_spoiled p_cells p_bends p_offsets p_strokes p_goodParts p_badParts p_slugs) := by
  delta fX5_pitch at hf
  refine Fn.of (by decide +kernel) rfl (Nat.le_of_ble_eq_true rfl) (fun p e s m args below meth c A Q G K => ?_)
  show sw Θ p e rmX5_pitch s m args below meth c A Q 3 0 0 0 [(0, .ref x0), (1, .int a0), (2, .int a1)] [] ([(x0, .inr (5, [.ref n0, .ref v0, .int x_oldestSaved, .int x_savedStates, .ref t0, .ref l0, .ref c0]))] ++ [(n0, .inr (4, [.ref d0, .ref p0]))] ++ wX3 Θ p0 p1 p2 p3 p_pitches p_spoiled p_cells p_bends p_offsets p_strokes p_goodParts p_badParts p_slugs)
  refine sw_iload_n 0 G dX5_pitch_0 1 rfl ?_
  obtain ⟨r1, hg, hf⟩ := bd1_some hf
  refine sw_callS 1 G ([(x0, .inr (5, [.ref n0, .ref v0, .int x_oldestSaved, .int x_savedStates, .ref t0, .ref l0, .ref c0]))] ++ [(n0, .inr (4, [.ref d0, .ref p0]))] ++ wX3 Θ p0 p1 p2 p3 p_pitches p_spoiled p_cells p_bends p_offsets p_strokes p_goodParts p_badParts p_slugs) [] [0, 1, 2, 3, 4, 5] [0, 1, 2, 3, 4, 5] 1 dX5_pitch_1 (kX5_isStation Θ a0 r1 hg) (gwS lk_e51f5f2c lk_69b39882 lk_01b5d93a lk_08337533) rfl hsX5_isStation ⟨rfl, rfl⟩ ⟨Nat.le_of_ble_eq_true rfl, Nat.le_of_ble_eq_true rfl⟩ ⟨Nat.zero_le _, Nat.zero_le _⟩ rfl rfl (Nat.le_of_ble_eq_true rfl) rfl rfl rfl (by decide) ?_
  refine sw_if_eq 4 16 G dX5_pitch_4 rfl hf (fun hf => ?_) (fun hf => ?_)
  · cases hf
  · refine sw_iload_n 7 G dX5_pitch_7 2 rfl ?_
    refine sw_if_lt 8 16 G dX5_pitch_8 rfl hf (fun hf => ?_) (fun hf => ?_)
    · cases hf
    · refine sw_iload_n 11 G dX5_pitch_11 2 rfl ?_
      refine sw_iconst 12 G (3 : Int32) dX5_pitch_12 rfl ?_
      refine sw_icmp_le 13 26 G dX5_pitch_13 rfl hf (fun hf => ?_) (fun hf => ?_)
      · refine sw_aload_n 26 G dX5_pitch_26 0 rfl ?_
        refine sw_get 27 G hnX5 0 0 dX5_pitch_27 vc5 (by decide) (List.mem_cons_of_mem _ lk_c6576e33) rfl rfl ?_
        refine sw_get 30 G hnX4 1 1 dX5_pitch_30 vc4 (by decide) (List.mem_cons_of_mem _ lk_3ac9de3e) rfl rfl ?_
        refine sw_iload_n 33 G dX5_pitch_33 1 rfl ?_
        obtain ⟨r2, hg, hf⟩ := bd1_some hf
        refine sw_callV 34 G ([(x0, .inr (5, [.ref n0, .ref v0, .int x_oldestSaved, .int x_savedStates, .ref t0, .ref l0, .ref c0]))] ++ [(n0, .inr (4, [.ref d0, .ref p0]))] ++ wX3 Θ p0 p1 p2 p3 p_pitches p_spoiled p_cells p_bends p_offsets p_strokes p_goodParts p_badParts p_slugs) [2, 3, 4, 5] [0, 1] [0, 1, 2, 3, 4, 5] 1 dX5_pitch_34 (kX3_hasPitch Θ p0 p1 p2 p3 p_pitches p_spoiled p_cells p_bends p_offsets p_strokes p_goodParts p_badParts p_slugs a0 r2 hg) (gwV lk_a6808fa9 lk_fd3c2946 lk_50272c2a lk_106b7259 lk_6e102d63) rfl hvX3_hasPitch ⟨rfl, rfl⟩ ⟨Nat.le_of_ble_eq_true rfl, Nat.le_of_ble_eq_true rfl⟩ ⟨Nat.zero_le _, Nat.zero_le _⟩ rfl rfl (Nat.le_of_ble_eq_true rfl) 0 rfl vc3 rfl rfl rfl rfl (by decide) ?_
        refine sw_if_eq 37 55 G dX5_pitch_37 rfl hf (fun hf => ?_) (fun hf => ?_)
        · refine sw_iconst 55 G (-1 : Int32) dX5_pitch_55 rfl ?_
          cases hf
          exact sw_iret 56 G dX5_pitch_56 K
        · refine sw_aload_n 40 G dX5_pitch_40 0 rfl ?_
          refine sw_get 41 G hnX5 0 0 dX5_pitch_41 vc5 (by decide) (List.mem_cons_of_mem _ lk_c6576e33) rfl rfl ?_
          refine sw_get 44 G hnX4 1 1 dX5_pitch_44 vc4 (by decide) (List.mem_cons_of_mem _ lk_3ac9de3e) rfl rfl ?_
          refine sw_iload_n 47 G dX5_pitch_47 1 rfl ?_
          refine sw_iload_n 48 G dX5_pitch_48 2 rfl ?_
          obtain ⟨r3, hg, hf⟩ := bd1_some hf
          refine sw_callV 49 G ([(x0, .inr (5, [.ref n0, .ref v0, .int x_oldestSaved, .int x_savedStates, .ref t0, .ref l0, .ref c0]))] ++ [(n0, .inr (4, [.ref d0, .ref p0]))] ++ wX3 Θ p0 p1 p2 p3 p_pitches p_spoiled p_cells p_bends p_offsets p_strokes p_goodParts p_badParts p_slugs) [2, 3, 4, 5] [0, 1] [0, 1, 2, 3, 4, 5] 2 dX5_pitch_49 (kX3_valueOf Θ p0 p1 p2 p3 p_pitches p_spoiled p_cells p_bends p_offsets p_strokes p_goodParts p_badParts p_slugs a0 a1 r3 hg) (gwV lk_94aace7d lk_a0ac316f lk_77840524 lk_106b7259 lk_245db28e) rfl hvX3_valueOf ⟨rfl, rfl⟩ ⟨Nat.le_of_ble_eq_true rfl, Nat.le_of_ble_eq_true rfl⟩ ⟨Nat.zero_le _, Nat.zero_le _⟩ rfl rfl (Nat.le_of_ble_eq_true rfl) 0 rfl vc3 rfl rfl rfl rfl (by decide) ?_
          refine sw_goto 52 G 56 dX5_pitch_52 rfl ?_
          cases hf
          exact sw_iret 56 G dX5_pitch_56 K
      · cases hf
abbrev rmX5_left : Room := { frames := 2, cells := 0, slots := 0, locals := 42 }
theorem hvX5_left : yX5_left.cls = RX5 ∧ yX5_left.cls ≠ "java/lang/invoke/MethodHandle" ∧ yX5_left.cls ≠ "java/lang/invoke/VarHandle" ∧ (parseMethodDescriptor yX5_left.desc).map (fun d => d.parameters.length) = some 1 := by decide +kernel
set_option maxRecDepth 100000 in
set_option maxHeartbeats 4000000 in
theorem kX5_left (Θ : Tht) (x0 n0 p0 p1 p2 p3 v0 t0 l0 c0 d0 : Nat) (x_oldestSaved : Int32) (x_savedStates : Int32) (p_pitches : Int32) (p_spoiled : Int32) (p_cells : Nat → Int64) (p_bends : Nat → Int32) (p_offsets : Nat → Int32) (p_strokes : Int32) (p_goodParts : Int32) (p_badParts : Int32) (p_slugs : Int32) (a0 : Int32) (ro : Int64) (hf : fX5_left p_pitches p_cells a0 = some ro) : Fn Θ yX5_left (Cond.code yX5_left cX5_left 2 (some .long) :: GW) rmX5_left [.ref x0, .int a0] ([(x0, .inr (5, [.ref n0, .ref v0, .int x_oldestSaved, .int x_savedStates, .ref t0, .ref l0, .ref c0]))] ++ [(n0, .inr (4, [.ref d0, .ref p0]))] ++ wX3 Θ p0 p1 p2 p3 p_pitches p_spoiled p_cells p_bends p_offsets p_strokes p_goodParts p_badParts p_slugs) (some (.long ro)) ([(x0, .inr (5, [.ref n0, .ref v0, .int x_oldestSaved, .int x_savedStates, .ref t0, .ref l0, .ref c0]))] ++ [(n0, .inr (4, [.ref d0, .ref p0]))] ++ wX3 Θ p0 p1 p2 p3 p_pitches p_spoiled p_cells p_bends p_offsets p_strokes p_goodParts p_badParts p_slugs) := by
  delta fX5_left at hf
  refine Fn.of (by decide +kernel) rfl (Nat.le_of_ble_eq_true rfl) (fun p e s m args below meth c A Q G K => ?_)
  show sw Θ p e rmX5_left s m args below meth c A Q 2 0 0 0 [(0, .ref x0), (1, .int a0)] [] ([(x0, .inr (5, [.ref n0, .ref v0, .int x_oldestSaved, .int x_savedStates, .ref t0, .ref l0, .ref c0]))] ++ [(n0, .inr (4, [.ref d0, .ref p0]))] ++ wX3 Θ p0 p1 p2 p3 p_pitches p_spoiled p_cells p_bends p_offsets p_strokes p_goodParts p_badParts p_slugs)
  refine sw_iload_n 0 G dX5_left_0 1 rfl ?_
  obtain ⟨r1, hg, hf⟩ := bd1_some hf
  refine sw_callS 1 G ([(x0, .inr (5, [.ref n0, .ref v0, .int x_oldestSaved, .int x_savedStates, .ref t0, .ref l0, .ref c0]))] ++ [(n0, .inr (4, [.ref d0, .ref p0]))] ++ wX3 Θ p0 p1 p2 p3 p_pitches p_spoiled p_cells p_bends p_offsets p_strokes p_goodParts p_badParts p_slugs) [] [0, 1, 2, 3, 4, 5] [0, 1, 2, 3, 4, 5] 1 dX5_left_1 (kX5_isStation Θ a0 r1 hg) (gwS lk_e51f5f2c lk_69b39882 lk_01b5d93a lk_08337533) rfl hsX5_isStation ⟨rfl, rfl⟩ ⟨Nat.le_of_ble_eq_true rfl, Nat.le_of_ble_eq_true rfl⟩ ⟨Nat.zero_le _, Nat.zero_le _⟩ rfl rfl (Nat.le_of_ble_eq_true rfl) rfl rfl rfl (by decide) ?_
  refine sw_if_ne 4 17 G dX5_left_4 rfl hf (fun hf => ?_) (fun hf => ?_)
  · refine sw_aload_n 17 G dX5_left_17 0 rfl ?_
    refine sw_get 18 G hnX5 0 0 dX5_left_18 vc5 (by decide) (List.mem_cons_of_mem _ lk_c6576e33) rfl rfl ?_
    refine sw_get 21 G hnX4 1 1 dX5_left_21 vc4 (by decide) (List.mem_cons_of_mem _ lk_3ac9de3e) rfl rfl ?_
    refine sw_iload_n 24 G dX5_left_24 1 rfl ?_
    obtain ⟨r2, hg, hf⟩ := bd1_some hf
    refine sw_callV 25 G ([(x0, .inr (5, [.ref n0, .ref v0, .int x_oldestSaved, .int x_savedStates, .ref t0, .ref l0, .ref c0]))] ++ [(n0, .inr (4, [.ref d0, .ref p0]))] ++ wX3 Θ p0 p1 p2 p3 p_pitches p_spoiled p_cells p_bends p_offsets p_strokes p_goodParts p_badParts p_slugs) [2, 3, 4, 5] [0, 1] [0, 1, 2, 3, 4, 5] 1 dX5_left_25 (kX3_hasPitch Θ p0 p1 p2 p3 p_pitches p_spoiled p_cells p_bends p_offsets p_strokes p_goodParts p_badParts p_slugs a0 r2 hg) (gwV lk_a6808fa9 lk_fd3c2946 lk_50272c2a lk_106b7259 lk_6e102d63) rfl hvX3_hasPitch ⟨rfl, rfl⟩ ⟨Nat.le_of_ble_eq_true rfl, Nat.le_of_ble_eq_true rfl⟩ ⟨Nat.zero_le _, Nat.zero_le _⟩ rfl rfl (Nat.le_of_ble_eq_true rfl) 0 rfl vc3 rfl rfl rfl rfl (by decide) ?_
    refine sw_if_eq 28 45 G dX5_left_28 rfl hf (fun hf => ?_) (fun hf => ?_)
    · refine sw_lconst 45 G (0 : Int64) dX5_left_45 rfl ?_
      cases hf
      exact sw_lret 46 G dX5_left_46 K
    · refine sw_aload_n 31 G dX5_left_31 0 rfl ?_
      refine sw_get 32 G hnX5 0 0 dX5_left_32 vc5 (by decide) (List.mem_cons_of_mem _ lk_c6576e33) rfl rfl ?_
      refine sw_get 35 G hnX4 1 1 dX5_left_35 vc4 (by decide) (List.mem_cons_of_mem _ lk_3ac9de3e) rfl rfl ?_
      refine sw_iload_n 38 G dX5_left_38 1 rfl ?_
      obtain ⟨r3, hg, hf⟩ := bd1_some hf
      refine sw_callV 39 G ([(x0, .inr (5, [.ref n0, .ref v0, .int x_oldestSaved, .int x_savedStates, .ref t0, .ref l0, .ref c0]))] ++ [(n0, .inr (4, [.ref d0, .ref p0]))] ++ wX3 Θ p0 p1 p2 p3 p_pitches p_spoiled p_cells p_bends p_offsets p_strokes p_goodParts p_badParts p_slugs) [2, 3, 4, 5] [0, 1] [0, 1, 2, 3, 4, 5] 1 dX5_left_39 (kX3_cellsAt Θ p0 p1 p2 p3 p_pitches p_spoiled p_cells p_bends p_offsets p_strokes p_goodParts p_badParts p_slugs a0 r3 hg) (gwV lk_b2736ece lk_efd6e65a lk_d5dc047d lk_106b7259 lk_cecdbcae) rfl hvX3_cellsAt ⟨rfl, rfl⟩ ⟨Nat.le_of_ble_eq_true rfl, Nat.le_of_ble_eq_true rfl⟩ ⟨Nat.zero_le _, Nat.zero_le _⟩ rfl rfl (Nat.le_of_ble_eq_true rfl) 0 rfl vc3 rfl rfl rfl rfl (by decide) ?_
      refine sw_goto 42 G 46 dX5_left_42 rfl ?_
      cases hf
      exact sw_lret 46 G dX5_left_46 K
  · cases hf
abbrev rmX5_whole : Room := { frames := 3, cells := 0, slots := 0, locals := 66 }
theorem hvX5_whole : yX5_whole.cls = RX5 ∧ yX5_whole.cls ≠ "java/lang/invoke/MethodHandle" ∧ yX5_whole.cls ≠ "java/lang/invoke/VarHandle" ∧ (parseMethodDescriptor yX5_whole.desc).map (fun d => d.parameters.length) = some 1 := by decide +kernel
set_option maxRecDepth 100000 in
set_option maxHeartbeats 4000000 in
theorem kX5_whole (Θ : Tht) (F : Nat) (x0 n0 d0 d1 d2 d3 p0 p1 p2 p3 c0 c1 c2 v0 t0 l0 : Nat) (x_oldestSaved : Int32) (x_savedStates : Int32) (d_columns : Int32) (d_rows : Int32) (d_carrier : Int32) (d_partMarks : Int64) (d_linkMarks : Int64) (d_operations : Int32) (d_pilots : Int32) (d_settings : Nat → Int32) (d_facts : Nat → Int32) (d_cells : Nat → Int64) (p_pitches : Int32) (p_spoiled : Int32) (p_cells : Nat → Int64) (p_bends : Nat → Int32) (p_offsets : Nat → Int32) (p_strokes : Int32) (p_goodParts : Int32) (p_badParts : Int32) (p_slugs : Int32) (c_bytes : Nat → Int32) (c_numbers : Nat → Int32) (c_length : Int32) (c_at : Int32) (c_word : Int32) (a0 : Int32) (ro : Int32) (hf : fX5_whole F d_columns d_rows d_carrier d_operations d_pilots d_settings d_facts p_pitches p_strokes p_goodParts p_badParts p_slugs c_length a0 = some ro) : Fn Θ yX5_whole (Cond.code yX5_whole cX5_whole 2 (some .int) :: GW) rmX5_whole [.ref x0, .int a0] ([(x0, .inr (5, [.ref n0, .ref v0, .int x_oldestSaved, .int x_savedStates, .ref t0, .ref l0, .ref c0]))] ++ [(n0, .inr (4, [.ref d0, .ref p0]))] ++ wX1 Θ d0 d1 d2 d3 d_columns d_rows d_carrier d_partMarks d_linkMarks d_operations d_pilots d_settings d_facts d_cells ++ wX3 Θ p0 p1 p2 p3 p_pitches p_spoiled p_cells p_bends p_offsets p_strokes p_goodParts p_badParts p_slugs ++ wX0 Θ c0 c1 c2 c_bytes c_numbers c_length c_at c_word) (some (.int ro)) ([(x0, .inr (5, [.ref n0, .ref v0, .int x_oldestSaved, .int x_savedStates, .ref t0, .ref l0, .ref c0]))] ++ [(n0, .inr (4, [.ref d0, .ref p0]))] ++ wX1 Θ d0 d1 d2 d3 d_columns d_rows d_carrier d_partMarks d_linkMarks d_operations d_pilots d_settings d_facts d_cells ++ wX3 Θ p0 p1 p2 p3 p_pitches p_spoiled p_cells p_bends p_offsets p_strokes p_goodParts p_badParts p_slugs ++ wX0 Θ c0 c1 c2 c_bytes c_numbers c_length c_at c_word) := by
  delta fX5_whole at hf
  refine Fn.of (by decide +kernel) rfl (Nat.le_of_ble_eq_true rfl) (fun p e s m args below meth c A Q G K => ?_)
  show sw Θ p e rmX5_whole s m args below meth c A Q 2 0 0 0 [(0, .ref x0), (1, .int a0)] [] ([(x0, .inr (5, [.ref n0, .ref v0, .int x_oldestSaved, .int x_savedStates, .ref t0, .ref l0, .ref c0]))] ++ [(n0, .inr (4, [.ref d0, .ref p0]))] ++ wX1 Θ d0 d1 d2 d3 d_columns d_rows d_carrier d_partMarks d_linkMarks d_operations d_pilots d_settings d_facts d_cells ++ wX3 Θ p0 p1 p2 p3 p_pitches p_spoiled p_cells p_bends p_offsets p_strokes p_goodParts p_badParts p_slugs ++ wX0 Θ c0 c1 c2 c_bytes c_numbers c_length c_at c_word)
  refine sw_iload_n 0 G dX5_whole_0 1 rfl ?_
  refine sw_if_lt 1 10 G dX5_whole_1 rfl hf (fun hf => ?_) (fun hf => ?_)
  · cases hf
  · refine sw_iload_n 4 G dX5_whole_4 1 rfl ?_
    refine sw_bipush 5 G (16 : Int32) dX5_whole_5 rfl ?_
    refine sw_icmp_le 7 20 G dX5_whole_7 rfl hf (fun hf => ?_) (fun hf => ?_)
    · refine sw_iload_n 20 G dX5_whole_20 1 rfl ?_
      refine sw_bipush 21 G (10 : Int32) dX5_whole_21 rfl ?_
      refine sw_icmp_ge 23 38 G dX5_whole_23 rfl hf (fun hf => ?_) (fun hf => ?_)
      · refine sw_iload_n 38 G dX5_whole_38 1 rfl ?_
        refine sw_bipush 39 G (15 : Int32) dX5_whole_39 rfl ?_
        refine sw_icmp_ne 41 58 G dX5_whole_41 rfl hf (fun hf => ?_) (fun hf => ?_)
        · refine sw_iload_n 58 G dX5_whole_58 1 rfl ?_
          refine sw_bipush 59 G (16 : Int32) dX5_whole_59 rfl ?_
          refine sw_icmp_ne 61 74 G dX5_whole_61 rfl hf (fun hf => ?_) (fun hf => ?_)
          · refine sw_aload_n 74 G dX5_whole_74 0 rfl ?_
            refine sw_get 75 G hnX5 0 0 dX5_whole_75 vc5 (by decide) (List.mem_cons_of_mem _ lk_c6576e33) rfl rfl ?_
            refine sw_get 78 G hnX4 1 1 dX5_whole_78 vc4 (by decide) (List.mem_cons_of_mem _ lk_3ac9de3e) rfl rfl ?_
            refine sw_iload_n 81 G dX5_whole_81 1 rfl ?_
            obtain ⟨r1, hg, hf⟩ := bd1_some hf
            refine sw_callV 82 G ([(x0, .inr (5, [.ref n0, .ref v0, .int x_oldestSaved, .int x_savedStates, .ref t0, .ref l0, .ref c0]))] ++ [(n0, .inr (4, [.ref d0, .ref p0]))] ++ wX1 Θ d0 d1 d2 d3 d_columns d_rows d_carrier d_partMarks d_linkMarks d_operations d_pilots d_settings d_facts d_cells ++ wX3 Θ p0 p1 p2 p3 p_pitches p_spoiled p_cells p_bends p_offsets p_strokes p_goodParts p_badParts p_slugs ++ wX0 Θ c0 c1 c2 c_bytes c_numbers c_length c_at c_word) [6, 7, 8, 9] [0, 1, 2, 3, 4, 5, 10, 11, 12] [0, 1, 2, 3, 4, 5, 9, 10, 11, 12, 6, 7, 8] 1 dX5_whole_82 (kX3_wholeValue Θ p0 p1 p2 p3 p_pitches p_spoiled p_cells p_bends p_offsets p_strokes p_goodParts p_badParts p_slugs a0 r1 hg) (gwV lk_c4eb7bcf lk_30e824c5 lk_90f33f44 lk_106b7259 lk_5baeb57b) rfl hvX3_wholeValue ⟨rfl, rfl⟩ ⟨Nat.le_of_ble_eq_true rfl, Nat.le_of_ble_eq_true rfl⟩ ⟨Nat.zero_le _, Nat.zero_le _⟩ rfl rfl (Nat.le_of_ble_eq_true rfl) 0 rfl vc3 rfl rfl rfl rfl (by decide) ?_
            cases hf
            exact sw_iret 85 G dX5_whole_85 K
          · refine sw_aload_n 64 G dX5_whole_64 0 rfl ?_
            refine sw_get 65 G hnX5 0 6 dX5_whole_65 vc5 (by decide) (List.mem_cons_of_mem _ lk_0b6ebd02) rfl rfl ?_
            refine sw_get 68 G hnX0 10 2 dX5_whole_68 vc0 (by decide) (List.mem_cons_of_mem _ lk_daf6e5e6) rfl rfl ?_
            refine sw_goto 71 G 85 dX5_whole_71 rfl ?_
            cases hf
            exact sw_iret 85 G dX5_whole_85 K
        · refine sw_aload_n 44 G dX5_whole_44 0 rfl ?_
          refine sw_get 45 G hnX5 0 0 dX5_whole_45 vc5 (by decide) (List.mem_cons_of_mem _ lk_c6576e33) rfl rfl ?_
          refine sw_get 48 G hnX4 1 0 dX5_whole_48 vc4 (by decide) (List.mem_cons_of_mem _ lk_b490f9e6) rfl rfl ?_
          refine sw_get 51 G hnX1 2 6 dX5_whole_51 vc1 (by decide) (List.mem_cons_of_mem _ lk_4a34e39d) rfl rfl ?_
          obtain ⟨r2, hg, hf⟩ := bd1_some hf
          refine sw_callS 54 G ([(x0, .inr (5, [.ref n0, .ref v0, .int x_oldestSaved, .int x_savedStates, .ref t0, .ref l0, .ref c0]))] ++ [(n0, .inr (4, [.ref d0, .ref p0]))] ++ wX1 Θ d0 d1 d2 d3 d_columns d_rows d_carrier d_partMarks d_linkMarks d_operations d_pilots d_settings d_facts d_cells ++ wX3 Θ p0 p1 p2 p3 p_pitches p_spoiled p_cells p_bends p_offsets p_strokes p_goodParts p_badParts p_slugs ++ wX0 Θ c0 c1 c2 c_bytes c_numbers c_length c_at c_word) [] [0, 1, 2, 3, 4, 5, 6, 7, 8, 9, 10, 11, 12] [0, 1, 2, 3, 4, 5, 6, 7, 8, 9, 10, 11, 12] 1 dX5_whole_54 (kJ6_bitCount_0f7a4 Θ d_pilots r2 hg) (gwS lk_fe1a3ea6 lk_d625a12f lk_2df2c76b lk_723f897f) rfl hsJ6_bitCount_0f7a4 ⟨rfl, rfl⟩ ⟨Nat.le_of_ble_eq_true rfl, Nat.le_of_ble_eq_true rfl⟩ ⟨Nat.zero_le _, Nat.zero_le _⟩ rfl rfl (Nat.le_of_ble_eq_true rfl) rfl rfl rfl (by decide) ?_
          cases hf
          exact sw_iret 57 G dX5_whole_57 K
      · refine sw_aload_n 26 G dX5_whole_26 0 rfl ?_
        refine sw_get 27 G hnX5 0 0 dX5_whole_27 vc5 (by decide) (List.mem_cons_of_mem _ lk_c6576e33) rfl rfl ?_
        refine sw_get 30 G hnX4 1 0 dX5_whole_30 vc4 (by decide) (List.mem_cons_of_mem _ lk_b490f9e6) rfl rfl ?_
        refine sw_iload_n 33 G dX5_whole_33 1 rfl ?_
        obtain ⟨r3, hg, hf⟩ := bd1_some hf
        refine sw_callV 34 G ([(x0, .inr (5, [.ref n0, .ref v0, .int x_oldestSaved, .int x_savedStates, .ref t0, .ref l0, .ref c0]))] ++ [(n0, .inr (4, [.ref d0, .ref p0]))] ++ wX1 Θ d0 d1 d2 d3 d_columns d_rows d_carrier d_partMarks d_linkMarks d_operations d_pilots d_settings d_facts d_cells ++ wX3 Θ p0 p1 p2 p3 p_pitches p_spoiled p_cells p_bends p_offsets p_strokes p_goodParts p_badParts p_slugs ++ wX0 Θ c0 c1 c2 c_bytes c_numbers c_length c_at c_word) [2, 3, 4, 5] [0, 1, 6, 7, 8, 9, 10, 11, 12] [0, 1, 9, 10, 11, 12, 2, 3, 4, 5, 6, 7, 8] 1 dX5_whole_34 (kX1_wholeValue Θ F d0 d1 d2 d3 d_columns d_rows d_carrier d_partMarks d_linkMarks d_operations d_pilots d_settings d_facts d_cells a0 r3 hg) (gwV lk_9cd43eef lk_7bf3da9c lk_b2d34458 lk_cf66e99d lk_61bb7644) rfl hvX1_wholeValue ⟨rfl, rfl⟩ ⟨Nat.le_of_ble_eq_true rfl, Nat.le_of_ble_eq_true rfl⟩ ⟨Nat.zero_le _, Nat.zero_le _⟩ rfl rfl (Nat.le_of_ble_eq_true rfl) 0 rfl vc1 rfl rfl rfl rfl (by decide) ?_
        cases hf
        exact sw_iret 37 G dX5_whole_37 K
    · cases hf
abbrev rmX5_planned : Room := { frames := 5, cells := 0, slots := 0, locals := 128 }
theorem hvX5_planned : yX5_planned.cls = RX5 ∧ yX5_planned.cls ≠ "java/lang/invoke/MethodHandle" ∧ yX5_planned.cls ≠ "java/lang/invoke/VarHandle" ∧ (parseMethodDescriptor yX5_planned.desc).map (fun d => d.parameters.length) = some 1 := by decide +kernel
set_option maxRecDepth 100000 in
set_option maxHeartbeats 4000000 in
theorem kX5_planned (Θ : Tht) (F : Nat) (x0 n0 d0 d1 d2 d3 l0 l1 l2 l3 v0 t0 c0 p0 : Nat) (x_oldestSaved : Int32) (x_savedStates : Int32) (d_columns : Int32) (d_rows : Int32) (d_carrier : Int32) (d_partMarks : Int64) (d_linkMarks : Int64) (d_operations : Int32) (d_pilots : Int32) (d_settings : Nat → Int32) (d_facts : Nat → Int32) (d_cells : Nat → Int64) (l_operations : Int32) (l_limit : Int32) (l_gap : Int32) (l_bends : Int32) (l_greatestForce : Int32) (l_chosen : Nat → Int32) (l_touching : Nat → Int32) (l_forces : Nat → Int32) (a0 : Int32) (ro : Int32) (o_l_operations : Int32) (o_l_limit : Int32) (o_l_gap : Int32) (o_l_bends : Int32) (o_l_greatestForce : Int32) (o_l_chosen : Nat → Int32) (o_l_touching : Nat → Int32) (o_l_forces : Nat → Int32) (hf : fX5_planned F d_columns d_rows d_operations d_settings d_facts d_cells l_chosen l_touching l_forces a0 = some (ro, o_l_operations, o_l_limit, o_l_gap, o_l_bends, o_l_greatestForce, o_l_chosen, o_l_touching, o_l_forces)) : Fn Θ yX5_planned (Cond.code yX5_planned cX5_planned 3 (some .int) :: GW) rmX5_planned [.ref x0, .int a0] ([(x0, .inr (5, [.ref n0, .ref v0, .int x_oldestSaved, .int x_savedStates, .ref t0, .ref l0, .ref c0]))] ++ [(n0, .inr (4, [.ref d0, .ref p0]))] ++ wX1 Θ d0 d1 d2 d3 d_columns d_rows d_carrier d_partMarks d_linkMarks d_operations d_pilots d_settings d_facts d_cells ++ wX2 Θ l0 l1 l2 l3 l_operations l_limit l_gap l_bends l_greatestForce l_chosen l_touching l_forces) (some (.int ro)) ([(x0, .inr (5, [.ref n0, .ref v0, .int x_oldestSaved, .int x_savedStates, .ref t0, .ref l0, .ref c0]))] ++ [(n0, .inr (4, [.ref d0, .ref p0]))] ++ wX1 Θ d0 d1 d2 d3 d_columns d_rows d_carrier d_partMarks d_linkMarks d_operations d_pilots d_settings d_facts d_cells ++ wX2 Θ l0 l1 l2 l3 o_l_operations o_l_limit o_l_gap o_l_bends o_l_greatestForce o_l_chosen o_l_touching o_l_forces) := by
  delta fX5_planned at hf
  refine Fn.of (by decide +kernel) rfl (Nat.le_of_ble_eq_true rfl) (fun p e s m args below meth c A Q G K => ?_)
  show sw Θ p e rmX5_planned s m args below meth c A Q 3 0 0 0 [(0, .ref x0), (1, .int a0)] [] ([(x0, .inr (5, [.ref n0, .ref v0, .int x_oldestSaved, .int x_savedStates, .ref t0, .ref l0, .ref c0]))] ++ [(n0, .inr (4, [.ref d0, .ref p0]))] ++ wX1 Θ d0 d1 d2 d3 d_columns d_rows d_carrier d_partMarks d_linkMarks d_operations d_pilots d_settings d_facts d_cells ++ wX2 Θ l0 l1 l2 l3 l_operations l_limit l_gap l_bends l_greatestForce l_chosen l_touching l_forces)
  refine sw_iload_n 0 G dX5_planned_0 1 rfl ?_
  refine sw_iconst 1 G (-1 : Int32) dX5_planned_1 rfl ?_
  refine sw_icmp_eq 2 29 G dX5_planned_2 rfl hf (fun hf => ?_) (fun hf => ?_)
  · refine sw_aload_n 29 G dX5_planned_29 0 rfl ?_
    refine sw_get 30 G hnX5 0 5 dX5_planned_30 vc5 (by decide) (List.mem_cons_of_mem _ lk_a45d4547) rfl rfl ?_
    refine sw_aload_n 33 G dX5_planned_33 0 rfl ?_
    refine sw_get 34 G hnX5 0 0 dX5_planned_34 vc5 (by decide) (List.mem_cons_of_mem _ lk_c6576e33) rfl rfl ?_
    refine sw_get 37 G hnX4 1 0 dX5_planned_37 vc4 (by decide) (List.mem_cons_of_mem _ lk_b490f9e6) rfl rfl ?_
    obtain ⟨r1, u2, u3, u4, u5, u6, u7, u8, u9, hg, hf⟩ := bd9_some hf
    refine sw_callV 40 G ([(x0, .inr (5, [.ref n0, .ref v0, .int x_oldestSaved, .int x_savedStates, .ref t0, .ref l0, .ref c0]))] ++ [(n0, .inr (4, [.ref d0, .ref p0]))] ++ wX1 Θ d0 d1 d2 d3 d_columns d_rows d_carrier d_partMarks d_linkMarks d_operations d_pilots d_settings d_facts d_cells ++ wX2 Θ l0 l1 l2 l3 u2 u3 u4 u5 u6 u7 u8 u9) [6, 7, 8, 9, 2, 3, 4, 5] [0, 1] [0, 1, 6, 7, 8, 9, 2, 3, 4, 5] 1 dX5_planned_40 (kX2_findBest Θ F l0 l1 l2 l3 d0 d1 d2 d3 l_operations l_limit l_gap l_bends l_greatestForce l_chosen l_touching l_forces d_columns d_rows d_carrier d_partMarks d_linkMarks d_operations d_pilots d_settings d_facts d_cells r1 u2 u3 u4 u5 u6 u7 u8 u9 hg) (gwV lk_86176403 lk_2e86f8d8 lk_ce5cd719 lk_d27e9d3e lk_1f104a63) rfl hvX2_findBest ⟨rfl, rfl⟩ ⟨Nat.le_of_ble_eq_true rfl, Nat.le_of_ble_eq_true rfl⟩ ⟨Nat.zero_le _, Nat.zero_le _⟩ rfl rfl (Nat.le_of_ble_eq_true rfl) 0 rfl vc2 rfl rfl rfl rfl (by decide) ?_
    refine sw_istore_n 43 G [(2, .int r1), (0, .ref x0), (1, .int a0)] dX5_planned_43 (by decide) rfl ?_
    refine sw_iload_n 44 G dX5_planned_44 0 rfl ?_
    refine sw_iconst 45 G (-1 : Int32) dX5_planned_45 rfl ?_
    refine sw_icmp_eq 46 54 G dX5_planned_46 rfl hf (fun hf => ?_) (fun hf => ?_)
    · refine sw_iload_n 54 G dX5_planned_54 0 rfl ?_
      cases hf
      exact sw_iret 55 G dX5_planned_55 K
    · refine sw_iload_n 49 G dX5_planned_49 2 rfl ?_
      refine sw_iconst 50 G (-1 : Int32) dX5_planned_50 rfl ?_
      refine sw_icmp_ne 51 56 G dX5_planned_51 rfl hf (fun hf => ?_) (fun hf => ?_)
      · refine sw_aload_n 56 G dX5_planned_56 1 rfl ?_
        refine sw_get 57 G hnX5 0 5 dX5_planned_57 vc5 (by decide) (List.mem_cons_of_mem _ lk_a45d4547) rfl rfl ?_
        refine sw_iload_n 60 G dX5_planned_60 2 rfl ?_
        obtain ⟨r10, hg, hf⟩ := bd1_some hf
        refine sw_callV 61 G ([(x0, .inr (5, [.ref n0, .ref v0, .int x_oldestSaved, .int x_savedStates, .ref t0, .ref l0, .ref c0]))] ++ [(n0, .inr (4, [.ref d0, .ref p0]))] ++ wX1 Θ d0 d1 d2 d3 d_columns d_rows d_carrier d_partMarks d_linkMarks d_operations d_pilots d_settings d_facts d_cells ++ wX2 Θ l0 l1 l2 l3 u2 u3 u4 u5 u6 u7 u8 u9) [6, 7, 8, 9] [0, 1, 2, 3, 4, 5] [0, 1, 2, 3, 4, 5, 6, 7, 8, 9] 1 dX5_planned_61 (kX2_chosenFor Θ l0 l1 l2 l3 u2 u3 u4 u5 u6 u7 u8 u9 a0 r10 hg) (gwV lk_8b18a6a1 lk_9c20c1cc lk_2820cf9c lk_d27e9d3e lk_b042b34b) rfl hvX2_chosenFor ⟨rfl, rfl⟩ ⟨Nat.le_of_ble_eq_true rfl, Nat.le_of_ble_eq_true rfl⟩ ⟨Nat.zero_le _, Nat.zero_le _⟩ rfl rfl (Nat.le_of_ble_eq_true rfl) 0 rfl vc2 rfl rfl rfl rfl (by decide) ?_
        cases hf
        exact sw_iret 64 G dX5_planned_64 K
      · refine sw_iload_n 54 G dX5_planned_54 0 rfl ?_
        cases hf
        exact sw_iret 55 G dX5_planned_55 K
  · refine sw_aload_n 5 G dX5_planned_5 0 rfl ?_
    refine sw_get 6 G hnX5 0 0 dX5_planned_6 vc5 (by decide) (List.mem_cons_of_mem _ lk_c6576e33) rfl rfl ?_
    refine sw_get 9 G hnX4 1 0 dX5_planned_9 vc4 (by decide) (List.mem_cons_of_mem _ lk_b490f9e6) rfl rfl ?_
    refine sw_iload_n 12 G dX5_planned_12 1 rfl ?_
    obtain ⟨r11, hg, hf⟩ := bd1_some hf
    refine sw_callV 13 G ([(x0, .inr (5, [.ref n0, .ref v0, .int x_oldestSaved, .int x_savedStates, .ref t0, .ref l0, .ref c0]))] ++ [(n0, .inr (4, [.ref d0, .ref p0]))] ++ wX1 Θ d0 d1 d2 d3 d_columns d_rows d_carrier d_partMarks d_linkMarks d_operations d_pilots d_settings d_facts d_cells ++ wX2 Θ l0 l1 l2 l3 l_operations l_limit l_gap l_bends l_greatestForce l_chosen l_touching l_forces) [2, 3, 4, 5] [0, 1, 6, 7, 8, 9] [0, 1, 6, 7, 8, 9, 2, 3, 4, 5] 1 dX5_planned_13 (kX1_hasOperation Θ d0 d1 d2 d3 d_columns d_rows d_carrier d_partMarks d_linkMarks d_operations d_pilots d_settings d_facts d_cells a0 r11 hg) (gwV lk_02fe585c lk_bab4024f lk_df64b95a lk_cf66e99d lk_740542d2) rfl hvX1_hasOperation ⟨rfl, rfl⟩ ⟨Nat.le_of_ble_eq_true rfl, Nat.le_of_ble_eq_true rfl⟩ ⟨Nat.zero_le _, Nat.zero_le _⟩ rfl rfl (Nat.le_of_ble_eq_true rfl) 0 rfl vc1 rfl rfl rfl rfl (by decide) ?_
    refine sw_if_ne 16 29 G dX5_planned_16 rfl hf (fun hf => ?_) (fun hf => ?_)
    · refine sw_aload_n 29 G dX5_planned_29 0 rfl ?_
      refine sw_get 30 G hnX5 0 5 dX5_planned_30 vc5 (by decide) (List.mem_cons_of_mem _ lk_a45d4547) rfl rfl ?_
      refine sw_aload_n 33 G dX5_planned_33 0 rfl ?_
      refine sw_get 34 G hnX5 0 0 dX5_planned_34 vc5 (by decide) (List.mem_cons_of_mem _ lk_c6576e33) rfl rfl ?_
      refine sw_get 37 G hnX4 1 0 dX5_planned_37 vc4 (by decide) (List.mem_cons_of_mem _ lk_b490f9e6) rfl rfl ?_
      obtain ⟨r12, u13, u14, u15, u16, u17, u18, u19, u20, hg, hf⟩ := bd9_some hf
      refine sw_callV 40 G ([(x0, .inr (5, [.ref n0, .ref v0, .int x_oldestSaved, .int x_savedStates, .ref t0, .ref l0, .ref c0]))] ++ [(n0, .inr (4, [.ref d0, .ref p0]))] ++ wX1 Θ d0 d1 d2 d3 d_columns d_rows d_carrier d_partMarks d_linkMarks d_operations d_pilots d_settings d_facts d_cells ++ wX2 Θ l0 l1 l2 l3 u13 u14 u15 u16 u17 u18 u19 u20) [6, 7, 8, 9, 2, 3, 4, 5] [0, 1] [0, 1, 6, 7, 8, 9, 2, 3, 4, 5] 1 dX5_planned_40 (kX2_findBest Θ F l0 l1 l2 l3 d0 d1 d2 d3 l_operations l_limit l_gap l_bends l_greatestForce l_chosen l_touching l_forces d_columns d_rows d_carrier d_partMarks d_linkMarks d_operations d_pilots d_settings d_facts d_cells r12 u13 u14 u15 u16 u17 u18 u19 u20 hg) (gwV lk_86176403 lk_2e86f8d8 lk_ce5cd719 lk_d27e9d3e lk_1f104a63) rfl hvX2_findBest ⟨rfl, rfl⟩ ⟨Nat.le_of_ble_eq_true rfl, Nat.le_of_ble_eq_true rfl⟩ ⟨Nat.zero_le _, Nat.zero_le _⟩ rfl rfl (Nat.le_of_ble_eq_true rfl) 0 rfl vc2 rfl rfl rfl rfl (by decide) ?_
      refine sw_istore_n 43 G [(2, .int r12), (0, .ref x0), (1, .int a0)] dX5_planned_43 (by decide) rfl ?_
      refine sw_iload_n 44 G dX5_planned_44 0 rfl ?_
      refine sw_iconst 45 G (-1 : Int32) dX5_planned_45 rfl ?_
      refine sw_icmp_eq 46 54 G dX5_planned_46 rfl hf (fun hf => ?_) (fun hf => ?_)
      · refine sw_iload_n 54 G dX5_planned_54 0 rfl ?_
        cases hf
        exact sw_iret 55 G dX5_planned_55 K
      · refine sw_iload_n 49 G dX5_planned_49 2 rfl ?_
        refine sw_iconst 50 G (-1 : Int32) dX5_planned_50 rfl ?_
        refine sw_icmp_ne 51 56 G dX5_planned_51 rfl hf (fun hf => ?_) (fun hf => ?_)
        · refine sw_aload_n 56 G dX5_planned_56 1 rfl ?_
          refine sw_get 57 G hnX5 0 5 dX5_planned_57 vc5 (by decide) (List.mem_cons_of_mem _ lk_a45d4547) rfl rfl ?_
          refine sw_iload_n 60 G dX5_planned_60 2 rfl ?_
          obtain ⟨r21, hg, hf⟩ := bd1_some hf
          refine sw_callV 61 G ([(x0, .inr (5, [.ref n0, .ref v0, .int x_oldestSaved, .int x_savedStates, .ref t0, .ref l0, .ref c0]))] ++ [(n0, .inr (4, [.ref d0, .ref p0]))] ++ wX1 Θ d0 d1 d2 d3 d_columns d_rows d_carrier d_partMarks d_linkMarks d_operations d_pilots d_settings d_facts d_cells ++ wX2 Θ l0 l1 l2 l3 u13 u14 u15 u16 u17 u18 u19 u20) [6, 7, 8, 9] [0, 1, 2, 3, 4, 5] [0, 1, 2, 3, 4, 5, 6, 7, 8, 9] 1 dX5_planned_61 (kX2_chosenFor Θ l0 l1 l2 l3 u13 u14 u15 u16 u17 u18 u19 u20 a0 r21 hg) (gwV lk_8b18a6a1 lk_9c20c1cc lk_2820cf9c lk_d27e9d3e lk_b042b34b) rfl hvX2_chosenFor ⟨rfl, rfl⟩ ⟨Nat.le_of_ble_eq_true rfl, Nat.le_of_ble_eq_true rfl⟩ ⟨Nat.zero_le _, Nat.zero_le _⟩ rfl rfl (Nat.le_of_ble_eq_true rfl) 0 rfl vc2 rfl rfl rfl rfl (by decide) ?_
          cases hf
          exact sw_iret 64 G dX5_planned_64 K
        · refine sw_iload_n 54 G dX5_planned_54 0 rfl ?_
          cases hf
          exact sw_iret 55 G dX5_planned_55 K
    · cases hf
abbrev rmX5_type : Room := { frames := 1, cells := 0, slots := 0, locals := 21 }
theorem hvX5_type : yX5_type.cls = RX5 ∧ yX5_type.cls ≠ "java/lang/invoke/MethodHandle" ∧ yX5_type.cls ≠ "java/lang/invoke/VarHandle" ∧ (parseMethodDescriptor yX5_type.desc).map (fun d => d.parameters.length) = some 1 := by decide +kernel
set_option maxRecDepth 100000 in
set_option maxHeartbeats 4000000 in
theorem kX5_type (Θ : Tht) (x0 c0 c1 c2 n0 v0 t0 l0 : Nat) (x_oldestSaved : Int32) (x_savedStates : Int32) (c_bytes : Nat → Int32) (c_numbers : Nat → Int32) (c_length : Int32) (c_at : Int32) (c_word : Int32) (a0 : Int32) (ro : Int32) (o_c_bytes : Nat → Int32) (o_c_length : Int32) (hf : fX5_type c_bytes c_length a0 = some (ro, o_c_bytes, o_c_length)) : Fn Θ yX5_type (Cond.code yX5_type cX5_type 2 (some .int) :: GW) rmX5_type [.ref x0, .int a0] ([(x0, .inr (5, [.ref n0, .ref v0, .int x_oldestSaved, .int x_savedStates, .ref t0, .ref l0, .ref c0]))] ++ wX0 Θ c0 c1 c2 c_bytes c_numbers c_length c_at c_word) (some (.int ro)) ([(x0, .inr (5, [.ref n0, .ref v0, .int x_oldestSaved, .int x_savedStates, .ref t0, .ref l0, .ref c0]))] ++ wX0 Θ c0 c1 c2 o_c_bytes c_numbers o_c_length c_at c_word) := by
  delta fX5_type at hf
  refine Fn.of (by decide +kernel) rfl (Nat.le_of_ble_eq_true rfl) (fun p e s m args below meth c A Q G K => ?_)
  show sw Θ p e rmX5_type s m args below meth c A Q 2 0 0 0 [(0, .ref x0), (1, .int a0)] [] ([(x0, .inr (5, [.ref n0, .ref v0, .int x_oldestSaved, .int x_savedStates, .ref t0, .ref l0, .ref c0]))] ++ wX0 Θ c0 c1 c2 c_bytes c_numbers c_length c_at c_word)
  refine sw_iload_n 0 G dX5_type_0 1 rfl ?_
  refine sw_if_lt 1 10 G dX5_type_1 rfl hf (fun hf => ?_) (fun hf => ?_)
  · cases hf
  · refine sw_iload_n 4 G dX5_type_4 1 rfl ?_
    refine sw_bipush 5 G (127 : Int32) dX5_type_5 rfl ?_
    refine sw_icmp_le 7 21 G dX5_type_7 rfl hf (fun hf => ?_) (fun hf => ?_)
    · refine sw_aload_n 21 G dX5_type_21 0 rfl ?_
      refine sw_get 22 G hnX5 0 6 dX5_type_22 vc5 (by decide) (List.mem_cons_of_mem _ lk_0b6ebd02) rfl rfl ?_
      refine sw_get 25 G hnX0 1 2 dX5_type_25 vc0 (by decide) (List.mem_cons_of_mem _ lk_daf6e5e6) rfl rfl ?_
      refine sw_sipush 28 G (150 : Int32) dX5_type_28 rfl ?_
      refine sw_icmp_lt 31 45 G dX5_type_31 rfl hf (fun hf => ?_) (fun hf => ?_)
      · refine sw_aload_n 45 G dX5_type_45 0 rfl ?_
        refine sw_get 46 G hnX5 0 6 dX5_type_46 vc5 (by decide) (List.mem_cons_of_mem _ lk_0b6ebd02) rfl rfl ?_
        refine sw_iload_n 49 G dX5_type_49 1 rfl ?_
        obtain ⟨u1, u2, hg, hf⟩ := bd2_some hf
        refine sw_callV 50 G ([(x0, .inr (5, [.ref n0, .ref v0, .int x_oldestSaved, .int x_savedStates, .ref t0, .ref l0, .ref c0]))] ++ wX0 Θ c0 c1 c2 u1 c_numbers u2 c_at c_word) [1, 2, 3] [0] [0, 1, 2, 3] 1 dX5_type_50 (kX0_append Θ c0 c1 c2 c_bytes c_numbers c_length c_at c_word a0 u1 u2 hg) (gwV lk_b3ef0811 lk_4310ecc2 lk_936f8019 lk_82b0ef51 lk_a2767a48) rfl hvX0_append ⟨rfl, rfl⟩ ⟨Nat.le_of_ble_eq_true rfl, Nat.le_of_ble_eq_true rfl⟩ ⟨Nat.zero_le _, Nat.zero_le _⟩ rfl rfl (Nat.le_of_ble_eq_true rfl) 0 rfl vc0 rfl rfl rfl rfl (by decide) ?_
        refine sw_aload_n 53 G dX5_type_53 0 rfl ?_
        refine sw_get 54 G hnX5 0 6 dX5_type_54 vc5 (by decide) (List.mem_cons_of_mem _ lk_0b6ebd02) rfl rfl ?_
        refine sw_get 57 G hnX0 1 2 dX5_type_57 vc0 (by decide) (List.mem_cons_of_mem _ lk_daf6e5e6) rfl rfl ?_
        cases hf
        exact sw_iret 60 G dX5_type_60 K
      · cases hf
    · cases hf
abbrev rmX5_withStation : Room := { frames := 3, cells := 0, slots := 0, locals := 68 }
theorem hvX5_withStation : yX5_withStation.cls = RX5 ∧ yX5_withStation.cls ≠ "java/lang/invoke/MethodHandle" ∧ yX5_withStation.cls ≠ "java/lang/invoke/VarHandle" ∧ (parseMethodDescriptor yX5_withStation.desc).map (fun d => d.parameters.length) = some 2 := by decide +kernel
set_option maxRecDepth 100000 in
set_option maxHeartbeats 4000000 in
theorem kX5_withStation (Θ : Tht) (F : Nat) (x0 n0 d0 d1 d2 d3 p0 p1 p2 p3 v0 t0 l0 c0 : Nat) (x_oldestSaved : Int32) (x_savedStates : Int32) (d_columns : Int32) (d_rows : Int32) (d_carrier : Int32) (d_partMarks : Int64) (d_linkMarks : Int64) (d_operations : Int32) (d_pilots : Int32) (d_settings : Nat → Int32) (d_facts : Nat → Int32) (d_cells : Nat → Int64) (p_pitches : Int32) (p_spoiled : Int32) (p_cells : Nat → Int64) (p_bends : Nat → Int32) (p_offsets : Nat → Int32) (p_strokes : Int32) (p_goodParts : Int32) (p_badParts : Int32) (p_slugs : Int32) (a0 : Int64) (a1 : Int32) (ro : Int64) (hf : fX5_withStation F d_operations d_pilots d_facts p_pitches p_spoiled p_cells p_bends p_offsets a0 a1 = some ro) : Fn Θ yX5_withStation (Cond.code yX5_withStation cX5_withStation 7 (some .long) :: GW) rmX5_withStation [.ref x0, .long a0, .int a1] ([(x0, .inr (5, [.ref n0, .ref v0, .int x_oldestSaved, .int x_savedStates, .ref t0, .ref l0, .ref c0]))] ++ [(n0, .inr (4, [.ref d0, .ref p0]))] ++ wX1 Θ d0 d1 d2 d3 d_columns d_rows d_carrier d_partMarks d_linkMarks d_operations d_pilots d_settings d_facts d_cells ++ wX3 Θ p0 p1 p2 p3 p_pitches p_spoiled p_cells p_bends p_offsets p_strokes p_goodParts p_badParts p_slugs) (some (.long ro)) ([(x0, .inr (5, [.ref n0, .ref v0, .int x_oldestSaved, .int x_savedStates, .ref t0, .ref l0, .ref c0]))] ++ [(n0, .inr (4, [.ref d0, .ref p0]))] ++ wX1 Θ d0 d1 d2 d3 d_columns d_rows d_carrier d_partMarks d_linkMarks d_operations d_pilots d_settings d_facts d_cells ++ wX3 Θ p0 p1 p2 p3 p_pitches p_spoiled p_cells p_bends p_offsets p_strokes p_goodParts p_badParts p_slugs) := by
  delta fX5_withStation at hf
  refine Fn.of (by decide +kernel) rfl (Nat.le_of_ble_eq_true rfl) (fun p e s m args below meth c A Q G K => ?_)
  show sw Θ p e rmX5_withStation s m args below meth c A Q 7 0 0 0 [(0, .ref x0), (1, .long a0), (3, .int a1)] [] ([(x0, .inr (5, [.ref n0, .ref v0, .int x_oldestSaved, .int x_savedStates, .ref t0, .ref l0, .ref c0]))] ++ [(n0, .inr (4, [.ref d0, .ref p0]))] ++ wX1 Θ d0 d1 d2 d3 d_columns d_rows d_carrier d_partMarks d_linkMarks d_operations d_pilots d_settings d_facts d_cells ++ wX3 Θ p0 p1 p2 p3 p_pitches p_spoiled p_cells p_bends p_offsets p_strokes p_goodParts p_badParts p_slugs)
  refine sw_lload_n 0 G dX5_withStation_0 1 rfl ?_
  refine sw_lstore 1 G [(4, .long a0), (0, .ref x0), (1, .long a0), (3, .int a1)] dX5_withStation_1 (by decide) rfl ?_
  refine sw_iconst 3 G (0 : Int32) dX5_withStation_3 rfl ?_
  refine sw_istore 4 G [(6, .int (0 : Int32)), (4, .long a0), (0, .ref x0), (1, .long a0), (3, .int a1)] dX5_withStation_4 (by decide) rfl ?_
  obtain ⟨v1, hl, hf⟩ := bd1_some hf
  have hx6_35 : sw Θ p e rmX5_withStation s m args below meth c A Q 7 0 0 35 [(0, .ref x0), (3, .int a1), (4, .long v1)] [] ([(x0, .inr (5, [.ref n0, .ref v0, .int x_oldestSaved, .int x_savedStates, .ref t0, .ref l0, .ref c0]))] ++ [(n0, .inr (4, [.ref d0, .ref p0]))] ++ wX1 Θ d0 d1 d2 d3 d_columns d_rows d_carrier d_partMarks d_linkMarks d_operations d_pilots d_settings d_facts d_cells ++ wX3 Θ p0 p1 p2 p3 p_pitches p_spoiled p_cells p_bends p_offsets p_strokes p_goodParts p_badParts p_slugs) := by
    refine sw_iconst 35 G (0 : Int32) dX5_withStation_35 rfl ?_
    refine sw_istore 36 G [(6, .int (0 : Int32)), (0, .ref x0), (3, .int a1), (4, .long v1)] dX5_withStation_36 (by decide) rfl ?_
    obtain ⟨v2, hl, hf⟩ := bd1_some hf
    have hx38_67 : sw Θ p e rmX5_withStation s m args below meth c A Q 7 0 0 67 [(0, .ref x0), (3, .int a1), (4, .long v2)] [] ([(x0, .inr (5, [.ref n0, .ref v0, .int x_oldestSaved, .int x_savedStates, .ref t0, .ref l0, .ref c0]))] ++ [(n0, .inr (4, [.ref d0, .ref p0]))] ++ wX1 Θ d0 d1 d2 d3 d_columns d_rows d_carrier d_partMarks d_linkMarks d_operations d_pilots d_settings d_facts d_cells ++ wX3 Θ p0 p1 p2 p3 p_pitches p_spoiled p_cells p_bends p_offsets p_strokes p_goodParts p_badParts p_slugs) := by
      refine sw_ldc2 67 G (List.mem_cons_of_mem _ lk_f12f94bc) dX5_withStation_67 ?_
      refine sw_lload 70 G dX5_withStation_70 2 rfl ?_
      refine sw_lmul 72 G dX5_withStation_72 ?_
      refine sw_aload_n 73 G dX5_withStation_73 0 rfl ?_
      refine sw_iload_n 74 G dX5_withStation_74 1 rfl ?_
      obtain ⟨r3, hg, hf⟩ := bd1_some hf
      refine sw_callV 75 G ([(x0, .inr (5, [.ref n0, .ref v0, .int x_oldestSaved, .int x_savedStates, .ref t0, .ref l0, .ref c0]))] ++ [(n0, .inr (4, [.ref d0, .ref p0]))] ++ wX1 Θ d0 d1 d2 d3 d_columns d_rows d_carrier d_partMarks d_linkMarks d_operations d_pilots d_settings d_facts d_cells ++ wX3 Θ p0 p1 p2 p3 p_pitches p_spoiled p_cells p_bends p_offsets p_strokes p_goodParts p_badParts p_slugs) [0, 1, 6, 7, 8, 9] [2, 3, 4, 5] [4, 5, 0, 1, 2, 3, 6, 7, 8, 9] 1 dX5_withStation_75 (kX5_left Θ x0 n0 p0 p1 p2 p3 v0 t0 l0 c0 d0 x_oldestSaved x_savedStates p_pitches p_spoiled p_cells p_bends p_offsets p_strokes p_goodParts p_badParts p_slugs a1 r3 hg) (gwV lk_21b1f0e2 lk_cb7a7b42 lk_2e1ae927 lk_5f14f758 lk_525c92fb) rfl hvX5_left ⟨rfl, rfl⟩ ⟨Nat.le_of_ble_eq_true rfl, Nat.le_of_ble_eq_true rfl⟩ ⟨Nat.zero_le _, Nat.zero_le _⟩ rfl rfl (Nat.le_of_ble_eq_true rfl) 0 rfl vc5 rfl rfl rfl rfl (by decide) ?_
      refine sw_ladd 78 G dX5_withStation_78 ?_
      cases hf
      exact sw_lret 79 G dX5_withStation_79 K
    refine sw_lv [(0, .ref x0), (3, .int a1), (4, .long v1), (6, .int (0 : Int32))] [1, 2, 3, 0] rfl ?_
    refine lp_walk (P := fun (t : Int64 × Int32) => sw Θ p e rmX5_withStation s m args below meth c A Q 7 0 0 38 [(0, .ref x0), (3, .int a1), (4, .long t.1), (6, .int t.2)] [] ([(x0, .inr (5, [.ref n0, .ref v0, .int x_oldestSaved, .int x_savedStates, .ref t0, .ref l0, .ref c0]))] ++ [(n0, .inr (4, [.ref d0, .ref p0]))] ++ wX1 Θ d0 d1 d2 d3 d_columns d_rows d_carrier d_partMarks d_linkMarks d_operations d_pilots d_settings d_facts d_cells ++ wX3 Θ p0 p1 p2 p3 p_pitches p_spoiled p_cells p_bends p_offsets p_strokes p_goodParts p_badParts p_slugs)) hl (fun t38 y38 hf hin38 hex38 => ?_)
    obtain ⟨v4, v5⟩ := t38
    show sw Θ p e rmX5_withStation s m args below meth c A Q 7 0 0 38 [(0, .ref x0), (3, .int a1), (4, .long v4), (6, .int v5)] [] ([(x0, .inr (5, [.ref n0, .ref v0, .int x_oldestSaved, .int x_savedStates, .ref t0, .ref l0, .ref c0]))] ++ [(n0, .inr (4, [.ref d0, .ref p0]))] ++ wX1 Θ d0 d1 d2 d3 d_columns d_rows d_carrier d_partMarks d_linkMarks d_operations d_pilots d_settings d_facts d_cells ++ wX3 Θ p0 p1 p2 p3 p_pitches p_spoiled p_cells p_bends p_offsets p_strokes p_goodParts p_badParts p_slugs)
    have hf := uc2_some (K := _) hf
    refine sw_iload 38 G dX5_withStation_38 3 rfl ?_
    refine sw_iconst 40 G (3 : Int32) dX5_withStation_40 rfl ?_
    refine sw_icmp_gt 41 67 G dX5_withStation_41 rfl hf (fun hf => ?_) (fun hf => ?_)
    · cases hf
      cases hex38 _ rfl
      exact sw_lv _ [0, 1, 2] rfl hx38_67
    · refine sw_ldc2 44 G (List.mem_cons_of_mem _ lk_f12f94bc) dX5_withStation_44 ?_
      refine sw_lload 47 G dX5_withStation_47 2 rfl ?_
      refine sw_lmul 49 G dX5_withStation_49 ?_
      refine sw_aload_n 50 G dX5_withStation_50 0 rfl ?_
      refine sw_iload_n 51 G dX5_withStation_51 1 rfl ?_
      refine sw_iload 52 G dX5_withStation_52 3 rfl ?_
      obtain ⟨r6, hg, hf⟩ := bd1_some hf
      refine sw_callV 54 G ([(x0, .inr (5, [.ref n0, .ref v0, .int x_oldestSaved, .int x_savedStates, .ref t0, .ref l0, .ref c0]))] ++ [(n0, .inr (4, [.ref d0, .ref p0]))] ++ wX1 Θ d0 d1 d2 d3 d_columns d_rows d_carrier d_partMarks d_linkMarks d_operations d_pilots d_settings d_facts d_cells ++ wX3 Θ p0 p1 p2 p3 p_pitches p_spoiled p_cells p_bends p_offsets p_strokes p_goodParts p_badParts p_slugs) [0, 1, 6, 7, 8, 9] [2, 3, 4, 5] [4, 5, 0, 1, 2, 3, 6, 7, 8, 9] 2 dX5_withStation_54 (kX5_pitch Θ x0 n0 p0 p1 p2 p3 v0 t0 l0 c0 d0 x_oldestSaved x_savedStates p_pitches p_spoiled p_cells p_bends p_offsets p_strokes p_goodParts p_badParts p_slugs a1 v5 r6 hg) (gwV lk_5b55331c lk_ad536863 lk_540372d4 lk_5f14f758 lk_2b94d3f7) rfl hvX5_pitch ⟨rfl, rfl⟩ ⟨Nat.le_of_ble_eq_true rfl, Nat.le_of_ble_eq_true rfl⟩ ⟨Nat.zero_le _, Nat.zero_le _⟩ rfl rfl (Nat.le_of_ble_eq_true rfl) 0 rfl vc5 rfl rfl rfl rfl (by decide) ?_
      refine sw_i2l 57 G dX5_withStation_57 ?_
      refine sw_ladd 58 G dX5_withStation_58 ?_
      refine sw_nml hf (fun v7 hf => ?_)
      refine sw_lstore 59 G [(4, .long v7), (0, .ref x0), (3, .int a1), (6, .int v5)] dX5_withStation_59 (by decide) rfl ?_
      refine sw_iinc 61 G (v5 + (1 : Int32)) [(6, .int (v5 + (1 : Int32))), (4, .long v7), (0, .ref x0), (3, .int a1)] dX5_withStation_61 3 rfl rfl (by decide) rfl ?_
      refine sw_goto 64 G 38 dX5_withStation_64 rfl ?_
      cases hf
      have hb := hin38 _ rfl
      exact sw_lv _ [2, 3, 1, 0] (by rfl) hb
  refine sw_lv [(0, .ref x0), (3, .int a1), (4, .long a0), (6, .int (0 : Int32))] [2, 4, 1, 0] rfl ?_
  refine lp_walk (P := fun (t : Int64 × Int32) => sw Θ p e rmX5_withStation s m args below meth c A Q 7 0 0 6 [(0, .ref x0), (3, .int a1), (4, .long t.1), (6, .int t.2)] [] ([(x0, .inr (5, [.ref n0, .ref v0, .int x_oldestSaved, .int x_savedStates, .ref t0, .ref l0, .ref c0]))] ++ [(n0, .inr (4, [.ref d0, .ref p0]))] ++ wX1 Θ d0 d1 d2 d3 d_columns d_rows d_carrier d_partMarks d_linkMarks d_operations d_pilots d_settings d_facts d_cells ++ wX3 Θ p0 p1 p2 p3 p_pitches p_spoiled p_cells p_bends p_offsets p_strokes p_goodParts p_badParts p_slugs)) hl (fun t6 y6 hf hin6 hex6 => ?_)
  obtain ⟨v8, v9⟩ := t6
  show sw Θ p e rmX5_withStation s m args below meth c A Q 7 0 0 6 [(0, .ref x0), (3, .int a1), (4, .long v8), (6, .int v9)] [] ([(x0, .inr (5, [.ref n0, .ref v0, .int x_oldestSaved, .int x_savedStates, .ref t0, .ref l0, .ref c0]))] ++ [(n0, .inr (4, [.ref d0, .ref p0]))] ++ wX1 Θ d0 d1 d2 d3 d_columns d_rows d_carrier d_partMarks d_linkMarks d_operations d_pilots d_settings d_facts d_cells ++ wX3 Θ p0 p1 p2 p3 p_pitches p_spoiled p_cells p_bends p_offsets p_strokes p_goodParts p_badParts p_slugs)
  have hf := uc2_some (K := _) hf
  refine sw_iload 6 G dX5_withStation_6 3 rfl ?_
  refine sw_iconst 8 G (3 : Int32) dX5_withStation_8 rfl ?_
  refine sw_icmp_gt 9 35 G dX5_withStation_9 rfl hf (fun hf => ?_) (fun hf => ?_)
  · cases hf
    cases hex6 _ rfl
    exact sw_lv _ [0, 1, 2] rfl hx6_35
  · refine sw_ldc2 12 G (List.mem_cons_of_mem _ lk_f12f94bc) dX5_withStation_12 ?_
    refine sw_lload 15 G dX5_withStation_15 2 rfl ?_
    refine sw_lmul 17 G dX5_withStation_17 ?_
    refine sw_aload_n 18 G dX5_withStation_18 0 rfl ?_
    refine sw_iload_n 19 G dX5_withStation_19 1 rfl ?_
    refine sw_iload 20 G dX5_withStation_20 3 rfl ?_
    obtain ⟨r10, hg, hf⟩ := bd1_some hf
    refine sw_callV 22 G ([(x0, .inr (5, [.ref n0, .ref v0, .int x_oldestSaved, .int x_savedStates, .ref t0, .ref l0, .ref c0]))] ++ [(n0, .inr (4, [.ref d0, .ref p0]))] ++ wX1 Θ d0 d1 d2 d3 d_columns d_rows d_carrier d_partMarks d_linkMarks d_operations d_pilots d_settings d_facts d_cells ++ wX3 Θ p0 p1 p2 p3 p_pitches p_spoiled p_cells p_bends p_offsets p_strokes p_goodParts p_badParts p_slugs) [0, 1, 2, 3, 4, 5, 6, 7, 8, 9] [] [0, 1, 2, 3, 4, 5, 6, 7, 8, 9] 2 dX5_withStation_22 (kX5_station Θ F x0 n0 d0 d1 d2 d3 p0 p1 p2 p3 v0 t0 l0 c0 x_oldestSaved x_savedStates d_columns d_rows d_carrier d_partMarks d_linkMarks d_operations d_pilots d_settings d_facts d_cells p_pitches p_spoiled p_cells p_bends p_offsets p_strokes p_goodParts p_badParts p_slugs a1 v9 r10 hg) (gwV lk_e5b97ba1 lk_954be666 lk_48b8789b lk_5f14f758 lk_0e1ef4ca) rfl hvX5_station ⟨rfl, rfl⟩ ⟨Nat.le_of_ble_eq_true rfl, Nat.le_of_ble_eq_true rfl⟩ ⟨Nat.zero_le _, Nat.zero_le _⟩ rfl rfl (Nat.le_of_ble_eq_true rfl) 0 rfl vc5 rfl rfl rfl rfl (by decide) ?_
    refine sw_i2l 25 G dX5_withStation_25 ?_
    refine sw_ladd 26 G dX5_withStation_26 ?_
    refine sw_nml hf (fun v11 hf => ?_)
    refine sw_lstore 27 G [(4, .long v11), (0, .ref x0), (3, .int a1), (6, .int v9)] dX5_withStation_27 (by decide) rfl ?_
    refine sw_iinc 29 G (v9 + (1 : Int32)) [(6, .int (v9 + (1 : Int32))), (4, .long v11), (0, .ref x0), (3, .int a1)] dX5_withStation_29 3 rfl rfl (by decide) rfl ?_
    refine sw_goto 32 G 6 dX5_withStation_32 rfl ?_
    cases hf
    have hb := hin6 _ rfl
    exact sw_lv _ [2, 3, 1, 0] (by rfl) hb
abbrev rmX5_digest : Room := { frames := 6, cells := 0, slots := 0, locals := 150 }
theorem hvX5_digest : yX5_digest.cls = RX5 ∧ yX5_digest.cls ≠ "java/lang/invoke/MethodHandle" ∧ yX5_digest.cls ≠ "java/lang/invoke/VarHandle" ∧ (parseMethodDescriptor yX5_digest.desc).map (fun d => d.parameters.length) = some 0 := by decide +kernel
set_option maxRecDepth 100000 in
set_option maxHeartbeats 4000000 in
theorem kX5_digest (Θ : Tht) (F : Nat) (x0 n0 d0 d1 d2 d3 p0 p1 p2 p3 l0 l1 l2 l3 c0 c1 c2 v0 t0 : Nat) (x_oldestSaved : Int32) (x_savedStates : Int32) (d_columns : Int32) (d_rows : Int32) (d_carrier : Int32) (d_partMarks : Int64) (d_linkMarks : Int64) (d_operations : Int32) (d_pilots : Int32) (d_settings : Nat → Int32) (d_facts : Nat → Int32) (d_cells : Nat → Int64) (p_pitches : Int32) (p_spoiled : Int32) (p_cells : Nat → Int64) (p_bends : Nat → Int32) (p_offsets : Nat → Int32) (p_strokes : Int32) (p_goodParts : Int32) (p_badParts : Int32) (p_slugs : Int32) (l_operations : Int32) (l_limit : Int32) (l_gap : Int32) (l_bends : Int32) (l_greatestForce : Int32) (l_chosen : Nat → Int32) (l_touching : Nat → Int32) (l_forces : Nat → Int32) (c_bytes : Nat → Int32) (c_numbers : Nat → Int32) (c_length : Int32) (c_at : Int32) (c_word : Int32) (ro : Int64) (o_l_operations : Int32) (o_l_limit : Int32) (o_l_gap : Int32) (o_l_bends : Int32) (o_l_greatestForce : Int32) (o_l_chosen : Nat → Int32) (o_l_touching : Nat → Int32) (o_l_forces : Nat → Int32) (hf : fX5_digest F x_savedStates d_columns d_rows d_carrier d_partMarks d_linkMarks d_operations d_pilots d_settings d_facts d_cells p_pitches p_spoiled p_cells p_bends p_offsets p_strokes p_goodParts p_badParts p_slugs l_chosen l_touching l_forces c_length = some (ro, o_l_operations, o_l_limit, o_l_gap, o_l_bends, o_l_greatestForce, o_l_chosen, o_l_touching, o_l_forces)) : Fn Θ yX5_digest (Cond.code yX5_digest cX5_digest 5 (some .long) :: GW) rmX5_digest [.ref x0] ([(x0, .inr (5, [.ref n0, .ref v0, .int x_oldestSaved, .int x_savedStates, .ref t0, .ref l0, .ref c0]))] ++ [(n0, .inr (4, [.ref d0, .ref p0]))] ++ wX1 Θ d0 d1 d2 d3 d_columns d_rows d_carrier d_partMarks d_linkMarks d_operations d_pilots d_settings d_facts d_cells ++ wX3 Θ p0 p1 p2 p3 p_pitches p_spoiled p_cells p_bends p_offsets p_strokes p_goodParts p_badParts p_slugs ++ wX2 Θ l0 l1 l2 l3 l_operations l_limit l_gap l_bends l_greatestForce l_chosen l_touching l_forces ++ wX0 Θ c0 c1 c2 c_bytes c_numbers c_length c_at c_word) (some (.long ro)) ([(x0, .inr (5, [.ref n0, .ref v0, .int x_oldestSaved, .int x_savedStates, .ref t0, .ref l0, .ref c0]))] ++ [(n0, .inr (4, [.ref d0, .ref p0]))] ++ wX1 Θ d0 d1 d2 d3 d_columns d_rows d_carrier d_partMarks d_linkMarks d_operations d_pilots d_settings d_facts d_cells ++ wX3 Θ p0 p1 p2 p3 p_pitches p_spoiled p_cells p_bends p_offsets p_strokes p_goodParts p_badParts p_slugs ++ wX2 Θ l0 l1 l2 l3 o_l_operations o_l_limit o_l_gap o_l_bends o_l_greatestForce o_l_chosen o_l_touching o_l_forces ++ wX0 Θ c0 c1 c2 c_bytes c_numbers c_length c_at c_word) := by
  delta fX5_digest at hf
  refine Fn.of (by decide +kernel) rfl (Nat.le_of_ble_eq_true rfl) (fun p e s m args below meth c A Q G K => ?_)
  show sw Θ p e rmX5_digest s m args below meth c A Q 5 0 0 0 [(0, .ref x0)] [] ([(x0, .inr (5, [.ref n0, .ref v0, .int x_oldestSaved, .int x_savedStates, .ref t0, .ref l0, .ref c0]))] ++ [(n0, .inr (4, [.ref d0, .ref p0]))] ++ wX1 Θ d0 d1 d2 d3 d_columns d_rows d_carrier d_partMarks d_linkMarks d_operations d_pilots d_settings d_facts d_cells ++ wX3 Θ p0 p1 p2 p3 p_pitches p_spoiled p_cells p_bends p_offsets p_strokes p_goodParts p_badParts p_slugs ++ wX2 Θ l0 l1 l2 l3 l_operations l_limit l_gap l_bends l_greatestForce l_chosen l_touching l_forces ++ wX0 Θ c0 c1 c2 c_bytes c_numbers c_length c_at c_word)
  refine sw_ldc2 0 G (List.mem_cons_of_mem _ lk_cb7ff5b6) dX5_digest_0 ?_
  refine sw_aload_n 3 G dX5_digest_3 0 rfl ?_
  refine sw_get 4 G hnX5 0 3 dX5_digest_4 vc5 (by decide) (List.mem_cons_of_mem _ lk_0c8c23a2) rfl rfl ?_
  refine sw_i2l 7 G dX5_digest_7 ?_
  refine sw_ladd 8 G dX5_digest_8 ?_
  refine sw_nml hf (fun v1 hf => ?_)
  refine sw_lstore_n 9 G [(1, .long v1), (0, .ref x0)] dX5_digest_9 (by decide) rfl ?_
  refine sw_iconst 10 G (0 : Int32) dX5_digest_10 rfl ?_
  refine sw_istore_n 11 G [(3, .int (0 : Int32)), (1, .long v1), (0, .ref x0)] dX5_digest_11 (by decide) rfl ?_
  obtain ⟨v2, hl, hf⟩ := bd1_some hf
  have hx12_37 : sw Θ p e rmX5_digest s m args below meth c A Q 5 0 0 37 [(0, .ref x0), (1, .long v2)] [] ([(x0, .inr (5, [.ref n0, .ref v0, .int x_oldestSaved, .int x_savedStates, .ref t0, .ref l0, .ref c0]))] ++ [(n0, .inr (4, [.ref d0, .ref p0]))] ++ wX1 Θ d0 d1 d2 d3 d_columns d_rows d_carrier d_partMarks d_linkMarks d_operations d_pilots d_settings d_facts d_cells ++ wX3 Θ p0 p1 p2 p3 p_pitches p_spoiled p_cells p_bends p_offsets p_strokes p_goodParts p_badParts p_slugs ++ wX2 Θ l0 l1 l2 l3 l_operations l_limit l_gap l_bends l_greatestForce l_chosen l_touching l_forces ++ wX0 Θ c0 c1 c2 c_bytes c_numbers c_length c_at c_word) := by
    refine sw_iconst 37 G (0 : Int32) dX5_digest_37 rfl ?_
    refine sw_istore_n 38 G [(3, .int (0 : Int32)), (0, .ref x0), (1, .long v2)] dX5_digest_38 (by decide) rfl ?_
    obtain ⟨v3, hl, hf⟩ := bd1_some hf
    have hx39_62 : sw Θ p e rmX5_digest s m args below meth c A Q 5 0 0 62 [(0, .ref x0), (1, .long v3)] [] ([(x0, .inr (5, [.ref n0, .ref v0, .int x_oldestSaved, .int x_savedStates, .ref t0, .ref l0, .ref c0]))] ++ [(n0, .inr (4, [.ref d0, .ref p0]))] ++ wX1 Θ d0 d1 d2 d3 d_columns d_rows d_carrier d_partMarks d_linkMarks d_operations d_pilots d_settings d_facts d_cells ++ wX3 Θ p0 p1 p2 p3 p_pitches p_spoiled p_cells p_bends p_offsets p_strokes p_goodParts p_badParts p_slugs ++ wX2 Θ l0 l1 l2 l3 l_operations l_limit l_gap l_bends l_greatestForce l_chosen l_touching l_forces ++ wX0 Θ c0 c1 c2 c_bytes c_numbers c_length c_at c_word) := by
      refine sw_iconst 62 G (0 : Int32) dX5_digest_62 rfl ?_
      refine sw_istore_n 63 G [(3, .int (0 : Int32)), (0, .ref x0), (1, .long v3)] dX5_digest_63 (by decide) rfl ?_
      obtain ⟨v4, hl, hf⟩ := bd1_some hf
      have hx64_115 : sw Θ p e rmX5_digest s m args below meth c A Q 5 0 0 115 [(0, .ref x0), (1, .long v4)] [] ([(x0, .inr (5, [.ref n0, .ref v0, .int x_oldestSaved, .int x_savedStates, .ref t0, .ref l0, .ref c0]))] ++ [(n0, .inr (4, [.ref d0, .ref p0]))] ++ wX1 Θ d0 d1 d2 d3 d_columns d_rows d_carrier d_partMarks d_linkMarks d_operations d_pilots d_settings d_facts d_cells ++ wX3 Θ p0 p1 p2 p3 p_pitches p_spoiled p_cells p_bends p_offsets p_strokes p_goodParts p_badParts p_slugs ++ wX2 Θ l0 l1 l2 l3 l_operations l_limit l_gap l_bends l_greatestForce l_chosen l_touching l_forces ++ wX0 Θ c0 c1 c2 c_bytes c_numbers c_length c_at c_word) := by
        refine sw_iconst 115 G (0 : Int32) dX5_digest_115 rfl ?_
        refine sw_istore_n 116 G [(3, .int (0 : Int32)), (0, .ref x0), (1, .long v4)] dX5_digest_116 (by decide) rfl ?_
        obtain ⟨v5, hl, hf⟩ := bd1_some hf
        have hx117_136 : sw Θ p e rmX5_digest s m args below meth c A Q 5 0 0 136 [(0, .ref x0), (1, .long v5)] [] ([(x0, .inr (5, [.ref n0, .ref v0, .int x_oldestSaved, .int x_savedStates, .ref t0, .ref l0, .ref c0]))] ++ [(n0, .inr (4, [.ref d0, .ref p0]))] ++ wX1 Θ d0 d1 d2 d3 d_columns d_rows d_carrier d_partMarks d_linkMarks d_operations d_pilots d_settings d_facts d_cells ++ wX3 Θ p0 p1 p2 p3 p_pitches p_spoiled p_cells p_bends p_offsets p_strokes p_goodParts p_badParts p_slugs ++ wX2 Θ l0 l1 l2 l3 l_operations l_limit l_gap l_bends l_greatestForce l_chosen l_touching l_forces ++ wX0 Θ c0 c1 c2 c_bytes c_numbers c_length c_at c_word) := by
          refine sw_ldc2 136 G (List.mem_cons_of_mem _ lk_f12f94bc) dX5_digest_136 ?_
          refine sw_lload_n 139 G dX5_digest_139 1 rfl ?_
          refine sw_lmul 140 G dX5_digest_140 ?_
          refine sw_aload_n 141 G dX5_digest_141 0 rfl ?_
          obtain ⟨r6, hg, hf⟩ := bd1_some hf
          refine sw_callV 142 G ([(x0, .inr (5, [.ref n0, .ref v0, .int x_oldestSaved, .int x_savedStates, .ref t0, .ref l0, .ref c0]))] ++ [(n0, .inr (4, [.ref d0, .ref p0]))] ++ wX1 Θ d0 d1 d2 d3 d_columns d_rows d_carrier d_partMarks d_linkMarks d_operations d_pilots d_settings d_facts d_cells ++ wX3 Θ p0 p1 p2 p3 p_pitches p_spoiled p_cells p_bends p_offsets p_strokes p_goodParts p_badParts p_slugs ++ wX2 Θ l0 l1 l2 l3 l_operations l_limit l_gap l_bends l_greatestForce l_chosen l_touching l_forces ++ wX0 Θ c0 c1 c2 c_bytes c_numbers c_length c_at c_word) [0, 1, 2, 3, 4, 5] [6, 7, 8, 9, 10, 11, 12, 13, 14, 15, 16] [11, 12, 13, 14, 15, 16, 0, 1, 2, 3, 4, 5, 6, 7, 8, 9, 10] 0 dX5_digest_142 (kX5_dieFault Θ F x0 n0 d0 d1 d2 d3 v0 t0 l0 c0 p0 x_oldestSaved x_savedStates d_columns d_rows d_carrier d_partMarks d_linkMarks d_operations d_pilots d_settings d_facts d_cells r6 hg) (gwV lk_77e3fe4b lk_c462158b lk_41251719 lk_5f14f758 lk_f6a455e8) rfl hvX5_dieFault ⟨rfl, rfl⟩ ⟨Nat.le_of_ble_eq_true rfl, Nat.le_of_ble_eq_true rfl⟩ ⟨Nat.zero_le _, Nat.zero_le _⟩ rfl rfl (Nat.le_of_ble_eq_true rfl) 0 rfl vc5 rfl rfl rfl rfl (by decide) ?_
          refine sw_i2l 145 G dX5_digest_145 ?_
          refine sw_ladd 146 G dX5_digest_146 ?_
          refine sw_nml hf (fun v7 hf => ?_)
          refine sw_lstore_n 147 G [(1, .long v7), (0, .ref x0)] dX5_digest_147 (by decide) rfl ?_
          refine sw_ldc2 148 G (List.mem_cons_of_mem _ lk_f12f94bc) dX5_digest_148 ?_
          refine sw_lload_n 151 G dX5_digest_151 0 rfl ?_
          refine sw_lmul 152 G dX5_digest_152 ?_
          refine sw_aload_n 153 G dX5_digest_153 1 rfl ?_
          obtain ⟨r8, hg, hf⟩ := bd1_some hf
          refine sw_callV 154 G ([(x0, .inr (5, [.ref n0, .ref v0, .int x_oldestSaved, .int x_savedStates, .ref t0, .ref l0, .ref c0]))] ++ [(n0, .inr (4, [.ref d0, .ref p0]))] ++ wX1 Θ d0 d1 d2 d3 d_columns d_rows d_carrier d_partMarks d_linkMarks d_operations d_pilots d_settings d_facts d_cells ++ wX3 Θ p0 p1 p2 p3 p_pitches p_spoiled p_cells p_bends p_offsets p_strokes p_goodParts p_badParts p_slugs ++ wX2 Θ l0 l1 l2 l3 l_operations l_limit l_gap l_bends l_greatestForce l_chosen l_touching l_forces ++ wX0 Θ c0 c1 c2 c_bytes c_numbers c_length c_at c_word) [0, 1, 2, 3, 4, 5] [6, 7, 8, 9, 10, 11, 12, 13, 14, 15, 16] [11, 12, 13, 14, 15, 16, 0, 1, 2, 3, 4, 5, 6, 7, 8, 9, 10] 0 dX5_digest_154 (kX5_planFault Θ F x0 n0 d0 d1 d2 d3 v0 t0 l0 c0 p0 x_oldestSaved x_savedStates d_columns d_rows d_carrier d_partMarks d_linkMarks d_operations d_pilots d_settings d_facts d_cells r8 hg) (gwV lk_d15de929 lk_b8b01604 lk_5abe84c7 lk_5f14f758 lk_9caa16e3) rfl hvX5_planFault ⟨rfl, rfl⟩ ⟨Nat.le_of_ble_eq_true rfl, Nat.le_of_ble_eq_true rfl⟩ ⟨Nat.zero_le _, Nat.zero_le _⟩ rfl rfl (Nat.le_of_ble_eq_true rfl) 0 rfl vc5 rfl rfl rfl rfl (by decide) ?_
          refine sw_i2l 157 G dX5_digest_157 ?_
          refine sw_ladd 158 G dX5_digest_158 ?_
          refine sw_nml hf (fun v9 hf => ?_)
          refine sw_lstore_n 159 G [(1, .long v9), (0, .ref x0)] dX5_digest_159 (by decide) rfl ?_
          refine sw_ldc2 160 G (List.mem_cons_of_mem _ lk_f12f94bc) dX5_digest_160 ?_
          refine sw_lload_n 163 G dX5_digest_163 0 rfl ?_
          refine sw_lmul 164 G dX5_digest_164 ?_
          refine sw_aload_n 165 G dX5_digest_165 1 rfl ?_
          refine sw_iconst 166 G (-1 : Int32) dX5_digest_166 rfl ?_
          obtain ⟨r10, u11, u12, u13, u14, u15, u16, u17, u18, hg, hf⟩ := bd9_some hf
          refine sw_callV 167 G ([(x0, .inr (5, [.ref n0, .ref v0, .int x_oldestSaved, .int x_savedStates, .ref t0, .ref l0, .ref c0]))] ++ [(n0, .inr (4, [.ref d0, .ref p0]))] ++ wX1 Θ d0 d1 d2 d3 d_columns d_rows d_carrier d_partMarks d_linkMarks d_operations d_pilots d_settings d_facts d_cells ++ wX3 Θ p0 p1 p2 p3 p_pitches p_spoiled p_cells p_bends p_offsets p_strokes p_goodParts p_badParts p_slugs ++ wX2 Θ l0 l1 l2 l3 u11 u12 u13 u14 u15 u16 u17 u18 ++ wX0 Θ c0 c1 c2 c_bytes c_numbers c_length c_at c_word) [0, 1, 2, 3, 4, 5, 10, 11, 12, 13] [6, 7, 8, 9, 14, 15, 16] [7, 8, 9, 10, 11, 12, 0, 1, 2, 3, 13, 14, 15, 16, 4, 5, 6] 1 dX5_digest_167 (kX5_planned Θ F x0 n0 d0 d1 d2 d3 l0 l1 l2 l3 v0 t0 c0 p0 x_oldestSaved x_savedStates d_columns d_rows d_carrier d_partMarks d_linkMarks d_operations d_pilots d_settings d_facts d_cells l_operations l_limit l_gap l_bends l_greatestForce l_chosen l_touching l_forces (-1 : Int32) r10 u11 u12 u13 u14 u15 u16 u17 u18 hg) (gwV lk_e262add3 lk_9ff230cd lk_da1c9664 lk_5f14f758 lk_cb016474) rfl hvX5_planned ⟨rfl, rfl⟩ ⟨Nat.le_of_ble_eq_true rfl, Nat.le_of_ble_eq_true rfl⟩ ⟨Nat.zero_le _, Nat.zero_le _⟩ rfl rfl (Nat.le_of_ble_eq_true rfl) 0 rfl vc5 rfl rfl rfl rfl (by decide) ?_
          refine sw_i2l 170 G dX5_digest_170 ?_
          refine sw_ladd 171 G dX5_digest_171 ?_
          refine sw_nml hf (fun v19 hf => ?_)
          refine sw_lstore_n 172 G [(1, .long v19), (0, .ref x0)] dX5_digest_172 (by decide) rfl ?_
          refine sw_ldc2 173 G (List.mem_cons_of_mem _ lk_f12f94bc) dX5_digest_173 ?_
          refine sw_lload_n 176 G dX5_digest_176 0 rfl ?_
          refine sw_lmul 177 G dX5_digest_177 ?_
          refine sw_aload_n 178 G dX5_digest_178 1 rfl ?_
          obtain ⟨r20, hg, hf⟩ := bd1_some hf
          refine sw_callV 179 G ([(x0, .inr (5, [.ref n0, .ref v0, .int x_oldestSaved, .int x_savedStates, .ref t0, .ref l0, .ref c0]))] ++ [(n0, .inr (4, [.ref d0, .ref p0]))] ++ wX1 Θ d0 d1 d2 d3 d_columns d_rows d_carrier d_partMarks d_linkMarks d_operations d_pilots d_settings d_facts d_cells ++ wX3 Θ p0 p1 p2 p3 p_pitches p_spoiled p_cells p_bends p_offsets p_strokes p_goodParts p_badParts p_slugs ++ wX2 Θ l0 l1 l2 l3 u11 u12 u13 u14 u15 u16 u17 u18 ++ wX0 Θ c0 c1 c2 c_bytes c_numbers c_length c_at c_word) [0, 1, 2, 3, 4, 5] [6, 7, 8, 9, 10, 11, 12, 13, 14, 15, 16] [11, 12, 13, 14, 15, 16, 0, 1, 2, 3, 4, 5, 6, 7, 8, 9, 10] 0 dX5_digest_179 (kX5_fitsTwice Θ F x0 n0 d0 d1 d2 d3 v0 t0 l0 c0 p0 x_oldestSaved x_savedStates d_columns d_rows d_carrier d_partMarks d_linkMarks d_operations d_pilots d_settings d_facts d_cells r20 hg) (gwV lk_9b9ad937 lk_b6d8f630 lk_8f672cea lk_5f14f758 lk_fc6b1be2) rfl hvX5_fitsTwice ⟨rfl, rfl⟩ ⟨Nat.le_of_ble_eq_true rfl, Nat.le_of_ble_eq_true rfl⟩ ⟨Nat.zero_le _, Nat.zero_le _⟩ rfl rfl (Nat.le_of_ble_eq_true rfl) 0 rfl vc5 rfl rfl rfl rfl (by decide) ?_
          refine sw_i2l 182 G dX5_digest_182 ?_
          refine sw_ladd 183 G dX5_digest_183 ?_
          refine sw_nml hf (fun v21 hf => ?_)
          refine sw_lstore_n 184 G [(1, .long v21), (0, .ref x0)] dX5_digest_184 (by decide) rfl ?_
          refine sw_ldc2 185 G (List.mem_cons_of_mem _ lk_f12f94bc) dX5_digest_185 ?_
          refine sw_lload_n 188 G dX5_digest_188 0 rfl ?_
          refine sw_lmul 189 G dX5_digest_189 ?_
          refine sw_aload_n 190 G dX5_digest_190 1 rfl ?_
          refine sw_iconst 191 G (0 : Int32) dX5_digest_191 rfl ?_
          obtain ⟨r22, hg, hf⟩ := bd1_some hf
          refine sw_callV 192 G ([(x0, .inr (5, [.ref n0, .ref v0, .int x_oldestSaved, .int x_savedStates, .ref t0, .ref l0, .ref c0]))] ++ [(n0, .inr (4, [.ref d0, .ref p0]))] ++ wX1 Θ d0 d1 d2 d3 d_columns d_rows d_carrier d_partMarks d_linkMarks d_operations d_pilots d_settings d_facts d_cells ++ wX3 Θ p0 p1 p2 p3 p_pitches p_spoiled p_cells p_bends p_offsets p_strokes p_goodParts p_badParts p_slugs ++ wX2 Θ l0 l1 l2 l3 u11 u12 u13 u14 u15 u16 u17 u18 ++ wX0 Θ c0 c1 c2 c_bytes c_numbers c_length c_at c_word) [0, 1, 2, 3, 4, 5] [6, 7, 8, 9, 10, 11, 12, 13, 14, 15, 16] [11, 12, 13, 14, 15, 16, 0, 1, 2, 3, 4, 5, 6, 7, 8, 9, 10] 1 dX5_digest_192 (kX5_scrap Θ F x0 n0 d0 d1 d2 d3 v0 t0 l0 c0 p0 x_oldestSaved x_savedStates d_columns d_rows d_carrier d_partMarks d_linkMarks d_operations d_pilots d_settings d_facts d_cells (0 : Int32) r22 hg) (gwV lk_7499a81d lk_89c46ba6 lk_cc13ca5e lk_5f14f758 lk_c1d0049b) rfl hvX5_scrap ⟨rfl, rfl⟩ ⟨Nat.le_of_ble_eq_true rfl, Nat.le_of_ble_eq_true rfl⟩ ⟨Nat.zero_le _, Nat.zero_le _⟩ rfl rfl (Nat.le_of_ble_eq_true rfl) 0 rfl vc5 rfl rfl rfl rfl (by decide) ?_
          refine sw_i2l 195 G dX5_digest_195 ?_
          refine sw_ladd 196 G dX5_digest_196 ?_
          refine sw_nml hf (fun v23 hf => ?_)
          refine sw_lstore_n 197 G [(1, .long v23), (0, .ref x0)] dX5_digest_197 (by decide) rfl ?_
          refine sw_ldc2 198 G (List.mem_cons_of_mem _ lk_f12f94bc) dX5_digest_198 ?_
          refine sw_lload_n 201 G dX5_digest_201 0 rfl ?_
          refine sw_lmul 202 G dX5_digest_202 ?_
          refine sw_aload_n 203 G dX5_digest_203 1 rfl ?_
          refine sw_iconst 204 G (1 : Int32) dX5_digest_204 rfl ?_
          obtain ⟨r24, hg, hf⟩ := bd1_some hf
          refine sw_callV 205 G ([(x0, .inr (5, [.ref n0, .ref v0, .int x_oldestSaved, .int x_savedStates, .ref t0, .ref l0, .ref c0]))] ++ [(n0, .inr (4, [.ref d0, .ref p0]))] ++ wX1 Θ d0 d1 d2 d3 d_columns d_rows d_carrier d_partMarks d_linkMarks d_operations d_pilots d_settings d_facts d_cells ++ wX3 Θ p0 p1 p2 p3 p_pitches p_spoiled p_cells p_bends p_offsets p_strokes p_goodParts p_badParts p_slugs ++ wX2 Θ l0 l1 l2 l3 u11 u12 u13 u14 u15 u16 u17 u18 ++ wX0 Θ c0 c1 c2 c_bytes c_numbers c_length c_at c_word) [0, 1, 2, 3, 4, 5] [6, 7, 8, 9, 10, 11, 12, 13, 14, 15, 16] [11, 12, 13, 14, 15, 16, 0, 1, 2, 3, 4, 5, 6, 7, 8, 9, 10] 1 dX5_digest_205 (kX5_scrap Θ F x0 n0 d0 d1 d2 d3 v0 t0 l0 c0 p0 x_oldestSaved x_savedStates d_columns d_rows d_carrier d_partMarks d_linkMarks d_operations d_pilots d_settings d_facts d_cells (1 : Int32) r24 hg) (gwV lk_7499a81d lk_89c46ba6 lk_cc13ca5e lk_5f14f758 lk_c1d0049b) rfl hvX5_scrap ⟨rfl, rfl⟩ ⟨Nat.le_of_ble_eq_true rfl, Nat.le_of_ble_eq_true rfl⟩ ⟨Nat.zero_le _, Nat.zero_le _⟩ rfl rfl (Nat.le_of_ble_eq_true rfl) 0 rfl vc5 rfl rfl rfl rfl (by decide) ?_
          refine sw_i2l 208 G dX5_digest_208 ?_
          refine sw_ladd 209 G dX5_digest_209 ?_
          cases hf
          exact sw_lret 210 G dX5_digest_210 K
        refine sw_lv [(0, .ref x0), (1, .long v4), (3, .int (0 : Int32))] [1, 2, 0] rfl ?_
        refine lp_walk (P := fun (t : Int64 × Int32) => sw Θ p e rmX5_digest s m args below meth c A Q 5 0 0 117 [(0, .ref x0), (1, .long t.1), (3, .int t.2)] [] ([(x0, .inr (5, [.ref n0, .ref v0, .int x_oldestSaved, .int x_savedStates, .ref t0, .ref l0, .ref c0]))] ++ [(n0, .inr (4, [.ref d0, .ref p0]))] ++ wX1 Θ d0 d1 d2 d3 d_columns d_rows d_carrier d_partMarks d_linkMarks d_operations d_pilots d_settings d_facts d_cells ++ wX3 Θ p0 p1 p2 p3 p_pitches p_spoiled p_cells p_bends p_offsets p_strokes p_goodParts p_badParts p_slugs ++ wX2 Θ l0 l1 l2 l3 l_operations l_limit l_gap l_bends l_greatestForce l_chosen l_touching l_forces ++ wX0 Θ c0 c1 c2 c_bytes c_numbers c_length c_at c_word)) hl (fun t117 y117 hf hin117 hex117 => ?_)
        obtain ⟨v25, v26⟩ := t117
        show sw Θ p e rmX5_digest s m args below meth c A Q 5 0 0 117 [(0, .ref x0), (1, .long v25), (3, .int v26)] [] ([(x0, .inr (5, [.ref n0, .ref v0, .int x_oldestSaved, .int x_savedStates, .ref t0, .ref l0, .ref c0]))] ++ [(n0, .inr (4, [.ref d0, .ref p0]))] ++ wX1 Θ d0 d1 d2 d3 d_columns d_rows d_carrier d_partMarks d_linkMarks d_operations d_pilots d_settings d_facts d_cells ++ wX3 Θ p0 p1 p2 p3 p_pitches p_spoiled p_cells p_bends p_offsets p_strokes p_goodParts p_badParts p_slugs ++ wX2 Θ l0 l1 l2 l3 l_operations l_limit l_gap l_bends l_greatestForce l_chosen l_touching l_forces ++ wX0 Θ c0 c1 c2 c_bytes c_numbers c_length c_at c_word)
        have hf := uc2_some (K := _) hf
        refine sw_iload_n 117 G dX5_digest_117 2 rfl ?_
        refine sw_bipush 118 G (8 : Int32) dX5_digest_118 rfl ?_
        refine sw_icmp_ge 120 136 G dX5_digest_120 rfl hf (fun hf => ?_) (fun hf => ?_)
        · cases hf
          cases hex117 _ rfl
          exact sw_lv _ [0, 1] rfl hx117_136
        · refine sw_aload_n 123 G dX5_digest_123 0 rfl ?_
          refine sw_lload_n 124 G dX5_digest_124 1 rfl ?_
          refine sw_iload_n 125 G dX5_digest_125 2 rfl ?_
          obtain ⟨r27, hg, hf⟩ := bd1_some hf
          refine sw_callV 126 G ([(x0, .inr (5, [.ref n0, .ref v0, .int x_oldestSaved, .int x_savedStates, .ref t0, .ref l0, .ref c0]))] ++ [(n0, .inr (4, [.ref d0, .ref p0]))] ++ wX1 Θ d0 d1 d2 d3 d_columns d_rows d_carrier d_partMarks d_linkMarks d_operations d_pilots d_settings d_facts d_cells ++ wX3 Θ p0 p1 p2 p3 p_pitches p_spoiled p_cells p_bends p_offsets p_strokes p_goodParts p_badParts p_slugs ++ wX2 Θ l0 l1 l2 l3 l_operations l_limit l_gap l_bends l_greatestForce l_chosen l_touching l_forces ++ wX0 Θ c0 c1 c2 c_bytes c_numbers c_length c_at c_word) [0, 1, 2, 3, 4, 5, 6, 7, 8, 9] [10, 11, 12, 13, 14, 15, 16] [7, 8, 9, 10, 11, 12, 13, 14, 15, 16, 0, 1, 2, 3, 4, 5, 6] 2 dX5_digest_126 (kX5_withStation Θ F x0 n0 d0 d1 d2 d3 p0 p1 p2 p3 v0 t0 l0 c0 x_oldestSaved x_savedStates d_columns d_rows d_carrier d_partMarks d_linkMarks d_operations d_pilots d_settings d_facts d_cells p_pitches p_spoiled p_cells p_bends p_offsets p_strokes p_goodParts p_badParts p_slugs v25 v26 r27 hg) (gwV lk_0d3e54d8 lk_0ef405a8 lk_5528814d lk_5f14f758 lk_4eb22b0b) rfl hvX5_withStation ⟨rfl, rfl⟩ ⟨Nat.le_of_ble_eq_true rfl, Nat.le_of_ble_eq_true rfl⟩ ⟨Nat.zero_le _, Nat.zero_le _⟩ rfl rfl (Nat.le_of_ble_eq_true rfl) 0 rfl vc5 rfl rfl rfl rfl (by decide) ?_
          refine sw_lstore_n 129 G [(1, .long r27), (0, .ref x0), (3, .int v26)] dX5_digest_129 (by decide) rfl ?_
          refine sw_iinc 130 G (v26 + (1 : Int32)) [(3, .int (v26 + (1 : Int32))), (1, .long r27), (0, .ref x0)] dX5_digest_130 2 rfl rfl (by decide) rfl ?_
          refine sw_goto 133 G 117 dX5_digest_133 rfl ?_
          cases hf
          have hb := hin117 _ rfl
          exact sw_lv _ [2, 1, 0] (by rfl) hb
      refine sw_lv [(0, .ref x0), (1, .long v3), (3, .int (0 : Int32))] [1, 2, 0] rfl ?_
      refine lp_walk (P := fun (t : Int64 × Int32) => sw Θ p e rmX5_digest s m args below meth c A Q 5 0 0 64 [(0, .ref x0), (1, .long t.1), (3, .int t.2)] [] ([(x0, .inr (5, [.ref n0, .ref v0, .int x_oldestSaved, .int x_savedStates, .ref t0, .ref l0, .ref c0]))] ++ [(n0, .inr (4, [.ref d0, .ref p0]))] ++ wX1 Θ d0 d1 d2 d3 d_columns d_rows d_carrier d_partMarks d_linkMarks d_operations d_pilots d_settings d_facts d_cells ++ wX3 Θ p0 p1 p2 p3 p_pitches p_spoiled p_cells p_bends p_offsets p_strokes p_goodParts p_badParts p_slugs ++ wX2 Θ l0 l1 l2 l3 l_operations l_limit l_gap l_bends l_greatestForce l_chosen l_touching l_forces ++ wX0 Θ c0 c1 c2 c_bytes c_numbers c_length c_at c_word)) hl (fun t64 y64 hf hin64 hex64 => ?_)
      obtain ⟨v28, v29⟩ := t64
      show sw Θ p e rmX5_digest s m args below meth c A Q 5 0 0 64 [(0, .ref x0), (1, .long v28), (3, .int v29)] [] ([(x0, .inr (5, [.ref n0, .ref v0, .int x_oldestSaved, .int x_savedStates, .ref t0, .ref l0, .ref c0]))] ++ [(n0, .inr (4, [.ref d0, .ref p0]))] ++ wX1 Θ d0 d1 d2 d3 d_columns d_rows d_carrier d_partMarks d_linkMarks d_operations d_pilots d_settings d_facts d_cells ++ wX3 Θ p0 p1 p2 p3 p_pitches p_spoiled p_cells p_bends p_offsets p_strokes p_goodParts p_badParts p_slugs ++ wX2 Θ l0 l1 l2 l3 l_operations l_limit l_gap l_bends l_greatestForce l_chosen l_touching l_forces ++ wX0 Θ c0 c1 c2 c_bytes c_numbers c_length c_at c_word)
      have hf := uc2_some (K := _) hf
      refine sw_iload_n 64 G dX5_digest_64 2 rfl ?_
      refine sw_aload_n 65 G dX5_digest_65 0 rfl ?_
      refine sw_get 66 G hnX5 0 0 dX5_digest_66 vc5 (by decide) (List.mem_cons_of_mem _ lk_c6576e33) rfl rfl ?_
      refine sw_get 69 G hnX4 1 0 dX5_digest_69 vc4 (by decide) (List.mem_cons_of_mem _ lk_b490f9e6) rfl rfl ?_
      refine sw_get 72 G hnX1 2 5 dX5_digest_72 vc1 (by decide) (List.mem_cons_of_mem _ lk_3b59aa98) rfl rfl ?_
      refine sw_icmp_ge 75 115 G dX5_digest_75 rfl hf (fun hf => ?_) (fun hf => ?_)
      · cases hf
        cases hex64 _ rfl
        exact sw_lv _ [0, 1] rfl hx64_115
      · refine sw_iconst 78 G (0 : Int32) dX5_digest_78 rfl ?_
        refine sw_istore 79 G [(4, .int (0 : Int32)), (0, .ref x0), (1, .long v28), (3, .int v29)] dX5_digest_79 (by decide) rfl ?_
        obtain ⟨v30, hl, hf⟩ := bd1_some hf
        have hx81_109 : sw Θ p e rmX5_digest s m args below meth c A Q 5 0 0 109 [(0, .ref x0), (1, .long v30), (3, .int v29)] [] ([(x0, .inr (5, [.ref n0, .ref v0, .int x_oldestSaved, .int x_savedStates, .ref t0, .ref l0, .ref c0]))] ++ [(n0, .inr (4, [.ref d0, .ref p0]))] ++ wX1 Θ d0 d1 d2 d3 d_columns d_rows d_carrier d_partMarks d_linkMarks d_operations d_pilots d_settings d_facts d_cells ++ wX3 Θ p0 p1 p2 p3 p_pitches p_spoiled p_cells p_bends p_offsets p_strokes p_goodParts p_badParts p_slugs ++ wX2 Θ l0 l1 l2 l3 l_operations l_limit l_gap l_bends l_greatestForce l_chosen l_touching l_forces ++ wX0 Θ c0 c1 c2 c_bytes c_numbers c_length c_at c_word) := by
          refine sw_iinc 109 G (v29 + (1 : Int32)) [(3, .int (v29 + (1 : Int32))), (0, .ref x0), (1, .long v30)] dX5_digest_109 2 rfl rfl (by decide) rfl ?_
          refine sw_goto 112 G 64 dX5_digest_112 rfl ?_
          cases hf
          have hb := hin64 _ rfl
          exact sw_lv _ [1, 2, 0] (by rfl) hb
        refine sw_lv [(0, .ref x0), (1, .long v28), (3, .int v29), (4, .int (0 : Int32))] [1, 2, 3, 0] rfl ?_
        refine lp_walk (P := fun (t : Int64 × Int32) => sw Θ p e rmX5_digest s m args below meth c A Q 5 0 0 81 [(0, .ref x0), (1, .long t.1), (3, .int v29), (4, .int t.2)] [] ([(x0, .inr (5, [.ref n0, .ref v0, .int x_oldestSaved, .int x_savedStates, .ref t0, .ref l0, .ref c0]))] ++ [(n0, .inr (4, [.ref d0, .ref p0]))] ++ wX1 Θ d0 d1 d2 d3 d_columns d_rows d_carrier d_partMarks d_linkMarks d_operations d_pilots d_settings d_facts d_cells ++ wX3 Θ p0 p1 p2 p3 p_pitches p_spoiled p_cells p_bends p_offsets p_strokes p_goodParts p_badParts p_slugs ++ wX2 Θ l0 l1 l2 l3 l_operations l_limit l_gap l_bends l_greatestForce l_chosen l_touching l_forces ++ wX0 Θ c0 c1 c2 c_bytes c_numbers c_length c_at c_word)) hl (fun t81 y81 hf hin81 hex81 => ?_)
        obtain ⟨v31, v32⟩ := t81
        show sw Θ p e rmX5_digest s m args below meth c A Q 5 0 0 81 [(0, .ref x0), (1, .long v31), (3, .int v29), (4, .int v32)] [] ([(x0, .inr (5, [.ref n0, .ref v0, .int x_oldestSaved, .int x_savedStates, .ref t0, .ref l0, .ref c0]))] ++ [(n0, .inr (4, [.ref d0, .ref p0]))] ++ wX1 Θ d0 d1 d2 d3 d_columns d_rows d_carrier d_partMarks d_linkMarks d_operations d_pilots d_settings d_facts d_cells ++ wX3 Θ p0 p1 p2 p3 p_pitches p_spoiled p_cells p_bends p_offsets p_strokes p_goodParts p_badParts p_slugs ++ wX2 Θ l0 l1 l2 l3 l_operations l_limit l_gap l_bends l_greatestForce l_chosen l_touching l_forces ++ wX0 Θ c0 c1 c2 c_bytes c_numbers c_length c_at c_word)
        have hf := uc2_some (K := _) hf
        refine sw_iload 81 G dX5_digest_81 3 rfl ?_
        refine sw_bipush 83 G (7 : Int32) dX5_digest_83 rfl ?_
        refine sw_icmp_gt 85 109 G dX5_digest_85 rfl hf (fun hf => ?_) (fun hf => ?_)
        · cases hf
          cases hex81 _ rfl
          exact sw_lv _ [0, 1, 2] rfl hx81_109
        · refine sw_ldc2 88 G (List.mem_cons_of_mem _ lk_f12f94bc) dX5_digest_88 ?_
          refine sw_lload_n 91 G dX5_digest_91 1 rfl ?_
          refine sw_lmul 92 G dX5_digest_92 ?_
          refine sw_aload_n 93 G dX5_digest_93 0 rfl ?_
          refine sw_iload_n 94 G dX5_digest_94 2 rfl ?_
          refine sw_iload 95 G dX5_digest_95 3 rfl ?_
          obtain ⟨r33, hg, hf⟩ := bd1_some hf
          refine sw_callV 97 G ([(x0, .inr (5, [.ref n0, .ref v0, .int x_oldestSaved, .int x_savedStates, .ref t0, .ref l0, .ref c0]))] ++ [(n0, .inr (4, [.ref d0, .ref p0]))] ++ wX1 Θ d0 d1 d2 d3 d_columns d_rows d_carrier d_partMarks d_linkMarks d_operations d_pilots d_settings d_facts d_cells ++ wX3 Θ p0 p1 p2 p3 p_pitches p_spoiled p_cells p_bends p_offsets p_strokes p_goodParts p_badParts p_slugs ++ wX2 Θ l0 l1 l2 l3 l_operations l_limit l_gap l_bends l_greatestForce l_chosen l_touching l_forces ++ wX0 Θ c0 c1 c2 c_bytes c_numbers c_length c_at c_word) [0, 1, 2, 3, 4, 5] [6, 7, 8, 9, 10, 11, 12, 13, 14, 15, 16] [11, 12, 13, 14, 15, 16, 0, 1, 2, 3, 4, 5, 6, 7, 8, 9, 10] 2 dX5_digest_97 (kX5_operation Θ F x0 n0 d0 d1 d2 d3 v0 t0 l0 c0 p0 x_oldestSaved x_savedStates d_columns d_rows d_carrier d_partMarks d_linkMarks d_operations d_pilots d_settings d_facts d_cells v29 v32 r33 hg) (gwV lk_c34baf88 lk_a2e0504c lk_1df469a9 lk_5f14f758 lk_91b5c7da) rfl hvX5_operation ⟨rfl, rfl⟩ ⟨Nat.le_of_ble_eq_true rfl, Nat.le_of_ble_eq_true rfl⟩ ⟨Nat.zero_le _, Nat.zero_le _⟩ rfl rfl (Nat.le_of_ble_eq_true rfl) 0 rfl vc5 rfl rfl rfl rfl (by decide) ?_
          refine sw_i2l 100 G dX5_digest_100 ?_
          refine sw_ladd 101 G dX5_digest_101 ?_
          refine sw_nml hf (fun v34 hf => ?_)
          refine sw_lstore_n 102 G [(1, .long v34), (0, .ref x0), (3, .int v29), (4, .int v32)] dX5_digest_102 (by decide) rfl ?_
          refine sw_iinc 103 G (v32 + (1 : Int32)) [(4, .int (v32 + (1 : Int32))), (1, .long v34), (0, .ref x0), (3, .int v29)] dX5_digest_103 3 rfl rfl (by decide) rfl ?_
          refine sw_goto 106 G 81 dX5_digest_106 rfl ?_
          cases hf
          have hb := hin81 _ rfl
          exact sw_lv _ [2, 1, 3, 0] (by rfl) hb
    refine sw_lv [(0, .ref x0), (1, .long v2), (3, .int (0 : Int32))] [1, 2, 0] rfl ?_
    refine lp_walk (P := fun (t : Int64 × Int32) => sw Θ p e rmX5_digest s m args below meth c A Q 5 0 0 39 [(0, .ref x0), (1, .long t.1), (3, .int t.2)] [] ([(x0, .inr (5, [.ref n0, .ref v0, .int x_oldestSaved, .int x_savedStates, .ref t0, .ref l0, .ref c0]))] ++ [(n0, .inr (4, [.ref d0, .ref p0]))] ++ wX1 Θ d0 d1 d2 d3 d_columns d_rows d_carrier d_partMarks d_linkMarks d_operations d_pilots d_settings d_facts d_cells ++ wX3 Θ p0 p1 p2 p3 p_pitches p_spoiled p_cells p_bends p_offsets p_strokes p_goodParts p_badParts p_slugs ++ wX2 Θ l0 l1 l2 l3 l_operations l_limit l_gap l_bends l_greatestForce l_chosen l_touching l_forces ++ wX0 Θ c0 c1 c2 c_bytes c_numbers c_length c_at c_word)) hl (fun t39 y39 hf hin39 hex39 => ?_)
    obtain ⟨v35, v36⟩ := t39
    show sw Θ p e rmX5_digest s m args below meth c A Q 5 0 0 39 [(0, .ref x0), (1, .long v35), (3, .int v36)] [] ([(x0, .inr (5, [.ref n0, .ref v0, .int x_oldestSaved, .int x_savedStates, .ref t0, .ref l0, .ref c0]))] ++ [(n0, .inr (4, [.ref d0, .ref p0]))] ++ wX1 Θ d0 d1 d2 d3 d_columns d_rows d_carrier d_partMarks d_linkMarks d_operations d_pilots d_settings d_facts d_cells ++ wX3 Θ p0 p1 p2 p3 p_pitches p_spoiled p_cells p_bends p_offsets p_strokes p_goodParts p_badParts p_slugs ++ wX2 Θ l0 l1 l2 l3 l_operations l_limit l_gap l_bends l_greatestForce l_chosen l_touching l_forces ++ wX0 Θ c0 c1 c2 c_bytes c_numbers c_length c_at c_word)
    have hf := uc2_some (K := _) hf
    refine sw_iload_n 39 G dX5_digest_39 2 rfl ?_
    refine sw_iconst 40 G (5 : Int32) dX5_digest_40 rfl ?_
    refine sw_icmp_gt 41 62 G dX5_digest_41 rfl hf (fun hf => ?_) (fun hf => ?_)
    · cases hf
      cases hex39 _ rfl
      exact sw_lv _ [0, 1] rfl hx39_62
    · refine sw_ldc2 44 G (List.mem_cons_of_mem _ lk_f12f94bc) dX5_digest_44 ?_
      refine sw_lload_n 47 G dX5_digest_47 1 rfl ?_
      refine sw_lmul 48 G dX5_digest_48 ?_
      refine sw_aload_n 49 G dX5_digest_49 0 rfl ?_
      refine sw_iload_n 50 G dX5_digest_50 2 rfl ?_
      obtain ⟨r37, hg, hf⟩ := bd1_some hf
      refine sw_callV 51 G ([(x0, .inr (5, [.ref n0, .ref v0, .int x_oldestSaved, .int x_savedStates, .ref t0, .ref l0, .ref c0]))] ++ [(n0, .inr (4, [.ref d0, .ref p0]))] ++ wX1 Θ d0 d1 d2 d3 d_columns d_rows d_carrier d_partMarks d_linkMarks d_operations d_pilots d_settings d_facts d_cells ++ wX3 Θ p0 p1 p2 p3 p_pitches p_spoiled p_cells p_bends p_offsets p_strokes p_goodParts p_badParts p_slugs ++ wX2 Θ l0 l1 l2 l3 l_operations l_limit l_gap l_bends l_greatestForce l_chosen l_touching l_forces ++ wX0 Θ c0 c1 c2 c_bytes c_numbers c_length c_at c_word) [0, 1, 2, 3, 4, 5] [6, 7, 8, 9, 10, 11, 12, 13, 14, 15, 16] [11, 12, 13, 14, 15, 16, 0, 1, 2, 3, 4, 5, 6, 7, 8, 9, 10] 1 dX5_digest_51 (kX5_cellSet Θ F x0 n0 d0 d1 d2 d3 v0 t0 l0 c0 p0 x_oldestSaved x_savedStates d_columns d_rows d_carrier d_partMarks d_linkMarks d_operations d_pilots d_settings d_facts d_cells v36 r37 hg) (gwV lk_85c85b19 lk_0c6f94f4 lk_105ccd88 lk_5f14f758 lk_2d194fb3) rfl hvX5_cellSet ⟨rfl, rfl⟩ ⟨Nat.le_of_ble_eq_true rfl, Nat.le_of_ble_eq_true rfl⟩ ⟨Nat.zero_le _, Nat.zero_le _⟩ rfl rfl (Nat.le_of_ble_eq_true rfl) 0 rfl vc5 rfl rfl rfl rfl (by decide) ?_
      refine sw_ladd 54 G dX5_digest_54 ?_
      refine sw_nml hf (fun v38 hf => ?_)
      refine sw_lstore_n 55 G [(1, .long v38), (0, .ref x0), (3, .int v36)] dX5_digest_55 (by decide) rfl ?_
      refine sw_iinc 56 G (v36 + (1 : Int32)) [(3, .int (v36 + (1 : Int32))), (1, .long v38), (0, .ref x0)] dX5_digest_56 2 rfl rfl (by decide) rfl ?_
      refine sw_goto 59 G 39 dX5_digest_59 rfl ?_
      cases hf
      have hb := hin39 _ rfl
      exact sw_lv _ [2, 1, 0] (by rfl) hb
  refine sw_lv [(0, .ref x0), (1, .long v1), (3, .int (0 : Int32))] [2, 1, 0] rfl ?_
  refine lp_walk (P := fun (t : Int64 × Int32) => sw Θ p e rmX5_digest s m args below meth c A Q 5 0 0 12 [(0, .ref x0), (1, .long t.1), (3, .int t.2)] [] ([(x0, .inr (5, [.ref n0, .ref v0, .int x_oldestSaved, .int x_savedStates, .ref t0, .ref l0, .ref c0]))] ++ [(n0, .inr (4, [.ref d0, .ref p0]))] ++ wX1 Θ d0 d1 d2 d3 d_columns d_rows d_carrier d_partMarks d_linkMarks d_operations d_pilots d_settings d_facts d_cells ++ wX3 Θ p0 p1 p2 p3 p_pitches p_spoiled p_cells p_bends p_offsets p_strokes p_goodParts p_badParts p_slugs ++ wX2 Θ l0 l1 l2 l3 l_operations l_limit l_gap l_bends l_greatestForce l_chosen l_touching l_forces ++ wX0 Θ c0 c1 c2 c_bytes c_numbers c_length c_at c_word)) hl (fun t12 y12 hf hin12 hex12 => ?_)
  obtain ⟨v39, v40⟩ := t12
  show sw Θ p e rmX5_digest s m args below meth c A Q 5 0 0 12 [(0, .ref x0), (1, .long v39), (3, .int v40)] [] ([(x0, .inr (5, [.ref n0, .ref v0, .int x_oldestSaved, .int x_savedStates, .ref t0, .ref l0, .ref c0]))] ++ [(n0, .inr (4, [.ref d0, .ref p0]))] ++ wX1 Θ d0 d1 d2 d3 d_columns d_rows d_carrier d_partMarks d_linkMarks d_operations d_pilots d_settings d_facts d_cells ++ wX3 Θ p0 p1 p2 p3 p_pitches p_spoiled p_cells p_bends p_offsets p_strokes p_goodParts p_badParts p_slugs ++ wX2 Θ l0 l1 l2 l3 l_operations l_limit l_gap l_bends l_greatestForce l_chosen l_touching l_forces ++ wX0 Θ c0 c1 c2 c_bytes c_numbers c_length c_at c_word)
  have hf := uc2_some (K := _) hf
  refine sw_iload_n 12 G dX5_digest_12 2 rfl ?_
  refine sw_bipush 13 G (16 : Int32) dX5_digest_13 rfl ?_
  refine sw_icmp_gt 15 37 G dX5_digest_15 rfl hf (fun hf => ?_) (fun hf => ?_)
  · cases hf
    cases hex12 _ rfl
    exact sw_lv _ [0, 1] rfl hx12_37
  · refine sw_ldc2 18 G (List.mem_cons_of_mem _ lk_f12f94bc) dX5_digest_18 ?_
    refine sw_lload_n 21 G dX5_digest_21 1 rfl ?_
    refine sw_lmul 22 G dX5_digest_22 ?_
    refine sw_aload_n 23 G dX5_digest_23 0 rfl ?_
    refine sw_iload_n 24 G dX5_digest_24 2 rfl ?_
    obtain ⟨r41, hg, hf⟩ := bd1_some hf
    refine sw_callV 25 G ([(x0, .inr (5, [.ref n0, .ref v0, .int x_oldestSaved, .int x_savedStates, .ref t0, .ref l0, .ref c0]))] ++ [(n0, .inr (4, [.ref d0, .ref p0]))] ++ wX1 Θ d0 d1 d2 d3 d_columns d_rows d_carrier d_partMarks d_linkMarks d_operations d_pilots d_settings d_facts d_cells ++ wX3 Θ p0 p1 p2 p3 p_pitches p_spoiled p_cells p_bends p_offsets p_strokes p_goodParts p_badParts p_slugs ++ wX2 Θ l0 l1 l2 l3 l_operations l_limit l_gap l_bends l_greatestForce l_chosen l_touching l_forces ++ wX0 Θ c0 c1 c2 c_bytes c_numbers c_length c_at c_word) [0, 1, 2, 3, 4, 5, 6, 7, 8, 9, 14, 15, 16] [10, 11, 12, 13] [4, 5, 6, 7, 8, 9, 10, 11, 12, 13, 0, 1, 2, 3, 14, 15, 16] 1 dX5_digest_25 (kX5_whole Θ F x0 n0 d0 d1 d2 d3 p0 p1 p2 p3 c0 c1 c2 v0 t0 l0 x_oldestSaved x_savedStates d_columns d_rows d_carrier d_partMarks d_linkMarks d_operations d_pilots d_settings d_facts d_cells p_pitches p_spoiled p_cells p_bends p_offsets p_strokes p_goodParts p_badParts p_slugs c_bytes c_numbers c_length c_at c_word v40 r41 hg) (gwV lk_c3e12248 lk_00a700e4 lk_1397dd5c lk_5f14f758 lk_141fdf1b) rfl hvX5_whole ⟨rfl, rfl⟩ ⟨Nat.le_of_ble_eq_true rfl, Nat.le_of_ble_eq_true rfl⟩ ⟨Nat.zero_le _, Nat.zero_le _⟩ rfl rfl (Nat.le_of_ble_eq_true rfl) 0 rfl vc5 rfl rfl rfl rfl (by decide) ?_
    refine sw_i2l 28 G dX5_digest_28 ?_
    refine sw_ladd 29 G dX5_digest_29 ?_
    refine sw_nml hf (fun v42 hf => ?_)
    refine sw_lstore_n 30 G [(1, .long v42), (0, .ref x0), (3, .int v40)] dX5_digest_30 (by decide) rfl ?_
    refine sw_iinc 31 G (v40 + (1 : Int32)) [(3, .int (v40 + (1 : Int32))), (1, .long v42), (0, .ref x0)] dX5_digest_31 2 rfl rfl (by decide) rfl ?_
    refine sw_goto 34 G 12 dX5_digest_34 rfl ?_
    cases hf
    have hb := hin12 _ rfl
    exact sw_lv _ [2, 1, 0] (by rfl) hb
