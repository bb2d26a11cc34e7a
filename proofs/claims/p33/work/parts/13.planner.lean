abbrev rmX2_prepare : Room := { frames := 3, cells := 0, slots := 0, locals := 84 }
theorem hvX2_prepare : yX2_prepare.cls = RX2 ∧ yX2_prepare.cls ≠ "java/lang/invoke/MethodHandle" ∧ yX2_prepare.cls ≠ "java/lang/invoke/VarHandle" ∧ (parseMethodDescriptor yX2_prepare.desc).map (fun d => d.parameters.length) = some 1 := by decide +kernel
set_option maxRecDepth 100000 in
set_option maxHeartbeats 4000000 in
theorem kX2_prepare (Θ : Tht) (F : Nat) (l0 l1 l2 l3 d0 d1 d2 d3 : Nat) (l_operations : Int32) (l_limit : Int32) (l_gap : Int32) (l_bends : Int32) (l_greatestForce : Int32) (l_chosen : Nat → Int32) (l_touching : Nat → Int32) (l_forces : Nat → Int32) (d_columns : Int32) (d_rows : Int32) (d_carrier : Int32) (d_partMarks : Int64) (d_linkMarks : Int64) (d_operations : Int32) (d_pilots : Int32) (d_settings : Nat → Int32) (d_facts : Nat → Int32) (d_cells : Nat → Int64) (o_l_operations : Int32) (o_l_gap : Int32) (o_l_bends : Int32) (o_l_greatestForce : Int32) (o_l_touching : Nat → Int32) (o_l_forces : Nat → Int32) (hf : fX2_prepare F l_touching l_forces d_columns d_rows d_operations d_settings d_facts d_cells = some (o_l_operations, o_l_gap, o_l_bends, o_l_greatestForce, o_l_touching, o_l_forces)) : Fn Θ yX2_prepare (Cond.code yX2_prepare cX2_prepare 3 none :: GW) rmX2_prepare [.ref l0, .ref d0] (wX2 Θ l0 l1 l2 l3 l_operations l_limit l_gap l_bends l_greatestForce l_chosen l_touching l_forces ++ wX1 Θ d0 d1 d2 d3 d_columns d_rows d_carrier d_partMarks d_linkMarks d_operations d_pilots d_settings d_facts d_cells) none (wX2 Θ l0 l1 l2 l3 o_l_operations l_limit o_l_gap o_l_bends o_l_greatestForce l_chosen o_l_touching o_l_forces ++ wX1 Θ d0 d1 d2 d3 d_columns d_rows d_carrier d_partMarks d_linkMarks d_operations d_pilots d_settings d_facts d_cells) := by
  delta fX2_prepare at hf
  refine Fn.of (by decide +kernel) rfl (Nat.le_of_ble_eq_true rfl) (fun p e s m args below meth c A Q G K => ?_)
  show sw Θ p e rmX2_prepare s m args below meth c A Q 3 0 0 0 [(0, .ref l0), (1, .ref d0)] [] (wX2 Θ l0 l1 l2 l3 l_operations l_limit l_gap l_bends l_greatestForce l_chosen l_touching l_forces ++ wX1 Θ d0 d1 d2 d3 d_columns d_rows d_carrier d_partMarks d_linkMarks d_operations d_pilots d_settings d_facts d_cells)
  refine sw_aload_n 0 G dX2_prepare_0 0 rfl ?_
  refine sw_aload_n 1 G dX2_prepare_1 1 rfl ?_
  refine sw_get 2 G hnX1 4 5 dX2_prepare_2 vc1 (by decide) (List.mem_cons_of_mem _ lk_5228f9e0) rfl rfl ?_
  refine sw_bipush 5 G (6 : Int32) dX2_prepare_5 rfl ?_
  refine sw_mmin 7 G dX2_prepare_7 (List.mem_cons_of_mem _ lk_fede3493) (List.mem_cons_of_mem _ lk_6443835c) (List.mem_cons_of_mem _ lk_544deca7) (List.mem_cons_of_mem _ lk_4cca8523) (Nat.le_of_ble_eq_true rfl) (Nat.le_of_ble_eq_true rfl) ⟨Nat.zero_le _, Nat.zero_le _⟩ ?_
  refine sw_nmi hf (fun v1 hf => ?_)
  refine sw_put 10 G hnX2 tyX2_ok nmX2 0 0 (wX2 Θ l0 l1 l2 l3 v1 l_limit l_gap l_bends l_greatestForce l_chosen l_touching l_forces ++ wX1 Θ d0 d1 d2 d3 d_columns d_rows d_carrier d_partMarks d_linkMarks d_operations d_pilots d_settings d_facts d_cells) dX2_prepare_10 vc2 (by decide) (List.mem_cons_of_mem _ lk_7a707274) rfl rfl (Nat.le_of_ble_eq_true rfl) (tyX2_ok 0 (by decide)) rfl rfl rfl ?_
  refine sw_aload_n 13 G dX2_prepare_13 0 rfl ?_
  refine sw_aload_n 14 G dX2_prepare_14 1 rfl ?_
  refine sw_iconst 15 G (1 : Int32) dX2_prepare_15 rfl ?_
  obtain ⟨r2, hg, hf⟩ := bd1_some hf
  refine sw_callV 16 G (wX2 Θ l0 l1 l2 l3 v1 l_limit l_gap l_bends l_greatestForce l_chosen l_touching l_forces ++ wX1 Θ d0 d1 d2 d3 d_columns d_rows d_carrier d_partMarks d_linkMarks d_operations d_pilots d_settings d_facts d_cells) [4, 5, 6, 7] [0, 1, 2, 3] [0, 1, 2, 3, 4, 5, 6, 7] 1 dX2_prepare_16 (kX1_setting Θ d0 d1 d2 d3 d_columns d_rows d_carrier d_partMarks d_linkMarks d_operations d_pilots d_settings d_facts d_cells (1 : Int32) r2 hg) (gwV lk_95d46e4b lk_6c5b2bed lk_42f14101 lk_cf66e99d lk_45fed558) rfl hvX1_setting ⟨rfl, rfl⟩ ⟨Nat.le_of_ble_eq_true rfl, Nat.le_of_ble_eq_true rfl⟩ ⟨Nat.zero_le _, Nat.zero_le _⟩ rfl rfl (Nat.le_of_ble_eq_true rfl) 0 rfl vc1 rfl rfl rfl rfl (by decide) ?_
  refine sw_put 19 G hnX2 tyX2_ok nmX2 0 2 (wX2 Θ l0 l1 l2 l3 v1 l_limit r2 l_bends l_greatestForce l_chosen l_touching l_forces ++ wX1 Θ d0 d1 d2 d3 d_columns d_rows d_carrier d_partMarks d_linkMarks d_operations d_pilots d_settings d_facts d_cells) dX2_prepare_19 vc2 (by decide) (List.mem_cons_of_mem _ lk_6e65e578) rfl rfl (Nat.le_of_ble_eq_true rfl) (tyX2_ok 2 (by decide)) rfl rfl rfl ?_
  refine sw_aload_n 22 G dX2_prepare_22 0 rfl ?_
  refine sw_iconst 23 G (0 : Int32) dX2_prepare_23 rfl ?_
  refine sw_put 24 G hnX2 tyX2_ok nmX2 0 3 (wX2 Θ l0 l1 l2 l3 v1 l_limit r2 (0 : Int32) l_greatestForce l_chosen l_touching l_forces ++ wX1 Θ d0 d1 d2 d3 d_columns d_rows d_carrier d_partMarks d_linkMarks d_operations d_pilots d_settings d_facts d_cells) dX2_prepare_24 vc2 (by decide) (List.mem_cons_of_mem _ lk_ed2a58fa) rfl rfl (Nat.le_of_ble_eq_true rfl) (tyX2_ok 3 (by decide)) rfl rfl rfl ?_
  refine sw_aload_n 27 G dX2_prepare_27 0 rfl ?_
  refine sw_iconst 28 G (0 : Int32) dX2_prepare_28 rfl ?_
  refine sw_put 29 G hnX2 tyX2_ok nmX2 0 4 (wX2 Θ l0 l1 l2 l3 v1 l_limit r2 (0 : Int32) (0 : Int32) l_chosen l_touching l_forces ++ wX1 Θ d0 d1 d2 d3 d_columns d_rows d_carrier d_partMarks d_linkMarks d_operations d_pilots d_settings d_facts d_cells) dX2_prepare_29 vc2 (by decide) (List.mem_cons_of_mem _ lk_d1c8c9f5) rfl rfl (Nat.le_of_ble_eq_true rfl) (tyX2_ok 4 (by decide)) rfl rfl rfl ?_
  refine sw_iconst 32 G (0 : Int32) dX2_prepare_32 rfl ?_
  refine sw_istore_n 33 G [(2, .int (0 : Int32)), (0, .ref l0), (1, .ref d0)] dX2_prepare_33 (by decide) rfl ?_
  obtain ⟨v3, v4, v5, v6, hl, hf⟩ := bd4_some hf
  have hx34_128 : sw Θ p e rmX2_prepare s m args below meth c A Q 3 0 0 128 [] [] (wX2 Θ l0 l1 l2 l3 v1 l_limit r2 v3 v4 l_chosen v5 v6 ++ wX1 Θ d0 d1 d2 d3 d_columns d_rows d_carrier d_partMarks d_linkMarks d_operations d_pilots d_settings d_facts d_cells) := by
    cases hf
    exact sw_vret 128 G dX2_prepare_128 K
  refine sw_lv [(0, .ref l0), (1, .ref d0), (2, .int (0 : Int32))] [1, 2, 0] rfl ?_
  refine lp_walk (P := fun (t : Int32 × Int32 × Int32 × (Nat → Int32) × (Nat → Int32)) => sw Θ p e rmX2_prepare s m args below meth c A Q 3 0 0 34 [(0, .ref l0), (1, .ref d0), (2, .int t.1)] [] (wX2 Θ l0 l1 l2 l3 v1 l_limit r2 t.2.1 t.2.2.1 l_chosen t.2.2.2.1 t.2.2.2.2 ++ wX1 Θ d0 d1 d2 d3 d_columns d_rows d_carrier d_partMarks d_linkMarks d_operations d_pilots d_settings d_facts d_cells)) hl (fun t34 y34 hf hin34 hex34 => ?_)
  obtain ⟨v7, v8, v9, v10, v11⟩ := t34
  show sw Θ p e rmX2_prepare s m args below meth c A Q 3 0 0 34 [(0, .ref l0), (1, .ref d0), (2, .int v7)] [] (wX2 Θ l0 l1 l2 l3 v1 l_limit r2 v8 v9 l_chosen v10 v11 ++ wX1 Θ d0 d1 d2 d3 d_columns d_rows d_carrier d_partMarks d_linkMarks d_operations d_pilots d_settings d_facts d_cells)
  have hf := uc5_some (K := _) hf
  refine sw_iload_n 34 G dX2_prepare_34 2 rfl ?_
  refine sw_aload_n 35 G dX2_prepare_35 0 rfl ?_
  refine sw_get 36 G hnX2 0 0 dX2_prepare_36 vc2 (by decide) (List.mem_cons_of_mem _ lk_7a707274) rfl rfl ?_
  refine sw_icmp_ge 39 128 G dX2_prepare_39 rfl hf (fun hf => ?_) (fun hf => ?_)
  · cases hf
    cases hex34 _ rfl
    exact sw_lv _ [] rfl hx34_128
  · refine sw_iload_n 42 G dX2_prepare_42 2 rfl ?_
    refine sw_aload_n 43 G dX2_prepare_43 0 rfl ?_
    refine sw_get 44 G hnX2 0 6 dX2_prepare_44 vc2 (by decide) (List.mem_cons_of_mem _ lk_e4aeaa24) rfl rfl ?_
    refine sw_alen 47 G 2 1 (6 : Int32) dX2_prepare_47 rfl rfl rfl ?_
    refine sw_icmp_ge 48 128 G dX2_prepare_48 rfl hf (fun hf => ?_) (fun hf => ?_)
    · cases hf
      cases hex34 _ rfl
      exact sw_lv _ [] rfl hx34_128
    · refine sw_iload_n 51 G dX2_prepare_51 2 rfl ?_
      refine sw_aload_n 52 G dX2_prepare_52 0 rfl ?_
      refine sw_get 53 G hnX2 0 7 dX2_prepare_53 vc2 (by decide) (List.mem_cons_of_mem _ lk_2a83af4d) rfl rfl ?_
      refine sw_alen 56 G 3 1 (6 : Int32) dX2_prepare_56 rfl rfl rfl ?_
      refine sw_icmp_ge 57 128 G dX2_prepare_57 rfl hf (fun hf => ?_) (fun hf => ?_)
      · cases hf
        cases hex34 _ rfl
        exact sw_lv _ [] rfl hx34_128
      · refine sw_aload_n 60 G dX2_prepare_60 0 rfl ?_
        refine sw_get 61 G hnX2 0 6 dX2_prepare_61 vc2 (by decide) (List.mem_cons_of_mem _ lk_e4aeaa24) rfl rfl ?_
        refine sw_iload_n 64 G dX2_prepare_64 2 rfl ?_
        refine sw_aload_n 65 G dX2_prepare_65 1 rfl ?_
        refine sw_iload_n 66 G dX2_prepare_66 2 rfl ?_
        obtain ⟨r12, hg, hf⟩ := bd1_some hf
        refine sw_callV 67 G (wX2 Θ l0 l1 l2 l3 v1 l_limit r2 v8 v9 l_chosen v10 v11 ++ wX1 Θ d0 d1 d2 d3 d_columns d_rows d_carrier d_partMarks d_linkMarks d_operations d_pilots d_settings d_facts d_cells) [4, 5, 6, 7] [0, 1, 2, 3] [0, 1, 2, 3, 4, 5, 6, 7] 1 dX2_prepare_67 (kX1_touching Θ F d0 d1 d2 d3 d_columns d_rows d_carrier d_partMarks d_linkMarks d_operations d_pilots d_settings d_facts d_cells v7 r12 hg) (gwV lk_6c5a29a2 lk_fbf09312 lk_32ac6146 lk_cf66e99d lk_4d7935db) rfl hvX1_touching ⟨rfl, rfl⟩ ⟨Nat.le_of_ble_eq_true rfl, Nat.le_of_ble_eq_true rfl⟩ ⟨Nat.zero_le _, Nat.zero_le _⟩ rfl rfl (Nat.le_of_ble_eq_true rfl) 0 rfl vc1 rfl rfl rfl rfl (by decide) ?_
        refine sw_iast 70 G 2 (wX2 Θ l0 l1 l2 l3 v1 l_limit r2 v8 v9 l_chosen (upd v10 v7.toNatClampNeg r12) v11 ++ wX1 Θ d0 d1 d2 d3 d_columns d_rows d_carrier d_partMarks d_linkMarks d_operations d_pilots d_settings d_facts d_cells) dX2_prepare_70 rfl rfl hf (fun hf => ?_)
        refine sw_aload_n 71 G dX2_prepare_71 0 rfl ?_
        refine sw_get 72 G hnX2 0 7 dX2_prepare_72 vc2 (by decide) (List.mem_cons_of_mem _ lk_2a83af4d) rfl rfl ?_
        refine sw_iload_n 75 G dX2_prepare_75 2 rfl ?_
        refine sw_aload_n 76 G dX2_prepare_76 1 rfl ?_
        refine sw_iload_n 77 G dX2_prepare_77 2 rfl ?_
        refine sw_iconst 78 G (5 : Int32) dX2_prepare_78 rfl ?_
        obtain ⟨r13, hg, hf⟩ := bd1_some hf
        refine sw_callV 79 G (wX2 Θ l0 l1 l2 l3 v1 l_limit r2 v8 v9 l_chosen (upd v10 v7.toNatClampNeg r12) v11 ++ wX1 Θ d0 d1 d2 d3 d_columns d_rows d_carrier d_partMarks d_linkMarks d_operations d_pilots d_settings d_facts d_cells) [4, 5, 6, 7] [0, 1, 2, 3] [0, 1, 2, 3, 4, 5, 6, 7] 2 dX2_prepare_79 (kX1_fact Θ d0 d1 d2 d3 d_columns d_rows d_carrier d_partMarks d_linkMarks d_operations d_pilots d_settings d_facts d_cells v7 (5 : Int32) r13 hg) (gwV lk_cec0960f lk_e025dfb3 lk_773339a1 lk_cf66e99d lk_334ef9fb) rfl hvX1_fact ⟨rfl, rfl⟩ ⟨Nat.le_of_ble_eq_true rfl, Nat.le_of_ble_eq_true rfl⟩ ⟨Nat.zero_le _, Nat.zero_le _⟩ rfl rfl (Nat.le_of_ble_eq_true rfl) 0 rfl vc1 rfl rfl rfl rfl (by decide) ?_
        refine sw_iast 82 G 3 (wX2 Θ l0 l1 l2 l3 v1 l_limit r2 v8 v9 l_chosen (upd v10 v7.toNatClampNeg r12) (upd v11 v7.toNatClampNeg r13) ++ wX1 Θ d0 d1 d2 d3 d_columns d_rows d_carrier d_partMarks d_linkMarks d_operations d_pilots d_settings d_facts d_cells) dX2_prepare_82 rfl rfl hf (fun hf => ?_)
        refine sw_aload_n 83 G dX2_prepare_83 0 rfl ?_
        refine sw_aload_n 84 G dX2_prepare_84 0 rfl ?_
        refine sw_get 85 G hnX2 0 4 dX2_prepare_85 vc2 (by decide) (List.mem_cons_of_mem _ lk_d1c8c9f5) rfl rfl ?_
        refine sw_aload_n 88 G dX2_prepare_88 0 rfl ?_
        refine sw_get 89 G hnX2 0 7 dX2_prepare_89 vc2 (by decide) (List.mem_cons_of_mem _ lk_2a83af4d) rfl rfl ?_
        refine sw_iload_n 92 G dX2_prepare_92 2 rfl ?_
        refine sw_iald 93 G 3 dX2_prepare_93 rfl hf (fun hf => ?_)
        refine sw_mmax 94 G dX2_prepare_94 (List.mem_cons_of_mem _ lk_9970792d) (List.mem_cons_of_mem _ lk_8b9497d0) (List.mem_cons_of_mem _ lk_544deca7) (List.mem_cons_of_mem _ lk_7292adb7) (Nat.le_of_ble_eq_true rfl) (Nat.le_of_ble_eq_true rfl) ⟨Nat.zero_le _, Nat.zero_le _⟩ ?_
        refine sw_nmi hf (fun v14 hf => ?_)
        refine sw_put 97 G hnX2 tyX2_ok nmX2 0 4 (wX2 Θ l0 l1 l2 l3 v1 l_limit r2 v8 v14 l_chosen (upd v10 v7.toNatClampNeg r12) (upd v11 v7.toNatClampNeg r13) ++ wX1 Θ d0 d1 d2 d3 d_columns d_rows d_carrier d_partMarks d_linkMarks d_operations d_pilots d_settings d_facts d_cells) dX2_prepare_97 vc2 (by decide) (List.mem_cons_of_mem _ lk_d1c8c9f5) rfl rfl (Nat.le_of_ble_eq_true rfl) (tyX2_ok 4 (by decide)) rfl rfl rfl ?_
        refine sw_aload_n 100 G dX2_prepare_100 1 rfl ?_
        refine sw_iload_n 101 G dX2_prepare_101 2 rfl ?_
        refine sw_iconst 102 G (0 : Int32) dX2_prepare_102 rfl ?_
        obtain ⟨r15, hg, hf⟩ := bd1_some hf
        refine sw_callV 103 G (wX2 Θ l0 l1 l2 l3 v1 l_limit r2 v8 v14 l_chosen (upd v10 v7.toNatClampNeg r12) (upd v11 v7.toNatClampNeg r13) ++ wX1 Θ d0 d1 d2 d3 d_columns d_rows d_carrier d_partMarks d_linkMarks d_operations d_pilots d_settings d_facts d_cells) [4, 5, 6, 7] [0, 1, 2, 3] [0, 1, 2, 3, 4, 5, 6, 7] 2 dX2_prepare_103 (kX1_fact Θ d0 d1 d2 d3 d_columns d_rows d_carrier d_partMarks d_linkMarks d_operations d_pilots d_settings d_facts d_cells v7 (0 : Int32) r15 hg) (gwV lk_cec0960f lk_e025dfb3 lk_773339a1 lk_cf66e99d lk_334ef9fb) rfl hvX1_fact ⟨rfl, rfl⟩ ⟨Nat.le_of_ble_eq_true rfl, Nat.le_of_ble_eq_true rfl⟩ ⟨Nat.zero_le _, Nat.zero_le _⟩ rfl rfl (Nat.le_of_ble_eq_true rfl) 0 rfl vc1 rfl rfl rfl rfl (by decide) ?_
        refine sw_iconst 106 G (1 : Int32) dX2_prepare_106 rfl ?_
        obtain ⟨v16, hj, hf⟩ := bd1_some hf
        have hx122 : sw Θ p e rmX2_prepare s m args below meth c A Q 3 0 0 122 [(0, .ref l0), (1, .ref d0), (2, .int v7)] [] (wX2 Θ l0 l1 l2 l3 v1 l_limit r2 v16 v14 l_chosen (upd v10 v7.toNatClampNeg r12) (upd v11 v7.toNatClampNeg r13) ++ wX1 Θ d0 d1 d2 d3 d_columns d_rows d_carrier d_partMarks d_linkMarks d_operations d_pilots d_settings d_facts d_cells) := by
          refine sw_iinc 122 G (v7 + (1 : Int32)) [(2, .int (v7 + (1 : Int32))), (0, .ref l0), (1, .ref d0)] dX2_prepare_122 2 rfl rfl (by decide) rfl ?_
          refine sw_goto 125 G 34 dX2_prepare_125 rfl ?_
          cases hf
          have hb := hin34 _ rfl
          exact sw_lv _ [1, 2, 0] (by rfl) hb
        clear hf
        have hf := hj
        clear hj
        refine sw_icmp_ne 107 122 G dX2_prepare_107 rfl hf (fun hf => ?_) (fun hf => ?_)
        · cases hf
          exact sw_lv _ [0, 1, 2] rfl hx122
        · refine sw_aload_n 110 G dX2_prepare_110 0 rfl ?_
          refine sw_dup 111 G dX2_prepare_111 rfl ?_
          refine sw_get 112 G hnX2 0 3 dX2_prepare_112 vc2 (by decide) (List.mem_cons_of_mem _ lk_ed2a58fa) rfl rfl ?_
          refine sw_iconst 115 G (1 : Int32) dX2_prepare_115 rfl ?_
          refine sw_iload_n 116 G dX2_prepare_116 2 rfl ?_
          refine sw_ishl 117 G dX2_prepare_117 ?_
          refine sw_ior 118 G dX2_prepare_118 ?_
          refine sw_nmi hf (fun v17 hf => ?_)
          refine sw_put 119 G hnX2 tyX2_ok nmX2 0 3 (wX2 Θ l0 l1 l2 l3 v1 l_limit r2 v17 v14 l_chosen (upd v10 v7.toNatClampNeg r12) (upd v11 v7.toNatClampNeg r13) ++ wX1 Θ d0 d1 d2 d3 d_columns d_rows d_carrier d_partMarks d_linkMarks d_operations d_pilots d_settings d_facts d_cells) dX2_prepare_119 vc2 (by decide) (List.mem_cons_of_mem _ lk_ed2a58fa) rfl rfl (Nat.le_of_ble_eq_true rfl) (tyX2_ok 3 (by decide)) rfl rfl rfl ?_
          cases hf
          exact sw_lv _ [0, 1, 2] rfl hx122
abbrev rmX2_touchingOf : Room := { frames := 0, cells := 0, slots := 0, locals := 0 }
theorem hvX2_touchingOf : yX2_touchingOf.cls = RX2 ∧ yX2_touchingOf.cls ≠ "java/lang/invoke/MethodHandle" ∧ yX2_touchingOf.cls ≠ "java/lang/invoke/VarHandle" ∧ (parseMethodDescriptor yX2_touchingOf.desc).map (fun d => d.parameters.length) = some 1 := by decide +kernel
set_option maxRecDepth 100000 in
set_option maxHeartbeats 4000000 in
theorem kX2_touchingOf (Θ : Tht) (l0 l1 l2 l3 : Nat) (l_operations : Int32) (l_limit : Int32) (l_gap : Int32) (l_bends : Int32) (l_greatestForce : Int32) (l_chosen : Nat → Int32) (l_touching : Nat → Int32) (l_forces : Nat → Int32) (a0 : Int32) (ro : Int32) (hf : fX2_touchingOf l_touching a0 = some ro) : Fn Θ yX2_touchingOf (Cond.code yX2_touchingOf cX2_touchingOf 2 (some .int) :: GW) rmX2_touchingOf [.ref l0, .int a0] (wX2 Θ l0 l1 l2 l3 l_operations l_limit l_gap l_bends l_greatestForce l_chosen l_touching l_forces) (some (.int ro)) (wX2 Θ l0 l1 l2 l3 l_operations l_limit l_gap l_bends l_greatestForce l_chosen l_touching l_forces) := by
  delta fX2_touchingOf at hf
  refine Fn.of (by decide +kernel) rfl (Nat.le_of_ble_eq_true rfl) (fun p e s m args below meth c A Q G K => ?_)
  show sw Θ p e rmX2_touchingOf s m args below meth c A Q 2 0 0 0 [(0, .ref l0), (1, .int a0)] [] (wX2 Θ l0 l1 l2 l3 l_operations l_limit l_gap l_bends l_greatestForce l_chosen l_touching l_forces)
  refine sw_iload_n 0 G dX2_touchingOf_0 1 rfl ?_
  refine sw_if_lt 1 22 G dX2_touchingOf_1 rfl hf (fun hf => ?_) (fun hf => ?_)
  · refine sw_iconst 22 G (0 : Int32) dX2_touchingOf_22 rfl ?_
    cases hf
    exact sw_iret 23 G dX2_touchingOf_23 K
  · refine sw_iload_n 4 G dX2_touchingOf_4 1 rfl ?_
    refine sw_aload_n 5 G dX2_touchingOf_5 0 rfl ?_
    refine sw_get 6 G hnX2 0 6 dX2_touchingOf_6 vc2 (by decide) (List.mem_cons_of_mem _ lk_e4aeaa24) rfl rfl ?_
    refine sw_alen 9 G 2 1 (6 : Int32) dX2_touchingOf_9 rfl rfl rfl ?_
    refine sw_icmp_ge 10 22 G dX2_touchingOf_10 rfl hf (fun hf => ?_) (fun hf => ?_)
    · refine sw_iconst 22 G (0 : Int32) dX2_touchingOf_22 rfl ?_
      cases hf
      exact sw_iret 23 G dX2_touchingOf_23 K
    · refine sw_aload_n 13 G dX2_touchingOf_13 0 rfl ?_
      refine sw_get 14 G hnX2 0 6 dX2_touchingOf_14 vc2 (by decide) (List.mem_cons_of_mem _ lk_e4aeaa24) rfl rfl ?_
      refine sw_iload_n 17 G dX2_touchingOf_17 1 rfl ?_
      refine sw_iald 18 G 2 dX2_touchingOf_18 rfl hf (fun hf => ?_)
      refine sw_goto 19 G 23 dX2_touchingOf_19 rfl ?_
      cases hf
      exact sw_iret 23 G dX2_touchingOf_23 K
abbrev rmX2_chosenFor : Room := { frames := 0, cells := 0, slots := 0, locals := 0 }
theorem hvX2_chosenFor : yX2_chosenFor.cls = RX2 ∧ yX2_chosenFor.cls ≠ "java/lang/invoke/MethodHandle" ∧ yX2_chosenFor.cls ≠ "java/lang/invoke/VarHandle" ∧ (parseMethodDescriptor yX2_chosenFor.desc).map (fun d => d.parameters.length) = some 1 := by decide +kernel
set_option maxRecDepth 100000 in
set_option maxHeartbeats 4000000 in
theorem kX2_chosenFor (Θ : Tht) (l0 l1 l2 l3 : Nat) (l_operations : Int32) (l_limit : Int32) (l_gap : Int32) (l_bends : Int32) (l_greatestForce : Int32) (l_chosen : Nat → Int32) (l_touching : Nat → Int32) (l_forces : Nat → Int32) (a0 : Int32) (ro : Int32) (hf : fX2_chosenFor l_chosen a0 = some ro) : Fn Θ yX2_chosenFor (Cond.code yX2_chosenFor cX2_chosenFor 2 (some .int) :: GW) rmX2_chosenFor [.ref l0, .int a0] (wX2 Θ l0 l1 l2 l3 l_operations l_limit l_gap l_bends l_greatestForce l_chosen l_touching l_forces) (some (.int ro)) (wX2 Θ l0 l1 l2 l3 l_operations l_limit l_gap l_bends l_greatestForce l_chosen l_touching l_forces) := by
  delta fX2_chosenFor at hf
  refine Fn.of (by decide +kernel) rfl (Nat.le_of_ble_eq_true rfl) (fun p e s m args below meth c A Q G K => ?_)
  show sw Θ p e rmX2_chosenFor s m args below meth c A Q 2 0 0 0 [(0, .ref l0), (1, .int a0)] [] (wX2 Θ l0 l1 l2 l3 l_operations l_limit l_gap l_bends l_greatestForce l_chosen l_touching l_forces)
  refine sw_iload_n 0 G dX2_chosenFor_0 1 rfl ?_
  refine sw_if_lt 1 22 G dX2_chosenFor_1 rfl hf (fun hf => ?_) (fun hf => ?_)
  · refine sw_iconst 22 G (-1 : Int32) dX2_chosenFor_22 rfl ?_
    cases hf
    exact sw_iret 23 G dX2_chosenFor_23 K
  · refine sw_iload_n 4 G dX2_chosenFor_4 1 rfl ?_
    refine sw_aload_n 5 G dX2_chosenFor_5 0 rfl ?_
    refine sw_get 6 G hnX2 0 5 dX2_chosenFor_6 vc2 (by decide) (List.mem_cons_of_mem _ lk_f2d20713) rfl rfl ?_
    refine sw_alen 9 G 1 1 (6 : Int32) dX2_chosenFor_9 rfl rfl rfl ?_
    refine sw_icmp_ge 10 22 G dX2_chosenFor_10 rfl hf (fun hf => ?_) (fun hf => ?_)
    · refine sw_iconst 22 G (-1 : Int32) dX2_chosenFor_22 rfl ?_
      cases hf
      exact sw_iret 23 G dX2_chosenFor_23 K
    · refine sw_aload_n 13 G dX2_chosenFor_13 0 rfl ?_
      refine sw_get 14 G hnX2 0 5 dX2_chosenFor_14 vc2 (by decide) (List.mem_cons_of_mem _ lk_f2d20713) rfl rfl ?_
      refine sw_iload_n 17 G dX2_chosenFor_17 1 rfl ?_
      refine sw_iald 18 G 1 dX2_chosenFor_18 rfl hf (fun hf => ?_)
      refine sw_goto 19 G 23 dX2_chosenFor_19 rfl ?_
      cases hf
      exact sw_iret 23 G dX2_chosenFor_23 K
abbrev rmX2_forceOf : Room := { frames := 0, cells := 0, slots := 0, locals := 0 }
theorem hvX2_forceOf : yX2_forceOf.cls = RX2 ∧ yX2_forceOf.cls ≠ "java/lang/invoke/MethodHandle" ∧ yX2_forceOf.cls ≠ "java/lang/invoke/VarHandle" ∧ (parseMethodDescriptor yX2_forceOf.desc).map (fun d => d.parameters.length) = some 1 := by decide +kernel
set_option maxRecDepth 100000 in
set_option maxHeartbeats 4000000 in
theorem kX2_forceOf (Θ : Tht) (l0 l1 l2 l3 : Nat) (l_operations : Int32) (l_limit : Int32) (l_gap : Int32) (l_bends : Int32) (l_greatestForce : Int32) (l_chosen : Nat → Int32) (l_touching : Nat → Int32) (l_forces : Nat → Int32) (a0 : Int32) (ro : Int32) (hf : fX2_forceOf l_forces a0 = some ro) : Fn Θ yX2_forceOf (Cond.code yX2_forceOf cX2_forceOf 2 (some .int) :: GW) rmX2_forceOf [.ref l0, .int a0] (wX2 Θ l0 l1 l2 l3 l_operations l_limit l_gap l_bends l_greatestForce l_chosen l_touching l_forces) (some (.int ro)) (wX2 Θ l0 l1 l2 l3 l_operations l_limit l_gap l_bends l_greatestForce l_chosen l_touching l_forces) := by
  delta fX2_forceOf at hf
  refine Fn.of (by decide +kernel) rfl (Nat.le_of_ble_eq_true rfl) (fun p e s m args below meth c A Q G K => ?_)
  show sw Θ p e rmX2_forceOf s m args below meth c A Q 2 0 0 0 [(0, .ref l0), (1, .int a0)] [] (wX2 Θ l0 l1 l2 l3 l_operations l_limit l_gap l_bends l_greatestForce l_chosen l_touching l_forces)
  refine sw_iload_n 0 G dX2_forceOf_0 1 rfl ?_
  refine sw_if_lt 1 22 G dX2_forceOf_1 rfl hf (fun hf => ?_) (fun hf => ?_)
  · refine sw_iconst 22 G (0 : Int32) dX2_forceOf_22 rfl ?_
    cases hf
    exact sw_iret 23 G dX2_forceOf_23 K
  · refine sw_iload_n 4 G dX2_forceOf_4 1 rfl ?_
    refine sw_aload_n 5 G dX2_forceOf_5 0 rfl ?_
    refine sw_get 6 G hnX2 0 7 dX2_forceOf_6 vc2 (by decide) (List.mem_cons_of_mem _ lk_2a83af4d) rfl rfl ?_
    refine sw_alen 9 G 3 1 (6 : Int32) dX2_forceOf_9 rfl rfl rfl ?_
    refine sw_icmp_ge 10 22 G dX2_forceOf_10 rfl hf (fun hf => ?_) (fun hf => ?_)
    · refine sw_iconst 22 G (0 : Int32) dX2_forceOf_22 rfl ?_
      cases hf
      exact sw_iret 23 G dX2_forceOf_23 K
    · refine sw_aload_n 13 G dX2_forceOf_13 0 rfl ?_
      refine sw_get 14 G hnX2 0 7 dX2_forceOf_14 vc2 (by decide) (List.mem_cons_of_mem _ lk_2a83af4d) rfl rfl ?_
      refine sw_iload_n 17 G dX2_forceOf_17 1 rfl ?_
      refine sw_iald 18 G 3 dX2_forceOf_18 rfl hf (fun hf => ?_)
      refine sw_goto 19 G 23 dX2_forceOf_19 rfl ?_
      cases hf
      exact sw_iret 23 G dX2_forceOf_23 K
abbrev rmX2_fits : Room := { frames := 1, cells := 0, slots := 0, locals := 21 }
theorem hvX2_fits : yX2_fits.cls = RX2 ∧ yX2_fits.cls ≠ "java/lang/invoke/MethodHandle" ∧ yX2_fits.cls ≠ "java/lang/invoke/VarHandle" ∧ (parseMethodDescriptor yX2_fits.desc).map (fun d => d.parameters.length) = some 2 := by decide +kernel
set_option maxRecDepth 100000 in
set_option maxHeartbeats 4000000 in
theorem kX2_fits (Θ : Tht) (F : Nat) (l0 l1 l2 l3 : Nat) (l_operations : Int32) (l_limit : Int32) (l_gap : Int32) (l_bends : Int32) (l_greatestForce : Int32) (l_chosen : Nat → Int32) (l_touching : Nat → Int32) (l_forces : Nat → Int32) (a0 : Int32) (a1 : Int32) (ro : Int32) (hf : fX2_fits F l_limit l_gap l_bends l_chosen l_touching l_forces a0 a1 = some ro) : Fn Θ yX2_fits (Cond.code yX2_fits cX2_fits 8 (some .boolean) :: GW) rmX2_fits [.ref l0, .int a0, .int a1] (wX2 Θ l0 l1 l2 l3 l_operations l_limit l_gap l_bends l_greatestForce l_chosen l_touching l_forces) (some (.int ro)) (wX2 Θ l0 l1 l2 l3 l_operations l_limit l_gap l_bends l_greatestForce l_chosen l_touching l_forces) := by
  delta fX2_fits at hf
  refine Fn.of (by decide +kernel) rfl (Nat.le_of_ble_eq_true rfl) (fun p e s m args below meth c A Q G K => ?_)
  show sw Θ p e rmX2_fits s m args below meth c A Q 8 0 0 0 [(0, .ref l0), (1, .int a0), (2, .int a1)] [] (wX2 Θ l0 l1 l2 l3 l_operations l_limit l_gap l_bends l_greatestForce l_chosen l_touching l_forces)
  refine sw_aload_n 0 G dX2_fits_0 0 rfl ?_
  refine sw_iload_n 1 G dX2_fits_1 1 rfl ?_
  obtain ⟨r1, hg, hf⟩ := bd1_some hf
  refine sw_callV 2 G (wX2 Θ l0 l1 l2 l3 l_operations l_limit l_gap l_bends l_greatestForce l_chosen l_touching l_forces) [0, 1, 2, 3] [] [0, 1, 2, 3] 1 dX2_fits_2 (kX2_forceOf Θ l0 l1 l2 l3 l_operations l_limit l_gap l_bends l_greatestForce l_chosen l_touching l_forces a0 r1 hg) (gwV lk_34ef38ae lk_862ed89e lk_e4308f67 lk_d27e9d3e lk_caf8dd12) rfl hvX2_forceOf ⟨rfl, rfl⟩ ⟨Nat.le_of_ble_eq_true rfl, Nat.le_of_ble_eq_true rfl⟩ ⟨Nat.zero_le _, Nat.zero_le _⟩ rfl rfl (Nat.le_of_ble_eq_true rfl) 0 rfl vc2 rfl rfl rfl rfl (by decide) ?_
  refine sw_istore_n 5 G [(3, .int r1), (0, .ref l0), (1, .int a0), (2, .int a1)] dX2_fits_5 (by decide) rfl ?_
  refine sw_aload_n 6 G dX2_fits_6 1 rfl ?_
  refine sw_get 7 G hnX2 0 3 dX2_fits_7 vc2 (by decide) (List.mem_cons_of_mem _ lk_ed2a58fa) rfl rfl ?_
  refine sw_iload_n 10 G dX2_fits_10 2 rfl ?_
  obtain ⟨r2, hg, hf⟩ := bd1_some hf
  refine sw_callSN 11 G (wX2 Θ l0 l1 l2 l3 l_operations l_limit l_gap l_bends l_greatestForce l_chosen l_touching l_forces) [] [0, 1, 2, 3] [0, 1, 2, 3] 2 dX2_fits_11 (kX5_isIn Θ l_bends a0 r2 hg) (gwN lk_9805779a) (List.mem_of_getElem? (i := 12) rfl) (List.mem_cons_of_mem _ lk_17fb23dc) (List.mem_cons_of_mem _ lk_b26544b5) rfl hsX5_isIn ⟨rfl, rfl⟩ ⟨Nat.le_of_ble_eq_true rfl, Nat.le_of_ble_eq_true rfl⟩ ⟨Nat.zero_le _, Nat.zero_le _⟩ rfl rfl (Nat.le_of_ble_eq_true rfl) rfl rfl rfl (by decide) ?_
  refine sw_istore 14 G [(4, .int r2), (3, .int r1), (0, .ref l0), (1, .int a0), (2, .int a1)] dX2_fits_14 (by decide) rfl ?_
  refine sw_iconst 16 G (0 : Int32) dX2_fits_16 rfl ?_
  refine sw_istore 17 G [(5, .int (0 : Int32)), (4, .int r2), (3, .int r1), (0, .ref l0), (1, .int a0), (2, .int a1)] dX2_fits_17 (by decide) rfl ?_
  obtain ⟨w19, hl, hf0, hf1⟩ := bdS2_some hf
  have hx19_109 : w19 = .inl () → sw Θ p e rmX2_fits s m args below meth c A Q 8 0 0 109 [] [] (wX2 Θ l0 l1 l2 l3 l_operations l_limit l_gap l_bends l_greatestForce l_chosen l_touching l_forces) := by
    intro  hw
    have hf := uc0_some (hf0 _ hw)
    refine sw_iconst 109 G (0 : Int32) dX2_fits_109 rfl ?_
    cases hf
    exact sw_zret 110 G dX2_fits_110 K rfl
  have hx19_131 : ∀ (v3 : Int32), w19 = .inr (v3) → sw Θ p e rmX2_fits s m args below meth c A Q 8 0 0 131 [(0, .ref l0), (3, .int v3)] [] (wX2 Θ l0 l1 l2 l3 l_operations l_limit l_gap l_bends l_greatestForce l_chosen l_touching l_forces) := by
    intro v3 hw
    have hf := uc1_some (hf1 _ hw)
    refine sw_iload_n 131 G dX2_fits_131 1 rfl ?_
    refine sw_aload_n 132 G dX2_fits_132 0 rfl ?_
    refine sw_get 133 G hnX2 0 1 dX2_fits_133 vc2 (by decide) (List.mem_cons_of_mem _ lk_dff035e7) rfl rfl ?_
    refine sw_icmp_gt 136 143 G dX2_fits_136 rfl hf (fun hf => ?_) (fun hf => ?_)
    · refine sw_iconst 143 G (0 : Int32) dX2_fits_143 rfl ?_
      cases hf
      exact sw_zret 144 G dX2_fits_144 K rfl
    · refine sw_iconst 139 G (1 : Int32) dX2_fits_139 rfl ?_
      refine sw_goto 140 G 144 dX2_fits_140 rfl ?_
      cases hf
      exact sw_zret 144 G dX2_fits_144 K rfl
  refine sw_lv [(0, .ref l0), (1, .int a0), (2, .int a1), (3, .int r1), (4, .int r2), (5, .int (0 : Int32))] [3, 4, 5, 2, 1, 0] rfl ?_
  refine lp_walk (P := fun (t : Int32 × Int32) => sw Θ p e rmX2_fits s m args below meth c A Q 8 0 0 19 [(0, .ref l0), (1, .int a0), (2, .int a1), (3, .int t.1), (4, .int r2), (5, .int t.2)] [] (wX2 Θ l0 l1 l2 l3 l_operations l_limit l_gap l_bends l_greatestForce l_chosen l_touching l_forces)) hl (fun t19 y19 hf hin19 hex19 => ?_)
  obtain ⟨v4, v5⟩ := t19
  show sw Θ p e rmX2_fits s m args below meth c A Q 8 0 0 19 [(0, .ref l0), (1, .int a0), (2, .int a1), (3, .int v4), (4, .int r2), (5, .int v5)] [] (wX2 Θ l0 l1 l2 l3 l_operations l_limit l_gap l_bends l_greatestForce l_chosen l_touching l_forces)
  have hf := uc2_some (K := _) hf
  refine sw_iload 19 G dX2_fits_19 5 rfl ?_
  refine sw_iload_n 21 G dX2_fits_21 1 rfl ?_
  refine sw_icmp_ge 22 131 G dX2_fits_22 rfl hf (fun hf => ?_) (fun hf => ?_)
  · cases hf
    exact sw_lv _ [0, 3] rfl (hx19_131 _ (hex19 _ rfl).symm)
  · refine sw_iload_n 25 G dX2_fits_25 2 rfl ?_
    refine sw_aload_n 26 G dX2_fits_26 0 rfl ?_
    refine sw_iload 27 G dX2_fits_27 5 rfl ?_
    obtain ⟨r6, hg, hf⟩ := bd1_some hf
    refine sw_callV 29 G (wX2 Θ l0 l1 l2 l3 l_operations l_limit l_gap l_bends l_greatestForce l_chosen l_touching l_forces) [0, 1, 2, 3] [] [0, 1, 2, 3] 1 dX2_fits_29 (kX2_chosenFor Θ l0 l1 l2 l3 l_operations l_limit l_gap l_bends l_greatestForce l_chosen l_touching l_forces v5 r6 hg) (gwV lk_cc969aad lk_9c20c1cc lk_2820cf9c lk_d27e9d3e lk_b042b34b) rfl hvX2_chosenFor ⟨rfl, rfl⟩ ⟨Nat.le_of_ble_eq_true rfl, Nat.le_of_ble_eq_true rfl⟩ ⟨Nat.zero_le _, Nat.zero_le _⟩ rfl rfl (Nat.le_of_ble_eq_true rfl) 0 rfl vc2 rfl rfl rfl rfl (by decide) ?_
    refine sw_isub 32 G dX2_fits_32 ?_
    refine sw_nmi hf (fun v7 hf => ?_)
    refine sw_istore 33 G [(6, .int v7), (0, .ref l0), (1, .int a0), (2, .int a1), (3, .int v4), (4, .int r2), (5, .int v5)] dX2_fits_33 (by decide) rfl ?_
    refine sw_iload 35 G dX2_fits_35 5 rfl ?_
    refine sw_aload_n 37 G dX2_fits_37 1 rfl ?_
    refine sw_get 38 G hnX2 0 3 dX2_fits_38 vc2 (by decide) (List.mem_cons_of_mem _ lk_ed2a58fa) rfl rfl ?_
    refine sw_iload 41 G dX2_fits_41 6 rfl ?_
    obtain ⟨r8, hg, hf⟩ := bd1_some hf
    refine sw_callSN 43 G (wX2 Θ l0 l1 l2 l3 l_operations l_limit l_gap l_bends l_greatestForce l_chosen l_touching l_forces) [] [0, 1, 2, 3] [0, 1, 2, 3] 2 dX2_fits_43 (kX5_isIn Θ l_bends v5 r8 hg) (gwN lk_9805779a) (List.mem_of_getElem? (i := 12) rfl) (List.mem_cons_of_mem _ lk_17fb23dc) (List.mem_cons_of_mem _ lk_b26544b5) rfl hsX5_isIn ⟨rfl, rfl⟩ ⟨Nat.le_of_ble_eq_true rfl, Nat.le_of_ble_eq_true rfl⟩ ⟨Nat.zero_le _, Nat.zero_le _⟩ rfl rfl (Nat.le_of_ble_eq_true rfl) rfl rfl rfl (by decide) ?_
    obtain ⟨v9, hj, hf⟩ := bd1_some hf
    have hx89 : sw Θ p e rmX2_fits s m args below meth c A Q 8 0 0 89 [(0, .ref l0), (1, .int a0), (2, .int a1), (3, .int v4), (4, .int r2), (5, .int v5), (6, .int v7)] [.int v9] (wX2 Θ l0 l1 l2 l3 l_operations l_limit l_gap l_bends l_greatestForce l_chosen l_touching l_forces) := by
      refine sw_istore 89 G [(7, .int v9), (0, .ref l0), (1, .int a0), (2, .int a1), (3, .int v4), (4, .int r2), (5, .int v5), (6, .int v7)] dX2_fits_89 (by decide) rfl ?_
      refine sw_iload 91 G dX2_fits_91 0 rfl ?_
      refine sw_if_eq 93 111 G dX2_fits_93 rfl hf (fun hf => ?_) (fun hf => ?_)
      · refine sw_iload 111 G dX2_fits_111 7 rfl ?_
        obtain ⟨v11, hj, hf⟩ := bd1_some hf
        have hx125 : sw Θ p e rmX2_fits s m args below meth c A Q 8 0 0 125 [(0, .ref l0), (1, .int a0), (2, .int a1), (3, .int v11), (4, .int r2), (5, .int v5)] [] (wX2 Θ l0 l1 l2 l3 l_operations l_limit l_gap l_bends l_greatestForce l_chosen l_touching l_forces) := by
          refine sw_iinc 125 G (v5 + (1 : Int32)) [(5, .int (v5 + (1 : Int32))), (0, .ref l0), (1, .int a0), (2, .int a1), (3, .int v11), (4, .int r2)] dX2_fits_125 5 rfl rfl (by decide) rfl ?_
          refine sw_goto 128 G 19 dX2_fits_128 rfl ?_
          cases hf
          have hb := hin19 _ rfl
          exact sw_lv _ [1, 2, 3, 4, 5, 0] (by rfl) hb
        clear hf
        have hf := hj
        clear hj
        refine sw_if_ne 113 125 G dX2_fits_113 rfl hf (fun hf => ?_) (fun hf => ?_)
        · cases hf
          exact sw_lv _ [1, 2, 3, 4, 5, 6] rfl hx125
        · refine sw_iload_n 116 G dX2_fits_116 4 rfl ?_
          refine sw_aload_n 117 G dX2_fits_117 1 rfl ?_
          refine sw_iload 118 G dX2_fits_118 6 rfl ?_
          obtain ⟨r12, hg, hf⟩ := bd1_some hf
          refine sw_callV 120 G (wX2 Θ l0 l1 l2 l3 l_operations l_limit l_gap l_bends l_greatestForce l_chosen l_touching l_forces) [0, 1, 2, 3] [] [0, 1, 2, 3] 1 dX2_fits_120 (kX2_forceOf Θ l0 l1 l2 l3 l_operations l_limit l_gap l_bends l_greatestForce l_chosen l_touching l_forces v5 r12 hg) (gwV lk_34ef38ae lk_862ed89e lk_e4308f67 lk_d27e9d3e lk_caf8dd12) rfl hvX2_forceOf ⟨rfl, rfl⟩ ⟨Nat.le_of_ble_eq_true rfl, Nat.le_of_ble_eq_true rfl⟩ ⟨Nat.zero_le _, Nat.zero_le _⟩ rfl rfl (Nat.le_of_ble_eq_true rfl) 0 rfl vc2 rfl rfl rfl rfl (by decide) ?_
          refine sw_iadd 123 G dX2_fits_123 ?_
          refine sw_nmi hf (fun v13 hf => ?_)
          refine sw_istore_n 124 G [(3, .int v13), (7, .int v9), (0, .ref l0), (1, .int a0), (2, .int a1), (4, .int r2), (5, .int v5), (6, .int v7)] dX2_fits_124 (by decide) rfl ?_
          cases hf
          exact sw_lv _ [2, 3, 4, 0, 5, 6] rfl hx125
      · refine sw_aload_n 96 G dX2_fits_96 1 rfl ?_
        refine sw_iload_n 97 G dX2_fits_97 2 rfl ?_
        obtain ⟨r14, hg, hf⟩ := bd1_some hf
        refine sw_callV 98 G (wX2 Θ l0 l1 l2 l3 l_operations l_limit l_gap l_bends l_greatestForce l_chosen l_touching l_forces) [0, 1, 2, 3] [] [0, 1, 2, 3] 1 dX2_fits_98 (kX2_touchingOf Θ l0 l1 l2 l3 l_operations l_limit l_gap l_bends l_greatestForce l_chosen l_touching l_forces a0 r14 hg) (gwV lk_c301f336 lk_22e89c59 lk_867dbffc lk_d27e9d3e lk_75f368ec) rfl hvX2_touchingOf ⟨rfl, rfl⟩ ⟨Nat.le_of_ble_eq_true rfl, Nat.le_of_ble_eq_true rfl⟩ ⟨Nat.zero_le _, Nat.zero_le _⟩ rfl rfl (Nat.le_of_ble_eq_true rfl) 0 rfl vc2 rfl rfl rfl rfl (by decide) ?_
        refine sw_iload 101 G dX2_fits_101 6 rfl ?_
        obtain ⟨r15, hg, hf⟩ := bd1_some hf
        refine sw_callSN 103 G (wX2 Θ l0 l1 l2 l3 l_operations l_limit l_gap l_bends l_greatestForce l_chosen l_touching l_forces) [] [0, 1, 2, 3] [0, 1, 2, 3] 2 dX2_fits_103 (kX5_isIn Θ r14 v5 r15 hg) (gwN lk_9805779a) (List.mem_of_getElem? (i := 12) rfl) (List.mem_cons_of_mem _ lk_17fb23dc) (List.mem_cons_of_mem _ lk_b26544b5) rfl hsX5_isIn ⟨rfl, rfl⟩ ⟨Nat.le_of_ble_eq_true rfl, Nat.le_of_ble_eq_true rfl⟩ ⟨Nat.zero_le _, Nat.zero_le _⟩ rfl rfl (Nat.le_of_ble_eq_true rfl) rfl rfl rfl (by decide) ?_
        refine sw_if_eq 106 111 G dX2_fits_106 rfl hf (fun hf => ?_) (fun hf => ?_)
        · refine sw_iload 111 G dX2_fits_111 7 rfl ?_
          obtain ⟨v16, hj, hf⟩ := bd1_some hf
          have hx125 : sw Θ p e rmX2_fits s m args below meth c A Q 8 0 0 125 [(0, .ref l0), (1, .int a0), (2, .int a1), (3, .int v16), (4, .int r2), (5, .int v5)] [] (wX2 Θ l0 l1 l2 l3 l_operations l_limit l_gap l_bends l_greatestForce l_chosen l_touching l_forces) := by
            refine sw_iinc 125 G (v5 + (1 : Int32)) [(5, .int (v5 + (1 : Int32))), (0, .ref l0), (1, .int a0), (2, .int a1), (3, .int v16), (4, .int r2)] dX2_fits_125 5 rfl rfl (by decide) rfl ?_
            refine sw_goto 128 G 19 dX2_fits_128 rfl ?_
            cases hf
            have hb := hin19 _ rfl
            exact sw_lv _ [1, 2, 3, 4, 5, 0] (by rfl) hb
          clear hf
          have hf := hj
          clear hj
          refine sw_if_ne 113 125 G dX2_fits_113 rfl hf (fun hf => ?_) (fun hf => ?_)
          · cases hf
            exact sw_lv _ [1, 2, 3, 4, 5, 6] rfl hx125
          · refine sw_iload_n 116 G dX2_fits_116 4 rfl ?_
            refine sw_aload_n 117 G dX2_fits_117 1 rfl ?_
            refine sw_iload 118 G dX2_fits_118 6 rfl ?_
            obtain ⟨r17, hg, hf⟩ := bd1_some hf
            refine sw_callV 120 G (wX2 Θ l0 l1 l2 l3 l_operations l_limit l_gap l_bends l_greatestForce l_chosen l_touching l_forces) [0, 1, 2, 3] [] [0, 1, 2, 3] 1 dX2_fits_120 (kX2_forceOf Θ l0 l1 l2 l3 l_operations l_limit l_gap l_bends l_greatestForce l_chosen l_touching l_forces v5 r17 hg) (gwV lk_34ef38ae lk_862ed89e lk_e4308f67 lk_d27e9d3e lk_caf8dd12) rfl hvX2_forceOf ⟨rfl, rfl⟩ ⟨Nat.le_of_ble_eq_true rfl, Nat.le_of_ble_eq_true rfl⟩ ⟨Nat.zero_le _, Nat.zero_le _⟩ rfl rfl (Nat.le_of_ble_eq_true rfl) 0 rfl vc2 rfl rfl rfl rfl (by decide) ?_
            refine sw_iadd 123 G dX2_fits_123 ?_
            refine sw_nmi hf (fun v18 hf => ?_)
            refine sw_istore_n 124 G [(3, .int v18), (7, .int v9), (0, .ref l0), (1, .int a0), (2, .int a1), (4, .int r2), (5, .int v5), (6, .int v7)] dX2_fits_124 (by decide) rfl ?_
            cases hf
            exact sw_lv _ [2, 3, 4, 0, 5, 6] rfl hx125
        · cases hf
          exact sw_lv _ [] rfl (hx19_109  (hex19 _ rfl).symm)
    clear hf
    have hf := hj
    clear hj
    refine sw_icmp_ne 46 62 G dX2_fits_46 rfl hf (fun hf => ?_) (fun hf => ?_)
    · refine sw_iload 62 G dX2_fits_62 5 rfl ?_
      obtain ⟨v10, hj, hf⟩ := bd1_some hf
      have hx75 : sw Θ p e rmX2_fits s m args below meth c A Q 8 0 0 75 [(0, .ref l0), (1, .int a0), (2, .int a1), (3, .int v4), (4, .int r2), (5, .int v5), (6, .int v7)] [.int v10] (wX2 Θ l0 l1 l2 l3 l_operations l_limit l_gap l_bends l_greatestForce l_chosen l_touching l_forces) := by
        refine sw_iconst 75 G (1 : Int32) dX2_fits_75 rfl ?_
        refine sw_aload_n 76 G dX2_fits_76 0 rfl ?_
        refine sw_get 77 G hnX2 0 2 dX2_fits_77 vc2 (by decide) (List.mem_cons_of_mem _ lk_6e65e578) rfl rfl ?_
        refine sw_iadd 80 G dX2_fits_80 ?_
        refine sw_icmp_ge 81 88 G dX2_fits_81 rfl hf (fun hf => ?_) (fun hf => ?_)
        · refine sw_iconst 88 G (0 : Int32) dX2_fits_88 rfl ?_
          cases hf
          exact sw_lv _ [0, 1, 2, 3, 4, 5, 6] rfl hx89
        · refine sw_iconst 84 G (1 : Int32) dX2_fits_84 rfl ?_
          refine sw_goto 85 G 89 dX2_fits_85 rfl ?_
          cases hf
          exact sw_lv _ [0, 1, 2, 3, 4, 5, 6] rfl hx89
      clear hf
      have hf := hj
      clear hj
      refine sw_if_eq 64 72 G dX2_fits_64 rfl hf (fun hf => ?_) (fun hf => ?_)
      · refine sw_iload 72 G dX2_fits_72 0 rfl ?_
        refine sw_ineg 74 G dX2_fits_74 ?_
        cases hf
        exact sw_lv _ [1, 2, 3, 4, 5, 6, 0] rfl hx75
      · refine sw_iload 67 G dX2_fits_67 0 rfl ?_
        refine sw_goto 69 G 75 dX2_fits_69 rfl ?_
        cases hf
        exact sw_lv _ [1, 2, 3, 4, 5, 6, 0] rfl hx75
    · refine sw_iload 49 G dX2_fits_49 0 rfl ?_
      refine sw_if_ne 51 58 G dX2_fits_51 rfl hf (fun hf => ?_) (fun hf => ?_)
      · refine sw_iconst 58 G (0 : Int32) dX2_fits_58 rfl ?_
        refine sw_goto 59 G 89 dX2_fits_59 rfl ?_
        cases hf
        exact sw_lv _ [1, 2, 3, 4, 5, 6, 0] rfl hx89
      · refine sw_iconst 54 G (1 : Int32) dX2_fits_54 rfl ?_
        refine sw_goto 55 G 89 dX2_fits_55 rfl ?_
        cases hf
        exact sw_lv _ [1, 2, 3, 4, 5, 6, 0] rfl hx89
abbrev rmX2_nextStation : Room := { frames := 2, cells := 0, slots := 0, locals := 48 }
theorem hvX2_nextStation : yX2_nextStation.cls = RX2 ∧ yX2_nextStation.cls ≠ "java/lang/invoke/MethodHandle" ∧ yX2_nextStation.cls ≠ "java/lang/invoke/VarHandle" ∧ (parseMethodDescriptor yX2_nextStation.desc).map (fun d => d.parameters.length) = some 2 := by decide +kernel
set_option maxRecDepth 100000 in
set_option maxHeartbeats 4000000 in
theorem kX2_nextStation (Θ : Tht) (F : Nat) (l0 l1 l2 l3 : Nat) (l_operations : Int32) (l_limit : Int32) (l_gap : Int32) (l_bends : Int32) (l_greatestForce : Int32) (l_chosen : Nat → Int32) (l_touching : Nat → Int32) (l_forces : Nat → Int32) (a0 : Int32) (a1 : Int32) (ro : Int32) (hf : fX2_nextStation F l_limit l_gap l_bends l_chosen l_touching l_forces a0 a1 = some ro) : Fn Θ yX2_nextStation (Cond.code yX2_nextStation cX2_nextStation 8 (some .int) :: GW) rmX2_nextStation [.ref l0, .int a0, .int a1] (wX2 Θ l0 l1 l2 l3 l_operations l_limit l_gap l_bends l_greatestForce l_chosen l_touching l_forces) (some (.int ro)) (wX2 Θ l0 l1 l2 l3 l_operations l_limit l_gap l_bends l_greatestForce l_chosen l_touching l_forces) := by
  delta fX2_nextStation at hf
  refine Fn.of (by decide +kernel) rfl (Nat.le_of_ble_eq_true rfl) (fun p e s m args below meth c A Q G K => ?_)
  show sw Θ p e rmX2_nextStation s m args below meth c A Q 8 0 0 0 [(0, .ref l0), (1, .int a0), (2, .int a1)] [] (wX2 Θ l0 l1 l2 l3 l_operations l_limit l_gap l_bends l_greatestForce l_chosen l_touching l_forces)
  refine sw_aload_n 0 G dX2_nextStation_0 0 rfl ?_
  refine sw_get 1 G hnX2 0 3 dX2_nextStation_1 vc2 (by decide) (List.mem_cons_of_mem _ lk_ed2a58fa) rfl rfl ?_
  refine sw_iload_n 4 G dX2_nextStation_4 1 rfl ?_
  obtain ⟨r1, hg, hf⟩ := bd1_some hf
  refine sw_callSN 5 G (wX2 Θ l0 l1 l2 l3 l_operations l_limit l_gap l_bends l_greatestForce l_chosen l_touching l_forces) [] [0, 1, 2, 3] [0, 1, 2, 3] 2 dX2_nextStation_5 (kX5_isIn Θ l_bends a0 r1 hg) (gwN lk_9805779a) (List.mem_of_getElem? (i := 12) rfl) (List.mem_cons_of_mem _ lk_17fb23dc) (List.mem_cons_of_mem _ lk_b26544b5) rfl hsX5_isIn ⟨rfl, rfl⟩ ⟨Nat.le_of_ble_eq_true rfl, Nat.le_of_ble_eq_true rfl⟩ ⟨Nat.zero_le _, Nat.zero_le _⟩ rfl rfl (Nat.le_of_ble_eq_true rfl) rfl rfl rfl (by decide) ?_
  refine sw_istore_n 8 G [(3, .int r1), (0, .ref l0), (1, .int a0), (2, .int a1)] dX2_nextStation_8 (by decide) rfl ?_
  refine sw_aload_n 9 G dX2_nextStation_9 1 rfl ?_
  refine sw_iload_n 10 G dX2_nextStation_10 2 rfl ?_
  obtain ⟨r2, hg, hf⟩ := bd1_some hf
  refine sw_callV 11 G (wX2 Θ l0 l1 l2 l3 l_operations l_limit l_gap l_bends l_greatestForce l_chosen l_touching l_forces) [0, 1, 2, 3] [] [0, 1, 2, 3] 1 dX2_nextStation_11 (kX2_touchingOf Θ l0 l1 l2 l3 l_operations l_limit l_gap l_bends l_greatestForce l_chosen l_touching l_forces a0 r2 hg) (gwV lk_c301f336 lk_22e89c59 lk_867dbffc lk_d27e9d3e lk_75f368ec) rfl hvX2_touchingOf ⟨rfl, rfl⟩ ⟨Nat.le_of_ble_eq_true rfl, Nat.le_of_ble_eq_true rfl⟩ ⟨Nat.zero_le _, Nat.zero_le _⟩ rfl rfl (Nat.le_of_ble_eq_true rfl) 0 rfl vc2 rfl rfl rfl rfl (by decide) ?_
  refine sw_iload_n 14 G dX2_nextStation_14 0 rfl ?_
  obtain ⟨v3, hj, hf⟩ := bd1_some hf
  have hx31 : sw Θ p e rmX2_nextStation s m args below meth c A Q 8 0 0 31 [(0, .ref l0), (1, .int a0), (2, .int a1), (3, .int r1)] [.int v3, .int r2] (wX2 Θ l0 l1 l2 l3 l_operations l_limit l_gap l_bends l_greatestForce l_chosen l_touching l_forces) := by
    refine sw_iand 31 G dX2_nextStation_31 ?_
    obtain ⟨v4, hj, hf⟩ := bd1_some hf
    have hx40 : sw Θ p e rmX2_nextStation s m args below meth c A Q 8 0 0 40 [(0, .ref l0), (1, .int a0), (2, .int a1), (3, .int r1)] [.int v4] (wX2 Θ l0 l1 l2 l3 l_operations l_limit l_gap l_bends l_greatestForce l_chosen l_touching l_forces) := by
      refine sw_istore 40 G [(4, .int v4), (0, .ref l0), (1, .int a0), (2, .int a1), (3, .int r1)] dX2_nextStation_40 (by decide) rfl ?_
      refine sw_aload_n 42 G dX2_nextStation_42 1 rfl ?_
      refine sw_iload_n 43 G dX2_nextStation_43 2 rfl ?_
      obtain ⟨r5, hg, hf⟩ := bd1_some hf
      refine sw_callV 44 G (wX2 Θ l0 l1 l2 l3 l_operations l_limit l_gap l_bends l_greatestForce l_chosen l_touching l_forces) [0, 1, 2, 3] [] [0, 1, 2, 3] 1 dX2_nextStation_44 (kX2_chosenFor Θ l0 l1 l2 l3 l_operations l_limit l_gap l_bends l_greatestForce l_chosen l_touching l_forces a0 r5 hg) (gwV lk_cc969aad lk_9c20c1cc lk_2820cf9c lk_d27e9d3e lk_b042b34b) rfl hvX2_chosenFor ⟨rfl, rfl⟩ ⟨Nat.le_of_ble_eq_true rfl, Nat.le_of_ble_eq_true rfl⟩ ⟨Nat.zero_le _, Nat.zero_le _⟩ rfl rfl (Nat.le_of_ble_eq_true rfl) 0 rfl vc2 rfl rfl rfl rfl (by decide) ?_
      refine sw_iconst 47 G (1 : Int32) dX2_nextStation_47 rfl ?_
      refine sw_iadd 48 G dX2_nextStation_48 ?_
      refine sw_nmi hf (fun v6 hf => ?_)
      refine sw_istore 49 G [(5, .int v6), (4, .int v4), (0, .ref l0), (1, .int a0), (2, .int a1), (3, .int r1)] dX2_nextStation_49 (by decide) rfl ?_
      refine sw_iload_n 51 G dX2_nextStation_51 4 rfl ?_
      refine sw_istore 52 G [(6, .int a1), (5, .int v6), (4, .int v4), (0, .ref l0), (1, .int a0), (2, .int a1), (3, .int r1)] dX2_nextStation_52 (by decide) rfl ?_
      refine sw_iload 54 G dX2_nextStation_54 2 rfl ?_
      obtain ⟨v7, v8, hj, hf⟩ := bd2_some hf
      have hx94 : sw Θ p e rmX2_nextStation s m args below meth c A Q 8 0 0 94 [(0, .ref l0), (1, .int a0), (5, .int v7), (6, .int v8)] [] (wX2 Θ l0 l1 l2 l3 l_operations l_limit l_gap l_bends l_greatestForce l_chosen l_touching l_forces) := by
        refine sw_iload 94 G dX2_nextStation_94 2 rfl ?_
        refine sw_istore 96 G [(7, .int v7), (0, .ref l0), (1, .int a0), (5, .int v7), (6, .int v8)] dX2_nextStation_96 (by decide) rfl ?_
        obtain ⟨w98, hl, hf0, hf1⟩ := bdS2_some hf
        have hx98_115 : ∀ (v12 : Int32), w98 = .inl v12 → sw Θ p e rmX2_nextStation s m args below meth c A Q 8 0 0 115 [(7, .int v12)] [] (wX2 Θ l0 l1 l2 l3 l_operations l_limit l_gap l_bends l_greatestForce l_chosen l_touching l_forces) := by
          intro v12 hw
          have hf := uc1_some (hf0 _ hw)
          refine sw_iload 115 G dX2_nextStation_115 0 rfl ?_
          cases hf
          exact sw_iret 117 G dX2_nextStation_117 K
        have hx98_124 : w98 = .inr (()) → sw Θ p e rmX2_nextStation s m args below meth c A Q 8 0 0 124 [] [] (wX2 Θ l0 l1 l2 l3 l_operations l_limit l_gap l_bends l_greatestForce l_chosen l_touching l_forces) := by
          intro  hw
          have hf := uc0_some (hf1 _ hw)
          refine sw_iconst 124 G (-1 : Int32) dX2_nextStation_124 rfl ?_
          cases hf
          exact sw_iret 125 G dX2_nextStation_125 K
        refine sw_lv [(0, .ref l0), (1, .int a0), (6, .int v8), (7, .int v7)] [1, 2, 4, 0] rfl ?_
        refine lp_walk (P := fun (t : Int32) => sw Θ p e rmX2_nextStation s m args below meth c A Q 8 0 0 98 [(0, .ref l0), (1, .int a0), (6, .int v8), (7, .int t)] [] (wX2 Θ l0 l1 l2 l3 l_operations l_limit l_gap l_bends l_greatestForce l_chosen l_touching l_forces)) hl (fun t98 y98 hf hin98 hex98 => ?_)
        obtain ⟨v13, rfl⟩ : ∃ z, z = t98 := ⟨_, rfl⟩
        show sw Θ p e rmX2_nextStation s m args below meth c A Q 8 0 0 98 [(0, .ref l0), (1, .int a0), (6, .int v8), (7, .int v13)] [] (wX2 Θ l0 l1 l2 l3 l_operations l_limit l_gap l_bends l_greatestForce l_chosen l_touching l_forces)
        have hf := uc1_some (K := _) hf
        refine sw_iload 98 G dX2_nextStation_98 3 rfl ?_
        refine sw_iload 100 G dX2_nextStation_100 2 rfl ?_
        refine sw_icmp_ge 102 124 G dX2_nextStation_102 rfl hf (fun hf => ?_) (fun hf => ?_)
        · cases hf
          exact sw_lv _ [] rfl (hx98_124  (hex98 _ rfl).symm)
        · refine sw_aload_n 105 G dX2_nextStation_105 0 rfl ?_
          refine sw_iload_n 106 G dX2_nextStation_106 1 rfl ?_
          refine sw_iload 107 G dX2_nextStation_107 3 rfl ?_
          obtain ⟨r14, hg, hf⟩ := bd1_some hf
          refine sw_callV 109 G (wX2 Θ l0 l1 l2 l3 l_operations l_limit l_gap l_bends l_greatestForce l_chosen l_touching l_forces) [0, 1, 2, 3] [] [0, 1, 2, 3] 2 dX2_nextStation_109 (kX2_fits Θ F l0 l1 l2 l3 l_operations l_limit l_gap l_bends l_greatestForce l_chosen l_touching l_forces a0 v13 r14 hg) (gwV lk_b726a7e5 lk_d861f07c lk_24cf1170 lk_d27e9d3e lk_5ffc68c6) rfl hvX2_fits ⟨rfl, rfl⟩ ⟨Nat.le_of_ble_eq_true rfl, Nat.le_of_ble_eq_true rfl⟩ ⟨Nat.zero_le _, Nat.zero_le _⟩ rfl rfl (Nat.le_of_ble_eq_true rfl) 0 rfl vc2 rfl rfl rfl rfl (by decide) ?_
          refine sw_if_eq 112 118 G dX2_nextStation_112 rfl hf (fun hf => ?_) (fun hf => ?_)
          · refine sw_iinc 118 G (v13 + (1 : Int32)) [(7, .int (v13 + (1 : Int32))), (0, .ref l0), (1, .int a0), (6, .int v8)] dX2_nextStation_118 3 rfl rfl (by decide) rfl ?_
            refine sw_goto 121 G 98 dX2_nextStation_121 rfl ?_
            cases hf
            have hb := hin98 _ rfl
            exact sw_lv _ [1, 2, 3, 0] (by rfl) hb
          · cases hf
            exact sw_lv _ [3] rfl (hx98_115 _ (hex98 _ rfl).symm)
      clear hf
      have hf := hj
      clear hj
      refine sw_if_eq 56 79 G dX2_nextStation_56 rfl hf (fun hf => ?_) (fun hf => ?_)
      · refine sw_iload 79 G dX2_nextStation_79 2 rfl ?_
        refine sw_if_eq 81 94 G dX2_nextStation_81 rfl hf (fun hf => ?_) (fun hf => ?_)
        · cases hf
          exact sw_lv _ [3, 4, 1, 0] rfl hx94
        · refine sw_iload_n 84 G dX2_nextStation_84 5 rfl ?_
          refine sw_iconst 85 G (1 : Int32) dX2_nextStation_85 rfl ?_
          refine sw_isub 86 G dX2_nextStation_86 ?_
          refine sw_aload_n 87 G dX2_nextStation_87 3 rfl ?_
          refine sw_get 88 G hnX2 0 2 dX2_nextStation_88 vc2 (by decide) (List.mem_cons_of_mem _ lk_6e65e578) rfl rfl ?_
          refine sw_isub 91 G dX2_nextStation_91 ?_
          refine sw_nmi hf (fun v9 hf => ?_)
          refine sw_istore 92 G [(6, .int v9), (5, .int v6), (4, .int v4), (0, .ref l0), (1, .int a0), (2, .int a1), (3, .int r1)] dX2_nextStation_92 (by decide) rfl ?_
          cases hf
          exact sw_lv _ [3, 4, 1, 0] rfl hx94
      · refine sw_iload_n 59 G dX2_nextStation_59 6 rfl ?_
        refine sw_if_eq 60 79 G dX2_nextStation_60 rfl hf (fun hf => ?_) (fun hf => ?_)
        · refine sw_iload 79 G dX2_nextStation_79 2 rfl ?_
          refine sw_if_eq 81 94 G dX2_nextStation_81 rfl hf (fun hf => ?_) (fun hf => ?_)
          · cases hf
            exact sw_lv _ [3, 4, 1, 0] rfl hx94
          · refine sw_iload_n 84 G dX2_nextStation_84 5 rfl ?_
            refine sw_iconst 85 G (1 : Int32) dX2_nextStation_85 rfl ?_
            refine sw_isub 86 G dX2_nextStation_86 ?_
            refine sw_aload_n 87 G dX2_nextStation_87 3 rfl ?_
            refine sw_get 88 G hnX2 0 2 dX2_nextStation_88 vc2 (by decide) (List.mem_cons_of_mem _ lk_6e65e578) rfl rfl ?_
            refine sw_isub 91 G dX2_nextStation_91 ?_
            refine sw_nmi hf (fun v10 hf => ?_)
            refine sw_istore 92 G [(6, .int v10), (5, .int v6), (4, .int v4), (0, .ref l0), (1, .int a0), (2, .int a1), (3, .int r1)] dX2_nextStation_92 (by decide) rfl ?_
            cases hf
            exact sw_lv _ [3, 4, 1, 0] rfl hx94
        · refine sw_iload 63 G dX2_nextStation_63 1 rfl ?_
          refine sw_iconst 65 G (1 : Int32) dX2_nextStation_65 rfl ?_
          refine sw_aload_n 66 G dX2_nextStation_66 3 rfl ?_
          refine sw_get 67 G hnX2 0 2 dX2_nextStation_67 vc2 (by decide) (List.mem_cons_of_mem _ lk_6e65e578) rfl rfl ?_
          refine sw_iadd 70 G dX2_nextStation_70 ?_
          refine sw_mmax 71 G dX2_nextStation_71 (List.mem_cons_of_mem _ lk_9970792d) (List.mem_cons_of_mem _ lk_8b9497d0) (List.mem_cons_of_mem _ lk_544deca7) (List.mem_cons_of_mem _ lk_7292adb7) (Nat.le_of_ble_eq_true rfl) (Nat.le_of_ble_eq_true rfl) ⟨Nat.zero_le _, Nat.zero_le _⟩ ?_
          refine sw_nmi hf (fun v11 hf => ?_)
          refine sw_istore 74 G [(5, .int v11), (6, .int a1), (4, .int v4), (0, .ref l0), (1, .int a0), (2, .int a1), (3, .int r1)] dX2_nextStation_74 (by decide) rfl ?_
          refine sw_goto 76 G 94 dX2_nextStation_76 rfl ?_
          cases hf
          exact sw_lv _ [3, 4, 0, 1] rfl hx94
    clear hf
    have hf := hj
    clear hj
    refine sw_if_eq 32 39 G dX2_nextStation_32 rfl hf (fun hf => ?_) (fun hf => ?_)
    · refine sw_iconst 39 G (0 : Int32) dX2_nextStation_39 rfl ?_
      cases hf
      exact sw_lv _ [0, 1, 2, 3] rfl hx40
    · refine sw_iconst 35 G (1 : Int32) dX2_nextStation_35 rfl ?_
      refine sw_goto 36 G 40 dX2_nextStation_36 rfl ?_
      cases hf
      exact sw_lv _ [0, 1, 2, 3] rfl hx40
  clear hf
  have hf := hj
  clear hj
  refine sw_if_eq 15 27 G dX2_nextStation_15 rfl hf (fun hf => ?_) (fun hf => ?_)
  · refine sw_aload_n 27 G dX2_nextStation_27 1 rfl ?_
    refine sw_get 28 G hnX2 0 3 dX2_nextStation_28 vc2 (by decide) (List.mem_cons_of_mem _ lk_ed2a58fa) rfl rfl ?_
    cases hf
    exact sw_lv _ [1, 2, 3, 0] rfl hx31
  · refine sw_aload_n 18 G dX2_nextStation_18 1 rfl ?_
    refine sw_get 19 G hnX2 0 3 dX2_nextStation_19 vc2 (by decide) (List.mem_cons_of_mem _ lk_ed2a58fa) rfl rfl ?_
    refine sw_iconst 22 G (-1 : Int32) dX2_nextStation_22 rfl ?_
    refine sw_ixor 23 G dX2_nextStation_23 ?_
    refine sw_goto 24 G 31 dX2_nextStation_24 rfl ?_
    cases hf
    exact sw_lv _ [1, 2, 3, 0] rfl hx31
abbrev rmX2_findWithin : Room := { frames := 3, cells := 0, slots := 0, locals := 75 }
theorem hvX2_findWithin : yX2_findWithin.cls = RX2 ∧ yX2_findWithin.cls ≠ "java/lang/invoke/MethodHandle" ∧ yX2_findWithin.cls ≠ "java/lang/invoke/VarHandle" ∧ (parseMethodDescriptor yX2_findWithin.desc).map (fun d => d.parameters.length) = some 1 := by decide +kernel
set_option maxRecDepth 100000 in
set_option maxHeartbeats 4000000 in
theorem kX2_findWithin (Θ : Tht) (F : Nat) (l0 l1 l2 l3 : Nat) (l_operations : Int32) (l_limit : Int32) (l_gap : Int32) (l_bends : Int32) (l_greatestForce : Int32) (l_chosen : Nat → Int32) (l_touching : Nat → Int32) (l_forces : Nat → Int32) (a0 : Int32) (ro : Int32) (o_l_chosen : Nat → Int32) (hf : fX2_findWithin F l_operations l_limit l_gap l_bends l_chosen l_touching l_forces a0 = some (ro, o_l_chosen)) : Fn Θ yX2_findWithin (Cond.code yX2_findWithin cX2_findWithin 4 (some .boolean) :: GW) rmX2_findWithin [.ref l0, .int a0] (wX2 Θ l0 l1 l2 l3 l_operations l_limit l_gap l_bends l_greatestForce l_chosen l_touching l_forces) (some (.int ro)) (wX2 Θ l0 l1 l2 l3 l_operations l_limit l_gap l_bends l_greatestForce o_l_chosen l_touching l_forces) := by
  delta fX2_findWithin at hf
  refine Fn.of (by decide +kernel) rfl (Nat.le_of_ble_eq_true rfl) (fun p e s m args below meth c A Q G K => ?_)
  show sw Θ p e rmX2_findWithin s m args below meth c A Q 4 0 0 0 [(0, .ref l0), (1, .int a0)] [] (wX2 Θ l0 l1 l2 l3 l_operations l_limit l_gap l_bends l_greatestForce l_chosen l_touching l_forces)
  refine sw_iconst 0 G (0 : Int32) dX2_findWithin_0 rfl ?_
  refine sw_istore_n 1 G [(2, .int (0 : Int32)), (0, .ref l0), (1, .int a0)] dX2_findWithin_1 (by decide) rfl ?_
  obtain ⟨v1, hl, hf⟩ := bd1_some hf
  have hx2_24 : sw Θ p e rmX2_findWithin s m args below meth c A Q 4 0 0 24 [(0, .ref l0), (1, .int a0)] [] (wX2 Θ l0 l1 l2 l3 l_operations l_limit l_gap l_bends l_greatestForce v1 l_touching l_forces) := by
    refine sw_iconst 24 G (0 : Int32) dX2_findWithin_24 rfl ?_
    refine sw_istore_n 25 G [(2, .int (0 : Int32)), (0, .ref l0), (1, .int a0)] dX2_findWithin_25 (by decide) rfl ?_
    refine sw_iconst 26 G (0 : Int32) dX2_findWithin_26 rfl ?_
    refine sw_istore_n 27 G [(3, .int (0 : Int32)), (2, .int (0 : Int32)), (0, .ref l0), (1, .int a0)] dX2_findWithin_27 (by decide) rfl ?_
    obtain ⟨v2, v3, hl, hf⟩ := bd2_some hf
    have hx28_93 : sw Θ p e rmX2_findWithin s m args below meth c A Q 4 0 0 93 [(0, .ref l0), (2, .int v2)] [] (wX2 Θ l0 l1 l2 l3 l_operations l_limit l_gap l_bends l_greatestForce v3 l_touching l_forces) := by
      refine sw_iload_n 93 G dX2_findWithin_93 1 rfl ?_
      refine sw_aload_n 94 G dX2_findWithin_94 0 rfl ?_
      refine sw_get 95 G hnX2 0 0 dX2_findWithin_95 vc2 (by decide) (List.mem_cons_of_mem _ lk_7a707274) rfl rfl ?_
      refine sw_icmp_lt 98 105 G dX2_findWithin_98 rfl hf (fun hf => ?_) (fun hf => ?_)
      · refine sw_iconst 105 G (0 : Int32) dX2_findWithin_105 rfl ?_
        cases hf
        exact sw_zret 106 G dX2_findWithin_106 K rfl
      · refine sw_iconst 101 G (1 : Int32) dX2_findWithin_101 rfl ?_
        refine sw_goto 102 G 106 dX2_findWithin_102 rfl ?_
        cases hf
        exact sw_zret 106 G dX2_findWithin_106 K rfl
    refine sw_lv [(0, .ref l0), (1, .int a0), (2, .int (0 : Int32)), (3, .int (0 : Int32))] [2, 3, 1, 0] rfl ?_
    refine lp_walk (P := fun (t : Int32 × Int32 × (Nat → Int32)) => sw Θ p e rmX2_findWithin s m args below meth c A Q 4 0 0 28 [(0, .ref l0), (1, .int a0), (2, .int t.1), (3, .int t.2.1)] [] (wX2 Θ l0 l1 l2 l3 l_operations l_limit l_gap l_bends l_greatestForce t.2.2 l_touching l_forces)) hl (fun t28 y28 hf hin28 hex28 => ?_)
    obtain ⟨v4, v5, v6⟩ := t28
    show sw Θ p e rmX2_findWithin s m args below meth c A Q 4 0 0 28 [(0, .ref l0), (1, .int a0), (2, .int v4), (3, .int v5)] [] (wX2 Θ l0 l1 l2 l3 l_operations l_limit l_gap l_bends l_greatestForce v6 l_touching l_forces)
    have hf := uc3_some (K := _) hf
    refine sw_iload_n 28 G dX2_findWithin_28 3 rfl ?_
    refine sw_ldc 29 G (List.mem_cons_of_mem _ lk_b2de40bd) dX2_findWithin_29 ?_
    refine sw_icmp_ge 31 93 G dX2_findWithin_31 rfl hf (fun hf => ?_) (fun hf => ?_)
    · cases hf
      cases hex28 _ rfl
      exact sw_lv _ [0, 2] rfl hx28_93
    · refine sw_iload_n 34 G dX2_findWithin_34 2 rfl ?_
      refine sw_if_lt 35 93 G dX2_findWithin_35 rfl hf (fun hf => ?_) (fun hf => ?_)
      · cases hf
        cases hex28 _ rfl
        exact sw_lv _ [0, 2] rfl hx28_93
      · refine sw_iload_n 38 G dX2_findWithin_38 2 rfl ?_
        refine sw_aload_n 39 G dX2_findWithin_39 0 rfl ?_
        refine sw_get 40 G hnX2 0 0 dX2_findWithin_40 vc2 (by decide) (List.mem_cons_of_mem _ lk_7a707274) rfl rfl ?_
        refine sw_icmp_ge 43 93 G dX2_findWithin_43 rfl hf (fun hf => ?_) (fun hf => ?_)
        · cases hf
          cases hex28 _ rfl
          exact sw_lv _ [0, 2] rfl hx28_93
        · refine sw_iload_n 46 G dX2_findWithin_46 2 rfl ?_
          refine sw_aload_n 47 G dX2_findWithin_47 0 rfl ?_
          refine sw_get 48 G hnX2 0 5 dX2_findWithin_48 vc2 (by decide) (List.mem_cons_of_mem _ lk_f2d20713) rfl rfl ?_
          refine sw_alen 51 G 1 1 (6 : Int32) dX2_findWithin_51 rfl rfl rfl ?_
          refine sw_icmp_ge 52 93 G dX2_findWithin_52 rfl hf (fun hf => ?_) (fun hf => ?_)
          · cases hf
            cases hex28 _ rfl
            exact sw_lv _ [0, 2] rfl hx28_93
          · refine sw_aload_n 55 G dX2_findWithin_55 0 rfl ?_
            refine sw_get 56 G hnX2 0 5 dX2_findWithin_56 vc2 (by decide) (List.mem_cons_of_mem _ lk_f2d20713) rfl rfl ?_
            refine sw_iload_n 59 G dX2_findWithin_59 2 rfl ?_
            refine sw_aload_n 60 G dX2_findWithin_60 0 rfl ?_
            refine sw_iload_n 61 G dX2_findWithin_61 2 rfl ?_
            refine sw_iload_n 62 G dX2_findWithin_62 1 rfl ?_
            obtain ⟨r7, hg, hf⟩ := bd1_some hf
            refine sw_callV 63 G (wX2 Θ l0 l1 l2 l3 l_operations l_limit l_gap l_bends l_greatestForce v6 l_touching l_forces) [0, 1, 2, 3] [] [0, 1, 2, 3] 2 dX2_findWithin_63 (kX2_nextStation Θ F l0 l1 l2 l3 l_operations l_limit l_gap l_bends l_greatestForce v6 l_touching l_forces v4 a0 r7 hg) (gwV lk_13dd1df8 lk_99b6de98 lk_c8a33b71 lk_d27e9d3e lk_d1a6270c) rfl hvX2_nextStation ⟨rfl, rfl⟩ ⟨Nat.le_of_ble_eq_true rfl, Nat.le_of_ble_eq_true rfl⟩ ⟨Nat.zero_le _, Nat.zero_le _⟩ rfl rfl (Nat.le_of_ble_eq_true rfl) 0 rfl vc2 rfl rfl rfl rfl (by decide) ?_
            refine sw_iast 66 G 1 (wX2 Θ l0 l1 l2 l3 l_operations l_limit l_gap l_bends l_greatestForce (upd v6 v4.toNatClampNeg r7) l_touching l_forces) dX2_findWithin_66 rfl rfl hf (fun hf => ?_)
            refine sw_aload_n 67 G dX2_findWithin_67 0 rfl ?_
            refine sw_get 68 G hnX2 0 5 dX2_findWithin_68 vc2 (by decide) (List.mem_cons_of_mem _ lk_f2d20713) rfl rfl ?_
            refine sw_iload_n 71 G dX2_findWithin_71 2 rfl ?_
            refine sw_iald 72 G 1 dX2_findWithin_72 rfl hf (fun hf => ?_)
            refine sw_iconst 73 G (-1 : Int32) dX2_findWithin_73 rfl ?_
            obtain ⟨v8, hj, hf⟩ := bd1_some hf
            have hx86 : sw Θ p e rmX2_findWithin s m args below meth c A Q 4 0 0 86 [(0, .ref l0), (1, .int a0), (3, .int v5)] [.int v8] (wX2 Θ l0 l1 l2 l3 l_operations l_limit l_gap l_bends l_greatestForce (upd v6 v4.toNatClampNeg r7) l_touching l_forces) := by
              refine sw_istore_n 86 G [(2, .int v8), (0, .ref l0), (1, .int a0), (3, .int v5)] dX2_findWithin_86 (by decide) rfl ?_
              refine sw_iinc 87 G (v5 + (1 : Int32)) [(3, .int (v5 + (1 : Int32))), (2, .int v8), (0, .ref l0), (1, .int a0)] dX2_findWithin_87 3 rfl rfl (by decide) rfl ?_
              refine sw_goto 90 G 28 dX2_findWithin_90 rfl ?_
              cases hf
              have hb := hin28 _ rfl
              exact sw_lv _ [2, 3, 1, 0] (by rfl) hb
            clear hf
            have hf := hj
            clear hj
            refine sw_icmp_ne 74 83 G dX2_findWithin_74 rfl hf (fun hf => ?_) (fun hf => ?_)
            · refine sw_iload_n 83 G dX2_findWithin_83 2 rfl ?_
              refine sw_iconst 84 G (1 : Int32) dX2_findWithin_84 rfl ?_
              refine sw_iadd 85 G dX2_findWithin_85 ?_
              cases hf
              exact sw_lv _ [0, 1, 3] rfl hx86
            · refine sw_iload_n 77 G dX2_findWithin_77 2 rfl ?_
              refine sw_iconst 78 G (1 : Int32) dX2_findWithin_78 rfl ?_
              refine sw_isub 79 G dX2_findWithin_79 ?_
              refine sw_goto 80 G 86 dX2_findWithin_80 rfl ?_
              cases hf
              exact sw_lv _ [0, 1, 3] rfl hx86
  refine sw_lv [(0, .ref l0), (1, .int a0), (2, .int (0 : Int32))] [1, 2, 0] rfl ?_
  refine lp_walk (P := fun (t : Int32 × (Nat → Int32)) => sw Θ p e rmX2_findWithin s m args below meth c A Q 4 0 0 2 [(0, .ref l0), (1, .int a0), (2, .int t.1)] [] (wX2 Θ l0 l1 l2 l3 l_operations l_limit l_gap l_bends l_greatestForce t.2 l_touching l_forces)) hl (fun t2 y2 hf hin2 hex2 => ?_)
  obtain ⟨v9, v10⟩ := t2
  show sw Θ p e rmX2_findWithin s m args below meth c A Q 4 0 0 2 [(0, .ref l0), (1, .int a0), (2, .int v9)] [] (wX2 Θ l0 l1 l2 l3 l_operations l_limit l_gap l_bends l_greatestForce v10 l_touching l_forces)
  have hf := uc2_some (K := _) hf
  refine sw_iload_n 2 G dX2_findWithin_2 2 rfl ?_
  refine sw_aload_n 3 G dX2_findWithin_3 0 rfl ?_
  refine sw_get 4 G hnX2 0 5 dX2_findWithin_4 vc2 (by decide) (List.mem_cons_of_mem _ lk_f2d20713) rfl rfl ?_
  refine sw_alen 7 G 1 1 (6 : Int32) dX2_findWithin_7 rfl rfl rfl ?_
  refine sw_icmp_ge 8 24 G dX2_findWithin_8 rfl hf (fun hf => ?_) (fun hf => ?_)
  · cases hf
    cases hex2 _ rfl
    exact sw_lv _ [0, 1] rfl hx2_24
  · refine sw_aload_n 11 G dX2_findWithin_11 0 rfl ?_
    refine sw_get 12 G hnX2 0 5 dX2_findWithin_12 vc2 (by decide) (List.mem_cons_of_mem _ lk_f2d20713) rfl rfl ?_
    refine sw_iload_n 15 G dX2_findWithin_15 2 rfl ?_
    refine sw_iconst 16 G (-1 : Int32) dX2_findWithin_16 rfl ?_
    refine sw_iast 17 G 1 (wX2 Θ l0 l1 l2 l3 l_operations l_limit l_gap l_bends l_greatestForce (upd v10 v9.toNatClampNeg (-1 : Int32)) l_touching l_forces) dX2_findWithin_17 rfl rfl hf (fun hf => ?_)
    refine sw_iinc 18 G (v9 + (1 : Int32)) [(2, .int (v9 + (1 : Int32))), (0, .ref l0), (1, .int a0)] dX2_findWithin_18 2 rfl rfl (by decide) rfl ?_
    refine sw_goto 21 G 2 dX2_findWithin_21 rfl ?_
    cases hf
    have hb := hin2 _ rfl
    exact sw_lv _ [1, 2, 0] (by rfl) hb
abbrev rmX2_findBest : Room := { frames := 4, cells := 0, slots := 0, locals := 106 }
theorem hvX2_findBest : yX2_findBest.cls = RX2 ∧ yX2_findBest.cls ≠ "java/lang/invoke/MethodHandle" ∧ yX2_findBest.cls ≠ "java/lang/invoke/VarHandle" ∧ (parseMethodDescriptor yX2_findBest.desc).map (fun d => d.parameters.length) = some 1 := by decide +kernel
set_option maxRecDepth 100000 in
set_option maxHeartbeats 4000000 in
theorem kX2_findBest (Θ : Tht) (F : Nat) (l0 l1 l2 l3 d0 d1 d2 d3 : Nat) (l_operations : Int32) (l_limit : Int32) (l_gap : Int32) (l_bends : Int32) (l_greatestForce : Int32) (l_chosen : Nat → Int32) (l_touching : Nat → Int32) (l_forces : Nat → Int32) (d_columns : Int32) (d_rows : Int32) (d_carrier : Int32) (d_partMarks : Int64) (d_linkMarks : Int64) (d_operations : Int32) (d_pilots : Int32) (d_settings : Nat → Int32) (d_facts : Nat → Int32) (d_cells : Nat → Int64) (ro : Int32) (o_l_operations : Int32) (o_l_limit : Int32) (o_l_gap : Int32) (o_l_bends : Int32) (o_l_greatestForce : Int32) (o_l_chosen : Nat → Int32) (o_l_touching : Nat → Int32) (o_l_forces : Nat → Int32) (hf : fX2_findBest F l_chosen l_touching l_forces d_columns d_rows d_operations d_settings d_facts d_cells = some (ro, o_l_operations, o_l_limit, o_l_gap, o_l_bends, o_l_greatestForce, o_l_chosen, o_l_touching, o_l_forces)) : Fn Θ yX2_findBest (Cond.code yX2_findBest cX2_findBest 3 (some .int) :: GW) rmX2_findBest [.ref l0, .ref d0] (wX2 Θ l0 l1 l2 l3 l_operations l_limit l_gap l_bends l_greatestForce l_chosen l_touching l_forces ++ wX1 Θ d0 d1 d2 d3 d_columns d_rows d_carrier d_partMarks d_linkMarks d_operations d_pilots d_settings d_facts d_cells) (some (.int ro)) (wX2 Θ l0 l1 l2 l3 o_l_operations o_l_limit o_l_gap o_l_bends o_l_greatestForce o_l_chosen o_l_touching o_l_forces ++ wX1 Θ d0 d1 d2 d3 d_columns d_rows d_carrier d_partMarks d_linkMarks d_operations d_pilots d_settings d_facts d_cells) := by
  delta fX2_findBest at hf
  refine Fn.of (by decide +kernel) rfl (Nat.le_of_ble_eq_true rfl) (fun p e s m args below meth c A Q G K => ?_)
  show sw Θ p e rmX2_findBest s m args below meth c A Q 3 0 0 0 [(0, .ref l0), (1, .ref d0)] [] (wX2 Θ l0 l1 l2 l3 l_operations l_limit l_gap l_bends l_greatestForce l_chosen l_touching l_forces ++ wX1 Θ d0 d1 d2 d3 d_columns d_rows d_carrier d_partMarks d_linkMarks d_operations d_pilots d_settings d_facts d_cells)
  refine sw_aload_n 0 G dX2_findBest_0 0 rfl ?_
  refine sw_aload_n 1 G dX2_findBest_1 1 rfl ?_
  obtain ⟨u1, u2, u3, u4, u5, u6, hg, hf⟩ := bd6_some hf
  refine sw_callV 2 G (wX2 Θ l0 l1 l2 l3 u1 l_limit u2 u3 u4 l_chosen u5 u6 ++ wX1 Θ d0 d1 d2 d3 d_columns d_rows d_carrier d_partMarks d_linkMarks d_operations d_pilots d_settings d_facts d_cells) [0, 1, 2, 3, 4, 5, 6, 7] [] [0, 1, 2, 3, 4, 5, 6, 7] 1 dX2_findBest_2 (kX2_prepare Θ F l0 l1 l2 l3 d0 d1 d2 d3 l_operations l_limit l_gap l_bends l_greatestForce l_chosen l_touching l_forces d_columns d_rows d_carrier d_partMarks d_linkMarks d_operations d_pilots d_settings d_facts d_cells u1 u2 u3 u4 u5 u6 hg) (gwV lk_8d9b990d lk_dc1da204 lk_5760c84e lk_d27e9d3e lk_f1303edf) rfl hvX2_prepare ⟨rfl, rfl⟩ ⟨Nat.le_of_ble_eq_true rfl, Nat.le_of_ble_eq_true rfl⟩ ⟨Nat.zero_le _, Nat.zero_le _⟩ rfl rfl (Nat.le_of_ble_eq_true rfl) 0 rfl vc2 rfl rfl rfl rfl (by decide) ?_
  refine sw_aload_n 5 G dX2_findBest_5 0 rfl ?_
  refine sw_aload_n 6 G dX2_findBest_6 1 rfl ?_
  refine sw_iconst 7 G (0 : Int32) dX2_findBest_7 rfl ?_
  obtain ⟨r7, hg, hf⟩ := bd1_some hf
  refine sw_callV 8 G (wX2 Θ l0 l1 l2 l3 u1 l_limit u2 u3 u4 l_chosen u5 u6 ++ wX1 Θ d0 d1 d2 d3 d_columns d_rows d_carrier d_partMarks d_linkMarks d_operations d_pilots d_settings d_facts d_cells) [4, 5, 6, 7] [0, 1, 2, 3] [0, 1, 2, 3, 4, 5, 6, 7] 1 dX2_findBest_8 (kX1_setting Θ d0 d1 d2 d3 d_columns d_rows d_carrier d_partMarks d_linkMarks d_operations d_pilots d_settings d_facts d_cells (0 : Int32) r7 hg) (gwV lk_95d46e4b lk_6c5b2bed lk_42f14101 lk_cf66e99d lk_45fed558) rfl hvX1_setting ⟨rfl, rfl⟩ ⟨Nat.le_of_ble_eq_true rfl, Nat.le_of_ble_eq_true rfl⟩ ⟨Nat.zero_le _, Nat.zero_le _⟩ rfl rfl (Nat.le_of_ble_eq_true rfl) 0 rfl vc1 rfl rfl rfl rfl (by decide) ?_
  refine sw_put 11 G hnX2 tyX2_ok nmX2 0 1 (wX2 Θ l0 l1 l2 l3 u1 r7 u2 u3 u4 l_chosen u5 u6 ++ wX1 Θ d0 d1 d2 d3 d_columns d_rows d_carrier d_partMarks d_linkMarks d_operations d_pilots d_settings d_facts d_cells) dX2_findBest_11 vc2 (by decide) (List.mem_cons_of_mem _ lk_dff035e7) rfl rfl (Nat.le_of_ble_eq_true rfl) (tyX2_ok 1 (by decide)) rfl rfl rfl ?_
  refine sw_aload_n 14 G dX2_findBest_14 0 rfl ?_
  refine sw_get 15 G hnX2 0 4 dX2_findBest_15 vc2 (by decide) (List.mem_cons_of_mem _ lk_d1c8c9f5) rfl rfl ?_
  refine sw_aload_n 18 G dX2_findBest_18 0 rfl ?_
  refine sw_get 19 G hnX2 0 1 dX2_findBest_19 vc2 (by decide) (List.mem_cons_of_mem _ lk_dff035e7) rfl rfl ?_
  refine sw_icmp_le 22 27 G dX2_findBest_22 rfl hf (fun hf => ?_) (fun hf => ?_)
  · refine sw_iconst 27 G (0 : Int32) dX2_findBest_27 rfl ?_
    refine sw_istore_n 28 G [(2, .int (0 : Int32)), (0, .ref l0), (1, .ref d0)] dX2_findBest_28 (by decide) rfl ?_
    obtain ⟨w29, hl, hf0, hf1⟩ := bdS2_some hf
    have hx29_43 : ∀ (v8 : Int32) (v9 : Nat → Int32), w29 = .inl (v8, v9) → sw Θ p e rmX2_findBest s m args below meth c A Q 3 0 0 43 [(2, .int v8)] [] (wX2 Θ l0 l1 l2 l3 u1 r7 u2 u3 u4 v9 u5 u6 ++ wX1 Θ d0 d1 d2 d3 d_columns d_rows d_carrier d_partMarks d_linkMarks d_operations d_pilots d_settings d_facts d_cells) := by
      intro v8 v9 hw
      have hf := uc2_some (hf0 _ hw)
      refine sw_iload_n 43 G dX2_findBest_43 0 rfl ?_
      cases hf
      exact sw_iret 44 G dX2_findBest_44 K
    have hx29_51 : ∀ (v10 : Nat → Int32), w29 = .inr (v10) → sw Θ p e rmX2_findBest s m args below meth c A Q 3 0 0 51 [] [] (wX2 Θ l0 l1 l2 l3 u1 r7 u2 u3 u4 v10 u5 u6 ++ wX1 Θ d0 d1 d2 d3 d_columns d_rows d_carrier d_partMarks d_linkMarks d_operations d_pilots d_settings d_facts d_cells) := by
      intro v10 hw
      have hf := uc1_some (hf1 _ hw)
      refine sw_iconst 51 G (-1 : Int32) dX2_findBest_51 rfl ?_
      cases hf
      exact sw_iret 52 G dX2_findBest_52 K
    refine sw_lv [(0, .ref l0), (2, .int (0 : Int32))] [1, 0] rfl ?_
    refine lp_walk (P := fun (t : Int32 × (Nat → Int32)) => sw Θ p e rmX2_findBest s m args below meth c A Q 3 0 0 29 [(0, .ref l0), (2, .int t.1)] [] (wX2 Θ l0 l1 l2 l3 u1 r7 u2 u3 u4 t.2 u5 u6 ++ wX1 Θ d0 d1 d2 d3 d_columns d_rows d_carrier d_partMarks d_linkMarks d_operations d_pilots d_settings d_facts d_cells)) hl (fun t29 y29 hf hin29 hex29 => ?_)
    obtain ⟨v11, v12⟩ := t29
    show sw Θ p e rmX2_findBest s m args below meth c A Q 3 0 0 29 [(0, .ref l0), (2, .int v11)] [] (wX2 Θ l0 l1 l2 l3 u1 r7 u2 u3 u4 v12 u5 u6 ++ wX1 Θ d0 d1 d2 d3 d_columns d_rows d_carrier d_partMarks d_linkMarks d_operations d_pilots d_settings d_facts d_cells)
    have hf := uc2_some (K := _) hf
    refine sw_iload_n 29 G dX2_findBest_29 1 rfl ?_
    refine sw_bipush 30 G (8 : Int32) dX2_findBest_30 rfl ?_
    refine sw_icmp_gt 32 51 G dX2_findBest_32 rfl hf (fun hf => ?_) (fun hf => ?_)
    · cases hf
      exact sw_lv _ [] rfl (hx29_51 _ (hex29 _ rfl).symm)
    · refine sw_aload_n 35 G dX2_findBest_35 0 rfl ?_
      refine sw_iload_n 36 G dX2_findBest_36 1 rfl ?_
      obtain ⟨r13, u14, hg, hf⟩ := bd2_some hf
      refine sw_callV 37 G (wX2 Θ l0 l1 l2 l3 u1 r7 u2 u3 u4 u14 u5 u6 ++ wX1 Θ d0 d1 d2 d3 d_columns d_rows d_carrier d_partMarks d_linkMarks d_operations d_pilots d_settings d_facts d_cells) [0, 1, 2, 3] [4, 5, 6, 7] [4, 5, 6, 7, 0, 1, 2, 3] 1 dX2_findBest_37 (kX2_findWithin Θ F l0 l1 l2 l3 u1 r7 u2 u3 u4 v12 u5 u6 v11 r13 u14 hg) (gwV lk_ae85b775 lk_202f8ee3 lk_65bf993a lk_d27e9d3e lk_6555b04b) rfl hvX2_findWithin ⟨rfl, rfl⟩ ⟨Nat.le_of_ble_eq_true rfl, Nat.le_of_ble_eq_true rfl⟩ ⟨Nat.zero_le _, Nat.zero_le _⟩ rfl rfl (Nat.le_of_ble_eq_true rfl) 0 rfl vc2 rfl rfl rfl rfl (by decide) ?_
      refine sw_if_eq 40 45 G dX2_findBest_40 rfl hf (fun hf => ?_) (fun hf => ?_)
      · refine sw_iinc 45 G (v11 + (1 : Int32)) [(2, .int (v11 + (1 : Int32))), (0, .ref l0)] dX2_findBest_45 1 rfl rfl (by decide) rfl ?_
        refine sw_goto 48 G 29 dX2_findBest_48 rfl ?_
        cases hf
        have hb := hin29 _ rfl
        exact sw_lv _ [1, 0] (by rfl) hb
      · cases hf
        exact sw_lv _ [1] rfl (hx29_43 _ _ (hex29 _ rfl).symm)
  · refine sw_iconst 25 G (-1 : Int32) dX2_findBest_25 rfl ?_
    cases hf
    exact sw_iret 26 G dX2_findBest_26 K
abbrev rmX2_putInto : Room := { frames := 1, cells := 0, slots := 0, locals := 24 }
theorem hvX2_putInto : yX2_putInto.cls = RX2 ∧ yX2_putInto.cls ≠ "java/lang/invoke/MethodHandle" ∧ yX2_putInto.cls ≠ "java/lang/invoke/VarHandle" ∧ (parseMethodDescriptor yX2_putInto.desc).map (fun d => d.parameters.length) = some 1 := by decide +kernel
set_option maxRecDepth 100000 in
set_option maxHeartbeats 4000000 in
theorem kX2_putInto (Θ : Tht) (F : Nat) (l0 l1 l2 l3 d0 d1 d2 d3 : Nat) (l_operations : Int32) (l_limit : Int32) (l_gap : Int32) (l_bends : Int32) (l_greatestForce : Int32) (l_chosen : Nat → Int32) (l_touching : Nat → Int32) (l_forces : Nat → Int32) (d_columns : Int32) (d_rows : Int32) (d_carrier : Int32) (d_partMarks : Int64) (d_linkMarks : Int64) (d_operations : Int32) (d_pilots : Int32) (d_settings : Nat → Int32) (d_facts : Nat → Int32) (d_cells : Nat → Int64) (o_d_facts : Nat → Int32) (hf : fX2_putInto F l_chosen d_operations d_facts = some o_d_facts) : Fn Θ yX2_putInto (Cond.code yX2_putInto cX2_putInto 3 none :: GW) rmX2_putInto [.ref l0, .ref d0] (wX2 Θ l0 l1 l2 l3 l_operations l_limit l_gap l_bends l_greatestForce l_chosen l_touching l_forces ++ wX1 Θ d0 d1 d2 d3 d_columns d_rows d_carrier d_partMarks d_linkMarks d_operations d_pilots d_settings d_facts d_cells) none (wX2 Θ l0 l1 l2 l3 l_operations l_limit l_gap l_bends l_greatestForce l_chosen l_touching l_forces ++ wX1 Θ d0 d1 d2 d3 d_columns d_rows d_carrier d_partMarks d_linkMarks d_operations d_pilots d_settings o_d_facts d_cells) := by
  delta fX2_putInto at hf
  refine Fn.of (by decide +kernel) rfl (Nat.le_of_ble_eq_true rfl) (fun p e s m args below meth c A Q G K => ?_)
  show sw Θ p e rmX2_putInto s m args below meth c A Q 3 0 0 0 [(0, .ref l0), (1, .ref d0)] [] (wX2 Θ l0 l1 l2 l3 l_operations l_limit l_gap l_bends l_greatestForce l_chosen l_touching l_forces ++ wX1 Θ d0 d1 d2 d3 d_columns d_rows d_carrier d_partMarks d_linkMarks d_operations d_pilots d_settings d_facts d_cells)
  refine sw_iconst 0 G (0 : Int32) dX2_putInto_0 rfl ?_
  refine sw_istore_n 1 G [(2, .int (0 : Int32)), (0, .ref l0), (1, .ref d0)] dX2_putInto_1 (by decide) rfl ?_
  obtain ⟨v1, hl, hf⟩ := bd1_some hf
  have hx2_28 : sw Θ p e rmX2_putInto s m args below meth c A Q 3 0 0 28 [] [] (wX2 Θ l0 l1 l2 l3 l_operations l_limit l_gap l_bends l_greatestForce l_chosen l_touching l_forces ++ wX1 Θ d0 d1 d2 d3 d_columns d_rows d_carrier d_partMarks d_linkMarks d_operations d_pilots d_settings v1 d_cells) := by
    cases hf
    exact sw_vret 28 G dX2_putInto_28 K
  refine sw_lv [(0, .ref l0), (1, .ref d0), (2, .int (0 : Int32))] [1, 2, 0] rfl ?_
  refine lp_walk (P := fun (t : Int32 × (Nat → Int32)) => sw Θ p e rmX2_putInto s m args below meth c A Q 3 0 0 2 [(0, .ref l0), (1, .ref d0), (2, .int t.1)] [] (wX2 Θ l0 l1 l2 l3 l_operations l_limit l_gap l_bends l_greatestForce l_chosen l_touching l_forces ++ wX1 Θ d0 d1 d2 d3 d_columns d_rows d_carrier d_partMarks d_linkMarks d_operations d_pilots d_settings t.2 d_cells)) hl (fun t2 y2 hf hin2 hex2 => ?_)
  obtain ⟨v2, v3⟩ := t2
  show sw Θ p e rmX2_putInto s m args below meth c A Q 3 0 0 2 [(0, .ref l0), (1, .ref d0), (2, .int v2)] [] (wX2 Θ l0 l1 l2 l3 l_operations l_limit l_gap l_bends l_greatestForce l_chosen l_touching l_forces ++ wX1 Θ d0 d1 d2 d3 d_columns d_rows d_carrier d_partMarks d_linkMarks d_operations d_pilots d_settings v3 d_cells)
  have hf := uc2_some (K := _) hf
  refine sw_iload_n 2 G dX2_putInto_2 2 rfl ?_
  refine sw_aload_n 3 G dX2_putInto_3 1 rfl ?_
  refine sw_get 4 G hnX1 4 5 dX2_putInto_4 vc1 (by decide) (List.mem_cons_of_mem _ lk_5228f9e0) rfl rfl ?_
  refine sw_icmp_ge 7 28 G dX2_putInto_7 rfl hf (fun hf => ?_) (fun hf => ?_)
  · cases hf
    cases hex2 _ rfl
    exact sw_lv _ [] rfl hx2_28
  · refine sw_aload_n 10 G dX2_putInto_10 1 rfl ?_
    refine sw_iload_n 11 G dX2_putInto_11 2 rfl ?_
    refine sw_bipush 12 G (6 : Int32) dX2_putInto_12 rfl ?_
    refine sw_aload_n 14 G dX2_putInto_14 0 rfl ?_
    refine sw_iload_n 15 G dX2_putInto_15 2 rfl ?_
    obtain ⟨r4, hg, hf⟩ := bd1_some hf
    refine sw_callV 16 G (wX2 Θ l0 l1 l2 l3 l_operations l_limit l_gap l_bends l_greatestForce l_chosen l_touching l_forces ++ wX1 Θ d0 d1 d2 d3 d_columns d_rows d_carrier d_partMarks d_linkMarks d_operations d_pilots d_settings v3 d_cells) [0, 1, 2, 3] [4, 5, 6, 7] [4, 5, 6, 7, 0, 1, 2, 3] 1 dX2_putInto_16 (kX2_chosenFor Θ l0 l1 l2 l3 l_operations l_limit l_gap l_bends l_greatestForce l_chosen l_touching l_forces v2 r4 hg) (gwV lk_cc969aad lk_9c20c1cc lk_2820cf9c lk_d27e9d3e lk_b042b34b) rfl hvX2_chosenFor ⟨rfl, rfl⟩ ⟨Nat.le_of_ble_eq_true rfl, Nat.le_of_ble_eq_true rfl⟩ ⟨Nat.zero_le _, Nat.zero_le _⟩ rfl rfl (Nat.le_of_ble_eq_true rfl) 0 rfl vc2 rfl rfl rfl rfl (by decide) ?_
    obtain ⟨u5, hg, hf⟩ := bd1_some hf
    refine sw_callV 19 G (wX2 Θ l0 l1 l2 l3 l_operations l_limit l_gap l_bends l_greatestForce l_chosen l_touching l_forces ++ wX1 Θ d0 d1 d2 d3 d_columns d_rows d_carrier d_partMarks d_linkMarks d_operations d_pilots d_settings u5 d_cells) [4, 5, 6, 7] [0, 1, 2, 3] [0, 1, 2, 3, 4, 5, 6, 7] 3 dX2_putInto_19 (kX1_changeFact Θ d0 d1 d2 d3 d_columns d_rows d_carrier d_partMarks d_linkMarks d_operations d_pilots d_settings v3 d_cells v2 (6 : Int32) r4 u5 hg) (gwV lk_666d1eac lk_96ca5489 lk_0b461f27 lk_cf66e99d lk_e5cced47) rfl hvX1_changeFact ⟨rfl, rfl⟩ ⟨Nat.le_of_ble_eq_true rfl, Nat.le_of_ble_eq_true rfl⟩ ⟨Nat.zero_le _, Nat.zero_le _⟩ rfl rfl (Nat.le_of_ble_eq_true rfl) 0 rfl vc1 rfl rfl rfl rfl (by decide) ?_
    refine sw_iinc 22 G (v2 + (1 : Int32)) [(2, .int (v2 + (1 : Int32))), (0, .ref l0), (1, .ref d0)] dX2_putInto_22 2 rfl rfl (by decide) rfl ?_
    refine sw_goto 25 G 2 dX2_putInto_25 rfl ?_
    cases hf
    have hb := hin2 _ rfl
    exact sw_lv _ [1, 2, 0] (by rfl) hb
