theorem lk_a8945f12 : Cond.methodLink RL 112 yX5_strokesToGood ∈ GW := GW_of 776 (by decide +kernel) (by decide +kernel)
theorem lk_9dcedff5 : Cond.instanceMethod yX5_strokesToGood ∈ GW := GW_of 777 (by decide +kernel) (by decide +kernel)
theorem lk_79814c5f : Cond.selects RX5 yX5_strokesToGood yX5_strokesToGood ∈ GW := GW_of 778 (by decide +kernel) (by decide +kernel)
theorem lk_ccad33a5 : Cond.code yX5_strokesToGood cX5_strokesToGood 3 (some .int) ∈ GW := GW_of 779 (by decide +kernel) (by decide +kernel)
theorem lk_3f63e46d : Cond.methodLink RL 115 yX5_stroke ∈ GW := GW_of 823 (by decide +kernel) (by decide +kernel)
theorem lk_7499b73a : Cond.instanceMethod yX5_stroke ∈ GW := GW_of 824 (by decide +kernel) (by decide +kernel)
theorem lk_c9261137 : Cond.selects RX5 yX5_stroke yX5_stroke ∈ GW := GW_of 825 (by decide +kernel) (by decide +kernel)
theorem lk_9b868455 : Cond.code yX5_stroke cX5_stroke 1 (some .int) ∈ GW := GW_of 826 (by decide +kernel) (by decide +kernel)
abbrev rmL_strokes : Room := { frames := 8, cells := 0, slots := 0, locals := 161 }
theorem hsL_strokes : yL_strokes.cls ≠ "java/lang/invoke/MethodHandle" ∧ yL_strokes.cls ≠ "java/lang/invoke/VarHandle" ∧ (parseMethodDescriptor yL_strokes.desc).map (fun d => d.parameters.length) = some 1 := by decide +kernel
set_option maxRecDepth 100000 in
set_option maxHeartbeats 4000000 in
theorem kL_strokes {Θ : Tht} {KE : (Nat → Nat) × (Nat → Nat)} {ad : Nat → Nat} {F : Nat} {o_c : CSt} {ro : Int32} {c2 : CSt} (hf : fL_strokes F o_c = some (ro, c2)) : FC Θ KE 0 0 yL_strokes (Cond.code yL_strokes cL_strokes 8 (some .boolean) :: GW) rmL_strokes [.ref (ad 0)] (wC Θ ad o_c) (some (.int ro)) (wC Θ ad c2) := by
  delta fL_strokes at hf
  refine FC.ofK (by decide +kernel) rfl (Nat.le_of_ble_eq_true rfl) (fun p e s m args below meth c A Q G K E => ?_)
  show sw Θ p e rmL_strokes s m args below meth c A Q 8 0 0 0 [(0, .ref (ad 0))] [] (wC Θ ad o_c)
  refine sw_aload_n 0 G dL_strokes_0 0 rfl ?_
  obtain ⟨r1, u2, hg, hf⟩ := bd2_some hf
  refine sw_callVA 1 G E 0 dL_strokes_1 (kG_strokesToGood hg) (gwV lk_a8945f12 lk_9dcedff5 lk_79814c5f lk_5f14f758 lk_ccad33a5) rfl hvL_strokesToGood ⟨rfl, rfl⟩ ⟨Nat.le_of_ble_eq_true rfl, Nat.le_of_ble_eq_true rfl⟩ ⟨Nat.le_of_ble_eq_true rfl, Nat.le_of_ble_eq_true rfl⟩ rfl rfl (Nat.le_of_ble_eq_true rfl) 0 rfl vc5 rfl ?_
  refine sw_istore_n 4 G [(1, .int r1), (0, .ref (ad 0))] dL_strokes_4 (by decide) rfl ?_
  refine sw_aload_n 5 G dL_strokes_5 1 rfl ?_
  refine sw_bipush 6 G (12 : Int32) dL_strokes_6 rfl ?_
  obtain ⟨r3, hg, hf⟩ := bd1_some hf
  refine sw_callVA 8 G E 1 dL_strokes_8 (kG_whole hg) (gwV lk_2847ce46 lk_00a700e4 lk_1397dd5c lk_5f14f758 lk_141fdf1b) rfl hvL_whole ⟨rfl, rfl⟩ ⟨Nat.le_of_ble_eq_true rfl, Nat.le_of_ble_eq_true rfl⟩ ⟨Nat.le_of_ble_eq_true rfl, Nat.le_of_ble_eq_true rfl⟩ rfl rfl (Nat.le_of_ble_eq_true rfl) 0 rfl vc5 rfl ?_
  refine sw_istore_n 11 G [(2, .int r3), (1, .int r1), (0, .ref (ad 0))] dL_strokes_11 (by decide) rfl ?_
  refine sw_aload_n 12 G dL_strokes_12 2 rfl ?_
  refine sw_bipush 13 G (13 : Int32) dL_strokes_13 rfl ?_
  obtain ⟨r4, hg, hf⟩ := bd1_some hf
  refine sw_callVA 15 G E 1 dL_strokes_15 (kG_whole hg) (gwV lk_2847ce46 lk_00a700e4 lk_1397dd5c lk_5f14f758 lk_141fdf1b) rfl hvL_whole ⟨rfl, rfl⟩ ⟨Nat.le_of_ble_eq_true rfl, Nat.le_of_ble_eq_true rfl⟩ ⟨Nat.le_of_ble_eq_true rfl, Nat.le_of_ble_eq_true rfl⟩ rfl rfl (Nat.le_of_ble_eq_true rfl) 0 rfl vc5 rfl ?_
  refine sw_istore_n 18 G [(3, .int r4), (2, .int r3), (1, .int r1), (0, .ref (ad 0))] dL_strokes_18 (by decide) rfl ?_
  refine sw_aload_n 19 G dL_strokes_19 3 rfl ?_
  obtain ⟨r5, u6, hg, hf⟩ := bd2_some hf
  refine sw_callVA 20 G E 0 dL_strokes_20 (kG_stroke hg) (gwV lk_3f63e46d lk_7499b73a lk_c9261137 lk_5f14f758 lk_9b868455) rfl hvL_stroke ⟨rfl, rfl⟩ ⟨Nat.le_of_ble_eq_true rfl, Nat.le_of_ble_eq_true rfl⟩ ⟨Nat.le_of_ble_eq_true rfl, Nat.le_of_ble_eq_true rfl⟩ rfl rfl (Nat.le_of_ble_eq_true rfl) 0 rfl vc5 rfl ?_
  refine sw_istore 23 G [(4, .int r5), (3, .int r4), (2, .int r3), (1, .int r1), (0, .ref (ad 0))] dL_strokes_23 (by decide) rfl ?_
  refine sw_aload_n 25 G dL_strokes_25 4 rfl ?_
  refine sw_bipush 26 G (12 : Int32) dL_strokes_26 rfl ?_
  obtain ⟨r7, hg, hf⟩ := bd1_some hf
  refine sw_callVA 28 G E 1 dL_strokes_28 (kG_whole hg) (gwV lk_2847ce46 lk_00a700e4 lk_1397dd5c lk_5f14f758 lk_141fdf1b) rfl hvL_whole ⟨rfl, rfl⟩ ⟨Nat.le_of_ble_eq_true rfl, Nat.le_of_ble_eq_true rfl⟩ ⟨Nat.le_of_ble_eq_true rfl, Nat.le_of_ble_eq_true rfl⟩ rfl rfl (Nat.le_of_ble_eq_true rfl) 0 rfl vc5 rfl ?_
  refine sw_iload_n 31 G dL_strokes_31 2 rfl ?_
  refine sw_isub 32 G dL_strokes_32 ?_
  refine sw_nmi hf (fun v8 hf => ?_)
  refine sw_istore 33 G [(5, .int v8), (4, .int r5), (3, .int r4), (2, .int r3), (1, .int r1), (0, .ref (ad 0))] dL_strokes_33 (by decide) rfl ?_
  refine sw_aload_n 35 G dL_strokes_35 5 rfl ?_
  refine sw_bipush 36 G (13 : Int32) dL_strokes_36 rfl ?_
  obtain ⟨r9, hg, hf⟩ := bd1_some hf
  refine sw_callVA 38 G E 1 dL_strokes_38 (kG_whole hg) (gwV lk_2847ce46 lk_00a700e4 lk_1397dd5c lk_5f14f758 lk_141fdf1b) rfl hvL_whole ⟨rfl, rfl⟩ ⟨Nat.le_of_ble_eq_true rfl, Nat.le_of_ble_eq_true rfl⟩ ⟨Nat.le_of_ble_eq_true rfl, Nat.le_of_ble_eq_true rfl⟩ rfl rfl (Nat.le_of_ble_eq_true rfl) 0 rfl vc5 rfl ?_
  refine sw_iload_n 41 G dL_strokes_41 2 rfl ?_
  refine sw_isub 42 G dL_strokes_42 ?_
  refine sw_nmi hf (fun v10 hf => ?_)
  refine sw_istore 43 G [(6, .int v10), (5, .int v8), (4, .int r5), (3, .int r4), (2, .int r3), (1, .int r1), (0, .ref (ad 0))] dL_strokes_43 (by decide) rfl ?_
  refine sw_iload 45 G dL_strokes_45 2 rfl ?_
  refine sw_iload 47 G dL_strokes_47 1 rfl ?_
  refine sw_iload 49 G dL_strokes_49 0 rfl ?_
  refine sw_iadd 51 G dL_strokes_51 ?_
  obtain ⟨v11, hj, hf⟩ := bd1_some hf
  have hx69 : sw Θ p e rmL_strokes s m args below meth c A Q 8 0 0 69 [(0, .ref (ad 0)), (1, .int r1), (5, .int v8)] [.int v11, .int r5] (wC Θ ad u6) := by
    obtain ⟨v12, hj, hf⟩ := bd1_some hf
    have hx100 : sw Θ p e rmL_strokes s m args below meth c A Q 8 0 0 100 [(0, .ref (ad 0)), (1, .int r1)] [.int v12] (wC Θ ad u6) := by
      refine sw_istore 100 G [(7, .int v12), (0, .ref (ad 0)), (1, .int r1)] dL_strokes_100 (by decide) rfl ?_
      refine sw_iload 102 G dL_strokes_102 0 rfl ?_
      refine sw_if_eq 104 126 G dL_strokes_104 rfl hf (fun hf => ?_) (fun hf => ?_)
      · refine sw_iconst 126 G (0 : Int32) dL_strokes_126 rfl ?_
        cases hf
        exact sw_zretC 127 G dL_strokes_127 K rfl (Nat.le_of_ble_eq_true rfl) (Nat.le_of_ble_eq_true rfl)
      · refine sw_iload_n 107 G dL_strokes_107 2 rfl ?_
        refine sw_iconst 108 G (2 : Int32) dL_strokes_108 rfl ?_
        refine sw_icmp_lt 109 122 G dL_strokes_109 rfl hf (fun hf => ?_) (fun hf => ?_)
        · refine sw_iconst 122 G (1 : Int32) dL_strokes_122 rfl ?_
          refine sw_goto 123 G 127 dL_strokes_123 rfl ?_
          cases hf
          exact sw_zretC 127 G dL_strokes_127 K rfl (Nat.le_of_ble_eq_true rfl) (Nat.le_of_ble_eq_true rfl)
        · refine sw_aload_n 112 G dL_strokes_112 1 rfl ?_
          obtain ⟨r15, u16, hg, hf⟩ := bd2_some hf
          refine sw_callVA 113 G E 0 dL_strokes_113 (kG_strokesToGood hg) (gwV lk_a8945f12 lk_9dcedff5 lk_79814c5f lk_5f14f758 lk_ccad33a5) rfl hvL_strokesToGood ⟨rfl, rfl⟩ ⟨Nat.le_of_ble_eq_true rfl, Nat.le_of_ble_eq_true rfl⟩ ⟨Nat.le_of_ble_eq_true rfl, Nat.le_of_ble_eq_true rfl⟩ rfl rfl (Nat.le_of_ble_eq_true rfl) 0 rfl vc5 rfl ?_
          refine sw_iload_n 116 G dL_strokes_116 2 rfl ?_
          refine sw_iconst 117 G (1 : Int32) dL_strokes_117 rfl ?_
          refine sw_isub 118 G dL_strokes_118 ?_
          refine sw_icmp_ne 119 126 G dL_strokes_119 rfl hf (fun hf => ?_) (fun hf => ?_)
          · refine sw_iconst 126 G (0 : Int32) dL_strokes_126 rfl ?_
            cases hf
            exact sw_zretC 127 G dL_strokes_127 K rfl (Nat.le_of_ble_eq_true rfl) (Nat.le_of_ble_eq_true rfl)
          · refine sw_iconst 122 G (1 : Int32) dL_strokes_122 rfl ?_
            refine sw_goto 123 G 127 dL_strokes_123 rfl ?_
            cases hf
            exact sw_zretC 127 G dL_strokes_127 K rfl (Nat.le_of_ble_eq_true rfl) (Nat.le_of_ble_eq_true rfl)
    clear hf
    have hf := hj
    clear hj
    refine sw_icmp_ne 69 99 G dL_strokes_69 rfl hf (fun hf => ?_) (fun hf => ?_)
    · refine sw_iconst 99 G (0 : Int32) dL_strokes_99 rfl ?_
      cases hf
      exact sw_lv _ [0, 1] rfl hx100
    · refine sw_iload_n 72 G dL_strokes_72 1 rfl ?_
      refine sw_iconst 73 G (1 : Int32) dL_strokes_73 rfl ?_
      obtain ⟨v13, hj, hf⟩ := bd1_some hf
      have hx82 : sw Θ p e rmL_strokes s m args below meth c A Q 8 0 0 82 [(0, .ref (ad 0)), (1, .int r1), (5, .int v8)] [.int v13] (wC Θ ad u6) := by
        refine sw_iload 82 G dL_strokes_82 2 rfl ?_
        obtain ⟨v14, hj, hf⟩ := bd1_some hf
        have hx92 : sw Θ p e rmL_strokes s m args below meth c A Q 8 0 0 92 [(0, .ref (ad 0)), (1, .int r1)] [.int v14, .int v13] (wC Θ ad u6) := by
          refine sw_icmp_ne 92 99 G dL_strokes_92 rfl hf (fun hf => ?_) (fun hf => ?_)
          · refine sw_iconst 99 G (0 : Int32) dL_strokes_99 rfl ?_
            cases hf
            exact sw_lv _ [0, 1] rfl hx100
          · refine sw_iconst 95 G (1 : Int32) dL_strokes_95 rfl ?_
            refine sw_goto 96 G 100 dL_strokes_96 rfl ?_
            cases hf
            exact sw_lv _ [0, 1] rfl hx100
        clear hf
        have hf := hj
        clear hj
        refine sw_if_le 84 91 G dL_strokes_84 rfl hf (fun hf => ?_) (fun hf => ?_)
        · refine sw_iconst 91 G (0 : Int32) dL_strokes_91 rfl ?_
          cases hf
          exact sw_lv _ [0, 1] rfl hx92
        · refine sw_iconst 87 G (1 : Int32) dL_strokes_87 rfl ?_
          refine sw_goto 88 G 92 dL_strokes_88 rfl ?_
          cases hf
          exact sw_lv _ [0, 1] rfl hx92
      clear hf
      have hf := hj
      clear hj
      refine sw_icmp_ne 74 81 G dL_strokes_74 rfl hf (fun hf => ?_) (fun hf => ?_)
      · refine sw_iconst 81 G (0 : Int32) dL_strokes_81 rfl ?_
        cases hf
        exact sw_lv _ [0, 1, 2] rfl hx82
      · refine sw_iconst 77 G (1 : Int32) dL_strokes_77 rfl ?_
        refine sw_goto 78 G 82 dL_strokes_78 rfl ?_
        cases hf
        exact sw_lv _ [0, 1, 2] rfl hx82
  clear hf
  have hf := hj
  clear hj
  refine sw_if_ne 52 59 G dL_strokes_52 rfl hf (fun hf => ?_) (fun hf => ?_)
  · refine sw_iload 59 G dL_strokes_59 0 rfl ?_
    refine sw_if_ne 61 68 G dL_strokes_61 rfl hf (fun hf => ?_) (fun hf => ?_)
    · refine sw_iconst 68 G (2 : Int32) dL_strokes_68 rfl ?_
      cases hf
      exact sw_lv _ [6, 5, 1] rfl hx69
    · refine sw_iconst 64 G (1 : Int32) dL_strokes_64 rfl ?_
      refine sw_goto 65 G 69 dL_strokes_65 rfl ?_
      cases hf
      exact sw_lv _ [6, 5, 1] rfl hx69
  · refine sw_iconst 55 G (0 : Int32) dL_strokes_55 rfl ?_
    refine sw_goto 56 G 69 dL_strokes_56 rfl ?_
    cases hf
    exact sw_lv _ [6, 5, 1] rfl hx69
