theorem lk_464a4df5 : Cond.methodLink RL 82 yX5_left ∈ GW := GW_of 600 (by decide +kernel) (by decide +kernel)
theorem lk_cb7a7b42 : Cond.instanceMethod yX5_left ∈ GW := GW_of 601 (by decide +kernel) (by decide +kernel)
theorem lk_2e1ae927 : Cond.selects RX5 yX5_left yX5_left ∈ GW := GW_of 602 (by decide +kernel) (by decide +kernel)
theorem lk_525c92fb : Cond.code yX5_left cX5_left 2 (some .long) ∈ GW := GW_of 603 (by decide +kernel) (by decide +kernel)
theorem lk_610d0c07 : Cond.methodLink RL 85 yX5_pitch ∈ GW := GW_of 608 (by decide +kernel) (by decide +kernel)
theorem lk_ad536863 : Cond.instanceMethod yX5_pitch ∈ GW := GW_of 609 (by decide +kernel) (by decide +kernel)
theorem lk_540372d4 : Cond.selects RX5 yX5_pitch yX5_pitch ∈ GW := GW_of 610 (by decide +kernel) (by decide +kernel)
theorem lk_2b94d3f7 : Cond.code yX5_pitch cX5_pitch 3 (some .int) ∈ GW := GW_of 611 (by decide +kernel) (by decide +kernel)
abbrev rmL_press : Room := { frames := 4, cells := 0, slots := 0, locals := 87 }
theorem hsL_press : yL_press.cls ≠ "java/lang/invoke/MethodHandle" ∧ yL_press.cls ≠ "java/lang/invoke/VarHandle" ∧ (parseMethodDescriptor yL_press.desc).map (fun d => d.parameters.length) = some 1 := by decide +kernel
set_option maxRecDepth 100000 in
set_option maxHeartbeats 4000000 in
theorem kL_press {Θ : Tht} {KE : (Nat → Nat) × (Nat → Nat)} {ad : Nat → Nat} {F : Nat} {o_c : CSt} {ro : Int32} (hf : fL_press F o_c = some ro) : FC Θ KE 0 0 yL_press (Cond.code yL_press cL_press 5 (some .boolean) :: GW) rmL_press [.ref (ad 0)] (wC Θ ad o_c) (some (.int ro)) (wC Θ ad o_c) := by
  delta fL_press at hf
  refine FC.ofK (by decide +kernel) rfl (Nat.le_of_ble_eq_true rfl) (fun p e s m args below meth c A Q G K E => ?_)
  show sw Θ p e rmL_press s m args below meth c A Q 5 0 0 0 [(0, .ref (ad 0))] [] (wC Θ ad o_c)
  refine sw_iconst 0 G (0 : Int32) dL_press_0 rfl ?_
  refine sw_istore_n 1 G [(1, .int (0 : Int32)), (0, .ref (ad 0))] dL_press_1 (by decide) rfl ?_
  refine sw_iconst 2 G (1 : Int32) dL_press_2 rfl ?_
  refine sw_istore_n 3 G [(2, .int (1 : Int32)), (1, .int (0 : Int32)), (0, .ref (ad 0))] dL_press_3 (by decide) rfl ?_
  refine sw_iconst 4 G (0 : Int32) dL_press_4 rfl ?_
  refine sw_istore_n 5 G [(3, .int (0 : Int32)), (2, .int (1 : Int32)), (1, .int (0 : Int32)), (0, .ref (ad 0))] dL_press_5 (by decide) rfl ?_
  obtain ⟨v1, v2, hl, hf⟩ := bd2_some hf
  have hx6_100 : sw Θ p e rmL_press s m args below meth c A Q 5 0 0 100 [(0, .ref (ad 0)), (1, .int v1), (2, .int v2)] [] (wC Θ ad o_c) := by
    refine sw_iload_n 100 G dL_press_100 2 rfl ?_
    refine sw_if_eq 101 142 G dL_press_101 rfl hf (fun hf => ?_) (fun hf => ?_)
    · refine sw_iconst 142 G (0 : Int32) dL_press_142 rfl ?_
      cases hf
      exact sw_zretC 143 G dL_press_143 K rfl (Nat.le_of_ble_eq_true rfl) (Nat.le_of_ble_eq_true rfl)
    · refine sw_iload_n 104 G dL_press_104 1 rfl ?_
      refine sw_aload_n 105 G dL_press_105 0 rfl ?_
      refine sw_bipush 106 G (10 : Int32) dL_press_106 rfl ?_
      obtain ⟨r3, hg, hf⟩ := bd1_some hf
      refine sw_callVA 108 G E 1 dL_press_108 (kG_whole hg) (gwV lk_2847ce46 lk_00a700e4 lk_1397dd5c lk_5f14f758 lk_141fdf1b) rfl hvL_whole ⟨rfl, rfl⟩ ⟨Nat.le_of_ble_eq_true rfl, Nat.le_of_ble_eq_true rfl⟩ ⟨Nat.le_of_ble_eq_true rfl, Nat.le_of_ble_eq_true rfl⟩ rfl rfl (Nat.le_of_ble_eq_true rfl) 0 rfl vc5 rfl ?_
      refine sw_icmp_ne 111 142 G dL_press_111 rfl hf (fun hf => ?_) (fun hf => ?_)
      · refine sw_iconst 142 G (0 : Int32) dL_press_142 rfl ?_
        cases hf
        exact sw_zretC 143 G dL_press_143 K rfl (Nat.le_of_ble_eq_true rfl) (Nat.le_of_ble_eq_true rfl)
      · refine sw_aload_n 114 G dL_press_114 0 rfl ?_
        refine sw_bipush 115 G (12 : Int32) dL_press_115 rfl ?_
        obtain ⟨r4, hg, hf⟩ := bd1_some hf
        refine sw_callVA 117 G E 1 dL_press_117 (kG_whole hg) (gwV lk_2847ce46 lk_00a700e4 lk_1397dd5c lk_5f14f758 lk_141fdf1b) rfl hvL_whole ⟨rfl, rfl⟩ ⟨Nat.le_of_ble_eq_true rfl, Nat.le_of_ble_eq_true rfl⟩ ⟨Nat.le_of_ble_eq_true rfl, Nat.le_of_ble_eq_true rfl⟩ rfl rfl (Nat.le_of_ble_eq_true rfl) 0 rfl vc5 rfl ?_
        refine sw_aload_n 120 G dL_press_120 0 rfl ?_
        refine sw_bipush 121 G (13 : Int32) dL_press_121 rfl ?_
        obtain ⟨r5, hg, hf⟩ := bd1_some hf
        refine sw_callVA 123 G E 1 dL_press_123 (kG_whole hg) (gwV lk_2847ce46 lk_00a700e4 lk_1397dd5c lk_5f14f758 lk_141fdf1b) rfl hvL_whole ⟨rfl, rfl⟩ ⟨Nat.le_of_ble_eq_true rfl, Nat.le_of_ble_eq_true rfl⟩ ⟨Nat.le_of_ble_eq_true rfl, Nat.le_of_ble_eq_true rfl⟩ rfl rfl (Nat.le_of_ble_eq_true rfl) 0 rfl vc5 rfl ?_
        refine sw_iadd 126 G dL_press_126 ?_
        refine sw_iload_n 127 G dL_press_127 1 rfl ?_
        refine sw_iadd 128 G dL_press_128 ?_
        refine sw_aload_n 129 G dL_press_129 0 rfl ?_
        refine sw_bipush 130 G (11 : Int32) dL_press_130 rfl ?_
        obtain ⟨r6, hg, hf⟩ := bd1_some hf
        refine sw_callVA 132 G E 1 dL_press_132 (kG_whole hg) (gwV lk_2847ce46 lk_00a700e4 lk_1397dd5c lk_5f14f758 lk_141fdf1b) rfl hvL_whole ⟨rfl, rfl⟩ ⟨Nat.le_of_ble_eq_true rfl, Nat.le_of_ble_eq_true rfl⟩ ⟨Nat.le_of_ble_eq_true rfl, Nat.le_of_ble_eq_true rfl⟩ rfl rfl (Nat.le_of_ble_eq_true rfl) 0 rfl vc5 rfl ?_
        refine sw_icmp_ne 135 142 G dL_press_135 rfl hf (fun hf => ?_) (fun hf => ?_)
        · refine sw_iconst 142 G (0 : Int32) dL_press_142 rfl ?_
          cases hf
          exact sw_zretC 143 G dL_press_143 K rfl (Nat.le_of_ble_eq_true rfl) (Nat.le_of_ble_eq_true rfl)
        · refine sw_iconst 138 G (1 : Int32) dL_press_138 rfl ?_
          refine sw_goto 139 G 143 dL_press_139 rfl ?_
          cases hf
          exact sw_zretC 143 G dL_press_143 K rfl (Nat.le_of_ble_eq_true rfl) (Nat.le_of_ble_eq_true rfl)
  refine sw_lv [(0, .ref (ad 0)), (1, .int (0 : Int32)), (2, .int (1 : Int32)), (3, .int (0 : Int32))] [3, 2, 1, 0] rfl ?_
  refine lp_walk (P := fun (t : Int32 × Int32 × Int32) => sw Θ p e rmL_press s m args below meth c A Q 5 0 0 6 [(0, .ref (ad 0)), (1, .int t.1), (2, .int t.2.1), (3, .int t.2.2)] [] (wC Θ ad o_c)) hl (fun t6 y6 hf hin6 hex6 => ?_)
  obtain ⟨v7, v8, v9⟩ := t6
  show sw Θ p e rmL_press s m args below meth c A Q 5 0 0 6 [(0, .ref (ad 0)), (1, .int v7), (2, .int v8), (3, .int v9)] [] (wC Θ ad o_c)
  have hf := uc3_some (K := _) hf
  refine sw_iload_n 6 G dL_press_6 3 rfl ?_
  refine sw_bipush 7 G (8 : Int32) dL_press_7 rfl ?_
  refine sw_icmp_ge 9 100 G dL_press_9 rfl hf (fun hf => ?_) (fun hf => ?_)
  · cases hf
    cases hex6 _ rfl
    exact sw_lv _ [0, 1, 2] rfl hx6_100
  · refine sw_iload_n 12 G dL_press_12 2 rfl ?_
    refine sw_if_eq 13 100 G dL_press_13 rfl hf (fun hf => ?_) (fun hf => ?_)
    · cases hf
      cases hex6 _ rfl
      exact sw_lv _ [0, 1, 2] rfl hx6_100
    · refine sw_aload_n 16 G dL_press_16 0 rfl ?_
      refine sw_iload_n 17 G dL_press_17 3 rfl ?_
      refine sw_iconst 18 G (3 : Int32) dL_press_18 rfl ?_
      obtain ⟨r10, hg, hf⟩ := bd1_some hf
      refine sw_callVA 19 G E 2 dL_press_19 (kG_station hg) (gwV lk_e5df554d lk_954be666 lk_48b8789b lk_5f14f758 lk_0e1ef4ca) rfl hvL_station ⟨rfl, rfl⟩ ⟨Nat.le_of_ble_eq_true rfl, Nat.le_of_ble_eq_true rfl⟩ ⟨Nat.le_of_ble_eq_true rfl, Nat.le_of_ble_eq_true rfl⟩ rfl rfl (Nat.le_of_ble_eq_true rfl) 0 rfl vc5 rfl ?_
      refine sw_istore 22 G [(4, .int r10), (0, .ref (ad 0)), (1, .int v7), (2, .int v8), (3, .int v9)] dL_press_22 (by decide) rfl ?_
      refine sw_iload_n 24 G dL_press_24 2 rfl ?_
      refine sw_iload 25 G dL_press_25 0 rfl ?_
      refine sw_iadd 27 G dL_press_27 ?_
      refine sw_nmi hf (fun v11 hf => ?_)
      refine sw_istore_n 28 G [(1, .int v11), (4, .int r10), (0, .ref (ad 0)), (2, .int v8), (3, .int v9)] dL_press_28 (by decide) rfl ?_
      refine sw_iload 29 G dL_press_29 1 rfl ?_
      obtain ⟨v12, hj, hf⟩ := bd1_some hf
      have hx93 : sw Θ p e rmL_press s m args below meth c A Q 5 0 0 93 [(0, .ref (ad 0)), (1, .int v11), (3, .int v9)] [.int v12] (wC Θ ad o_c) := by
        refine sw_istore_n 93 G [(2, .int v12), (0, .ref (ad 0)), (1, .int v11), (3, .int v9)] dL_press_93 (by decide) rfl ?_
        refine sw_iinc 94 G (v9 + (1 : Int32)) [(3, .int (v9 + (1 : Int32))), (2, .int v12), (0, .ref (ad 0)), (1, .int v11)] dL_press_94 3 rfl rfl (by decide) rfl ?_
        refine sw_goto 97 G 6 dL_press_97 rfl ?_
        cases hf
        have hb := hin6 _ rfl
        exact sw_lv _ [2, 3, 1, 0] (by rfl) hb
      clear hf
      have hf := hj
      clear hj
      refine sw_if_ne 31 62 G dL_press_31 rfl hf (fun hf => ?_) (fun hf => ?_)
      · refine sw_aload_n 62 G dL_press_62 2 rfl ?_
        refine sw_iload_n 63 G dL_press_63 4 rfl ?_
        refine sw_iconst 64 G (3 : Int32) dL_press_64 rfl ?_
        obtain ⟨r13, hg, hf⟩ := bd1_some hf
        refine sw_callVA 65 G E 2 dL_press_65 (kG_pitch hg) (gwV lk_610d0c07 lk_ad536863 lk_540372d4 lk_5f14f758 lk_2b94d3f7) rfl hvL_pitch ⟨rfl, rfl⟩ ⟨Nat.le_of_ble_eq_true rfl, Nat.le_of_ble_eq_true rfl⟩ ⟨Nat.le_of_ble_eq_true rfl, Nat.le_of_ble_eq_true rfl⟩ rfl rfl (Nat.le_of_ble_eq_true rfl) 0 rfl vc5 rfl ?_
        refine sw_aload_n 68 G dL_press_68 2 rfl ?_
        refine sw_iload_n 69 G dL_press_69 4 rfl ?_
        obtain ⟨r14, hg, hf⟩ := bd1_some hf
        refine sw_callVA 70 G E 1 dL_press_70 (kG_left hg) (gwV lk_464a4df5 lk_cb7a7b42 lk_2e1ae927 lk_5f14f758 lk_525c92fb) rfl hvL_left ⟨rfl, rfl⟩ ⟨Nat.le_of_ble_eq_true rfl, Nat.le_of_ble_eq_true rfl⟩ ⟨Nat.le_of_ble_eq_true rfl, Nat.le_of_ble_eq_true rfl⟩ rfl rfl (Nat.le_of_ble_eq_true rfl) 0 rfl vc5 rfl ?_
        obtain ⟨r15, hg, hf⟩ := bd1_some hf
        refine sw_callSW 73 G 1 dL_press_73 (Fn.any _ (kL_ones Θ F r14 r15 hg)) (gwS lk_3cdd677e lk_37a662d3 lk_bed2f496 lk_98f15b9a) rfl hsL_ones ⟨rfl, rfl⟩ ⟨Nat.le_of_ble_eq_true rfl, Nat.le_of_ble_eq_true rfl⟩ ⟨Nat.le_of_ble_eq_true rfl, Nat.le_of_ble_eq_true rfl⟩ rfl rfl (Nat.le_of_ble_eq_true rfl) ?_
        refine sw_icmp_ne 76 92 G dL_press_76 rfl hf (fun hf => ?_) (fun hf => ?_)
        · refine sw_iconst 92 G (0 : Int32) dL_press_92 rfl ?_
          cases hf
          exact sw_lv _ [2, 0, 4] rfl hx93
        · refine sw_aload_n 79 G dL_press_79 2 rfl ?_
          refine sw_iload_n 80 G dL_press_80 4 rfl ?_
          refine sw_iconst 81 G (1 : Int32) dL_press_81 rfl ?_
          obtain ⟨r16, hg, hf⟩ := bd1_some hf
          refine sw_callVA 82 G E 2 dL_press_82 (kG_pitch hg) (gwV lk_610d0c07 lk_ad536863 lk_540372d4 lk_5f14f758 lk_2b94d3f7) rfl hvL_pitch ⟨rfl, rfl⟩ ⟨Nat.le_of_ble_eq_true rfl, Nat.le_of_ble_eq_true rfl⟩ ⟨Nat.le_of_ble_eq_true rfl, Nat.le_of_ble_eq_true rfl⟩ rfl rfl (Nat.le_of_ble_eq_true rfl) 0 rfl vc5 rfl ?_
          refine sw_if_lt 85 92 G dL_press_85 rfl hf (fun hf => ?_) (fun hf => ?_)
          · refine sw_iconst 92 G (0 : Int32) dL_press_92 rfl ?_
            cases hf
            exact sw_lv _ [2, 0, 4] rfl hx93
          · refine sw_iconst 88 G (1 : Int32) dL_press_88 rfl ?_
            refine sw_goto 89 G 93 dL_press_89 rfl ?_
            cases hf
            exact sw_lv _ [2, 0, 4] rfl hx93
      · refine sw_aload_n 34 G dL_press_34 2 rfl ?_
        refine sw_iload_n 35 G dL_press_35 4 rfl ?_
        obtain ⟨r17, hg, hf⟩ := bd1_some hf
        refine sw_callVA 36 G E 1 dL_press_36 (kG_left hg) (gwV lk_464a4df5 lk_cb7a7b42 lk_2e1ae927 lk_5f14f758 lk_525c92fb) rfl hvL_left ⟨rfl, rfl⟩ ⟨Nat.le_of_ble_eq_true rfl, Nat.le_of_ble_eq_true rfl⟩ ⟨Nat.le_of_ble_eq_true rfl, Nat.le_of_ble_eq_true rfl⟩ rfl rfl (Nat.le_of_ble_eq_true rfl) 0 rfl vc5 rfl ?_
        refine sw_lconst 39 G (0 : Int64) dL_press_39 rfl ?_
        refine sw_lcmp 40 G dL_press_40 ?_
        refine sw_if_ne 41 58 G dL_press_41 rfl hf (fun hf => ?_) (fun hf => ?_)
        · refine sw_iconst 58 G (0 : Int32) dL_press_58 rfl ?_
          refine sw_goto 59 G 93 dL_press_59 rfl ?_
          cases hf
          exact sw_lv _ [2, 0, 4] rfl hx93
        · refine sw_aload_n 44 G dL_press_44 2 rfl ?_
          refine sw_iload_n 45 G dL_press_45 4 rfl ?_
          refine sw_iconst 46 G (0 : Int32) dL_press_46 rfl ?_
          obtain ⟨r18, hg, hf⟩ := bd1_some hf
          refine sw_callVA 47 G E 2 dL_press_47 (kG_pitch hg) (gwV lk_610d0c07 lk_ad536863 lk_540372d4 lk_5f14f758 lk_2b94d3f7) rfl hvL_pitch ⟨rfl, rfl⟩ ⟨Nat.le_of_ble_eq_true rfl, Nat.le_of_ble_eq_true rfl⟩ ⟨Nat.le_of_ble_eq_true rfl, Nat.le_of_ble_eq_true rfl⟩ rfl rfl (Nat.le_of_ble_eq_true rfl) 0 rfl vc5 rfl ?_
          refine sw_iconst 50 G (-1 : Int32) dL_press_50 rfl ?_
          refine sw_icmp_ne 51 58 G dL_press_51 rfl hf (fun hf => ?_) (fun hf => ?_)
          · refine sw_iconst 58 G (0 : Int32) dL_press_58 rfl ?_
            refine sw_goto 59 G 93 dL_press_59 rfl ?_
            cases hf
            exact sw_lv _ [2, 0, 4] rfl hx93
          · refine sw_iconst 54 G (1 : Int32) dL_press_54 rfl ?_
            refine sw_goto 55 G 93 dL_press_55 rfl ?_
            cases hf
            exact sw_lv _ [2, 0, 4] rfl hx93
