theorem lk_2847ce46 : Cond.methodLink RL 40 yX5_whole ∈ GW := GW_of 409 (by decide +kernel) (by decide +kernel)
theorem lk_00a700e4 : Cond.instanceMethod yX5_whole ∈ GW := GW_of 410 (by decide +kernel) (by decide +kernel)
theorem lk_1397dd5c : Cond.selects RX5 yX5_whole yX5_whole ∈ GW := GW_of 411 (by decide +kernel) (by decide +kernel)
theorem lk_141fdf1b : Cond.code yX5_whole cX5_whole 2 (some .int) ∈ GW := GW_of 412 (by decide +kernel) (by decide +kernel)
theorem lk_d85d951b : Cond.methodLink RL 44 yX5_operation ∈ GW := GW_of 440 (by decide +kernel) (by decide +kernel)
theorem lk_a2e0504c : Cond.instanceMethod yX5_operation ∈ GW := GW_of 441 (by decide +kernel) (by decide +kernel)
theorem lk_1df469a9 : Cond.selects RX5 yX5_operation yX5_operation ∈ GW := GW_of 442 (by decide +kernel) (by decide +kernel)
theorem lk_91b5c7da : Cond.code yX5_operation cX5_operation 3 (some .int) ∈ GW := GW_of 443 (by decide +kernel) (by decide +kernel)
abbrev rmL_bends : Room := { frames := 4, cells := 0, slots := 0, locals := 106 }
theorem hsL_bends : yL_bends.cls ≠ "java/lang/invoke/MethodHandle" ∧ yL_bends.cls ≠ "java/lang/invoke/VarHandle" ∧ (parseMethodDescriptor yL_bends.desc).map (fun d => d.parameters.length) = some 1 := by decide +kernel
set_option maxRecDepth 100000 in
set_option maxHeartbeats 4000000 in
theorem kL_bends {Θ : Tht} {KE : (Nat → Nat) × (Nat → Nat)} {ad : Nat → Nat} {F : Nat} {o_c : CSt} {ro : Int64} (hf : fL_bends F o_c = some ro) : FC Θ KE 0 0 yL_bends (Cond.code yL_bends cL_bends 5 (some .long) :: GW) rmL_bends [.ref (ad 0)] (wC Θ ad o_c) (some (.long ro)) (wC Θ ad o_c) := by
  delta fL_bends at hf
  refine FC.ofK (by decide +kernel) rfl (Nat.le_of_ble_eq_true rfl) (fun p e s m args below meth c A Q G K E => ?_)
  show sw Θ p e rmL_bends s m args below meth c A Q 5 0 0 0 [(0, .ref (ad 0))] [] (wC Θ ad o_c)
  refine sw_lconst 0 G (0 : Int64) dL_bends_0 rfl ?_
  refine sw_lstore_n 1 G [(1, .long (0 : Int64)), (0, .ref (ad 0))] dL_bends_1 (by decide) rfl ?_
  refine sw_iconst 2 G (0 : Int32) dL_bends_2 rfl ?_
  refine sw_istore_n 3 G [(3, .int (0 : Int32)), (1, .long (0 : Int64)), (0, .ref (ad 0))] dL_bends_3 (by decide) rfl ?_
  obtain ⟨v1, hl, hf⟩ := bd1_some hf
  have hx4_77 : sw Θ p e rmL_bends s m args below meth c A Q 5 0 0 77 [(1, .long v1)] [] (wC Θ ad o_c) := by
    refine sw_lload_n 77 G dL_bends_77 0 rfl ?_
    cases hf
    exact sw_lretC 78 G dL_bends_78 K (Nat.le_of_ble_eq_true rfl) (Nat.le_of_ble_eq_true rfl)
  refine sw_lv [(0, .ref (ad 0)), (1, .long (0 : Int64)), (3, .int (0 : Int32))] [2, 1, 0] rfl ?_
  refine lp_walk (P := fun (t : Int64 × Int32) => sw Θ p e rmL_bends s m args below meth c A Q 5 0 0 4 [(0, .ref (ad 0)), (1, .long t.1), (3, .int t.2)] [] (wC Θ ad o_c)) hl (fun t4 y4 hf hin4 hex4 => ?_)
  obtain ⟨v2, v3⟩ := t4
  show sw Θ p e rmL_bends s m args below meth c A Q 5 0 0 4 [(0, .ref (ad 0)), (1, .long v2), (3, .int v3)] [] (wC Θ ad o_c)
  have hf := uc2_some (K := _) hf
  refine sw_iload_n 4 G dL_bends_4 2 rfl ?_
  refine sw_aload_n 5 G dL_bends_5 0 rfl ?_
  refine sw_bipush 6 G (8 : Int32) dL_bends_6 rfl ?_
  obtain ⟨r4, hg, hf⟩ := bd1_some hf
  refine sw_callVA 8 G E 1 dL_bends_8 (kG_whole hg) (gwV lk_2847ce46 lk_00a700e4 lk_1397dd5c lk_5f14f758 lk_141fdf1b) rfl hvL_whole ⟨rfl, rfl⟩ ⟨Nat.le_of_ble_eq_true rfl, Nat.le_of_ble_eq_true rfl⟩ ⟨Nat.le_of_ble_eq_true rfl, Nat.le_of_ble_eq_true rfl⟩ rfl rfl (Nat.le_of_ble_eq_true rfl) 0 rfl vc5 rfl ?_
  refine sw_icmp_ge 11 77 G dL_bends_11 rfl hf (fun hf => ?_) (fun hf => ?_)
  · cases hf
    cases hex4 _ rfl
    exact sw_lv _ [1] rfl hx4_77
  · refine sw_iconst 14 G (0 : Int32) dL_bends_14 rfl ?_
    refine sw_istore 15 G [(4, .int (0 : Int32)), (0, .ref (ad 0)), (1, .long v2), (3, .int v3)] dL_bends_15 (by decide) rfl ?_
    obtain ⟨v5, hl, hf⟩ := bd1_some hf
    have hx17_71 : sw Θ p e rmL_bends s m args below meth c A Q 5 0 0 71 [(0, .ref (ad 0)), (1, .long v5), (3, .int v3)] [] (wC Θ ad o_c) := by
      refine sw_iinc 71 G (v3 + (1 : Int32)) [(3, .int (v3 + (1 : Int32))), (0, .ref (ad 0)), (1, .long v5)] dL_bends_71 2 rfl rfl (by decide) rfl ?_
      refine sw_goto 74 G 4 dL_bends_74 rfl ?_
      cases hf
      have hb := hin4 _ rfl
      exact sw_lv _ [1, 2, 0] (by rfl) hb
    refine sw_lv [(0, .ref (ad 0)), (1, .long v2), (3, .int v3), (4, .int (0 : Int32))] [1, 2, 3, 0] rfl ?_
    refine lp_walk (P := fun (t : Int64 × Int32) => sw Θ p e rmL_bends s m args below meth c A Q 5 0 0 17 [(0, .ref (ad 0)), (1, .long t.1), (3, .int v3), (4, .int t.2)] [] (wC Θ ad o_c)) hl (fun t17 y17 hf hin17 hex17 => ?_)
    obtain ⟨v6, v7⟩ := t17
    show sw Θ p e rmL_bends s m args below meth c A Q 5 0 0 17 [(0, .ref (ad 0)), (1, .long v6), (3, .int v3), (4, .int v7)] [] (wC Θ ad o_c)
    have hf := uc2_some (K := _) hf
    refine sw_iload 17 G dL_bends_17 3 rfl ?_
    refine sw_aload_n 19 G dL_bends_19 0 rfl ?_
    refine sw_iload_n 20 G dL_bends_20 2 rfl ?_
    refine sw_iconst 21 G (3 : Int32) dL_bends_21 rfl ?_
    obtain ⟨r8, hg, hf⟩ := bd1_some hf
    refine sw_callVA 22 G E 2 dL_bends_22 (kG_operation hg) (gwV lk_d85d951b lk_a2e0504c lk_1df469a9 lk_5f14f758 lk_91b5c7da) rfl hvL_operation ⟨rfl, rfl⟩ ⟨Nat.le_of_ble_eq_true rfl, Nat.le_of_ble_eq_true rfl⟩ ⟨Nat.le_of_ble_eq_true rfl, Nat.le_of_ble_eq_true rfl⟩ rfl rfl (Nat.le_of_ble_eq_true rfl) 0 rfl vc5 rfl ?_
    refine sw_icmp_ge 25 71 G dL_bends_25 rfl hf (fun hf => ?_) (fun hf => ?_)
    · cases hf
      cases hex17 _ rfl
      exact sw_lv _ [0, 1, 2] rfl hx17_71
    · refine sw_aload_n 28 G dL_bends_28 0 rfl ?_
      refine sw_iload_n 29 G dL_bends_29 2 rfl ?_
      refine sw_iconst 30 G (0 : Int32) dL_bends_30 rfl ?_
      obtain ⟨r9, hg, hf⟩ := bd1_some hf
      refine sw_callVA 31 G E 2 dL_bends_31 (kG_operation hg) (gwV lk_d85d951b lk_a2e0504c lk_1df469a9 lk_5f14f758 lk_91b5c7da) rfl hvL_operation ⟨rfl, rfl⟩ ⟨Nat.le_of_ble_eq_true rfl, Nat.le_of_ble_eq_true rfl⟩ ⟨Nat.le_of_ble_eq_true rfl, Nat.le_of_ble_eq_true rfl⟩ rfl rfl (Nat.le_of_ble_eq_true rfl) 0 rfl vc5 rfl ?_
      refine sw_iconst 34 G (1 : Int32) dL_bends_34 rfl ?_
      refine sw_icmp_ne 35 71 G dL_bends_35 rfl hf (fun hf => ?_) (fun hf => ?_)
      · cases hf
        cases hex17 _ rfl
        exact sw_lv _ [0, 1, 2] rfl hx17_71
      · refine sw_lload_n 38 G dL_bends_38 1 rfl ?_
        refine sw_lconst 39 G (1 : Int64) dL_bends_39 rfl ?_
        refine sw_aload_n 40 G dL_bends_40 0 rfl ?_
        refine sw_iload_n 41 G dL_bends_41 2 rfl ?_
        refine sw_iconst 42 G (2 : Int32) dL_bends_42 rfl ?_
        obtain ⟨r10, hg, hf⟩ := bd1_some hf
        refine sw_callVA 43 G E 2 dL_bends_43 (kG_operation hg) (gwV lk_d85d951b lk_a2e0504c lk_1df469a9 lk_5f14f758 lk_91b5c7da) rfl hvL_operation ⟨rfl, rfl⟩ ⟨Nat.le_of_ble_eq_true rfl, Nat.le_of_ble_eq_true rfl⟩ ⟨Nat.le_of_ble_eq_true rfl, Nat.le_of_ble_eq_true rfl⟩ rfl rfl (Nat.le_of_ble_eq_true rfl) 0 rfl vc5 rfl ?_
        refine sw_aload_n 46 G dL_bends_46 0 rfl ?_
        refine sw_iconst 47 G (0 : Int32) dL_bends_47 rfl ?_
        obtain ⟨r11, hg, hf⟩ := bd1_some hf
        refine sw_callVA 48 G E 1 dL_bends_48 (kG_whole hg) (gwV lk_2847ce46 lk_00a700e4 lk_1397dd5c lk_5f14f758 lk_141fdf1b) rfl hvL_whole ⟨rfl, rfl⟩ ⟨Nat.le_of_ble_eq_true rfl, Nat.le_of_ble_eq_true rfl⟩ ⟨Nat.le_of_ble_eq_true rfl, Nat.le_of_ble_eq_true rfl⟩ rfl rfl (Nat.le_of_ble_eq_true rfl) 0 rfl vc5 rfl ?_
        refine sw_imul 51 G dL_bends_51 ?_
        refine sw_aload_n 52 G dL_bends_52 0 rfl ?_
        refine sw_iload_n 53 G dL_bends_53 2 rfl ?_
        refine sw_iconst 54 G (1 : Int32) dL_bends_54 rfl ?_
        obtain ⟨r12, hg, hf⟩ := bd1_some hf
        refine sw_callVA 55 G E 2 dL_bends_55 (kG_operation hg) (gwV lk_d85d951b lk_a2e0504c lk_1df469a9 lk_5f14f758 lk_91b5c7da) rfl hvL_operation ⟨rfl, rfl⟩ ⟨Nat.le_of_ble_eq_true rfl, Nat.le_of_ble_eq_true rfl⟩ ⟨Nat.le_of_ble_eq_true rfl, Nat.le_of_ble_eq_true rfl⟩ rfl rfl (Nat.le_of_ble_eq_true rfl) 0 rfl vc5 rfl ?_
        refine sw_iadd 58 G dL_bends_58 ?_
        refine sw_iload 59 G dL_bends_59 3 rfl ?_
        refine sw_iadd 61 G dL_bends_61 ?_
        refine sw_lshl 62 G dL_bends_62 ?_
        refine sw_lor 63 G dL_bends_63 ?_
        refine sw_nml hf (fun v13 hf => ?_)
        refine sw_lstore_n 64 G [(1, .long v13), (0, .ref (ad 0)), (3, .int v3), (4, .int v7)] dL_bends_64 (by decide) rfl ?_
        refine sw_iinc 65 G (v7 + (1 : Int32)) [(4, .int (v7 + (1 : Int32))), (1, .long v13), (0, .ref (ad 0)), (3, .int v3)] dL_bends_65 3 rfl rfl (by decide) rfl ?_
        refine sw_goto 68 G 17 dL_bends_68 rfl ?_
        cases hf
        have hb := hin17 _ rfl
        exact sw_lv _ [2, 1, 3, 0] (by rfl) hb
