theorem lk_725bb1cf : Cond.selects RX0 yX0_findWord yX0_findWord ∈ GW := GW_of 17 (by decide +kernel) (by decide +kernel)
theorem lk_38fe140f : Cond.selects RX0 yX0_readNumber yX0_readNumber ∈ GW := GW_of 19 (by decide +kernel) (by decide +kernel)
theorem lk_b9ff16d6 : Cond.initialized yX0_numbersOf.cls ∈ GW := GW_of 88 (by decide +kernel) (by decide +kernel)
theorem lk_ea4e01f8 : Cond.fieldLink RX0 49 "StripDie$CommandText" "word" "I" ∈ GW := GW_of 254 (by decide +kernel) (by decide +kernel)
theorem lk_cf4b381c : Cond.methodLink RX0 30 yX0_readCommand ∈ GW := GW_of 589 (by decide +kernel) (by decide +kernel)
theorem lk_fe7ba324 : Cond.instanceMethod yX0_readCommand ∈ GW := GW_of 590 (by decide +kernel) (by decide +kernel)
theorem lk_2f3efb53 : Cond.selects RX0 yX0_readCommand yX0_readCommand ∈ GW := GW_of 591 (by decide +kernel) (by decide +kernel)
theorem lk_17aa1aaf : Cond.code yX0_readCommand cX0_readCommand 3 (some .int) ∈ GW := GW_of 592 (by decide +kernel) (by decide +kernel)
theorem lk_49fad9a3 : Cond.methodLink RX0 45 yX0_findWord ∈ GW := GW_of 596 (by decide +kernel) (by decide +kernel)
theorem lk_1e294190 : Cond.instanceMethod yX0_findWord ∈ GW := GW_of 598 (by decide +kernel) (by decide +kernel)
theorem lk_f6598048 : Cond.code yX0_findWord cX0_findWord 4 (some .int) ∈ GW := GW_of 599 (by decide +kernel) (by decide +kernel)
theorem lk_0ca13c7c : Cond.methodLink RX0 52 yX0_numbersOf ∈ GW := GW_of 665 (by decide +kernel) (by decide +kernel)
theorem lk_ab3e2afb : Cond.static yX0_numbersOf ∈ GW := GW_of 666 (by decide +kernel) (by decide +kernel)
theorem lk_1653122a : Cond.code yX0_numbersOf cX0_numbersOf 1 (some .int) ∈ GW := GW_of 667 (by decide +kernel) (by decide +kernel)
theorem lk_0cdb2b6b : Cond.methodLink RX0 55 yX0_readNumber ∈ GW := GW_of 668 (by decide +kernel) (by decide +kernel)
theorem lk_88822138 : Cond.instanceMethod yX0_readNumber ∈ GW := GW_of 670 (by decide +kernel) (by decide +kernel)
theorem lk_ee6c1741 : Cond.code yX0_readNumber cX0_readNumber 4 (some .boolean) ∈ GW := GW_of 671 (by decide +kernel) (by decide +kernel)
abbrev rmX0_readCommand : Room := { frames := 9, cells := 0, slots := 0, locals := 183 }
theorem hvX0_readCommand : yX0_readCommand.cls = RX0 ∧ yX0_readCommand.cls ≠ "java/lang/invoke/MethodHandle" ∧ yX0_readCommand.cls ≠ "java/lang/invoke/VarHandle" ∧ (parseMethodDescriptor yX0_readCommand.desc).map (fun d => d.parameters.length) = some 0 := by decide +kernel
set_option maxRecDepth 100000 in
set_option maxHeartbeats 4000000 in
theorem kX0_readCommand (Θ : Tht) (KE : (Nat → Nat) × (Nat → Nat)) (F : Nat) (c0 c1 c2 : Nat) (c_bytes : Nat → Int32) (c_numbers : Nat → Int32) (c_length : Int32) (c_at : Int32) (c_word : Int32) (ro : Int32) (o_c_numbers : Nat → Int32) (o_c_at : Int32) (o_c_word : Int32) (hf : fX0_readCommand F c_bytes c_numbers c_length c_at c_word = some (ro, o_c_numbers, o_c_at, o_c_word)) : FC Θ KE 0 0 yX0_readCommand (Cond.code yX0_readCommand cX0_readCommand 3 (some .int) :: GW) rmX0_readCommand [.ref c0] (wX0 Θ c0 c1 c2 c_bytes c_numbers c_length c_at c_word) (some (.int ro)) (wX0 Θ c0 c1 c2 c_bytes o_c_numbers c_length o_c_at o_c_word) := by
  delta fX0_readCommand at hf
  refine FC.of (by decide +kernel) rfl (Nat.le_of_ble_eq_true rfl) (fun p e s m args below meth c A Q G K E => ?_)
  show sw Θ p e rmX0_readCommand s m args below meth c A Q 3 0 0 0 [(0, .ref c0)] [] (wX0 Θ c0 c1 c2 c_bytes c_numbers c_length c_at c_word)
  refine sw_aload_n 0 G dX0_readCommand_0 0 rfl ?_
  refine sw_get 1 G hnX0 0 3 dX0_readCommand_1 vc0 (by decide) (List.mem_cons_of_mem _ lk_3fe4df47) rfl rfl ?_
  refine sw_istore_n 4 G [(1, .int c_at), (0, .ref c0)] dX0_readCommand_4 (by decide) rfl ?_
  obtain ⟨v1, hl, hf⟩ := bd1_some hf
  have hx5_42 : sw Θ p e rmX0_readCommand s m args below meth c A Q 3 0 0 42 [(0, .ref c0), (1, .int c_at)] [] (wX0 Θ c0 c1 c2 c_bytes c_numbers c_length v1 c_word) := by
    refine sw_aload_n 42 G dX0_readCommand_42 0 rfl ?_
    refine sw_get 43 G hnX0 0 3 dX0_readCommand_43 vc0 (by decide) (List.mem_cons_of_mem _ lk_3fe4df47) rfl rfl ?_
    refine sw_iload_n 46 G dX0_readCommand_46 1 rfl ?_
    refine sw_icmp_ne 47 55 G dX0_readCommand_47 rfl hf (fun hf => ?_) (fun hf => ?_)
    · refine sw_aload_n 55 G dX0_readCommand_55 0 rfl ?_
      refine sw_aload_n 56 G dX0_readCommand_56 0 rfl ?_
      refine sw_iload_n 57 G dX0_readCommand_57 1 rfl ?_
      refine sw_aload_n 58 G dX0_readCommand_58 0 rfl ?_
      refine sw_get 59 G hnX0 0 3 dX0_readCommand_59 vc0 (by decide) (List.mem_cons_of_mem _ lk_3fe4df47) rfl rfl ?_
      refine sw_iload_n 62 G dX0_readCommand_62 1 rfl ?_
      refine sw_isub 63 G dX0_readCommand_63 ?_
      obtain ⟨r2, hg, hf⟩ := bd1_some hf
      refine sw_callVC 64 G E (wX0 Θ c0 c1 c2 c_bytes c_numbers c_length v1 c_word) [0, 1, 2] [] [0, 1, 2] 2 dX0_readCommand_64 (kX0_findWord Θ KE c0 c1 c2 c_bytes c_numbers c_length v1 c_word c_at (v1 - c_at) r2 hg) (gwV lk_49fad9a3 lk_1e294190 lk_725bb1cf lk_82b0ef51 lk_f6598048) rfl hvX0_findWord ⟨rfl, rfl⟩ ⟨Nat.le_of_ble_eq_true rfl, Nat.le_of_ble_eq_true rfl⟩ ⟨Nat.zero_le _, Nat.zero_le _⟩ rfl rfl (Nat.le_of_ble_eq_true rfl) 0 rfl vc0 rfl rfl rfl rfl (by decide) ?_
      refine sw_put 67 G hnX0 tyX0_ok nmX0 0 4 (wX0 Θ c0 c1 c2 c_bytes c_numbers c_length v1 r2) dX0_readCommand_67 vc0 (by decide) (List.mem_cons_of_mem _ lk_ea4e01f8) rfl rfl (Nat.le_of_ble_eq_true rfl) (tyX0_ok 4 (by decide)) rfl rfl rfl ?_
      refine sw_aload_n 70 G dX0_readCommand_70 0 rfl ?_
      refine sw_get 71 G hnX0 0 4 dX0_readCommand_71 vc0 (by decide) (List.mem_cons_of_mem _ lk_ea4e01f8) rfl rfl ?_
      refine sw_iconst 74 G (-1 : Int32) dX0_readCommand_74 rfl ?_
      refine sw_icmp_ne 75 80 G dX0_readCommand_75 rfl hf (fun hf => ?_) (fun hf => ?_)
      · refine sw_iconst 80 G (0 : Int32) dX0_readCommand_80 rfl ?_
        refine sw_istore_n 81 G [(2, .int (0 : Int32)), (0, .ref c0), (1, .int c_at)] dX0_readCommand_81 (by decide) rfl ?_
        obtain ⟨w82, hl, hf0, hf1⟩ := bdS2_some hf
        have hx82_101 : ∀ (v3 : Nat → Int32) (v4 : Int32), w82 = .inl (v3, v4) → sw Θ p e rmX0_readCommand s m args below meth c A Q 3 0 0 101 [(0, .ref c0)] [] (wX0 Θ c0 c1 c2 c_bytes v3 c_length v4 r2) := by
          intro v3 v4 hw
          have hf := uc2_some (hf0 _ hw)
          refine sw_aload_n 101 G dX0_readCommand_101 0 rfl ?_
          refine sw_get 102 G hnX0 0 3 dX0_readCommand_102 vc0 (by decide) (List.mem_cons_of_mem _ lk_3fe4df47) rfl rfl ?_
          cases hf
          exact sw_iret 105 G dX0_readCommand_105 K
        have hx82_112 : ∀ (v5 : Nat → Int32) (v6 : Int32), w82 = .inr ((v5, v6)) → sw Θ p e rmX0_readCommand s m args below meth c A Q 3 0 0 112 [(0, .ref c0)] [] (wX0 Θ c0 c1 c2 c_bytes v5 c_length v6 r2) := by
          intro v5 v6 hw
          have hf := uc2_some (hf1 _ hw)
          refine sw_aload_n 112 G dX0_readCommand_112 0 rfl ?_
          obtain ⟨u7, hg, hf⟩ := bd1_some hf
          refine sw_callV 113 G (wX0 Θ c0 c1 c2 c_bytes v5 c_length u7 r2) [0, 1, 2] [] [0, 1, 2] 0 dX0_readCommand_113 (kX0_skipSpaces Θ F c0 c1 c2 c_bytes v5 c_length v6 r2 u7 hg) (gwV lk_ca1a7add lk_2bd1c939 lk_6dd08538 lk_82b0ef51 lk_7076a442) rfl hvX0_skipSpaces ⟨rfl, rfl⟩ ⟨Nat.le_of_ble_eq_true rfl, Nat.le_of_ble_eq_true rfl⟩ ⟨Nat.zero_le _, Nat.zero_le _⟩ rfl rfl (Nat.le_of_ble_eq_true rfl) 0 rfl vc0 rfl rfl rfl rfl (by decide) ?_
          refine sw_aload_n 116 G dX0_readCommand_116 0 rfl ?_
          refine sw_aload_n 117 G dX0_readCommand_117 0 rfl ?_
          refine sw_get 118 G hnX0 0 3 dX0_readCommand_118 vc0 (by decide) (List.mem_cons_of_mem _ lk_3fe4df47) rfl rfl ?_
          obtain ⟨r8, hg, hf⟩ := bd1_some hf
          refine sw_callV 121 G (wX0 Θ c0 c1 c2 c_bytes v5 c_length u7 r2) [0, 1, 2] [] [0, 1, 2] 1 dX0_readCommand_121 (kX0_byteAt Θ c0 c1 c2 c_bytes v5 c_length u7 r2 u7 r8 hg) (gwV lk_766c8e27 lk_dde702c9 lk_c646983f lk_82b0ef51 lk_161114d1) rfl hvX0_byteAt ⟨rfl, rfl⟩ ⟨Nat.le_of_ble_eq_true rfl, Nat.le_of_ble_eq_true rfl⟩ ⟨Nat.zero_le _, Nat.zero_le _⟩ rfl rfl (Nat.le_of_ble_eq_true rfl) 0 rfl vc0 rfl rfl rfl rfl (by decide) ?_
          refine sw_bipush 124 G (59 : Int32) dX0_readCommand_124 rfl ?_
          refine sw_icmp_eq 126 134 G dX0_readCommand_126 rfl hf (fun hf => ?_) (fun hf => ?_)
          · refine sw_aload_n 134 G dX0_readCommand_134 0 rfl ?_
            refine sw_dup 135 G dX0_readCommand_135 rfl ?_
            refine sw_get 136 G hnX0 0 3 dX0_readCommand_136 vc0 (by decide) (List.mem_cons_of_mem _ lk_3fe4df47) rfl rfl ?_
            refine sw_iconst 139 G (1 : Int32) dX0_readCommand_139 rfl ?_
            refine sw_iadd 140 G dX0_readCommand_140 ?_
            refine sw_nmi hf (fun v9 hf => ?_)
            refine sw_put 141 G hnX0 tyX0_ok nmX0 0 3 (wX0 Θ c0 c1 c2 c_bytes v5 c_length v9 r2) dX0_readCommand_141 vc0 (by decide) (List.mem_cons_of_mem _ lk_3fe4df47) rfl rfl (Nat.le_of_ble_eq_true rfl) (tyX0_ok 3 (by decide)) rfl rfl rfl ?_
            refine sw_iconst 144 G (-1 : Int32) dX0_readCommand_144 rfl ?_
            cases hf
            exact sw_iret 145 G dX0_readCommand_145 K
          · refine sw_aload_n 129 G dX0_readCommand_129 0 rfl ?_
            refine sw_get 130 G hnX0 0 3 dX0_readCommand_130 vc0 (by decide) (List.mem_cons_of_mem _ lk_3fe4df47) rfl rfl ?_
            cases hf
            exact sw_iret 133 G dX0_readCommand_133 K
        refine sw_lv [(0, .ref c0), (2, .int (0 : Int32))] [1, 0] rfl ?_
        refine lp_walk (P := fun (t : Int32 × (Nat → Int32) × Int32) => sw Θ p e rmX0_readCommand s m args below meth c A Q 3 0 0 82 [(0, .ref c0), (2, .int t.1)] [] (wX0 Θ c0 c1 c2 c_bytes t.2.1 c_length t.2.2 r2)) hl (fun t82 y82 hf hin82 hex82 => ?_)
        obtain ⟨v10, v11, v12⟩ := t82
        show sw Θ p e rmX0_readCommand s m args below meth c A Q 3 0 0 82 [(0, .ref c0), (2, .int v10)] [] (wX0 Θ c0 c1 c2 c_bytes v11 c_length v12 r2)
        have hf := uc3_some (K := _) hf
        refine sw_iload_n 82 G dX0_readCommand_82 1 rfl ?_
        refine sw_aload_n 83 G dX0_readCommand_83 0 rfl ?_
        refine sw_get 84 G hnX0 0 4 dX0_readCommand_84 vc0 (by decide) (List.mem_cons_of_mem _ lk_ea4e01f8) rfl rfl ?_
        obtain ⟨r13, hg, hf⟩ := bd1_some hf
        refine sw_callS 87 G (wX0 Θ c0 c1 c2 c_bytes v11 c_length v12 r2) [] [0, 1, 2] [0, 1, 2] 1 dX0_readCommand_87 (kX0_numbersOf Θ r2 r13 hg) (gwS lk_0ca13c7c lk_ab3e2afb lk_b9ff16d6 lk_1653122a) rfl hsX0_numbersOf ⟨rfl, rfl⟩ ⟨Nat.le_of_ble_eq_true rfl, Nat.le_of_ble_eq_true rfl⟩ ⟨Nat.zero_le _, Nat.zero_le _⟩ rfl rfl (Nat.le_of_ble_eq_true rfl) rfl rfl rfl (by decide) ?_
        refine sw_icmp_ge 90 112 G dX0_readCommand_90 rfl hf (fun hf => ?_) (fun hf => ?_)
        · cases hf
          exact sw_lv _ [0] rfl (hx82_112 _ _ (hex82 _ rfl).symm)
        · refine sw_aload_n 93 G dX0_readCommand_93 0 rfl ?_
          refine sw_iload_n 94 G dX0_readCommand_94 1 rfl ?_
          obtain ⟨r14, u15, u16, hg, hf⟩ := bd3_some hf
          refine sw_callV 95 G (wX0 Θ c0 c1 c2 c_bytes u15 c_length u16 r2) [0, 1, 2] [] [0, 1, 2] 1 dX0_readCommand_95 (kX0_readNumber Θ F c0 c1 c2 c_bytes v11 c_length v12 r2 v10 r14 u15 u16 hg) (gwV lk_0cdb2b6b lk_88822138 lk_38fe140f lk_82b0ef51 lk_ee6c1741) rfl hvX0_readNumber ⟨rfl, rfl⟩ ⟨Nat.le_of_ble_eq_true rfl, Nat.le_of_ble_eq_true rfl⟩ ⟨Nat.zero_le _, Nat.zero_le _⟩ rfl rfl (Nat.le_of_ble_eq_true rfl) 0 rfl vc0 rfl rfl rfl rfl (by decide) ?_
          refine sw_if_ne 98 106 G dX0_readCommand_98 rfl hf (fun hf => ?_) (fun hf => ?_)
          · refine sw_iinc 106 G (v10 + (1 : Int32)) [(2, .int (v10 + (1 : Int32))), (0, .ref c0)] dX0_readCommand_106 1 rfl rfl (by decide) rfl ?_
            refine sw_goto 109 G 82 dX0_readCommand_109 rfl ?_
            cases hf
            have hb := hin82 _ rfl
            exact sw_lv _ [1, 0] (by rfl) hb
          · cases hf
            exact sw_lv _ [0] rfl (hx82_101 _ _ (hex82 _ rfl).symm)
      · refine sw_iload_n 78 G dX0_readCommand_78 1 rfl ?_
        cases hf
        exact sw_iret 79 G dX0_readCommand_79 K
    · refine sw_aload_n 50 G dX0_readCommand_50 0 rfl ?_
      refine sw_get 51 G hnX0 0 3 dX0_readCommand_51 vc0 (by decide) (List.mem_cons_of_mem _ lk_3fe4df47) rfl rfl ?_
      cases hf
      exact sw_iret 54 G dX0_readCommand_54 K
  refine sw_lv [(0, .ref c0), (1, .int c_at)] [1, 0] rfl ?_
  refine lp_walk (P := fun (t : Int32) => sw Θ p e rmX0_readCommand s m args below meth c A Q 3 0 0 5 [(0, .ref c0), (1, .int c_at)] [] (wX0 Θ c0 c1 c2 c_bytes c_numbers c_length t c_word)) hl (fun t5 y5 hf hin5 hex5 => ?_)
  obtain ⟨v17, rfl⟩ : ∃ z, z = t5 := ⟨_, rfl⟩
  show sw Θ p e rmX0_readCommand s m args below meth c A Q 3 0 0 5 [(0, .ref c0), (1, .int c_at)] [] (wX0 Θ c0 c1 c2 c_bytes c_numbers c_length v17 c_word)
  have hf := uc1_some (K := _) hf
  refine sw_aload_n 5 G dX0_readCommand_5 0 rfl ?_
  refine sw_aload_n 6 G dX0_readCommand_6 0 rfl ?_
  refine sw_get 7 G hnX0 0 3 dX0_readCommand_7 vc0 (by decide) (List.mem_cons_of_mem _ lk_3fe4df47) rfl rfl ?_
  obtain ⟨r18, hg, hf⟩ := bd1_some hf
  refine sw_callV 10 G (wX0 Θ c0 c1 c2 c_bytes c_numbers c_length v17 c_word) [0, 1, 2] [] [0, 1, 2] 1 dX0_readCommand_10 (kX0_byteAt Θ c0 c1 c2 c_bytes c_numbers c_length v17 c_word v17 r18 hg) (gwV lk_766c8e27 lk_dde702c9 lk_c646983f lk_82b0ef51 lk_161114d1) rfl hvX0_byteAt ⟨rfl, rfl⟩ ⟨Nat.le_of_ble_eq_true rfl, Nat.le_of_ble_eq_true rfl⟩ ⟨Nat.zero_le _, Nat.zero_le _⟩ rfl rfl (Nat.le_of_ble_eq_true rfl) 0 rfl vc0 rfl rfl rfl rfl (by decide) ?_
  obtain ⟨r19, hg, hf⟩ := bd1_some hf
  refine sw_callS 13 G (wX0 Θ c0 c1 c2 c_bytes c_numbers c_length v17 c_word) [] [0, 1, 2] [0, 1, 2] 1 dX0_readCommand_13 (kX0_isLetter Θ r18 r19 hg) (gwS lk_8bab8fec lk_52dd17db lk_fa1e943a lk_58c401f3) rfl hsX0_isLetter ⟨rfl, rfl⟩ ⟨Nat.le_of_ble_eq_true rfl, Nat.le_of_ble_eq_true rfl⟩ ⟨Nat.zero_le _, Nat.zero_le _⟩ rfl rfl (Nat.le_of_ble_eq_true rfl) rfl rfl rfl (by decide) ?_
  refine sw_if_eq 16 42 G dX0_readCommand_16 rfl hf (fun hf => ?_) (fun hf => ?_)
  · cases hf
    cases hex5 _ rfl
    exact sw_lv _ [0, 1] rfl hx5_42
  · refine sw_aload_n 19 G dX0_readCommand_19 0 rfl ?_
    refine sw_get 20 G hnX0 0 3 dX0_readCommand_20 vc0 (by decide) (List.mem_cons_of_mem _ lk_3fe4df47) rfl rfl ?_
    refine sw_sipush 23 G (150 : Int32) dX0_readCommand_23 rfl ?_
    refine sw_icmp_ge 26 42 G dX0_readCommand_26 rfl hf (fun hf => ?_) (fun hf => ?_)
    · cases hf
      cases hex5 _ rfl
      exact sw_lv _ [0, 1] rfl hx5_42
    · refine sw_aload_n 29 G dX0_readCommand_29 0 rfl ?_
      refine sw_dup 30 G dX0_readCommand_30 rfl ?_
      refine sw_get 31 G hnX0 0 3 dX0_readCommand_31 vc0 (by decide) (List.mem_cons_of_mem _ lk_3fe4df47) rfl rfl ?_
      refine sw_iconst 34 G (1 : Int32) dX0_readCommand_34 rfl ?_
      refine sw_iadd 35 G dX0_readCommand_35 ?_
      refine sw_nmi hf (fun v20 hf => ?_)
      refine sw_put 36 G hnX0 tyX0_ok nmX0 0 3 (wX0 Θ c0 c1 c2 c_bytes c_numbers c_length v20 c_word) dX0_readCommand_36 vc0 (by decide) (List.mem_cons_of_mem _ lk_3fe4df47) rfl rfl (Nat.le_of_ble_eq_true rfl) (tyX0_ok 3 (by decide)) rfl rfl rfl ?_
      refine sw_goto 39 G 5 dX0_readCommand_39 rfl ?_
      cases hf
      have hb := hin5 _ rfl
      exact sw_lv _ [0, 1] (by rfl) hb
abbrev rmX0_findFault : Room := { frames := 10, cells := 0, slots := 0, locals := 205 }
theorem hvX0_findFault : yX0_findFault.cls = RX0 ∧ yX0_findFault.cls ≠ "java/lang/invoke/MethodHandle" ∧ yX0_findFault.cls ≠ "java/lang/invoke/VarHandle" ∧ (parseMethodDescriptor yX0_findFault.desc).map (fun d => d.parameters.length) = some 0 := by decide +kernel
set_option maxRecDepth 100000 in
set_option maxHeartbeats 4000000 in
theorem kX0_findFault (Θ : Tht) (KE : (Nat → Nat) × (Nat → Nat)) (F : Nat) (c0 c1 c2 : Nat) (c_bytes : Nat → Int32) (c_numbers : Nat → Int32) (c_length : Int32) (c_at : Int32) (c_word : Int32) (ro : Int32) (o_c_numbers : Nat → Int32) (o_c_at : Int32) (o_c_word : Int32) (hf : fX0_findFault F c_bytes c_numbers c_length c_word = some (ro, o_c_numbers, o_c_at, o_c_word)) : FC Θ KE 0 0 yX0_findFault (Cond.code yX0_findFault cX0_findFault 3 (some .int) :: GW) rmX0_findFault [.ref c0] (wX0 Θ c0 c1 c2 c_bytes c_numbers c_length c_at c_word) (some (.int ro)) (wX0 Θ c0 c1 c2 c_bytes o_c_numbers c_length o_c_at o_c_word) := by
  delta fX0_findFault at hf
  refine FC.of (by decide +kernel) rfl (Nat.le_of_ble_eq_true rfl) (fun p e s m args below meth c A Q G K E => ?_)
  show sw Θ p e rmX0_findFault s m args below meth c A Q 3 0 0 0 [(0, .ref c0)] [] (wX0 Θ c0 c1 c2 c_bytes c_numbers c_length c_at c_word)
  refine sw_aload_n 0 G dX0_findFault_0 0 rfl ?_
  refine sw_iconst 1 G (0 : Int32) dX0_findFault_1 rfl ?_
  refine sw_put 2 G hnX0 tyX0_ok nmX0 0 3 (wX0 Θ c0 c1 c2 c_bytes c_numbers c_length (0 : Int32) c_word) dX0_findFault_2 vc0 (by decide) (List.mem_cons_of_mem _ lk_3fe4df47) rfl rfl (Nat.le_of_ble_eq_true rfl) (tyX0_ok 3 (by decide)) rfl rfl rfl ?_
  refine sw_iconst 5 G (0 : Int32) dX0_findFault_5 rfl ?_
  refine sw_istore_n 6 G [(1, .int (0 : Int32)), (0, .ref c0)] dX0_findFault_6 (by decide) rfl ?_
  obtain ⟨w7, hl, hf0, hf1, hf2⟩ := bdS3_some hf
  have hx7_21 : ∀ (v1 : Nat → Int32) (v2 : Int32) (v3 : Int32), w7 = .inl (v1, v2, v3) → sw Θ p e rmX0_findFault s m args below meth c A Q 3 0 0 21 [] [] (wX0 Θ c0 c1 c2 c_bytes v1 c_length v2 v3) := by
    intro v1 v2 v3 hw
    have hf := uc3_some (hf0 _ hw)
    refine sw_iconst 21 G (-1 : Int32) dX0_findFault_21 rfl ?_
    cases hf
    exact sw_iret 22 G dX0_findFault_22 K
  have hx7_33 : ∀ (v4 : Int32) (v5 : Nat → Int32) (v6 : Int32) (v7 : Int32), w7 = .inr (.inl (v4, v5, v6, v7)) → sw Θ p e rmX0_findFault s m args below meth c A Q 3 0 0 33 [(2, .int v4)] [] (wX0 Θ c0 c1 c2 c_bytes v5 c_length v6 v7) := by
    intro v4 v5 v6 v7 hw
    have hf := uc4_some (hf1 _ hw)
    refine sw_iload_n 33 G dX0_findFault_33 0 rfl ?_
    cases hf
    exact sw_iret 34 G dX0_findFault_34 K
  have hx7_41 : ∀ (v8 : Nat → Int32) (v9 : Int32) (v10 : Int32), w7 = .inr (.inr ((v8, v9, v10))) → sw Θ p e rmX0_findFault s m args below meth c A Q 3 0 0 41 [] [] (wX0 Θ c0 c1 c2 c_bytes v8 c_length v9 v10) := by
    intro v8 v9 v10 hw
    have hf := uc3_some (hf2 _ hw)
    refine sw_iconst 41 G (-1 : Int32) dX0_findFault_41 rfl ?_
    cases hf
    exact sw_iret 42 G dX0_findFault_42 K
  refine sw_lv [(0, .ref c0), (1, .int (0 : Int32))] [1, 0] rfl ?_
  refine lp_walk (P := fun (t : Int32 × (Nat → Int32) × Int32 × Int32) => sw Θ p e rmX0_findFault s m args below meth c A Q 3 0 0 7 [(0, .ref c0), (1, .int t.1)] [] (wX0 Θ c0 c1 c2 c_bytes t.2.1 c_length t.2.2.1 t.2.2.2)) hl (fun t7 y7 hf hin7 hex7 => ?_)
  obtain ⟨v11, v12, v13, v14⟩ := t7
  show sw Θ p e rmX0_findFault s m args below meth c A Q 3 0 0 7 [(0, .ref c0), (1, .int v11)] [] (wX0 Θ c0 c1 c2 c_bytes v12 c_length v13 v14)
  have hf := uc4_some (K := _) hf
  refine sw_iload_n 7 G dX0_findFault_7 1 rfl ?_
  refine sw_sipush 8 G (150 : Int32) dX0_findFault_8 rfl ?_
  refine sw_icmp_ge 11 41 G dX0_findFault_11 rfl hf (fun hf => ?_) (fun hf => ?_)
  · cases hf
    exact sw_lv _ [] rfl (hx7_41 _ _ _ (hex7 _ rfl).symm)
  · refine sw_aload_n 14 G dX0_findFault_14 0 rfl ?_
    obtain ⟨r15, u16, hg, hf⟩ := bd2_some hf
    refine sw_callV 15 G (wX0 Θ c0 c1 c2 c_bytes v12 c_length u16 v14) [0, 1, 2] [] [0, 1, 2] 0 dX0_findFault_15 (kX0_isAtEnd Θ F c0 c1 c2 c_bytes v12 c_length v13 v14 r15 u16 hg) (gwV lk_ae8cbe0e lk_bc7197d9 lk_edd976cd lk_82b0ef51 lk_df61e674) rfl hvX0_isAtEnd ⟨rfl, rfl⟩ ⟨Nat.le_of_ble_eq_true rfl, Nat.le_of_ble_eq_true rfl⟩ ⟨Nat.zero_le _, Nat.zero_le _⟩ rfl rfl (Nat.le_of_ble_eq_true rfl) 0 rfl vc0 rfl rfl rfl rfl (by decide) ?_
    refine sw_if_eq 18 23 G dX0_findFault_18 rfl hf (fun hf => ?_) (fun hf => ?_)
    · refine sw_aload_n 23 G dX0_findFault_23 0 rfl ?_
      obtain ⟨r17, u18, u19, u20, hg, hf⟩ := bd4_some hf
      refine sw_callVC 24 G E (wX0 Θ c0 c1 c2 c_bytes u18 c_length u19 u20) [0, 1, 2] [] [0, 1, 2] 0 dX0_findFault_24 (kX0_readCommand Θ KE F c0 c1 c2 c_bytes v12 c_length u16 v14 r17 u18 u19 u20 hg) (gwV lk_cf4b381c lk_fe7ba324 lk_2f3efb53 lk_82b0ef51 lk_17aa1aaf) rfl hvX0_readCommand ⟨rfl, rfl⟩ ⟨Nat.le_of_ble_eq_true rfl, Nat.le_of_ble_eq_true rfl⟩ ⟨Nat.zero_le _, Nat.zero_le _⟩ rfl rfl (Nat.le_of_ble_eq_true rfl) 0 rfl vc0 rfl rfl rfl rfl (by decide) ?_
      refine sw_istore_n 27 G [(2, .int r17), (0, .ref c0), (1, .int v11)] dX0_findFault_27 (by decide) rfl ?_
      refine sw_iload_n 28 G dX0_findFault_28 0 rfl ?_
      refine sw_iconst 29 G (-1 : Int32) dX0_findFault_29 rfl ?_
      refine sw_icmp_eq 30 35 G dX0_findFault_30 rfl hf (fun hf => ?_) (fun hf => ?_)
      · refine sw_iinc 35 G (v11 + (1 : Int32)) [(1, .int (v11 + (1 : Int32))), (2, .int r17), (0, .ref c0)] dX0_findFault_35 2 rfl rfl (by decide) rfl ?_
        refine sw_goto 38 G 7 dX0_findFault_38 rfl ?_
        cases hf
        have hb := hin7 _ rfl
        exact sw_lv _ [2, 0] (by rfl) hb
      · cases hf
        exact sw_lv _ [0] rfl (hx7_33 _ _ _ _ (hex7 _ rfl).symm)
    · cases hf
      exact sw_lv _ [] rfl (hx7_21 _ _ _ (hex7 _ rfl).symm)
