abbrev rmX6_verb : Room := { frames := 2, cells := 0, slots := 0, locals := 44 }
theorem hvX6_verb : yX6_verb.cls = RX6 ∧ yX6_verb.cls ≠ "java/lang/invoke/MethodHandle" ∧ yX6_verb.cls ≠ "java/lang/invoke/VarHandle" ∧ (parseMethodDescriptor yX6_verb.desc).map (fun d => d.parameters.length) = some 0 := by decide +kernel
set_option maxRecDepth 100000 in
set_option maxHeartbeats 4000000 in
theorem kX6_verb (Θ : Tht) (F : Nat) (m0 m1 m2 m3 m4 m5 m6 m7 m8 m9 : Nat) (m_now : Nat → Int64) (m_saved : Nat → Int64) (m_aside : Nat → Int64) (m_states : Int32) (m_quiet : Int32) (m_thrown : Int32) (m_tried : Nat → Int32) (m_best : Nat → Int32) (m_touching : Nat → Int32) (m_text : Nat → Int32) (m_length : Int32) (m_at : Int32) (m_verbs : Nat → Int32) (m_told : Nat → Int32) (m_commands : Int32) (ro : Int32) (o_m_at : Int32) (hf : fX6_verb F m_text m_length m_at = some (ro, o_m_at)) : Fn Θ yX6_verb (Cond.code yX6_verb cX6_verb 5 (some .int) :: GW) rmX6_verb [.ref m0] (wX6 Θ m0 m1 m2 m3 m4 m5 m6 m7 m8 m9 m_now m_saved m_aside m_states m_quiet m_thrown m_tried m_best m_touching m_text m_length m_at m_verbs m_told m_commands) (some (.int ro)) (wX6 Θ m0 m1 m2 m3 m4 m5 m6 m7 m8 m9 m_now m_saved m_aside m_states m_quiet m_thrown m_tried m_best m_touching m_text m_length o_m_at m_verbs m_told m_commands) := by
  delta fX6_verb at hf
  refine Fn.of (by decide +kernel) rfl (Nat.le_of_ble_eq_true rfl) (fun p e s m args below meth c A Q G K => ?_)
  show sw Θ p e rmX6_verb s m args below meth c A Q 5 0 0 0 [(0, .ref m0)] [] (wX6 Θ m0 m1 m2 m3 m4 m5 m6 m7 m8 m9 m_now m_saved m_aside m_states m_quiet m_thrown m_tried m_best m_touching m_text m_length m_at m_verbs m_told m_commands)
  refine sw_aload_n 0 G dX6_verb_0 0 rfl ?_
  refine sw_get 1 G hnX6 0 11 dX6_verb_1 vc6 (by decide) (List.mem_cons_of_mem _ lk_3cd34cb2) rfl rfl ?_
  refine sw_istore_n 4 G [(1, .int m_at), (0, .ref m0)] dX6_verb_4 (by decide) rfl ?_
  refine sw_lconst 5 G (0 : Int64) dX6_verb_5 rfl ?_
  refine sw_lstore_n 6 G [(2, .long (0 : Int64)), (1, .int m_at), (0, .ref m0)] dX6_verb_6 (by decide) rfl ?_
  obtain ⟨v1, v2, hl, hf⟩ := bd2_some hf
  have hx7_69 : sw Θ p e rmX6_verb s m args below meth c A Q 5 0 0 69 [(0, .ref m0), (1, .int m_at), (2, .long v1)] [] (wX6 Θ m0 m1 m2 m3 m4 m5 m6 m7 m8 m9 m_now m_saved m_aside m_states m_quiet m_thrown m_tried m_best m_touching m_text m_length v2 m_verbs m_told m_commands) := by
    refine sw_aload_n 69 G dX6_verb_69 0 rfl ?_
    refine sw_get 70 G hnX6 0 11 dX6_verb_70 vc6 (by decide) (List.mem_cons_of_mem _ lk_3cd34cb2) rfl rfl ?_
    refine sw_iload_n 73 G dX6_verb_73 1 rfl ?_
    refine sw_isub 74 G dX6_verb_74 ?_
    refine sw_bipush 75 G (6 : Int32) dX6_verb_75 rfl ?_
    obtain ⟨v3, hj, hf⟩ := bd1_some hf
    have hx88 : sw Θ p e rmX6_verb s m args below meth c A Q 5 0 0 88 [(0, .ref m0), (1, .int m_at)] [.int v3] (wX6 Θ m0 m1 m2 m3 m4 m5 m6 m7 m8 m9 m_now m_saved m_aside m_states m_quiet m_thrown m_tried m_best m_touching m_text m_length v2 m_verbs m_told m_commands) := by
      refine sw_istore 88 G [(4, .int v3), (0, .ref m0), (1, .int m_at)] dX6_verb_88 (by decide) rfl ?_
      refine sw_aload_n 90 G dX6_verb_90 1 rfl ?_
      refine sw_iload 91 G dX6_verb_91 0 rfl ?_
      refine sw_iconst 93 G (-1 : Int32) dX6_verb_93 rfl ?_
      obtain ⟨v5, hj, hf⟩ := bd1_some hf
      have hx105 : sw Θ p e rmX6_verb s m args below meth c A Q 5 0 0 105 [(4, .int v3)] [.int v5, .ref m0] (wX6 Θ m0 m1 m2 m3 m4 m5 m6 m7 m8 m9 m_now m_saved m_aside m_states m_quiet m_thrown m_tried m_best m_touching m_text m_length v2 m_verbs m_told m_commands) := by
        refine sw_put 105 G hnX6 tyX6_ok nmX6 0 11 (wX6 Θ m0 m1 m2 m3 m4 m5 m6 m7 m8 m9 m_now m_saved m_aside m_states m_quiet m_thrown m_tried m_best m_touching m_text m_length v5 m_verbs m_told m_commands) dX6_verb_105 vc6 (by decide) (List.mem_cons_of_mem _ lk_3cd34cb2) rfl rfl (Nat.le_of_ble_eq_true rfl) (tyX6_ok 11 (by decide)) rfl rfl rfl ?_
        refine sw_iload 108 G dX6_verb_108 0 rfl ?_
        cases hf
        exact sw_iret 110 G dX6_verb_110 K
      clear hf
      have hf := hj
      clear hj
      refine sw_icmp_ne 94 101 G dX6_verb_94 rfl hf (fun hf => ?_) (fun hf => ?_)
      · refine sw_aload_n 101 G dX6_verb_101 1 rfl ?_
        refine sw_get 102 G hnX6 0 11 dX6_verb_102 vc6 (by decide) (List.mem_cons_of_mem _ lk_3cd34cb2) rfl rfl ?_
        cases hf
        exact sw_lv _ [0] rfl hx105
      · refine sw_iload_n 97 G dX6_verb_97 2 rfl ?_
        refine sw_goto 98 G 105 dX6_verb_98 rfl ?_
        cases hf
        exact sw_lv _ [0] rfl hx105
    clear hf
    have hf := hj
    clear hj
    refine sw_icmp_le 77 84 G dX6_verb_77 rfl hf (fun hf => ?_) (fun hf => ?_)
    · refine sw_lload_n 84 G dX6_verb_84 2 rfl ?_
      obtain ⟨r4, hg, hf⟩ := bd1_some hf
      refine sw_callS 85 G (wX6 Θ m0 m1 m2 m3 m4 m5 m6 m7 m8 m9 m_now m_saved m_aside m_states m_quiet m_thrown m_tried m_best m_touching m_text m_length v2 m_verbs m_told m_commands) [] [0, 1, 2, 3, 4, 5, 6, 7, 8, 9] [0, 1, 2, 3, 4, 5, 6, 7, 8, 9] 1 dX6_verb_85 (kX6_verbOf Θ v1 r4 hg) (gwS lk_abf17234 lk_aa85818f lk_af3fffc5 lk_63e42306) rfl hsX6_verbOf ⟨rfl, rfl⟩ ⟨Nat.le_of_ble_eq_true rfl, Nat.le_of_ble_eq_true rfl⟩ ⟨Nat.zero_le _, Nat.zero_le _⟩ rfl rfl (Nat.le_of_ble_eq_true rfl) rfl rfl rfl (by decide) ?_
      cases hf
      exact sw_lv _ [0, 1] rfl hx88
    · refine sw_iconst 80 G (-1 : Int32) dX6_verb_80 rfl ?_
      refine sw_goto 81 G 88 dX6_verb_81 rfl ?_
      cases hf
      exact sw_lv _ [0, 1] rfl hx88
  refine sw_lv [(0, .ref m0), (1, .int m_at), (2, .long (0 : Int64))] [2, 1, 0] rfl ?_
  refine lp_walk (P := fun (t : Int64 × Int32) => sw Θ p e rmX6_verb s m args below meth c A Q 5 0 0 7 [(0, .ref m0), (1, .int m_at), (2, .long t.1)] [] (wX6 Θ m0 m1 m2 m3 m4 m5 m6 m7 m8 m9 m_now m_saved m_aside m_states m_quiet m_thrown m_tried m_best m_touching m_text m_length t.2 m_verbs m_told m_commands)) hl (fun t7 y7 hf hin7 hex7 => ?_)
  obtain ⟨v6, v7⟩ := t7
  show sw Θ p e rmX6_verb s m args below meth c A Q 5 0 0 7 [(0, .ref m0), (1, .int m_at), (2, .long v6)] [] (wX6 Θ m0 m1 m2 m3 m4 m5 m6 m7 m8 m9 m_now m_saved m_aside m_states m_quiet m_thrown m_tried m_best m_touching m_text m_length v7 m_verbs m_told m_commands)
  have hf := uc2_some (K := _) hf
  refine sw_aload_n 7 G dX6_verb_7 0 rfl ?_
  refine sw_bipush 8 G (97 : Int32) dX6_verb_8 rfl ?_
  refine sw_bipush 10 G (122 : Int32) dX6_verb_10 rfl ?_
  obtain ⟨r8, hg, hf⟩ := bd1_some hf
  refine sw_callV 12 G (wX6 Θ m0 m1 m2 m3 m4 m5 m6 m7 m8 m9 m_now m_saved m_aside m_states m_quiet m_thrown m_tried m_best m_touching m_text m_length v7 m_verbs m_told m_commands) [0, 1, 2, 3, 4, 5, 6, 7, 8, 9] [] [0, 1, 2, 3, 4, 5, 6, 7, 8, 9] 2 dX6_verb_12 (kX6_isAt Θ m0 m1 m2 m3 m4 m5 m6 m7 m8 m9 m_now m_saved m_aside m_states m_quiet m_thrown m_tried m_best m_touching m_text m_length v7 m_verbs m_told m_commands (97 : Int32) (122 : Int32) r8 hg) (gwV lk_22091cd2 lk_59752bef lk_882e9241 lk_6d91b6d2 lk_1f197f9d) rfl hvX6_isAt ⟨rfl, rfl⟩ ⟨Nat.le_of_ble_eq_true rfl, Nat.le_of_ble_eq_true rfl⟩ ⟨Nat.zero_le _, Nat.zero_le _⟩ rfl rfl (Nat.le_of_ble_eq_true rfl) 0 rfl vc6 rfl rfl rfl rfl (by decide) ?_
  refine sw_if_eq 15 69 G dX6_verb_15 rfl hf (fun hf => ?_) (fun hf => ?_)
  · cases hf
    cases hex7 _ rfl
    exact sw_lv _ [0, 1, 2] rfl hx7_69
  · refine sw_aload_n 18 G dX6_verb_18 0 rfl ?_
    refine sw_get 19 G hnX6 0 11 dX6_verb_19 vc6 (by decide) (List.mem_cons_of_mem _ lk_3cd34cb2) rfl rfl ?_
    refine sw_iload_n 22 G dX6_verb_22 1 rfl ?_
    refine sw_isub 23 G dX6_verb_23 ?_
    refine sw_bipush 24 G (6 : Int32) dX6_verb_24 rfl ?_
    obtain ⟨v9, hj, hf⟩ := bd1_some hf
    have hx55 : sw Θ p e rmX6_verb s m args below meth c A Q 5 0 0 55 [(0, .ref m0), (1, .int m_at)] [.long v9] (wX6 Θ m0 m1 m2 m3 m4 m5 m6 m7 m8 m9 m_now m_saved m_aside m_states m_quiet m_thrown m_tried m_best m_touching m_text m_length v7 m_verbs m_told m_commands) := by
      refine sw_lstore_n 55 G [(2, .long v9), (0, .ref m0), (1, .int m_at)] dX6_verb_55 (by decide) rfl ?_
      refine sw_aload_n 56 G dX6_verb_56 1 rfl ?_
      refine sw_dup 57 G dX6_verb_57 rfl ?_
      refine sw_get 58 G hnX6 0 11 dX6_verb_58 vc6 (by decide) (List.mem_cons_of_mem _ lk_3cd34cb2) rfl rfl ?_
      refine sw_iconst 61 G (1 : Int32) dX6_verb_61 rfl ?_
      refine sw_iadd 62 G dX6_verb_62 ?_
      refine sw_nmi hf (fun v10 hf => ?_)
      refine sw_put 63 G hnX6 tyX6_ok nmX6 0 11 (wX6 Θ m0 m1 m2 m3 m4 m5 m6 m7 m8 m9 m_now m_saved m_aside m_states m_quiet m_thrown m_tried m_best m_touching m_text m_length v10 m_verbs m_told m_commands) dX6_verb_63 vc6 (by decide) (List.mem_cons_of_mem _ lk_3cd34cb2) rfl rfl (Nat.le_of_ble_eq_true rfl) (tyX6_ok 11 (by decide)) rfl rfl rfl ?_
      refine sw_goto 66 G 7 dX6_verb_66 rfl ?_
      cases hf
      have hb := hin7 _ rfl
      exact sw_lv _ [1, 2, 0] (by rfl) hb
    clear hf
    have hf := hj
    clear hj
    refine sw_icmp_ge 26 52 G dX6_verb_26 rfl hf (fun hf => ?_) (fun hf => ?_)
    · refine sw_ldc2 52 G (List.mem_cons_of_mem _ lk_e81893dd) dX6_verb_52 ?_
      cases hf
      exact sw_lv _ [0, 1] rfl hx55
    · refine sw_ldc2 29 G (List.mem_cons_of_mem _ lk_c657b57c) dX6_verb_29 ?_
      refine sw_lload_n 32 G dX6_verb_32 2 rfl ?_
      refine sw_lmul 33 G dX6_verb_33 ?_
      refine sw_aload_n 34 G dX6_verb_34 0 rfl ?_
      refine sw_get 35 G hnX6 0 9 dX6_verb_35 vc6 (by decide) (List.mem_cons_of_mem _ lk_3bfcc6a0) rfl rfl ?_
      refine sw_aload_n 38 G dX6_verb_38 0 rfl ?_
      refine sw_get 39 G hnX6 0 11 dX6_verb_39 vc6 (by decide) (List.mem_cons_of_mem _ lk_3cd34cb2) rfl rfl ?_
      refine sw_iald 42 G 7 dX6_verb_42 rfl hf (fun hf => ?_)
      refine sw_i2l 43 G dX6_verb_43 ?_
      refine sw_ladd 44 G dX6_verb_44 ?_
      refine sw_ldc2 45 G (List.mem_cons_of_mem _ lk_2c5e2d6a) dX6_verb_45 ?_
      refine sw_lsub 48 G dX6_verb_48 ?_
      refine sw_goto 49 G 55 dX6_verb_49 rfl ?_
      cases hf
      exact sw_lv _ [0, 1] rfl hx55
abbrev rmX6_numbersOf : Room := { frames := 0, cells := 0, slots := 0, locals := 0 }
theorem hsX6_numbersOf : yX6_numbersOf.cls ≠ "java/lang/invoke/MethodHandle" ∧ yX6_numbersOf.cls ≠ "java/lang/invoke/VarHandle" ∧ (parseMethodDescriptor yX6_numbersOf.desc).map (fun d => d.parameters.length) = some 1 := by decide +kernel
set_option maxRecDepth 100000 in
set_option maxHeartbeats 4000000 in
theorem kX6_numbersOf (Θ : Tht) (a0 : Int32) (ro : Int32) (hf : fX6_numbersOf a0 = some ro) : Fn Θ yX6_numbersOf (Cond.code yX6_numbersOf cX6_numbersOf 1 (some .int) :: GW) rmX6_numbersOf [.int a0] ([]) (some (.int ro)) ([]) := by
  delta fX6_numbersOf at hf
  refine Fn.of (by decide +kernel) rfl (Nat.le_of_ble_eq_true rfl) (fun p e s m args below meth c A Q G K => ?_)
  show sw Θ p e rmX6_numbersOf s m args below meth c A Q 1 0 0 0 [(0, .int a0)] [] ([])
  refine sw_iload_n 0 G dX6_numbersOf_0 0 rfl ?_
  refine sw_iconst 1 G (1 : Int32) dX6_numbersOf_1 rfl ?_
  refine sw_icmp_eq 2 15 G dX6_numbersOf_2 rfl hf (fun hf => ?_) (fun hf => ?_)
  · refine sw_iconst 15 G (4 : Int32) dX6_numbersOf_15 rfl ?_
    cases hf
    exact sw_iret 16 G dX6_numbersOf_16 K
  · refine sw_iload_n 5 G dX6_numbersOf_5 0 rfl ?_
    refine sw_iconst 6 G (2 : Int32) dX6_numbersOf_6 rfl ?_
    refine sw_icmp_eq 7 15 G dX6_numbersOf_7 rfl hf (fun hf => ?_) (fun hf => ?_)
    · refine sw_iconst 15 G (4 : Int32) dX6_numbersOf_15 rfl ?_
      cases hf
      exact sw_iret 16 G dX6_numbersOf_16 K
    · refine sw_iload_n 10 G dX6_numbersOf_10 0 rfl ?_
      refine sw_iconst 11 G (3 : Int32) dX6_numbersOf_11 rfl ?_
      refine sw_icmp_ne 12 17 G dX6_numbersOf_12 rfl hf (fun hf => ?_) (fun hf => ?_)
      · refine sw_iload_n 17 G dX6_numbersOf_17 0 rfl ?_
        refine sw_iconst 18 G (4 : Int32) dX6_numbersOf_18 rfl ?_
        refine sw_icmp_ne 19 26 G dX6_numbersOf_19 rfl hf (fun hf => ?_) (fun hf => ?_)
        · refine sw_iload_n 26 G dX6_numbersOf_26 0 rfl ?_
          refine sw_if_eq 27 35 G dX6_numbersOf_27 rfl hf (fun hf => ?_) (fun hf => ?_)
          · refine sw_iconst 35 G (2 : Int32) dX6_numbersOf_35 rfl ?_
            refine sw_goto 36 G 50 dX6_numbersOf_36 rfl ?_
            cases hf
            exact sw_iret 50 G dX6_numbersOf_50 K
          · refine sw_iload_n 30 G dX6_numbersOf_30 0 rfl ?_
            refine sw_iconst 31 G (5 : Int32) dX6_numbersOf_31 rfl ?_
            refine sw_icmp_ne 32 39 G dX6_numbersOf_32 rfl hf (fun hf => ?_) (fun hf => ?_)
            · refine sw_iload_n 39 G dX6_numbersOf_39 0 rfl ?_
              refine sw_bipush 40 G (6 : Int32) dX6_numbersOf_40 rfl ?_
              refine sw_icmp_ne 42 49 G dX6_numbersOf_42 rfl hf (fun hf => ?_) (fun hf => ?_)
              · refine sw_iconst 49 G (1 : Int32) dX6_numbersOf_49 rfl ?_
                cases hf
                exact sw_iret 50 G dX6_numbersOf_50 K
              · refine sw_iconst 45 G (0 : Int32) dX6_numbersOf_45 rfl ?_
                refine sw_goto 46 G 50 dX6_numbersOf_46 rfl ?_
                cases hf
                exact sw_iret 50 G dX6_numbersOf_50 K
            · refine sw_iconst 35 G (2 : Int32) dX6_numbersOf_35 rfl ?_
              refine sw_goto 36 G 50 dX6_numbersOf_36 rfl ?_
              cases hf
              exact sw_iret 50 G dX6_numbersOf_50 K
        · refine sw_iconst 22 G (3 : Int32) dX6_numbersOf_22 rfl ?_
          refine sw_goto 23 G 50 dX6_numbersOf_23 rfl ?_
          cases hf
          exact sw_iret 50 G dX6_numbersOf_50 K
      · refine sw_iconst 15 G (4 : Int32) dX6_numbersOf_15 rfl ?_
        cases hf
        exact sw_iret 16 G dX6_numbersOf_16 K
abbrev rmX6_number : Room := { frames := 3, cells := 0, slots := 0, locals := 64 }
theorem hvX6_number : yX6_number.cls = RX6 ∧ yX6_number.cls ≠ "java/lang/invoke/MethodHandle" ∧ yX6_number.cls ≠ "java/lang/invoke/VarHandle" ∧ (parseMethodDescriptor yX6_number.desc).map (fun d => d.parameters.length) = some 1 := by decide +kernel
set_option maxRecDepth 100000 in
set_option maxHeartbeats 4000000 in
theorem kX6_number (Θ : Tht) (F : Nat) (m0 m1 m2 m3 m4 m5 m6 m7 m8 m9 : Nat) (m_now : Nat → Int64) (m_saved : Nat → Int64) (m_aside : Nat → Int64) (m_states : Int32) (m_quiet : Int32) (m_thrown : Int32) (m_tried : Nat → Int32) (m_best : Nat → Int32) (m_touching : Nat → Int32) (m_text : Nat → Int32) (m_length : Int32) (m_at : Int32) (m_verbs : Nat → Int32) (m_told : Nat → Int32) (m_commands : Int32) (a0 : Int32) (ro : Int32) (o_m_at : Int32) (o_m_told : Nat → Int32) (hf : fX6_number F m_text m_length m_at m_told a0 = some (ro, o_m_at, o_m_told)) : Fn Θ yX6_number (Cond.code yX6_number cX6_number 3 (some .boolean) :: GW) rmX6_number [.ref m0, .int a0] (wX6 Θ m0 m1 m2 m3 m4 m5 m6 m7 m8 m9 m_now m_saved m_aside m_states m_quiet m_thrown m_tried m_best m_touching m_text m_length m_at m_verbs m_told m_commands) (some (.int ro)) (wX6 Θ m0 m1 m2 m3 m4 m5 m6 m7 m8 m9 m_now m_saved m_aside m_states m_quiet m_thrown m_tried m_best m_touching m_text m_length o_m_at m_verbs o_m_told m_commands) := by
  delta fX6_number at hf
  refine Fn.of (by decide +kernel) rfl (Nat.le_of_ble_eq_true rfl) (fun p e s m args below meth c A Q G K => ?_)
  show sw Θ p e rmX6_number s m args below meth c A Q 3 0 0 0 [(0, .ref m0), (1, .int a0)] [] (wX6 Θ m0 m1 m2 m3 m4 m5 m6 m7 m8 m9 m_now m_saved m_aside m_states m_quiet m_thrown m_tried m_best m_touching m_text m_length m_at m_verbs m_told m_commands)
  refine sw_aload_n 0 G dX6_number_0 0 rfl ?_
  refine sw_bipush 1 G (32 : Int32) dX6_number_1 rfl ?_
  refine sw_bipush 3 G (32 : Int32) dX6_number_3 rfl ?_
  obtain ⟨r1, hg, hf⟩ := bd1_some hf
  refine sw_callV 5 G (wX6 Θ m0 m1 m2 m3 m4 m5 m6 m7 m8 m9 m_now m_saved m_aside m_states m_quiet m_thrown m_tried m_best m_touching m_text m_length m_at m_verbs m_told m_commands) [0, 1, 2, 3, 4, 5, 6, 7, 8, 9] [] [0, 1, 2, 3, 4, 5, 6, 7, 8, 9] 2 dX6_number_5 (kX6_isAt Θ m0 m1 m2 m3 m4 m5 m6 m7 m8 m9 m_now m_saved m_aside m_states m_quiet m_thrown m_tried m_best m_touching m_text m_length m_at m_verbs m_told m_commands (32 : Int32) (32 : Int32) r1 hg) (gwV lk_22091cd2 lk_59752bef lk_882e9241 lk_6d91b6d2 lk_1f197f9d) rfl hvX6_isAt ⟨rfl, rfl⟩ ⟨Nat.le_of_ble_eq_true rfl, Nat.le_of_ble_eq_true rfl⟩ ⟨Nat.zero_le _, Nat.zero_le _⟩ rfl rfl (Nat.le_of_ble_eq_true rfl) 0 rfl vc6 rfl rfl rfl rfl (by decide) ?_
  refine sw_if_ne 8 13 G dX6_number_8 rfl hf (fun hf => ?_) (fun hf => ?_)
  · refine sw_aload_n 13 G dX6_number_13 0 rfl ?_
    obtain ⟨u2, hg, hf⟩ := bd1_some hf
    refine sw_callV 14 G (wX6 Θ m0 m1 m2 m3 m4 m5 m6 m7 m8 m9 m_now m_saved m_aside m_states m_quiet m_thrown m_tried m_best m_touching m_text m_length u2 m_verbs m_told m_commands) [0, 1, 2, 3, 4, 5, 6, 7, 8, 9] [] [0, 1, 2, 3, 4, 5, 6, 7, 8, 9] 0 dX6_number_14 (kX6_skips Θ F m0 m1 m2 m3 m4 m5 m6 m7 m8 m9 m_now m_saved m_aside m_states m_quiet m_thrown m_tried m_best m_touching m_text m_length m_at m_verbs m_told m_commands u2 hg) (gwV lk_23c41f0b lk_51739807 lk_b2871f78 lk_6d91b6d2 lk_9854487c) rfl hvX6_skips ⟨rfl, rfl⟩ ⟨Nat.le_of_ble_eq_true rfl, Nat.le_of_ble_eq_true rfl⟩ ⟨Nat.zero_le _, Nat.zero_le _⟩ rfl rfl (Nat.le_of_ble_eq_true rfl) 0 rfl vc6 rfl rfl rfl rfl (by decide) ?_
    refine sw_iconst 17 G (0 : Int32) dX6_number_17 rfl ?_
    refine sw_istore_n 18 G [(2, .int (0 : Int32)), (0, .ref m0), (1, .int a0)] dX6_number_18 (by decide) rfl ?_
    refine sw_aload_n 19 G dX6_number_19 1 rfl ?_
    refine sw_get 20 G hnX6 0 13 dX6_number_20 vc6 (by decide) (List.mem_cons_of_mem _ lk_b89f5c7c) rfl rfl ?_
    refine sw_iload_n 23 G dX6_number_23 2 rfl ?_
    refine sw_iconst 24 G (0 : Int32) dX6_number_24 rfl ?_
    refine sw_iast 25 G 9 (wX6 Θ m0 m1 m2 m3 m4 m5 m6 m7 m8 m9 m_now m_saved m_aside m_states m_quiet m_thrown m_tried m_best m_touching m_text m_length u2 m_verbs (upd m_told a0.toNatClampNeg (0 : Int32)) m_commands) dX6_number_25 rfl rfl hf (fun hf => ?_)
    obtain ⟨v3, v4, v5, hl, hf⟩ := bd3_some hf
    have hx26_86 : sw Θ p e rmX6_number s m args below meth c A Q 3 0 0 86 [(0, .ref m0), (2, .int v3)] [] (wX6 Θ m0 m1 m2 m3 m4 m5 m6 m7 m8 m9 m_now m_saved m_aside m_states m_quiet m_thrown m_tried m_best m_touching m_text m_length v4 m_verbs v5 m_commands) := by
      refine sw_iload_n 86 G dX6_number_86 1 rfl ?_
      refine sw_if_le 87 105 G dX6_number_87 rfl hf (fun hf => ?_) (fun hf => ?_)
      · refine sw_iconst 105 G (0 : Int32) dX6_number_105 rfl ?_
        cases hf
        exact sw_zret 106 G dX6_number_106 K rfl
      · refine sw_aload_n 90 G dX6_number_90 0 rfl ?_
        refine sw_bipush 91 G (48 : Int32) dX6_number_91 rfl ?_
        refine sw_bipush 93 G (57 : Int32) dX6_number_93 rfl ?_
        obtain ⟨r6, hg, hf⟩ := bd1_some hf
        refine sw_callV 95 G (wX6 Θ m0 m1 m2 m3 m4 m5 m6 m7 m8 m9 m_now m_saved m_aside m_states m_quiet m_thrown m_tried m_best m_touching m_text m_length v4 m_verbs v5 m_commands) [0, 1, 2, 3, 4, 5, 6, 7, 8, 9] [] [0, 1, 2, 3, 4, 5, 6, 7, 8, 9] 2 dX6_number_95 (kX6_isAt Θ m0 m1 m2 m3 m4 m5 m6 m7 m8 m9 m_now m_saved m_aside m_states m_quiet m_thrown m_tried m_best m_touching m_text m_length v4 m_verbs v5 m_commands (48 : Int32) (57 : Int32) r6 hg) (gwV lk_22091cd2 lk_59752bef lk_882e9241 lk_6d91b6d2 lk_1f197f9d) rfl hvX6_isAt ⟨rfl, rfl⟩ ⟨Nat.le_of_ble_eq_true rfl, Nat.le_of_ble_eq_true rfl⟩ ⟨Nat.zero_le _, Nat.zero_le _⟩ rfl rfl (Nat.le_of_ble_eq_true rfl) 0 rfl vc6 rfl rfl rfl rfl (by decide) ?_
        refine sw_if_ne 98 105 G dX6_number_98 rfl hf (fun hf => ?_) (fun hf => ?_)
        · refine sw_iconst 105 G (0 : Int32) dX6_number_105 rfl ?_
          cases hf
          exact sw_zret 106 G dX6_number_106 K rfl
        · refine sw_iconst 101 G (1 : Int32) dX6_number_101 rfl ?_
          refine sw_goto 102 G 106 dX6_number_102 rfl ?_
          cases hf
          exact sw_zret 106 G dX6_number_106 K rfl
    refine sw_lv [(0, .ref m0), (1, .int a0), (2, .int (0 : Int32))] [1, 2, 0] rfl ?_
    refine lp_walk (P := fun (t : Int32 × Int32 × (Nat → Int32)) => sw Θ p e rmX6_number s m args below meth c A Q 3 0 0 26 [(0, .ref m0), (1, .int a0), (2, .int t.1)] [] (wX6 Θ m0 m1 m2 m3 m4 m5 m6 m7 m8 m9 m_now m_saved m_aside m_states m_quiet m_thrown m_tried m_best m_touching m_text m_length t.2.1 m_verbs t.2.2 m_commands)) hl (fun t26 y26 hf hin26 hex26 => ?_)
    obtain ⟨v7, v8, v9⟩ := t26
    show sw Θ p e rmX6_number s m args below meth c A Q 3 0 0 26 [(0, .ref m0), (1, .int a0), (2, .int v7)] [] (wX6 Θ m0 m1 m2 m3 m4 m5 m6 m7 m8 m9 m_now m_saved m_aside m_states m_quiet m_thrown m_tried m_best m_touching m_text m_length v8 m_verbs v9 m_commands)
    have hf := uc3_some (K := _) hf
    refine sw_iload_n 26 G dX6_number_26 2 rfl ?_
    refine sw_iconst 27 G (3 : Int32) dX6_number_27 rfl ?_
    refine sw_icmp_ge 28 86 G dX6_number_28 rfl hf (fun hf => ?_) (fun hf => ?_)
    · cases hf
      cases hex26 _ rfl
      exact sw_lv _ [0, 2] rfl hx26_86
    · refine sw_aload_n 31 G dX6_number_31 0 rfl ?_
      refine sw_bipush 32 G (48 : Int32) dX6_number_32 rfl ?_
      refine sw_bipush 34 G (57 : Int32) dX6_number_34 rfl ?_
      obtain ⟨r10, hg, hf⟩ := bd1_some hf
      refine sw_callV 36 G (wX6 Θ m0 m1 m2 m3 m4 m5 m6 m7 m8 m9 m_now m_saved m_aside m_states m_quiet m_thrown m_tried m_best m_touching m_text m_length v8 m_verbs v9 m_commands) [0, 1, 2, 3, 4, 5, 6, 7, 8, 9] [] [0, 1, 2, 3, 4, 5, 6, 7, 8, 9] 2 dX6_number_36 (kX6_isAt Θ m0 m1 m2 m3 m4 m5 m6 m7 m8 m9 m_now m_saved m_aside m_states m_quiet m_thrown m_tried m_best m_touching m_text m_length v8 m_verbs v9 m_commands (48 : Int32) (57 : Int32) r10 hg) (gwV lk_22091cd2 lk_59752bef lk_882e9241 lk_6d91b6d2 lk_1f197f9d) rfl hvX6_isAt ⟨rfl, rfl⟩ ⟨Nat.le_of_ble_eq_true rfl, Nat.le_of_ble_eq_true rfl⟩ ⟨Nat.zero_le _, Nat.zero_le _⟩ rfl rfl (Nat.le_of_ble_eq_true rfl) 0 rfl vc6 rfl rfl rfl rfl (by decide) ?_
      refine sw_if_eq 39 86 G dX6_number_39 rfl hf (fun hf => ?_) (fun hf => ?_)
      · cases hf
        cases hex26 _ rfl
        exact sw_lv _ [0, 2] rfl hx26_86
      · refine sw_aload_n 42 G dX6_number_42 0 rfl ?_
        refine sw_get 43 G hnX6 0 13 dX6_number_43 vc6 (by decide) (List.mem_cons_of_mem _ lk_b89f5c7c) rfl rfl ?_
        refine sw_iload_n 46 G dX6_number_46 1 rfl ?_
        refine sw_bipush 47 G (10 : Int32) dX6_number_47 rfl ?_
        refine sw_aload_n 49 G dX6_number_49 0 rfl ?_
        refine sw_get 50 G hnX6 0 13 dX6_number_50 vc6 (by decide) (List.mem_cons_of_mem _ lk_b89f5c7c) rfl rfl ?_
        refine sw_iload_n 53 G dX6_number_53 1 rfl ?_
        refine sw_iald 54 G 9 dX6_number_54 rfl hf (fun hf => ?_)
        refine sw_imul 55 G dX6_number_55 ?_
        refine sw_aload_n 56 G dX6_number_56 0 rfl ?_
        refine sw_get 57 G hnX6 0 9 dX6_number_57 vc6 (by decide) (List.mem_cons_of_mem _ lk_3bfcc6a0) rfl rfl ?_
        refine sw_aload_n 60 G dX6_number_60 0 rfl ?_
        refine sw_get 61 G hnX6 0 11 dX6_number_61 vc6 (by decide) (List.mem_cons_of_mem _ lk_3cd34cb2) rfl rfl ?_
        refine sw_iald 64 G 7 dX6_number_64 rfl hf (fun hf => ?_)
        refine sw_iadd 65 G dX6_number_65 ?_
        refine sw_bipush 66 G (48 : Int32) dX6_number_66 rfl ?_
        refine sw_isub 68 G dX6_number_68 ?_
        refine sw_nmi hf (fun v11 hf => ?_)
        refine sw_iast 69 G 9 (wX6 Θ m0 m1 m2 m3 m4 m5 m6 m7 m8 m9 m_now m_saved m_aside m_states m_quiet m_thrown m_tried m_best m_touching m_text m_length v8 m_verbs (upd v9 a0.toNatClampNeg v11) m_commands) dX6_number_69 rfl rfl hf (fun hf => ?_)
        refine sw_aload_n 70 G dX6_number_70 0 rfl ?_
        refine sw_dup 71 G dX6_number_71 rfl ?_
        refine sw_get 72 G hnX6 0 11 dX6_number_72 vc6 (by decide) (List.mem_cons_of_mem _ lk_3cd34cb2) rfl rfl ?_
        refine sw_iconst 75 G (1 : Int32) dX6_number_75 rfl ?_
        refine sw_iadd 76 G dX6_number_76 ?_
        refine sw_nmi hf (fun v12 hf => ?_)
        refine sw_put 77 G hnX6 tyX6_ok nmX6 0 11 (wX6 Θ m0 m1 m2 m3 m4 m5 m6 m7 m8 m9 m_now m_saved m_aside m_states m_quiet m_thrown m_tried m_best m_touching m_text m_length v12 m_verbs (upd v9 a0.toNatClampNeg v11) m_commands) dX6_number_77 vc6 (by decide) (List.mem_cons_of_mem _ lk_3cd34cb2) rfl rfl (Nat.le_of_ble_eq_true rfl) (tyX6_ok 11 (by decide)) rfl rfl rfl ?_
        refine sw_iinc 80 G (v7 + (1 : Int32)) [(2, .int (v7 + (1 : Int32))), (0, .ref m0), (1, .int a0)] dX6_number_80 2 rfl rfl (by decide) rfl ?_
        refine sw_goto 83 G 26 dX6_number_83 rfl ?_
        cases hf
        have hb := hin26 _ rfl
        exact sw_lv _ [1, 2, 0] (by rfl) hb
  · refine sw_iconst 11 G (0 : Int32) dX6_number_11 rfl ?_
    cases hf
    exact sw_zret 12 G dX6_number_12 K rfl
abbrev rmX6_reads : Room := { frames := 4, cells := 0, slots := 0, locals := 86 }
theorem hvX6_reads : yX6_reads.cls = RX6 ∧ yX6_reads.cls ≠ "java/lang/invoke/MethodHandle" ∧ yX6_reads.cls ≠ "java/lang/invoke/VarHandle" ∧ (parseMethodDescriptor yX6_reads.desc).map (fun d => d.parameters.length) = some 0 := by decide +kernel
set_option maxRecDepth 100000 in
set_option maxHeartbeats 4000000 in
theorem kX6_reads (Θ : Tht) (F : Nat) (m0 m1 m2 m3 m4 m5 m6 m7 m8 m9 : Nat) (m_now : Nat → Int64) (m_saved : Nat → Int64) (m_aside : Nat → Int64) (m_states : Int32) (m_quiet : Int32) (m_thrown : Int32) (m_tried : Nat → Int32) (m_best : Nat → Int32) (m_touching : Nat → Int32) (m_text : Nat → Int32) (m_length : Int32) (m_at : Int32) (m_verbs : Nat → Int32) (m_told : Nat → Int32) (m_commands : Int32) (ro : Int32) (o_m_at : Int32) (o_m_verbs : Nat → Int32) (o_m_told : Nat → Int32) (o_m_commands : Int32) (hf : fX6_reads F m_text m_length m_verbs m_told = some (ro, o_m_at, o_m_verbs, o_m_told, o_m_commands)) : Fn Θ yX6_reads (Cond.code yX6_reads cX6_reads 3 (some .boolean) :: GW) rmX6_reads [.ref m0] (wX6 Θ m0 m1 m2 m3 m4 m5 m6 m7 m8 m9 m_now m_saved m_aside m_states m_quiet m_thrown m_tried m_best m_touching m_text m_length m_at m_verbs m_told m_commands) (some (.int ro)) (wX6 Θ m0 m1 m2 m3 m4 m5 m6 m7 m8 m9 m_now m_saved m_aside m_states m_quiet m_thrown m_tried m_best m_touching m_text m_length o_m_at o_m_verbs o_m_told o_m_commands) := by
  delta fX6_reads at hf
  refine Fn.of (by decide +kernel) rfl (Nat.le_of_ble_eq_true rfl) (fun p e s m args below meth c A Q G K => ?_)
  show sw Θ p e rmX6_reads s m args below meth c A Q 3 0 0 0 [(0, .ref m0)] [] (wX6 Θ m0 m1 m2 m3 m4 m5 m6 m7 m8 m9 m_now m_saved m_aside m_states m_quiet m_thrown m_tried m_best m_touching m_text m_length m_at m_verbs m_told m_commands)
  refine sw_aload_n 0 G dX6_reads_0 0 rfl ?_
  refine sw_iconst 1 G (0 : Int32) dX6_reads_1 rfl ?_
  refine sw_put 2 G hnX6 tyX6_ok nmX6 0 11 (wX6 Θ m0 m1 m2 m3 m4 m5 m6 m7 m8 m9 m_now m_saved m_aside m_states m_quiet m_thrown m_tried m_best m_touching m_text m_length (0 : Int32) m_verbs m_told m_commands) dX6_reads_2 vc6 (by decide) (List.mem_cons_of_mem _ lk_3cd34cb2) rfl rfl (Nat.le_of_ble_eq_true rfl) (tyX6_ok 11 (by decide)) rfl rfl rfl ?_
  refine sw_aload_n 5 G dX6_reads_5 0 rfl ?_
  refine sw_iconst 6 G (0 : Int32) dX6_reads_6 rfl ?_
  refine sw_put 7 G hnX6 tyX6_ok nmX6 0 14 (wX6 Θ m0 m1 m2 m3 m4 m5 m6 m7 m8 m9 m_now m_saved m_aside m_states m_quiet m_thrown m_tried m_best m_touching m_text m_length (0 : Int32) m_verbs m_told (0 : Int32)) dX6_reads_7 vc6 (by decide) (List.mem_cons_of_mem _ lk_8c2c58e4) rfl rfl (Nat.le_of_ble_eq_true rfl) (tyX6_ok 14 (by decide)) rfl rfl rfl ?_
  refine sw_aload_n 10 G dX6_reads_10 0 rfl ?_
  obtain ⟨u1, hg, hf⟩ := bd1_some hf
  refine sw_callV 11 G (wX6 Θ m0 m1 m2 m3 m4 m5 m6 m7 m8 m9 m_now m_saved m_aside m_states m_quiet m_thrown m_tried m_best m_touching m_text m_length u1 m_verbs m_told (0 : Int32)) [0, 1, 2, 3, 4, 5, 6, 7, 8, 9] [] [0, 1, 2, 3, 4, 5, 6, 7, 8, 9] 0 dX6_reads_11 (kX6_skips Θ F m0 m1 m2 m3 m4 m5 m6 m7 m8 m9 m_now m_saved m_aside m_states m_quiet m_thrown m_tried m_best m_touching m_text m_length (0 : Int32) m_verbs m_told (0 : Int32) u1 hg) (gwV lk_23c41f0b lk_51739807 lk_b2871f78 lk_6d91b6d2 lk_9854487c) rfl hvX6_skips ⟨rfl, rfl⟩ ⟨Nat.le_of_ble_eq_true rfl, Nat.le_of_ble_eq_true rfl⟩ ⟨Nat.zero_le _, Nat.zero_le _⟩ rfl rfl (Nat.le_of_ble_eq_true rfl) 0 rfl vc6 rfl rfl rfl rfl (by decide) ?_
  obtain ⟨w14, hl, hf0, hf1, hf2, hf3⟩ := bdS4_some hf
  have hx14_35 : ∀ (v2 : Int32) (v3 : Nat → Int32) (v4 : Nat → Int32) (v5 : Int32), w14 = .inl (v2, v3, v4, v5) → sw Θ p e rmX6_reads s m args below meth c A Q 3 0 0 35 [] [] (wX6 Θ m0 m1 m2 m3 m4 m5 m6 m7 m8 m9 m_now m_saved m_aside m_states m_quiet m_thrown m_tried m_best m_touching m_text m_length v2 v3 v4 v5) := by
    intro v2 v3 v4 v5 hw
    have hf := uc4_some (hf0 _ hw)
    refine sw_iconst 35 G (0 : Int32) dX6_reads_35 rfl ?_
    cases hf
    exact sw_zret 36 G dX6_reads_36 K rfl
  have hx14_72 : ∀ (v6 : Int32) (v7 : Nat → Int32) (v8 : Nat → Int32) (v9 : Int32), w14 = .inr (.inl (v6, v7, v8, v9)) → sw Θ p e rmX6_reads s m args below meth c A Q 3 0 0 72 [] [] (wX6 Θ m0 m1 m2 m3 m4 m5 m6 m7 m8 m9 m_now m_saved m_aside m_states m_quiet m_thrown m_tried m_best m_touching m_text m_length v6 v7 v8 v9) := by
    intro v6 v7 v8 v9 hw
    have hf := uc4_some (hf1 _ hw)
    refine sw_iconst 72 G (0 : Int32) dX6_reads_72 rfl ?_
    cases hf
    exact sw_zret 73 G dX6_reads_73 K rfl
  have hx14_95 : ∀ (v10 : Int32) (v11 : Nat → Int32) (v12 : Nat → Int32) (v13 : Int32), w14 = .inr (.inr (.inl (v10, v11, v12, v13))) → sw Θ p e rmX6_reads s m args below meth c A Q 3 0 0 95 [] [] (wX6 Θ m0 m1 m2 m3 m4 m5 m6 m7 m8 m9 m_now m_saved m_aside m_states m_quiet m_thrown m_tried m_best m_touching m_text m_length v10 v11 v12 v13) := by
    intro v10 v11 v12 v13 hw
    have hf := uc4_some (hf2 _ hw)
    refine sw_iconst 95 G (0 : Int32) dX6_reads_95 rfl ?_
    cases hf
    exact sw_zret 96 G dX6_reads_96 K rfl
  have hx14_124 : ∀ (v14 : Int32) (v15 : Nat → Int32) (v16 : Nat → Int32) (v17 : Int32), w14 = .inr (.inr (.inr ((v14, v15, v16, v17)))) → sw Θ p e rmX6_reads s m args below meth c A Q 3 0 0 124 [] [] (wX6 Θ m0 m1 m2 m3 m4 m5 m6 m7 m8 m9 m_now m_saved m_aside m_states m_quiet m_thrown m_tried m_best m_touching m_text m_length v14 v15 v16 v17) := by
    intro v14 v15 v16 v17 hw
    have hf := uc4_some (hf3 _ hw)
    refine sw_iconst 124 G (1 : Int32) dX6_reads_124 rfl ?_
    cases hf
    exact sw_zret 125 G dX6_reads_125 K rfl
  refine sw_lv [(0, .ref m0)] [0] rfl ?_
  refine lp_walk (P := fun (t : Int32 × (Nat → Int32) × (Nat → Int32) × Int32) => sw Θ p e rmX6_reads s m args below meth c A Q 3 0 0 14 [(0, .ref m0)] [] (wX6 Θ m0 m1 m2 m3 m4 m5 m6 m7 m8 m9 m_now m_saved m_aside m_states m_quiet m_thrown m_tried m_best m_touching m_text m_length t.1 t.2.1 t.2.2.1 t.2.2.2)) hl (fun t14 y14 hf hin14 hex14 => ?_)
  obtain ⟨v18, v19, v20, v21⟩ := t14
  show sw Θ p e rmX6_reads s m args below meth c A Q 3 0 0 14 [(0, .ref m0)] [] (wX6 Θ m0 m1 m2 m3 m4 m5 m6 m7 m8 m9 m_now m_saved m_aside m_states m_quiet m_thrown m_tried m_best m_touching m_text m_length v18 v19 v20 v21)
  have hf := uc4_some (K := _) hf
  refine sw_aload_n 14 G dX6_reads_14 0 rfl ?_
  refine sw_get 15 G hnX6 0 11 dX6_reads_15 vc6 (by decide) (List.mem_cons_of_mem _ lk_3cd34cb2) rfl rfl ?_
  refine sw_aload_n 18 G dX6_reads_18 0 rfl ?_
  refine sw_get 19 G hnX6 0 10 dX6_reads_19 vc6 (by decide) (List.mem_cons_of_mem _ lk_26b769ba) rfl rfl ?_
  refine sw_icmp_ge 22 124 G dX6_reads_22 rfl hf (fun hf => ?_) (fun hf => ?_)
  · cases hf
    exact sw_lv _ [] rfl (hx14_124 _ _ _ _ (hex14 _ rfl).symm)
  · refine sw_aload_n 25 G dX6_reads_25 0 rfl ?_
    obtain ⟨r22, u23, hg, hf⟩ := bd2_some hf
    refine sw_callV 26 G (wX6 Θ m0 m1 m2 m3 m4 m5 m6 m7 m8 m9 m_now m_saved m_aside m_states m_quiet m_thrown m_tried m_best m_touching m_text m_length u23 v19 v20 v21) [0, 1, 2, 3, 4, 5, 6, 7, 8, 9] [] [0, 1, 2, 3, 4, 5, 6, 7, 8, 9] 0 dX6_reads_26 (kX6_verb Θ F m0 m1 m2 m3 m4 m5 m6 m7 m8 m9 m_now m_saved m_aside m_states m_quiet m_thrown m_tried m_best m_touching m_text m_length v18 v19 v20 v21 r22 u23 hg) (gwV lk_6529caf5 lk_2021084a lk_1ff832d7 lk_6d91b6d2 lk_914b5607) rfl hvX6_verb ⟨rfl, rfl⟩ ⟨Nat.le_of_ble_eq_true rfl, Nat.le_of_ble_eq_true rfl⟩ ⟨Nat.zero_le _, Nat.zero_le _⟩ rfl rfl (Nat.le_of_ble_eq_true rfl) 0 rfl vc6 rfl rfl rfl rfl (by decide) ?_
    refine sw_istore_n 29 G [(1, .int r22), (0, .ref m0)] dX6_reads_29 (by decide) rfl ?_
    refine sw_iload_n 30 G dX6_reads_30 0 rfl ?_
    refine sw_iconst 31 G (-1 : Int32) dX6_reads_31 rfl ?_
    refine sw_icmp_ne 32 37 G dX6_reads_32 rfl hf (fun hf => ?_) (fun hf => ?_)
    · refine sw_aload_n 37 G dX6_reads_37 1 rfl ?_
      refine sw_get 38 G hnX6 0 12 dX6_reads_38 vc6 (by decide) (List.mem_cons_of_mem _ lk_bc7db2ea) rfl rfl ?_
      refine sw_aload_n 41 G dX6_reads_41 1 rfl ?_
      refine sw_get 42 G hnX6 0 14 dX6_reads_42 vc6 (by decide) (List.mem_cons_of_mem _ lk_8c2c58e4) rfl rfl ?_
      refine sw_iload_n 45 G dX6_reads_45 0 rfl ?_
      refine sw_iast 46 G 8 (wX6 Θ m0 m1 m2 m3 m4 m5 m6 m7 m8 m9 m_now m_saved m_aside m_states m_quiet m_thrown m_tried m_best m_touching m_text m_length u23 (upd v19 v21.toNatClampNeg r22) v20 v21) dX6_reads_46 rfl rfl hf (fun hf => ?_)
      refine sw_iconst 47 G (0 : Int32) dX6_reads_47 rfl ?_
      refine sw_istore_n 48 G [(2, .int (0 : Int32)), (1, .int r22), (0, .ref m0)] dX6_reads_48 (by decide) rfl ?_
      obtain ⟨w49, hl, hf0, hf1⟩ := bdS2_some hf
      have hx49_72 : ∀ (v24 : Int32) (v25 : Nat → Int32), w49 = .inl (v24, v25) → sw Θ p e rmX6_reads s m args below meth c A Q 3 0 0 72 [] [] (wX6 Θ m0 m1 m2 m3 m4 m5 m6 m7 m8 m9 m_now m_saved m_aside m_states m_quiet m_thrown m_tried m_best m_touching m_text m_length v24 (upd v19 v21.toNatClampNeg r22) v25 v21) := by
        intro v24 v25 hw
        have hf := uc2_some (hf0 _ hw)
        cases hf
        exact sw_lv _ [] rfl (hx14_72 _ _ _ _ (hex14 _ rfl).symm)
      have hx49_80 : ∀ (v26 : Int32) (v27 : Nat → Int32), w49 = .inr ((v26, v27)) → sw Θ p e rmX6_reads s m args below meth c A Q 3 0 0 80 [(0, .ref m0)] [] (wX6 Θ m0 m1 m2 m3 m4 m5 m6 m7 m8 m9 m_now m_saved m_aside m_states m_quiet m_thrown m_tried m_best m_touching m_text m_length v26 (upd v19 v21.toNatClampNeg r22) v27 v21) := by
        intro v26 v27 hw
        have hf := uc2_some (hf1 _ hw)
        refine sw_aload_n 80 G dX6_reads_80 0 rfl ?_
        obtain ⟨u28, hg, hf⟩ := bd1_some hf
        refine sw_callV 81 G (wX6 Θ m0 m1 m2 m3 m4 m5 m6 m7 m8 m9 m_now m_saved m_aside m_states m_quiet m_thrown m_tried m_best m_touching m_text m_length u28 (upd v19 v21.toNatClampNeg r22) v27 v21) [0, 1, 2, 3, 4, 5, 6, 7, 8, 9] [] [0, 1, 2, 3, 4, 5, 6, 7, 8, 9] 0 dX6_reads_81 (kX6_skips Θ F m0 m1 m2 m3 m4 m5 m6 m7 m8 m9 m_now m_saved m_aside m_states m_quiet m_thrown m_tried m_best m_touching m_text m_length v26 (upd v19 v21.toNatClampNeg r22) v27 v21 u28 hg) (gwV lk_23c41f0b lk_51739807 lk_b2871f78 lk_6d91b6d2 lk_9854487c) rfl hvX6_skips ⟨rfl, rfl⟩ ⟨Nat.le_of_ble_eq_true rfl, Nat.le_of_ble_eq_true rfl⟩ ⟨Nat.zero_le _, Nat.zero_le _⟩ rfl rfl (Nat.le_of_ble_eq_true rfl) 0 rfl vc6 rfl rfl rfl rfl (by decide) ?_
        refine sw_aload_n 84 G dX6_reads_84 0 rfl ?_
        refine sw_bipush 85 G (59 : Int32) dX6_reads_85 rfl ?_
        refine sw_bipush 87 G (59 : Int32) dX6_reads_87 rfl ?_
        obtain ⟨r29, hg, hf⟩ := bd1_some hf
        refine sw_callV 89 G (wX6 Θ m0 m1 m2 m3 m4 m5 m6 m7 m8 m9 m_now m_saved m_aside m_states m_quiet m_thrown m_tried m_best m_touching m_text m_length u28 (upd v19 v21.toNatClampNeg r22) v27 v21) [0, 1, 2, 3, 4, 5, 6, 7, 8, 9] [] [0, 1, 2, 3, 4, 5, 6, 7, 8, 9] 2 dX6_reads_89 (kX6_isAt Θ m0 m1 m2 m3 m4 m5 m6 m7 m8 m9 m_now m_saved m_aside m_states m_quiet m_thrown m_tried m_best m_touching m_text m_length u28 (upd v19 v21.toNatClampNeg r22) v27 v21 (59 : Int32) (59 : Int32) r29 hg) (gwV lk_22091cd2 lk_59752bef lk_882e9241 lk_6d91b6d2 lk_1f197f9d) rfl hvX6_isAt ⟨rfl, rfl⟩ ⟨Nat.le_of_ble_eq_true rfl, Nat.le_of_ble_eq_true rfl⟩ ⟨Nat.zero_le _, Nat.zero_le _⟩ rfl rfl (Nat.le_of_ble_eq_true rfl) 0 rfl vc6 rfl rfl rfl rfl (by decide) ?_
        refine sw_if_ne 92 97 G dX6_reads_92 rfl hf (fun hf => ?_) (fun hf => ?_)
        · refine sw_aload_n 97 G dX6_reads_97 0 rfl ?_
          refine sw_dup 98 G dX6_reads_98 rfl ?_
          refine sw_get 99 G hnX6 0 11 dX6_reads_99 vc6 (by decide) (List.mem_cons_of_mem _ lk_3cd34cb2) rfl rfl ?_
          refine sw_iconst 102 G (1 : Int32) dX6_reads_102 rfl ?_
          refine sw_iadd 103 G dX6_reads_103 ?_
          refine sw_nmi hf (fun v30 hf => ?_)
          refine sw_put 104 G hnX6 tyX6_ok nmX6 0 11 (wX6 Θ m0 m1 m2 m3 m4 m5 m6 m7 m8 m9 m_now m_saved m_aside m_states m_quiet m_thrown m_tried m_best m_touching m_text m_length v30 (upd v19 v21.toNatClampNeg r22) v27 v21) dX6_reads_104 vc6 (by decide) (List.mem_cons_of_mem _ lk_3cd34cb2) rfl rfl (Nat.le_of_ble_eq_true rfl) (tyX6_ok 11 (by decide)) rfl rfl rfl ?_
          refine sw_aload_n 107 G dX6_reads_107 0 rfl ?_
          refine sw_dup 108 G dX6_reads_108 rfl ?_
          refine sw_get 109 G hnX6 0 14 dX6_reads_109 vc6 (by decide) (List.mem_cons_of_mem _ lk_8c2c58e4) rfl rfl ?_
          refine sw_iconst 112 G (1 : Int32) dX6_reads_112 rfl ?_
          refine sw_iadd 113 G dX6_reads_113 ?_
          refine sw_nmi hf (fun v31 hf => ?_)
          refine sw_put 114 G hnX6 tyX6_ok nmX6 0 14 (wX6 Θ m0 m1 m2 m3 m4 m5 m6 m7 m8 m9 m_now m_saved m_aside m_states m_quiet m_thrown m_tried m_best m_touching m_text m_length v30 (upd v19 v21.toNatClampNeg r22) v27 v31) dX6_reads_114 vc6 (by decide) (List.mem_cons_of_mem _ lk_8c2c58e4) rfl rfl (Nat.le_of_ble_eq_true rfl) (tyX6_ok 14 (by decide)) rfl rfl rfl ?_
          refine sw_aload_n 117 G dX6_reads_117 0 rfl ?_
          obtain ⟨u32, hg, hf⟩ := bd1_some hf
          refine sw_callV 118 G (wX6 Θ m0 m1 m2 m3 m4 m5 m6 m7 m8 m9 m_now m_saved m_aside m_states m_quiet m_thrown m_tried m_best m_touching m_text m_length u32 (upd v19 v21.toNatClampNeg r22) v27 v31) [0, 1, 2, 3, 4, 5, 6, 7, 8, 9] [] [0, 1, 2, 3, 4, 5, 6, 7, 8, 9] 0 dX6_reads_118 (kX6_skips Θ F m0 m1 m2 m3 m4 m5 m6 m7 m8 m9 m_now m_saved m_aside m_states m_quiet m_thrown m_tried m_best m_touching m_text m_length v30 (upd v19 v21.toNatClampNeg r22) v27 v31 u32 hg) (gwV lk_23c41f0b lk_51739807 lk_b2871f78 lk_6d91b6d2 lk_9854487c) rfl hvX6_skips ⟨rfl, rfl⟩ ⟨Nat.le_of_ble_eq_true rfl, Nat.le_of_ble_eq_true rfl⟩ ⟨Nat.zero_le _, Nat.zero_le _⟩ rfl rfl (Nat.le_of_ble_eq_true rfl) 0 rfl vc6 rfl rfl rfl rfl (by decide) ?_
          refine sw_goto 121 G 14 dX6_reads_121 rfl ?_
          cases hf
          have hb := hin14 _ rfl
          exact sw_lv _ [0] (by rfl) hb
        · cases hf
          exact sw_lv _ [] rfl (hx14_95 _ _ _ _ (hex14 _ rfl).symm)
      refine sw_lv [(0, .ref m0), (1, .int r22), (2, .int (0 : Int32))] [2, 1, 0] rfl ?_
      refine lp_walk (P := fun (t : Int32 × Int32 × (Nat → Int32)) => sw Θ p e rmX6_reads s m args below meth c A Q 3 0 0 49 [(0, .ref m0), (1, .int r22), (2, .int t.1)] [] (wX6 Θ m0 m1 m2 m3 m4 m5 m6 m7 m8 m9 m_now m_saved m_aside m_states m_quiet m_thrown m_tried m_best m_touching m_text m_length t.2.1 (upd v19 v21.toNatClampNeg r22) t.2.2 v21)) hl (fun t49 y49 hf hin49 hex49 => ?_)
      obtain ⟨v33, v34, v35⟩ := t49
      show sw Θ p e rmX6_reads s m args below meth c A Q 3 0 0 49 [(0, .ref m0), (1, .int r22), (2, .int v33)] [] (wX6 Θ m0 m1 m2 m3 m4 m5 m6 m7 m8 m9 m_now m_saved m_aside m_states m_quiet m_thrown m_tried m_best m_touching m_text m_length v34 (upd v19 v21.toNatClampNeg r22) v35 v21)
      have hf := uc3_some (K := _) hf
      refine sw_iload_n 49 G dX6_reads_49 2 rfl ?_
      refine sw_iload_n 50 G dX6_reads_50 1 rfl ?_
      obtain ⟨r36, hg, hf⟩ := bd1_some hf
      refine sw_callS 51 G (wX6 Θ m0 m1 m2 m3 m4 m5 m6 m7 m8 m9 m_now m_saved m_aside m_states m_quiet m_thrown m_tried m_best m_touching m_text m_length v34 (upd v19 v21.toNatClampNeg r22) v35 v21) [] [0, 1, 2, 3, 4, 5, 6, 7, 8, 9] [0, 1, 2, 3, 4, 5, 6, 7, 8, 9] 1 dX6_reads_51 (kX6_numbersOf Θ r22 r36 hg) (gwS lk_88a7785e lk_b739e0b2 lk_d7062027 lk_af6778d7) rfl hsX6_numbersOf ⟨rfl, rfl⟩ ⟨Nat.le_of_ble_eq_true rfl, Nat.le_of_ble_eq_true rfl⟩ ⟨Nat.zero_le _, Nat.zero_le _⟩ rfl rfl (Nat.le_of_ble_eq_true rfl) rfl rfl rfl (by decide) ?_
      refine sw_icmp_ge 54 80 G dX6_reads_54 rfl hf (fun hf => ?_) (fun hf => ?_)
      · cases hf
        exact sw_lv _ [0] rfl (hx49_80 _ _ (hex49 _ rfl).symm)
      · refine sw_aload_n 57 G dX6_reads_57 0 rfl ?_
        refine sw_iconst 58 G (4 : Int32) dX6_reads_58 rfl ?_
        refine sw_aload_n 59 G dX6_reads_59 0 rfl ?_
        refine sw_get 60 G hnX6 0 14 dX6_reads_60 vc6 (by decide) (List.mem_cons_of_mem _ lk_8c2c58e4) rfl rfl ?_
        refine sw_imul 63 G dX6_reads_63 ?_
        refine sw_iload_n 64 G dX6_reads_64 2 rfl ?_
        refine sw_iadd 65 G dX6_reads_65 ?_
        obtain ⟨r37, u38, u39, hg, hf⟩ := bd3_some hf
        refine sw_callV 66 G (wX6 Θ m0 m1 m2 m3 m4 m5 m6 m7 m8 m9 m_now m_saved m_aside m_states m_quiet m_thrown m_tried m_best m_touching m_text m_length u38 (upd v19 v21.toNatClampNeg r22) u39 v21) [0, 1, 2, 3, 4, 5, 6, 7, 8, 9] [] [0, 1, 2, 3, 4, 5, 6, 7, 8, 9] 1 dX6_reads_66 (kX6_number Θ F m0 m1 m2 m3 m4 m5 m6 m7 m8 m9 m_now m_saved m_aside m_states m_quiet m_thrown m_tried m_best m_touching m_text m_length v34 (upd v19 v21.toNatClampNeg r22) v35 v21 (((4 : Int32) * v21) + v33) r37 u38 u39 hg) (gwV lk_2887242a lk_e3ff7402 lk_e8552973 lk_6d91b6d2 lk_1009b0c3) rfl hvX6_number ⟨rfl, rfl⟩ ⟨Nat.le_of_ble_eq_true rfl, Nat.le_of_ble_eq_true rfl⟩ ⟨Nat.zero_le _, Nat.zero_le _⟩ rfl rfl (Nat.le_of_ble_eq_true rfl) 0 rfl vc6 rfl rfl rfl rfl (by decide) ?_
        refine sw_if_ne 69 74 G dX6_reads_69 rfl hf (fun hf => ?_) (fun hf => ?_)
        · refine sw_iinc 74 G (v33 + (1 : Int32)) [(2, .int (v33 + (1 : Int32))), (0, .ref m0), (1, .int r22)] dX6_reads_74 2 rfl rfl (by decide) rfl ?_
          refine sw_goto 77 G 49 dX6_reads_77 rfl ?_
          cases hf
          have hb := hin49 _ rfl
          exact sw_lv _ [1, 2, 0] (by rfl) hb
        · cases hf
          exact sw_lv _ [] rfl (hx49_72 _ _ (hex49 _ rfl).symm)
    · cases hf
      exact sw_lv _ [] rfl (hx14_35 _ _ _ _ (hex14 _ rfl).symm)
abbrev rmX6_carriesOut : Room := { frames := 8, cells := 0, slots := 0, locals := 189 }
theorem hvX6_carriesOut : yX6_carriesOut.cls = RX6 ∧ yX6_carriesOut.cls ≠ "java/lang/invoke/MethodHandle" ∧ yX6_carriesOut.cls ≠ "java/lang/invoke/VarHandle" ∧ (parseMethodDescriptor yX6_carriesOut.desc).map (fun d => d.parameters.length) = some 1 := by decide +kernel
set_option maxRecDepth 100000 in
set_option maxHeartbeats 4000000 in
theorem kX6_carriesOut (Θ : Tht) (F : Nat) (m0 m1 m2 m3 m4 m5 m6 m7 m8 m9 : Nat) (m_now : Nat → Int64) (m_saved : Nat → Int64) (m_aside : Nat → Int64) (m_states : Int32) (m_quiet : Int32) (m_thrown : Int32) (m_tried : Nat → Int32) (m_best : Nat → Int32) (m_touching : Nat → Int32) (m_text : Nat → Int32) (m_length : Int32) (m_at : Int32) (m_verbs : Nat → Int32) (m_told : Nat → Int32) (m_commands : Int32) (a0 : Int32) (o_m_now : Nat → Int64) (o_m_saved : Nat → Int64) (o_m_states : Int32) (o_m_thrown : Int32) (o_m_tried : Nat → Int32) (o_m_best : Nat → Int32) (o_m_touching : Nat → Int32) (hf : fX6_carriesOut F m_now m_saved m_states m_quiet m_tried m_best m_touching m_verbs m_told a0 = some (o_m_now, o_m_saved, o_m_states, o_m_thrown, o_m_tried, o_m_best, o_m_touching)) : Fn Θ yX6_carriesOut (Cond.code yX6_carriesOut cX6_carriesOut 6 none :: GW) rmX6_carriesOut [.ref m0, .int a0] (wX6 Θ m0 m1 m2 m3 m4 m5 m6 m7 m8 m9 m_now m_saved m_aside m_states m_quiet m_thrown m_tried m_best m_touching m_text m_length m_at m_verbs m_told m_commands) none (wX6 Θ m0 m1 m2 m3 m4 m5 m6 m7 m8 m9 o_m_now o_m_saved m_aside o_m_states m_quiet o_m_thrown o_m_tried o_m_best o_m_touching m_text m_length m_at m_verbs m_told m_commands) := by
  delta fX6_carriesOut at hf
  refine Fn.of (by decide +kernel) rfl (Nat.le_of_ble_eq_true rfl) (fun p e s m args below meth c A Q G K => ?_)
  show sw Θ p e rmX6_carriesOut s m args below meth c A Q 6 0 0 0 [(0, .ref m0), (1, .int a0)] [] (wX6 Θ m0 m1 m2 m3 m4 m5 m6 m7 m8 m9 m_now m_saved m_aside m_states m_quiet m_thrown m_tried m_best m_touching m_text m_length m_at m_verbs m_told m_commands)
  refine sw_aload_n 0 G dX6_carriesOut_0 0 rfl ?_
  refine sw_get 1 G hnX6 0 13 dX6_carriesOut_1 vc6 (by decide) (List.mem_cons_of_mem _ lk_b89f5c7c) rfl rfl ?_
  refine sw_iconst 4 G (4 : Int32) dX6_carriesOut_4 rfl ?_
  refine sw_iload_n 5 G dX6_carriesOut_5 1 rfl ?_
  refine sw_imul 6 G dX6_carriesOut_6 ?_
  refine sw_nmi hf (fun v1 hf => ?_)
  refine sw_iald 7 G 9 dX6_carriesOut_7 rfl hf (fun hf => ?_)
  refine sw_nmi hf (fun v2 hf => ?_)
  refine sw_istore_n 8 G [(2, .int v2), (0, .ref m0), (1, .int a0)] dX6_carriesOut_8 (by decide) rfl ?_
  refine sw_aload_n 9 G dX6_carriesOut_9 1 rfl ?_
  refine sw_get 10 G hnX6 0 13 dX6_carriesOut_10 vc6 (by decide) (List.mem_cons_of_mem _ lk_b89f5c7c) rfl rfl ?_
  refine sw_iconst 13 G (4 : Int32) dX6_carriesOut_13 rfl ?_
  refine sw_iload_n 14 G dX6_carriesOut_14 2 rfl ?_
  refine sw_imul 15 G dX6_carriesOut_15 ?_
  refine sw_iconst 16 G (1 : Int32) dX6_carriesOut_16 rfl ?_
  refine sw_iadd 17 G dX6_carriesOut_17 ?_
  refine sw_nmi hf (fun v3 hf => ?_)
  refine sw_iald 18 G 9 dX6_carriesOut_18 rfl hf (fun hf => ?_)
  refine sw_nmi hf (fun v4 hf => ?_)
  refine sw_istore_n 19 G [(3, .int v4), (2, .int v2), (0, .ref m0), (1, .int a0)] dX6_carriesOut_19 (by decide) rfl ?_
  refine sw_aload_n 20 G dX6_carriesOut_20 2 rfl ?_
  refine sw_get 21 G hnX6 0 13 dX6_carriesOut_21 vc6 (by decide) (List.mem_cons_of_mem _ lk_b89f5c7c) rfl rfl ?_
  refine sw_iconst 24 G (4 : Int32) dX6_carriesOut_24 rfl ?_
  refine sw_iload_n 25 G dX6_carriesOut_25 3 rfl ?_
  refine sw_imul 26 G dX6_carriesOut_26 ?_
  refine sw_iconst 27 G (2 : Int32) dX6_carriesOut_27 rfl ?_
  refine sw_iadd 28 G dX6_carriesOut_28 ?_
  refine sw_nmi hf (fun v5 hf => ?_)
  refine sw_iald 29 G 9 dX6_carriesOut_29 rfl hf (fun hf => ?_)
  refine sw_nmi hf (fun v6 hf => ?_)
  refine sw_istore 30 G [(4, .int v6), (3, .int v4), (2, .int v2), (0, .ref m0), (1, .int a0)] dX6_carriesOut_30 (by decide) rfl ?_
  refine sw_aload_n 32 G dX6_carriesOut_32 3 rfl ?_
  refine sw_get 33 G hnX6 0 13 dX6_carriesOut_33 vc6 (by decide) (List.mem_cons_of_mem _ lk_b89f5c7c) rfl rfl ?_
  refine sw_iconst 36 G (4 : Int32) dX6_carriesOut_36 rfl ?_
  refine sw_iload_n 37 G dX6_carriesOut_37 4 rfl ?_
  refine sw_imul 38 G dX6_carriesOut_38 ?_
  refine sw_iconst 39 G (3 : Int32) dX6_carriesOut_39 rfl ?_
  refine sw_iadd 40 G dX6_carriesOut_40 ?_
  refine sw_nmi hf (fun v7 hf => ?_)
  refine sw_iald 41 G 9 dX6_carriesOut_41 rfl hf (fun hf => ?_)
  refine sw_nmi hf (fun v8 hf => ?_)
  refine sw_istore 42 G [(5, .int v8), (4, .int v6), (3, .int v4), (2, .int v2), (0, .ref m0), (1, .int a0)] dX6_carriesOut_42 (by decide) rfl ?_
  refine sw_aload_n 44 G dX6_carriesOut_44 4 rfl ?_
  refine sw_get 45 G hnX6 0 12 dX6_carriesOut_45 vc6 (by decide) (List.mem_cons_of_mem _ lk_bc7db2ea) rfl rfl ?_
  refine sw_iload_n 48 G dX6_carriesOut_48 5 rfl ?_
  refine sw_iald 49 G 8 dX6_carriesOut_49 rfl hf (fun hf => ?_)
  refine sw_tsw 50 190 G dX6_carriesOut_50 rfl hf (fun hf => ?_) (fun j hj hf => ?_)
  · refine sw_aload_n 190 G dX6_carriesOut_190 4 rfl ?_
    refine sw_iload_n 191 G dX6_carriesOut_191 3 rfl ?_
    obtain ⟨r9, u10, u11, hg, hf⟩ := bd3_some hf
    refine sw_callV 192 G (wX6 Θ m0 m1 m2 m3 m4 m5 m6 m7 m8 m9 u10 m_saved m_aside m_states m_quiet u11 m_tried m_best m_touching m_text m_length m_at m_verbs m_told m_commands) [0, 1, 2, 3, 4, 5, 6, 7, 8, 9] [] [0, 1, 2, 3, 4, 5, 6, 7, 8, 9] 1 dX6_carriesOut_192 (kX6_strokesBy Θ F m0 m1 m2 m3 m4 m5 m6 m7 m8 m9 m_now m_saved m_aside m_states m_quiet m_thrown m_tried m_best m_touching m_text m_length m_at m_verbs m_told m_commands v2 r9 u10 u11 hg) (gwV lk_510c20e7 lk_58300cfa lk_f68e5ead lk_6d91b6d2 lk_6306c987) rfl hvX6_strokesBy ⟨rfl, rfl⟩ ⟨Nat.le_of_ble_eq_true rfl, Nat.le_of_ble_eq_true rfl⟩ ⟨Nat.zero_le _, Nat.zero_le _⟩ rfl rfl (Nat.le_of_ble_eq_true rfl) 0 rfl vc6 rfl rfl rfl rfl (by decide) ?_
    refine sw_pop 195 G dX6_carriesOut_195 rfl ?_
    cases hf
    exact sw_vret 196 G dX6_carriesOut_196 K
  · rcases (show j = 0 ∨ j = 1 ∨ j = 2 ∨ j = 3 ∨ j = 4 ∨ j = 5 ∨ j = 6 ∨ j = 7 by omega) with rfl | rfl | rfl | rfl | rfl | rfl | rfl | rfl
    · refine ⟨46, 96, rfl, rfl, ?_⟩
      have hf := tc_0 hf
      refine sw_aload_n 96 G dX6_carriesOut_96 4 rfl ?_
      refine sw_iload_n 97 G dX6_carriesOut_97 3 rfl ?_
      refine sw_iload_n 98 G dX6_carriesOut_98 2 rfl ?_
      obtain ⟨r12, u13, u14, u15, u16, hg, hf⟩ := bd5_some hf
      refine sw_callV 99 G (wX6 Θ m0 m1 m2 m3 m4 m5 m6 m7 m8 m9 u13 u14 m_aside u15 m_quiet u16 m_tried m_best m_touching m_text m_length m_at m_verbs m_told m_commands) [0, 1, 2, 3, 4, 5, 6, 7, 8, 9] [] [0, 1, 2, 3, 4, 5, 6, 7, 8, 9] 2 dX6_carriesOut_99 (kX6_begin Θ F m0 m1 m2 m3 m4 m5 m6 m7 m8 m9 m_now m_saved m_aside m_states m_quiet m_thrown m_tried m_best m_touching m_text m_length m_at m_verbs m_told m_commands v2 v4 r12 u13 u14 u15 u16 hg) (gwV lk_869b8d86 lk_1c8e0aad lk_fd106b15 lk_6d91b6d2 lk_29db4c28) rfl hvX6_begin ⟨rfl, rfl⟩ ⟨Nat.le_of_ble_eq_true rfl, Nat.le_of_ble_eq_true rfl⟩ ⟨Nat.zero_le _, Nat.zero_le _⟩ rfl rfl (Nat.le_of_ble_eq_true rfl) 0 rfl vc6 rfl rfl rfl rfl (by decide) ?_
      refine sw_pop 102 G dX6_carriesOut_102 rfl ?_
      refine sw_goto 103 G 196 dX6_carriesOut_103 rfl ?_
      cases hf
      exact sw_vret 196 G dX6_carriesOut_196 K
    · refine ⟨56, 106, rfl, rfl, ?_⟩
      have hf := tc_1 hf
      refine sw_aload_n 106 G dX6_carriesOut_106 4 rfl ?_
      refine sw_iload_n 107 G dX6_carriesOut_107 3 rfl ?_
      refine sw_iload_n 108 G dX6_carriesOut_108 2 rfl ?_
      refine sw_iload 109 G dX6_carriesOut_109 1 rfl ?_
      refine sw_iload 111 G dX6_carriesOut_111 0 rfl ?_
      refine sw_iconst 113 G (1 : Int32) dX6_carriesOut_113 rfl ?_
      obtain ⟨r17, u18, u19, u20, u21, hg, hf⟩ := bd5_some hf
      refine sw_callV 114 G (wX6 Θ m0 m1 m2 m3 m4 m5 m6 m7 m8 m9 u18 u19 m_aside u20 m_quiet u21 m_tried m_best m_touching m_text m_length m_at m_verbs m_told m_commands) [0, 1, 2, 3, 4, 5, 6, 7, 8, 9] [] [0, 1, 2, 3, 4, 5, 6, 7, 8, 9] 5 dX6_carriesOut_114 (kX6_mark Θ F m0 m1 m2 m3 m4 m5 m6 m7 m8 m9 m_now m_saved m_aside m_states m_quiet m_thrown m_tried m_best m_touching m_text m_length m_at m_verbs m_told m_commands v2 v4 v6 v8 (1 : Int32) r17 u18 u19 u20 u21 hg) (gwV lk_14a5dca5 lk_03b0fd13 lk_4486b888 lk_6d91b6d2 lk_529c8ab7) rfl hvX6_mark ⟨rfl, rfl⟩ ⟨Nat.le_of_ble_eq_true rfl, Nat.le_of_ble_eq_true rfl⟩ ⟨Nat.zero_le _, Nat.zero_le _⟩ rfl rfl (Nat.le_of_ble_eq_true rfl) 0 rfl vc6 rfl rfl rfl rfl (by decide) ?_
      refine sw_pop 117 G dX6_carriesOut_117 rfl ?_
      refine sw_goto 118 G 196 dX6_carriesOut_118 rfl ?_
      cases hf
      exact sw_vret 196 G dX6_carriesOut_196 K
    · refine ⟨71, 121, rfl, rfl, ?_⟩
      have hf := tc_2 hf
      refine sw_aload_n 121 G dX6_carriesOut_121 4 rfl ?_
      refine sw_iload_n 122 G dX6_carriesOut_122 3 rfl ?_
      refine sw_iload_n 123 G dX6_carriesOut_123 2 rfl ?_
      refine sw_iload 124 G dX6_carriesOut_124 1 rfl ?_
      refine sw_iload 126 G dX6_carriesOut_126 0 rfl ?_
      refine sw_iconst 128 G (2 : Int32) dX6_carriesOut_128 rfl ?_
      obtain ⟨r22, u23, u24, u25, u26, hg, hf⟩ := bd5_some hf
      refine sw_callV 129 G (wX6 Θ m0 m1 m2 m3 m4 m5 m6 m7 m8 m9 u23 u24 m_aside u25 m_quiet u26 m_tried m_best m_touching m_text m_length m_at m_verbs m_told m_commands) [0, 1, 2, 3, 4, 5, 6, 7, 8, 9] [] [0, 1, 2, 3, 4, 5, 6, 7, 8, 9] 5 dX6_carriesOut_129 (kX6_mark Θ F m0 m1 m2 m3 m4 m5 m6 m7 m8 m9 m_now m_saved m_aside m_states m_quiet m_thrown m_tried m_best m_touching m_text m_length m_at m_verbs m_told m_commands v2 v4 v6 v8 (2 : Int32) r22 u23 u24 u25 u26 hg) (gwV lk_14a5dca5 lk_03b0fd13 lk_4486b888 lk_6d91b6d2 lk_529c8ab7) rfl hvX6_mark ⟨rfl, rfl⟩ ⟨Nat.le_of_ble_eq_true rfl, Nat.le_of_ble_eq_true rfl⟩ ⟨Nat.zero_le _, Nat.zero_le _⟩ rfl rfl (Nat.le_of_ble_eq_true rfl) 0 rfl vc6 rfl rfl rfl rfl (by decide) ?_
      refine sw_pop 132 G dX6_carriesOut_132 rfl ?_
      refine sw_goto 133 G 196 dX6_carriesOut_133 rfl ?_
      cases hf
      exact sw_vret 196 G dX6_carriesOut_196 K
    · refine ⟨86, 136, rfl, rfl, ?_⟩
      have hf := tc_3 hf
      refine sw_aload_n 136 G dX6_carriesOut_136 4 rfl ?_
      refine sw_iload_n 137 G dX6_carriesOut_137 3 rfl ?_
      refine sw_iload_n 138 G dX6_carriesOut_138 2 rfl ?_
      refine sw_iload 139 G dX6_carriesOut_139 1 rfl ?_
      refine sw_iload 141 G dX6_carriesOut_141 0 rfl ?_
      obtain ⟨r27, u28, u29, u30, u31, hg, hf⟩ := bd5_some hf
      refine sw_callV 143 G (wX6 Θ m0 m1 m2 m3 m4 m5 m6 m7 m8 m9 u28 u29 m_aside u30 m_quiet u31 m_tried m_best m_touching m_text m_length m_at m_verbs m_told m_commands) [0, 1, 2, 3, 4, 5, 6, 7, 8, 9] [] [0, 1, 2, 3, 4, 5, 6, 7, 8, 9] 4 dX6_carriesOut_143 (kX6_addPunch Θ F m0 m1 m2 m3 m4 m5 m6 m7 m8 m9 m_now m_saved m_aside m_states m_quiet m_thrown m_tried m_best m_touching m_text m_length m_at m_verbs m_told m_commands v2 v4 v6 v8 r27 u28 u29 u30 u31 hg) (gwV lk_5ba8e091 lk_5616fdd4 lk_30c43bfd lk_6d91b6d2 lk_cdfc0e61) rfl hvX6_addPunch ⟨rfl, rfl⟩ ⟨Nat.le_of_ble_eq_true rfl, Nat.le_of_ble_eq_true rfl⟩ ⟨Nat.zero_le _, Nat.zero_le _⟩ rfl rfl (Nat.le_of_ble_eq_true rfl) 0 rfl vc6 rfl rfl rfl rfl (by decide) ?_
      refine sw_pop 146 G dX6_carriesOut_146 rfl ?_
      refine sw_goto 147 G 196 dX6_carriesOut_147 rfl ?_
      cases hf
      exact sw_vret 196 G dX6_carriesOut_196 K
    · refine ⟨100, 150, rfl, rfl, ?_⟩
      have hf := tc_4 hf
      refine sw_aload_n 150 G dX6_carriesOut_150 4 rfl ?_
      refine sw_iload_n 151 G dX6_carriesOut_151 3 rfl ?_
      refine sw_iload_n 152 G dX6_carriesOut_152 2 rfl ?_
      refine sw_iload 153 G dX6_carriesOut_153 1 rfl ?_
      obtain ⟨r32, u33, u34, u35, u36, hg, hf⟩ := bd5_some hf
      refine sw_callV 155 G (wX6 Θ m0 m1 m2 m3 m4 m5 m6 m7 m8 m9 u33 u34 m_aside u35 m_quiet u36 m_tried m_best m_touching m_text m_length m_at m_verbs m_told m_commands) [0, 1, 2, 3, 4, 5, 6, 7, 8, 9] [] [0, 1, 2, 3, 4, 5, 6, 7, 8, 9] 3 dX6_carriesOut_155 (kX6_addBend Θ F m0 m1 m2 m3 m4 m5 m6 m7 m8 m9 m_now m_saved m_aside m_states m_quiet m_thrown m_tried m_best m_touching m_text m_length m_at m_verbs m_told m_commands v2 v4 v6 r32 u33 u34 u35 u36 hg) (gwV lk_049cf3b0 lk_f31a0adb lk_06a8ee85 lk_6d91b6d2 lk_47bbb569) rfl hvX6_addBend ⟨rfl, rfl⟩ ⟨Nat.le_of_ble_eq_true rfl, Nat.le_of_ble_eq_true rfl⟩ ⟨Nat.zero_le _, Nat.zero_le _⟩ rfl rfl (Nat.le_of_ble_eq_true rfl) 0 rfl vc6 rfl rfl rfl rfl (by decide) ?_
      refine sw_pop 158 G dX6_carriesOut_158 rfl ?_
      refine sw_goto 159 G 196 dX6_carriesOut_159 rfl ?_
      cases hf
      exact sw_vret 196 G dX6_carriesOut_196 K
    · refine ⟨112, 162, rfl, rfl, ?_⟩
      have hf := tc_5 hf
      refine sw_aload_n 162 G dX6_carriesOut_162 4 rfl ?_
      refine sw_iload_n 163 G dX6_carriesOut_163 3 rfl ?_
      refine sw_iload_n 164 G dX6_carriesOut_164 2 rfl ?_
      obtain ⟨r37, u38, u39, u40, u41, hg, hf⟩ := bd5_some hf
      refine sw_callV 165 G (wX6 Θ m0 m1 m2 m3 m4 m5 m6 m7 m8 m9 u38 u39 m_aside u40 m_quiet u41 m_tried m_best m_touching m_text m_length m_at m_verbs m_told m_commands) [0, 1, 2, 3, 4, 5, 6, 7, 8, 9] [] [0, 1, 2, 3, 4, 5, 6, 7, 8, 9] 2 dX6_carriesOut_165 (kX6_setStation Θ F m0 m1 m2 m3 m4 m5 m6 m7 m8 m9 m_now m_saved m_aside m_states m_quiet m_thrown m_tried m_best m_touching m_text m_length m_at m_verbs m_told m_commands v2 v4 r37 u38 u39 u40 u41 hg) (gwV lk_0e45abb1 lk_b646916b lk_43929e44 lk_6d91b6d2 lk_9fdc4188) rfl hvX6_setStation ⟨rfl, rfl⟩ ⟨Nat.le_of_ble_eq_true rfl, Nat.le_of_ble_eq_true rfl⟩ ⟨Nat.zero_le _, Nat.zero_le _⟩ rfl rfl (Nat.le_of_ble_eq_true rfl) 0 rfl vc6 rfl rfl rfl rfl (by decide) ?_
      refine sw_pop 168 G dX6_carriesOut_168 rfl ?_
      refine sw_goto 169 G 196 dX6_carriesOut_169 rfl ?_
      cases hf
      exact sw_vret 196 G dX6_carriesOut_196 K
    · refine ⟨122, 172, rfl, rfl, ?_⟩
      have hf := tc_6 hf
      refine sw_aload_n 172 G dX6_carriesOut_172 4 rfl ?_
      obtain ⟨r42, u43, u44, u45, u46, u47, u48, u49, hg, hf⟩ := bd8_some hf
      refine sw_callV 173 G (wX6 Θ m0 m1 m2 m3 m4 m5 m6 m7 m8 m9 u43 u44 m_aside u45 m_quiet u46 u47 u48 u49 m_text m_length m_at m_verbs m_told m_commands) [0, 1, 2, 3, 4, 5, 6, 7, 8, 9] [] [0, 1, 2, 3, 4, 5, 6, 7, 8, 9] 0 dX6_carriesOut_173 (kX6_usePlan Θ F m0 m1 m2 m3 m4 m5 m6 m7 m8 m9 m_now m_saved m_aside m_states m_quiet m_thrown m_tried m_best m_touching m_text m_length m_at m_verbs m_told m_commands r42 u43 u44 u45 u46 u47 u48 u49 hg) (gwV lk_04359709 lk_761d0a21 lk_fa69fbb9 lk_6d91b6d2 lk_48643bae) rfl hvX6_usePlan ⟨rfl, rfl⟩ ⟨Nat.le_of_ble_eq_true rfl, Nat.le_of_ble_eq_true rfl⟩ ⟨Nat.zero_le _, Nat.zero_le _⟩ rfl rfl (Nat.le_of_ble_eq_true rfl) 0 rfl vc6 rfl rfl rfl rfl (by decide) ?_
      refine sw_pop 176 G dX6_carriesOut_176 rfl ?_
      refine sw_goto 177 G 196 dX6_carriesOut_177 rfl ?_
      cases hf
      exact sw_vret 196 G dX6_carriesOut_196 K
    · refine ⟨130, 180, rfl, rfl, ?_⟩
      have hf := tc_7 hf
      refine sw_aload_n 180 G dX6_carriesOut_180 4 rfl ?_
      refine sw_iload_n 181 G dX6_carriesOut_181 3 rfl ?_
      refine sw_iconst 182 G (1 : Int32) dX6_carriesOut_182 rfl ?_
      obtain ⟨r50, u51, u52, u53, u54, hg, hf⟩ := bd5_some hf
      refine sw_callV 183 G (wX6 Θ m0 m1 m2 m3 m4 m5 m6 m7 m8 m9 u51 u52 m_aside u53 m_quiet u54 m_tried m_best m_touching m_text m_length m_at m_verbs m_told m_commands) [0, 1, 2, 3, 4, 5, 6, 7, 8, 9] [] [0, 1, 2, 3, 4, 5, 6, 7, 8, 9] 2 dX6_carriesOut_183 (kX6_setPilot Θ F m0 m1 m2 m3 m4 m5 m6 m7 m8 m9 m_now m_saved m_aside m_states m_quiet m_thrown m_tried m_best m_touching m_text m_length m_at m_verbs m_told m_commands v2 (1 : Int32) r50 u51 u52 u53 u54 hg) (gwV lk_cbea2ccd lk_2ec286b7 lk_537552d6 lk_6d91b6d2 lk_ede02474) rfl hvX6_setPilot ⟨rfl, rfl⟩ ⟨Nat.le_of_ble_eq_true rfl, Nat.le_of_ble_eq_true rfl⟩ ⟨Nat.zero_le _, Nat.zero_le _⟩ rfl rfl (Nat.le_of_ble_eq_true rfl) 0 rfl vc6 rfl rfl rfl rfl (by decide) ?_
      refine sw_pop 186 G dX6_carriesOut_186 rfl ?_
      refine sw_goto 187 G 196 dX6_carriesOut_187 rfl ?_
      cases hf
      exact sw_vret 196 G dX6_carriesOut_196 K
abbrev rmX6_runCommands : Room := { frames := 9, cells := 0, slots := 0, locals := 214 }
theorem hvX6_runCommands : yX6_runCommands.cls = RX6 ∧ yX6_runCommands.cls ≠ "java/lang/invoke/MethodHandle" ∧ yX6_runCommands.cls ≠ "java/lang/invoke/VarHandle" ∧ (parseMethodDescriptor yX6_runCommands.desc).map (fun d => d.parameters.length) = some 0 := by decide +kernel
set_option maxRecDepth 100000 in
set_option maxHeartbeats 4000000 in
theorem kX6_runCommands (Θ : Tht) (F : Nat) (m0 m1 m2 m3 m4 m5 m6 m7 m8 m9 : Nat) (m_now : Nat → Int64) (m_saved : Nat → Int64) (m_aside : Nat → Int64) (m_states : Int32) (m_quiet : Int32) (m_thrown : Int32) (m_tried : Nat → Int32) (m_best : Nat → Int32) (m_touching : Nat → Int32) (m_text : Nat → Int32) (m_length : Int32) (m_at : Int32) (m_verbs : Nat → Int32) (m_told : Nat → Int32) (m_commands : Int32) (ro : Int32) (o_m_now : Nat → Int64) (o_m_saved : Nat → Int64) (o_m_states : Int32) (o_m_quiet : Int32) (o_m_thrown : Int32) (o_m_tried : Nat → Int32) (o_m_best : Nat → Int32) (o_m_touching : Nat → Int32) (o_m_at : Int32) (o_m_verbs : Nat → Int32) (o_m_told : Nat → Int32) (o_m_commands : Int32) (hf : fX6_runCommands F m_now m_saved m_states m_quiet m_tried m_best m_touching m_text m_length m_verbs m_told = some (ro, o_m_now, o_m_saved, o_m_states, o_m_quiet, o_m_thrown, o_m_tried, o_m_best, o_m_touching, o_m_at, o_m_verbs, o_m_told, o_m_commands)) : Fn Θ yX6_runCommands (Cond.code yX6_runCommands cX6_runCommands 3 (some .int) :: GW) rmX6_runCommands [.ref m0] (wX6 Θ m0 m1 m2 m3 m4 m5 m6 m7 m8 m9 m_now m_saved m_aside m_states m_quiet m_thrown m_tried m_best m_touching m_text m_length m_at m_verbs m_told m_commands) (some (.int ro)) (wX6 Θ m0 m1 m2 m3 m4 m5 m6 m7 m8 m9 o_m_now o_m_saved m_aside o_m_states o_m_quiet o_m_thrown o_m_tried o_m_best o_m_touching m_text m_length o_m_at o_m_verbs o_m_told o_m_commands) := by
  delta fX6_runCommands at hf
  refine Fn.of (by decide +kernel) rfl (Nat.le_of_ble_eq_true rfl) (fun p e s m args below meth c A Q G K => ?_)
  show sw Θ p e rmX6_runCommands s m args below meth c A Q 3 0 0 0 [(0, .ref m0)] [] (wX6 Θ m0 m1 m2 m3 m4 m5 m6 m7 m8 m9 m_now m_saved m_aside m_states m_quiet m_thrown m_tried m_best m_touching m_text m_length m_at m_verbs m_told m_commands)
  refine sw_aload_n 0 G dX6_runCommands_0 0 rfl ?_
  refine sw_iconst 1 G (0 : Int32) dX6_runCommands_1 rfl ?_
  refine sw_put 2 G hnX6 tyX6_ok nmX6 0 5 (wX6 Θ m0 m1 m2 m3 m4 m5 m6 m7 m8 m9 m_now m_saved m_aside m_states m_quiet (0 : Int32) m_tried m_best m_touching m_text m_length m_at m_verbs m_told m_commands) dX6_runCommands_2 vc6 (by decide) (List.mem_cons_of_mem _ lk_fb3e5753) rfl rfl (Nat.le_of_ble_eq_true rfl) (tyX6_ok 5 (by decide)) rfl rfl rfl ?_
  refine sw_aload_n 5 G dX6_runCommands_5 0 rfl ?_
  obtain ⟨r1, u2, u3, u4, u5, hg, hf⟩ := bd5_some hf
  refine sw_callV 6 G (wX6 Θ m0 m1 m2 m3 m4 m5 m6 m7 m8 m9 m_now m_saved m_aside m_states m_quiet (0 : Int32) m_tried m_best m_touching m_text m_length u2 u3 u4 u5) [0, 1, 2, 3, 4, 5, 6, 7, 8, 9] [] [0, 1, 2, 3, 4, 5, 6, 7, 8, 9] 0 dX6_runCommands_6 (kX6_reads Θ F m0 m1 m2 m3 m4 m5 m6 m7 m8 m9 m_now m_saved m_aside m_states m_quiet (0 : Int32) m_tried m_best m_touching m_text m_length m_at m_verbs m_told m_commands r1 u2 u3 u4 u5 hg) (gwV lk_6ae714a8 lk_893ccfb9 lk_dc49ff87 lk_6d91b6d2 lk_14807fbc) rfl hvX6_reads ⟨rfl, rfl⟩ ⟨Nat.le_of_ble_eq_true rfl, Nat.le_of_ble_eq_true rfl⟩ ⟨Nat.zero_le _, Nat.zero_le _⟩ rfl rfl (Nat.le_of_ble_eq_true rfl) 0 rfl vc6 rfl rfl rfl rfl (by decide) ?_
  refine sw_if_ne 9 20 G dX6_runCommands_9 rfl hf (fun hf => ?_) (fun hf => ?_)
  · refine sw_aload_n 20 G dX6_runCommands_20 0 rfl ?_
    obtain ⟨u6, u7, hg, hf⟩ := bd2_some hf
    refine sw_callV 21 G (wX6 Θ m0 m1 m2 m3 m4 m5 m6 m7 m8 m9 m_now u6 m_aside u7 m_quiet (0 : Int32) m_tried m_best m_touching m_text m_length u2 u3 u4 u5) [0, 1, 2, 3, 4, 5, 6, 7, 8, 9] [] [0, 1, 2, 3, 4, 5, 6, 7, 8, 9] 0 dX6_runCommands_21 (kX6_save Θ F m0 m1 m2 m3 m4 m5 m6 m7 m8 m9 m_now m_saved m_aside m_states m_quiet (0 : Int32) m_tried m_best m_touching m_text m_length u2 u3 u4 u5 u6 u7 hg) (gwV lk_fb398b8d lk_00110175 lk_41f35dad lk_6d91b6d2 lk_436b5259) rfl hvX6_save ⟨rfl, rfl⟩ ⟨Nat.le_of_ble_eq_true rfl, Nat.le_of_ble_eq_true rfl⟩ ⟨Nat.zero_le _, Nat.zero_le _⟩ rfl rfl (Nat.le_of_ble_eq_true rfl) 0 rfl vc6 rfl rfl rfl rfl (by decide) ?_
    refine sw_aload_n 24 G dX6_runCommands_24 0 rfl ?_
    refine sw_iconst 25 G (1 : Int32) dX6_runCommands_25 rfl ?_
    refine sw_put 26 G hnX6 tyX6_ok nmX6 0 4 (wX6 Θ m0 m1 m2 m3 m4 m5 m6 m7 m8 m9 m_now u6 m_aside u7 (1 : Int32) (0 : Int32) m_tried m_best m_touching m_text m_length u2 u3 u4 u5) dX6_runCommands_26 vc6 (by decide) (List.mem_cons_of_mem _ lk_a02adbde) rfl rfl (Nat.le_of_ble_eq_true rfl) (tyX6_ok 4 (by decide)) rfl rfl rfl ?_
    refine sw_iconst 29 G (0 : Int32) dX6_runCommands_29 rfl ?_
    refine sw_istore_n 30 G [(1, .int (0 : Int32)), (0, .ref m0)] dX6_runCommands_30 (by decide) rfl ?_
    refine sw_iconst 31 G (0 : Int32) dX6_runCommands_31 rfl ?_
    refine sw_istore_n 32 G [(2, .int (0 : Int32)), (1, .int (0 : Int32)), (0, .ref m0)] dX6_runCommands_32 (by decide) rfl ?_
    obtain ⟨v8, v9, v10, v11, v12, v13, v14, v15, hl, hf⟩ := bd8_some hf
    have hx33_74 : sw Θ p e rmX6_runCommands s m args below meth c A Q 3 0 0 74 [(0, .ref m0), (1, .int v8)] [] (wX6 Θ m0 m1 m2 m3 m4 m5 m6 m7 m8 m9 v9 v10 m_aside v11 (1 : Int32) v12 v13 v14 v15 m_text m_length u2 u3 u4 u5) := by
      refine sw_aload_n 74 G dX6_runCommands_74 0 rfl ?_
      refine sw_iconst 75 G (0 : Int32) dX6_runCommands_75 rfl ?_
      refine sw_put 76 G hnX6 tyX6_ok nmX6 0 4 (wX6 Θ m0 m1 m2 m3 m4 m5 m6 m7 m8 m9 v9 v10 m_aside v11 (0 : Int32) v12 v13 v14 v15 m_text m_length u2 u3 u4 u5) dX6_runCommands_76 vc6 (by decide) (List.mem_cons_of_mem _ lk_a02adbde) rfl rfl (Nat.le_of_ble_eq_true rfl) (tyX6_ok 4 (by decide)) rfl rfl rfl ?_
      refine sw_aload_n 79 G dX6_runCommands_79 0 rfl ?_
      refine sw_iconst 80 G (0 : Int32) dX6_runCommands_80 rfl ?_
      refine sw_put 81 G hnX6 tyX6_ok nmX6 0 5 (wX6 Θ m0 m1 m2 m3 m4 m5 m6 m7 m8 m9 v9 v10 m_aside v11 (0 : Int32) (0 : Int32) v13 v14 v15 m_text m_length u2 u3 u4 u5) dX6_runCommands_81 vc6 (by decide) (List.mem_cons_of_mem _ lk_fb3e5753) rfl rfl (Nat.le_of_ble_eq_true rfl) (tyX6_ok 5 (by decide)) rfl rfl rfl ?_
      refine sw_iload_n 84 G dX6_runCommands_84 1 rfl ?_
      cases hf
      exact sw_iret 85 G dX6_runCommands_85 K
    refine sw_lv [(0, .ref m0), (1, .int (0 : Int32)), (2, .int (0 : Int32))] [2, 1, 0] rfl ?_
    refine lp_walk (P := fun (t : Int32 × Int32 × (Nat → Int64) × (Nat → Int64) × Int32 × Int32 × (Nat → Int32) × (Nat → Int32) × (Nat → Int32)) => sw Θ p e rmX6_runCommands s m args below meth c A Q 3 0 0 33 [(0, .ref m0), (1, .int t.1), (2, .int t.2.1)] [] (wX6 Θ m0 m1 m2 m3 m4 m5 m6 m7 m8 m9 t.2.2.1 t.2.2.2.1 m_aside t.2.2.2.2.1 (1 : Int32) t.2.2.2.2.2.1 t.2.2.2.2.2.2.1 t.2.2.2.2.2.2.2.1 t.2.2.2.2.2.2.2.2 m_text m_length u2 u3 u4 u5)) hl (fun t33 y33 hf hin33 hex33 => ?_)
    obtain ⟨v16, v17, v18, v19, v20, v21, v22, v23, v24⟩ := t33
    show sw Θ p e rmX6_runCommands s m args below meth c A Q 3 0 0 33 [(0, .ref m0), (1, .int v16), (2, .int v17)] [] (wX6 Θ m0 m1 m2 m3 m4 m5 m6 m7 m8 m9 v18 v19 m_aside v20 (1 : Int32) v21 v22 v23 v24 m_text m_length u2 u3 u4 u5)
    have hf := uc9_some (K := _) hf
    refine sw_iload_n 33 G dX6_runCommands_33 2 rfl ?_
    refine sw_aload_n 34 G dX6_runCommands_34 0 rfl ?_
    refine sw_get 35 G hnX6 0 14 dX6_runCommands_35 vc6 (by decide) (List.mem_cons_of_mem _ lk_8c2c58e4) rfl rfl ?_
    refine sw_icmp_ge 38 74 G dX6_runCommands_38 rfl hf (fun hf => ?_) (fun hf => ?_)
    · cases hf
      cases hex33 _ rfl
      exact sw_lv _ [0, 1] rfl hx33_74
    · refine sw_aload_n 41 G dX6_runCommands_41 0 rfl ?_
      refine sw_get 42 G hnX6 0 5 dX6_runCommands_42 vc6 (by decide) (List.mem_cons_of_mem _ lk_fb3e5753) rfl rfl ?_
      refine sw_if_ne 45 74 G dX6_runCommands_45 rfl hf (fun hf => ?_) (fun hf => ?_)
      · cases hf
        cases hex33 _ rfl
        exact sw_lv _ [0, 1] rfl hx33_74
      · refine sw_aload_n 48 G dX6_runCommands_48 0 rfl ?_
        refine sw_iload_n 49 G dX6_runCommands_49 2 rfl ?_
        obtain ⟨u25, u26, u27, u28, u29, u30, u31, hg, hf⟩ := bd7_some hf
        refine sw_callV 50 G (wX6 Θ m0 m1 m2 m3 m4 m5 m6 m7 m8 m9 u25 u26 m_aside u27 (1 : Int32) u28 u29 u30 u31 m_text m_length u2 u3 u4 u5) [0, 1, 2, 3, 4, 5, 6, 7, 8, 9] [] [0, 1, 2, 3, 4, 5, 6, 7, 8, 9] 1 dX6_runCommands_50 (kX6_carriesOut Θ F m0 m1 m2 m3 m4 m5 m6 m7 m8 m9 v18 v19 m_aside v20 (1 : Int32) v21 v22 v23 v24 m_text m_length u2 u3 u4 u5 v17 u25 u26 u27 u28 u29 u30 u31 hg) (gwV lk_7baf9487 lk_c60515ac lk_8d865525 lk_6d91b6d2 lk_a76912a3) rfl hvX6_carriesOut ⟨rfl, rfl⟩ ⟨Nat.le_of_ble_eq_true rfl, Nat.le_of_ble_eq_true rfl⟩ ⟨Nat.zero_le _, Nat.zero_le _⟩ rfl rfl (Nat.le_of_ble_eq_true rfl) 0 rfl vc6 rfl rfl rfl rfl (by decide) ?_
        refine sw_iload_n 53 G dX6_runCommands_53 1 rfl ?_
        refine sw_aload_n 54 G dX6_runCommands_54 0 rfl ?_
        refine sw_get 55 G hnX6 0 5 dX6_runCommands_55 vc6 (by decide) (List.mem_cons_of_mem _ lk_fb3e5753) rfl rfl ?_
        obtain ⟨v32, hj, hf⟩ := bd1_some hf
        have hx66 : sw Θ p e rmX6_runCommands s m args below meth c A Q 3 0 0 66 [(0, .ref m0), (2, .int v17)] [.int v32, .int v16] (wX6 Θ m0 m1 m2 m3 m4 m5 m6 m7 m8 m9 u25 u26 m_aside u27 (1 : Int32) u28 u29 u30 u31 m_text m_length u2 u3 u4 u5) := by
          refine sw_iadd 66 G dX6_runCommands_66 ?_
          refine sw_nmi hf (fun v33 hf => ?_)
          refine sw_istore_n 67 G [(1, .int v33), (0, .ref m0), (2, .int v17)] dX6_runCommands_67 (by decide) rfl ?_
          refine sw_iinc 68 G (v17 + (1 : Int32)) [(2, .int (v17 + (1 : Int32))), (1, .int v33), (0, .ref m0)] dX6_runCommands_68 2 rfl rfl (by decide) rfl ?_
          refine sw_goto 71 G 33 dX6_runCommands_71 rfl ?_
          cases hf
          have hb := hin33 _ rfl
          exact sw_lv _ [2, 1, 0] (by rfl) hb
        clear hf
        have hf := hj
        clear hj
        refine sw_if_ne 58 65 G dX6_runCommands_58 rfl hf (fun hf => ?_) (fun hf => ?_)
        · refine sw_iconst 65 G (0 : Int32) dX6_runCommands_65 rfl ?_
          cases hf
          exact sw_lv _ [0, 2] rfl hx66
        · refine sw_iconst 61 G (1 : Int32) dX6_runCommands_61 rfl ?_
          refine sw_goto 62 G 66 dX6_runCommands_62 rfl ?_
          cases hf
          exact sw_lv _ [0, 2] rfl hx66
  · refine sw_bipush 12 G (-10 : Int32) dX6_runCommands_12 rfl ?_
    refine sw_aload_n 14 G dX6_runCommands_14 0 rfl ?_
    refine sw_get 15 G hnX6 0 11 dX6_runCommands_15 vc6 (by decide) (List.mem_cons_of_mem _ lk_3cd34cb2) rfl rfl ?_
    refine sw_isub 18 G dX6_runCommands_18 ?_
    generalize (-10 : Int32) - u2 = zr at hf ⊢
    cases hf
    exact sw_iret 19 G dX6_runCommands_19 K
abbrev rmX6_undo : Room := { frames := 1, cells := 0, slots := 0, locals := 21 }
theorem hvX6_undo : yX6_undo.cls = RX6 ∧ yX6_undo.cls ≠ "java/lang/invoke/MethodHandle" ∧ yX6_undo.cls ≠ "java/lang/invoke/VarHandle" ∧ (parseMethodDescriptor yX6_undo.desc).map (fun d => d.parameters.length) = some 0 := by decide +kernel
set_option maxRecDepth 100000 in
set_option maxHeartbeats 4000000 in
theorem kX6_undo (Θ : Tht) (F : Nat) (m0 m1 m2 m3 m4 m5 m6 m7 m8 m9 : Nat) (m_now : Nat → Int64) (m_saved : Nat → Int64) (m_aside : Nat → Int64) (m_states : Int32) (m_quiet : Int32) (m_thrown : Int32) (m_tried : Nat → Int32) (m_best : Nat → Int32) (m_touching : Nat → Int32) (m_text : Nat → Int32) (m_length : Int32) (m_at : Int32) (m_verbs : Nat → Int32) (m_told : Nat → Int32) (m_commands : Int32) (ro : Int32) (o_m_now : Nat → Int64) (o_m_states : Int32) (o_m_thrown : Int32) (hf : fX6_undo F m_now m_saved m_states = some (ro, o_m_now, o_m_states, o_m_thrown)) : Fn Θ yX6_undo (Cond.code yX6_undo cX6_undo 2 (some .int) :: GW) rmX6_undo [.ref m0] (wX6 Θ m0 m1 m2 m3 m4 m5 m6 m7 m8 m9 m_now m_saved m_aside m_states m_quiet m_thrown m_tried m_best m_touching m_text m_length m_at m_verbs m_told m_commands) (some (.int ro)) (wX6 Θ m0 m1 m2 m3 m4 m5 m6 m7 m8 m9 o_m_now m_saved m_aside o_m_states m_quiet o_m_thrown m_tried m_best m_touching m_text m_length m_at m_verbs m_told m_commands) := by
  delta fX6_undo at hf
  refine Fn.of (by decide +kernel) rfl (Nat.le_of_ble_eq_true rfl) (fun p e s m args below meth c A Q G K => ?_)
  show sw Θ p e rmX6_undo s m args below meth c A Q 2 0 0 0 [(0, .ref m0)] [] (wX6 Θ m0 m1 m2 m3 m4 m5 m6 m7 m8 m9 m_now m_saved m_aside m_states m_quiet m_thrown m_tried m_best m_touching m_text m_length m_at m_verbs m_told m_commands)
  refine sw_aload_n 0 G dX6_undo_0 0 rfl ?_
  refine sw_iconst 1 G (0 : Int32) dX6_undo_1 rfl ?_
  refine sw_put 2 G hnX6 tyX6_ok nmX6 0 5 (wX6 Θ m0 m1 m2 m3 m4 m5 m6 m7 m8 m9 m_now m_saved m_aside m_states m_quiet (0 : Int32) m_tried m_best m_touching m_text m_length m_at m_verbs m_told m_commands) dX6_undo_2 vc6 (by decide) (List.mem_cons_of_mem _ lk_fb3e5753) rfl rfl (Nat.le_of_ble_eq_true rfl) (tyX6_ok 5 (by decide)) rfl rfl rfl ?_
  refine sw_aload_n 5 G dX6_undo_5 0 rfl ?_
  refine sw_get 6 G hnX6 0 3 dX6_undo_6 vc6 (by decide) (List.mem_cons_of_mem _ lk_6da2e398) rfl rfl ?_
  refine sw_if_ne 9 18 G dX6_undo_9 rfl hf (fun hf => ?_) (fun hf => ?_)
  · refine sw_aload_n 18 G dX6_undo_18 0 rfl ?_
    refine sw_dup 19 G dX6_undo_19 rfl ?_
    refine sw_get 20 G hnX6 0 3 dX6_undo_20 vc6 (by decide) (List.mem_cons_of_mem _ lk_6da2e398) rfl rfl ?_
    refine sw_iconst 23 G (1 : Int32) dX6_undo_23 rfl ?_
    refine sw_isub 24 G dX6_undo_24 ?_
    refine sw_nmi hf (fun v1 hf => ?_)
    refine sw_put 25 G hnX6 tyX6_ok nmX6 0 3 (wX6 Θ m0 m1 m2 m3 m4 m5 m6 m7 m8 m9 m_now m_saved m_aside v1 m_quiet (0 : Int32) m_tried m_best m_touching m_text m_length m_at m_verbs m_told m_commands) dX6_undo_25 vc6 (by decide) (List.mem_cons_of_mem _ lk_6da2e398) rfl rfl (Nat.le_of_ble_eq_true rfl) (tyX6_ok 3 (by decide)) rfl rfl rfl ?_
    refine sw_iconst 28 G (0 : Int32) dX6_undo_28 rfl ?_
    refine sw_istore_n 29 G [(1, .int (0 : Int32)), (0, .ref m0)] dX6_undo_29 (by decide) rfl ?_
    obtain ⟨v2, hl, hf⟩ := bd1_some hf
    have hx30_62 : sw Θ p e rmX6_undo s m args below meth c A Q 2 0 0 62 [(0, .ref m0)] [] (wX6 Θ m0 m1 m2 m3 m4 m5 m6 m7 m8 m9 v2 m_saved m_aside v1 m_quiet (0 : Int32) m_tried m_best m_touching m_text m_length m_at m_verbs m_told m_commands) := by
      refine sw_aload_n 62 G dX6_undo_62 0 rfl ?_
      refine sw_get 63 G hnX6 0 3 dX6_undo_63 vc6 (by decide) (List.mem_cons_of_mem _ lk_6da2e398) rfl rfl ?_
      cases hf
      exact sw_iret 66 G dX6_undo_66 K
    refine sw_lv [(0, .ref m0), (1, .int (0 : Int32))] [1, 0] rfl ?_
    refine lp_walk (P := fun (t : Int32 × (Nat → Int64)) => sw Θ p e rmX6_undo s m args below meth c A Q 2 0 0 30 [(0, .ref m0), (1, .int t.1)] [] (wX6 Θ m0 m1 m2 m3 m4 m5 m6 m7 m8 m9 t.2 m_saved m_aside v1 m_quiet (0 : Int32) m_tried m_best m_touching m_text m_length m_at m_verbs m_told m_commands)) hl (fun t30 y30 hf hin30 hex30 => ?_)
    obtain ⟨v3, v4⟩ := t30
    show sw Θ p e rmX6_undo s m args below meth c A Q 2 0 0 30 [(0, .ref m0), (1, .int v3)] [] (wX6 Θ m0 m1 m2 m3 m4 m5 m6 m7 m8 m9 v4 m_saved m_aside v1 m_quiet (0 : Int32) m_tried m_best m_touching m_text m_length m_at m_verbs m_told m_commands)
    have hf := uc2_some (K := _) hf
    refine sw_iload_n 30 G dX6_undo_30 1 rfl ?_
    refine sw_bipush 31 G (100 : Int32) dX6_undo_31 rfl ?_
    refine sw_icmp_ge 33 62 G dX6_undo_33 rfl hf (fun hf => ?_) (fun hf => ?_)
    · cases hf
      cases hex30 _ rfl
      exact sw_lv _ [0] rfl hx30_62
    · refine sw_aload_n 36 G dX6_undo_36 0 rfl ?_
      refine sw_get 37 G hnX6 0 0 dX6_undo_37 vc6 (by decide) (List.mem_cons_of_mem _ lk_54e63fd8) rfl rfl ?_
      refine sw_iload_n 40 G dX6_undo_40 1 rfl ?_
      refine sw_aload_n 41 G dX6_undo_41 0 rfl ?_
      refine sw_get 42 G hnX6 0 1 dX6_undo_42 vc6 (by decide) (List.mem_cons_of_mem _ lk_370692ad) rfl rfl ?_
      refine sw_bipush 45 G (100 : Int32) dX6_undo_45 rfl ?_
      refine sw_aload_n 47 G dX6_undo_47 0 rfl ?_
      refine sw_get 48 G hnX6 0 3 dX6_undo_48 vc6 (by decide) (List.mem_cons_of_mem _ lk_6da2e398) rfl rfl ?_
      refine sw_imul 51 G dX6_undo_51 ?_
      refine sw_nmi hf (fun v5 hf => ?_)
      refine sw_iload_n 52 G dX6_undo_52 1 rfl ?_
      refine sw_iadd 53 G dX6_undo_53 ?_
      refine sw_nmi hf (fun v6 hf => ?_)
      refine sw_lald 54 G 2 dX6_undo_54 rfl hf (fun hf => ?_)
      refine sw_nml hf (fun v7 hf => ?_)
      refine sw_last 55 G 1 (wX6 Θ m0 m1 m2 m3 m4 m5 m6 m7 m8 m9 (vp_updL v4 v3.toNatClampNeg v7) m_saved m_aside v1 m_quiet (0 : Int32) m_tried m_best m_touching m_text m_length m_at m_verbs m_told m_commands) dX6_undo_55 rfl rfl hf (fun hf => ?_)
      refine sw_iinc 56 G (v3 + (1 : Int32)) [(1, .int (v3 + (1 : Int32))), (0, .ref m0)] dX6_undo_56 1 rfl rfl (by decide) rfl ?_
      refine sw_goto 59 G 30 dX6_undo_59 rfl ?_
      cases hf
      have hb := hin30 _ rfl
      exact sw_lv _ [1, 0] (by rfl) hb
  · refine sw_aload_n 12 G dX6_undo_12 0 rfl ?_
    refine sw_iconst 13 G (1 : Int32) dX6_undo_13 rfl ?_
    obtain ⟨r8, u9, hg, hf⟩ := bd2_some hf
    refine sw_callV 14 G (wX6 Θ m0 m1 m2 m3 m4 m5 m6 m7 m8 m9 m_now m_saved m_aside m_states m_quiet u9 m_tried m_best m_touching m_text m_length m_at m_verbs m_told m_commands) [0, 1, 2, 3, 4, 5, 6, 7, 8, 9] [] [0, 1, 2, 3, 4, 5, 6, 7, 8, 9] 1 dX6_undo_14 (kX6_fails Θ m0 m1 m2 m3 m4 m5 m6 m7 m8 m9 m_now m_saved m_aside m_states m_quiet (0 : Int32) m_tried m_best m_touching m_text m_length m_at m_verbs m_told m_commands (1 : Int32) r8 u9 hg) (gwV lk_c7279fda lk_b9e66eaa lk_2152c894 lk_6d91b6d2 lk_f2d2a162) rfl hvX6_fails ⟨rfl, rfl⟩ ⟨Nat.le_of_ble_eq_true rfl, Nat.le_of_ble_eq_true rfl⟩ ⟨Nat.zero_le _, Nat.zero_le _⟩ rfl rfl (Nat.le_of_ble_eq_true rfl) 0 rfl vc6 rfl rfl rfl rfl (by decide) ?_
    cases hf
    exact sw_iret 17 G dX6_undo_17 K
abbrev rmX6_digest : Room := { frames := 6, cells := 0, slots := 0, locals := 142 }
theorem hvX6_digest : yX6_digest.cls = RX6 ∧ yX6_digest.cls ≠ "java/lang/invoke/MethodHandle" ∧ yX6_digest.cls ≠ "java/lang/invoke/VarHandle" ∧ (parseMethodDescriptor yX6_digest.desc).map (fun d => d.parameters.length) = some 0 := by decide +kernel
set_option maxRecDepth 100000 in
set_option maxHeartbeats 4000000 in
theorem kX6_digest (Θ : Tht) (F : Nat) (m0 m1 m2 m3 m4 m5 m6 m7 m8 m9 : Nat) (m_now : Nat → Int64) (m_saved : Nat → Int64) (m_aside : Nat → Int64) (m_states : Int32) (m_quiet : Int32) (m_thrown : Int32) (m_tried : Nat → Int32) (m_best : Nat → Int32) (m_touching : Nat → Int32) (m_text : Nat → Int32) (m_length : Int32) (m_at : Int32) (m_verbs : Nat → Int32) (m_told : Nat → Int32) (m_commands : Int32) (ro : Int64) (o_m_thrown : Int32) (o_m_tried : Nat → Int32) (o_m_best : Nat → Int32) (o_m_touching : Nat → Int32) (hf : fX6_digest F m_now m_states m_tried m_best m_touching m_length = some (ro, o_m_thrown, o_m_tried, o_m_best, o_m_touching)) : Fn Θ yX6_digest (Cond.code yX6_digest cX6_digest 5 (some .long) :: GW) rmX6_digest [.ref m0] (wX6 Θ m0 m1 m2 m3 m4 m5 m6 m7 m8 m9 m_now m_saved m_aside m_states m_quiet m_thrown m_tried m_best m_touching m_text m_length m_at m_verbs m_told m_commands) (some (.long ro)) (wX6 Θ m0 m1 m2 m3 m4 m5 m6 m7 m8 m9 m_now m_saved m_aside m_states m_quiet o_m_thrown o_m_tried o_m_best o_m_touching m_text m_length m_at m_verbs m_told m_commands) := by
  delta fX6_digest at hf
  refine Fn.of (by decide +kernel) rfl (Nat.le_of_ble_eq_true rfl) (fun p e s m args below meth c A Q G K => ?_)
  show sw Θ p e rmX6_digest s m args below meth c A Q 5 0 0 0 [(0, .ref m0)] [] (wX6 Θ m0 m1 m2 m3 m4 m5 m6 m7 m8 m9 m_now m_saved m_aside m_states m_quiet m_thrown m_tried m_best m_touching m_text m_length m_at m_verbs m_told m_commands)
  refine sw_aload_n 0 G dX6_digest_0 0 rfl ?_
  refine sw_iconst 1 G (0 : Int32) dX6_digest_1 rfl ?_
  refine sw_put 2 G hnX6 tyX6_ok nmX6 0 5 (wX6 Θ m0 m1 m2 m3 m4 m5 m6 m7 m8 m9 m_now m_saved m_aside m_states m_quiet (0 : Int32) m_tried m_best m_touching m_text m_length m_at m_verbs m_told m_commands) dX6_digest_2 vc6 (by decide) (List.mem_cons_of_mem _ lk_fb3e5753) rfl rfl (Nat.le_of_ble_eq_true rfl) (tyX6_ok 5 (by decide)) rfl rfl rfl ?_
  refine sw_ldc2 5 G (List.mem_cons_of_mem _ lk_4d832ccf) dX6_digest_5 ?_
  refine sw_aload_n 8 G dX6_digest_8 0 rfl ?_
  refine sw_get 9 G hnX6 0 3 dX6_digest_9 vc6 (by decide) (List.mem_cons_of_mem _ lk_6da2e398) rfl rfl ?_
  refine sw_i2l 12 G dX6_digest_12 ?_
  refine sw_ladd 13 G dX6_digest_13 ?_
  refine sw_nml hf (fun v1 hf => ?_)
  refine sw_lstore_n 14 G [(1, .long v1), (0, .ref m0)] dX6_digest_14 (by decide) rfl ?_
  refine sw_iconst 15 G (0 : Int32) dX6_digest_15 rfl ?_
  refine sw_istore_n 16 G [(3, .int (0 : Int32)), (1, .long v1), (0, .ref m0)] dX6_digest_16 (by decide) rfl ?_
  obtain ⟨v2, hl, hf⟩ := bd1_some hf
  have hx17_42 : sw Θ p e rmX6_digest s m args below meth c A Q 5 0 0 42 [(0, .ref m0), (1, .long v2)] [] (wX6 Θ m0 m1 m2 m3 m4 m5 m6 m7 m8 m9 m_now m_saved m_aside m_states m_quiet (0 : Int32) m_tried m_best m_touching m_text m_length m_at m_verbs m_told m_commands) := by
    refine sw_iconst 42 G (0 : Int32) dX6_digest_42 rfl ?_
    refine sw_istore_n 43 G [(3, .int (0 : Int32)), (0, .ref m0), (1, .long v2)] dX6_digest_43 (by decide) rfl ?_
    obtain ⟨v3, hl, hf⟩ := bd1_some hf
    have hx44_68 : sw Θ p e rmX6_digest s m args below meth c A Q 5 0 0 68 [(0, .ref m0), (1, .long v3)] [] (wX6 Θ m0 m1 m2 m3 m4 m5 m6 m7 m8 m9 m_now m_saved m_aside m_states m_quiet (0 : Int32) m_tried m_best m_touching m_text m_length m_at m_verbs m_told m_commands) := by
      refine sw_iconst 68 G (0 : Int32) dX6_digest_68 rfl ?_
      refine sw_istore_n 69 G [(3, .int (0 : Int32)), (0, .ref m0), (1, .long v3)] dX6_digest_69 (by decide) rfl ?_
      obtain ⟨v4, hl, hf⟩ := bd1_some hf
      have hx70_117 : sw Θ p e rmX6_digest s m args below meth c A Q 5 0 0 117 [(0, .ref m0), (1, .long v4)] [] (wX6 Θ m0 m1 m2 m3 m4 m5 m6 m7 m8 m9 m_now m_saved m_aside m_states m_quiet (0 : Int32) m_tried m_best m_touching m_text m_length m_at m_verbs m_told m_commands) := by
        refine sw_iconst 117 G (0 : Int32) dX6_digest_117 rfl ?_
        refine sw_istore_n 118 G [(3, .int (0 : Int32)), (0, .ref m0), (1, .long v4)] dX6_digest_118 (by decide) rfl ?_
        obtain ⟨v5, hl, hf⟩ := bd1_some hf
        have hx119_204 : sw Θ p e rmX6_digest s m args below meth c A Q 5 0 0 204 [(0, .ref m0), (1, .long v5)] [] (wX6 Θ m0 m1 m2 m3 m4 m5 m6 m7 m8 m9 m_now m_saved m_aside m_states m_quiet (0 : Int32) m_tried m_best m_touching m_text m_length m_at m_verbs m_told m_commands) := by
          refine sw_ldc2 204 G (List.mem_cons_of_mem _ lk_6bd1a657) dX6_digest_204 ?_
          refine sw_ldc2 207 G (List.mem_cons_of_mem _ lk_6bd1a657) dX6_digest_207 ?_
          refine sw_lload_n 210 G dX6_digest_210 1 rfl ?_
          refine sw_lmul 211 G dX6_digest_211 ?_
          refine sw_aload_n 212 G dX6_digest_212 0 rfl ?_
          obtain ⟨r6, hg, hf⟩ := bd1_some hf
          refine sw_callV 213 G (wX6 Θ m0 m1 m2 m3 m4 m5 m6 m7 m8 m9 m_now m_saved m_aside m_states m_quiet (0 : Int32) m_tried m_best m_touching m_text m_length m_at m_verbs m_told m_commands) [0, 1, 2, 3, 4, 5, 6, 7, 8, 9] [] [0, 1, 2, 3, 4, 5, 6, 7, 8, 9] 0 dX6_digest_213 (kX6_faultOfDie Θ F m0 m1 m2 m3 m4 m5 m6 m7 m8 m9 m_now m_saved m_aside m_states m_quiet (0 : Int32) m_tried m_best m_touching m_text m_length m_at m_verbs m_told m_commands r6 hg) (gwV lk_2697961c lk_161dd2ac lk_829a0b84 lk_6d91b6d2 lk_08d457fc) rfl hvX6_faultOfDie ⟨rfl, rfl⟩ ⟨Nat.le_of_ble_eq_true rfl, Nat.le_of_ble_eq_true rfl⟩ ⟨Nat.zero_le _, Nat.zero_le _⟩ rfl rfl (Nat.le_of_ble_eq_true rfl) 0 rfl vc6 rfl rfl rfl rfl (by decide) ?_
          refine sw_i2l 216 G dX6_digest_216 ?_
          refine sw_ladd 217 G dX6_digest_217 ?_
          refine sw_lmul 218 G dX6_digest_218 ?_
          refine sw_aload_n 219 G dX6_digest_219 0 rfl ?_
          obtain ⟨r7, hg, hf⟩ := bd1_some hf
          refine sw_callV 220 G (wX6 Θ m0 m1 m2 m3 m4 m5 m6 m7 m8 m9 m_now m_saved m_aside m_states m_quiet (0 : Int32) m_tried m_best m_touching m_text m_length m_at m_verbs m_told m_commands) [0, 1, 2, 3, 4, 5, 6, 7, 8, 9] [] [0, 1, 2, 3, 4, 5, 6, 7, 8, 9] 0 dX6_digest_220 (kX6_faultOfPlan Θ F m0 m1 m2 m3 m4 m5 m6 m7 m8 m9 m_now m_saved m_aside m_states m_quiet (0 : Int32) m_tried m_best m_touching m_text m_length m_at m_verbs m_told m_commands r7 hg) (gwV lk_39095643 lk_783d0a72 lk_1dc62568 lk_6d91b6d2 lk_c4c7b5ef) rfl hvX6_faultOfPlan ⟨rfl, rfl⟩ ⟨Nat.le_of_ble_eq_true rfl, Nat.le_of_ble_eq_true rfl⟩ ⟨Nat.zero_le _, Nat.zero_le _⟩ rfl rfl (Nat.le_of_ble_eq_true rfl) 0 rfl vc6 rfl rfl rfl rfl (by decide) ?_
          refine sw_i2l 223 G dX6_digest_223 ?_
          refine sw_ladd 224 G dX6_digest_224 ?_
          refine sw_nml hf (fun v8 hf => ?_)
          refine sw_lstore_n 225 G [(1, .long v8), (0, .ref m0)] dX6_digest_225 (by decide) rfl ?_
          refine sw_ldc2 226 G (List.mem_cons_of_mem _ lk_6bd1a657) dX6_digest_226 ?_
          refine sw_ldc2 229 G (List.mem_cons_of_mem _ lk_6bd1a657) dX6_digest_229 ?_
          refine sw_lload_n 232 G dX6_digest_232 0 rfl ?_
          refine sw_lmul 233 G dX6_digest_233 ?_
          refine sw_aload_n 234 G dX6_digest_234 1 rfl ?_
          refine sw_aload_n 235 G dX6_digest_235 1 rfl ?_
          refine sw_iconst 236 G (0 : Int32) dX6_digest_236 rfl ?_
          obtain ⟨r9, hg, hf⟩ := bd1_some hf
          refine sw_callV 237 G (wX6 Θ m0 m1 m2 m3 m4 m5 m6 m7 m8 m9 m_now m_saved m_aside m_states m_quiet (0 : Int32) m_tried m_best m_touching m_text m_length m_at m_verbs m_told m_commands) [0, 1, 2, 3, 4, 5, 6, 7, 8, 9] [] [0, 1, 2, 3, 4, 5, 6, 7, 8, 9] 1 dX6_digest_237 (kX6_setting Θ m0 m1 m2 m3 m4 m5 m6 m7 m8 m9 m_now m_saved m_aside m_states m_quiet (0 : Int32) m_tried m_best m_touching m_text m_length m_at m_verbs m_told m_commands (0 : Int32) r9 hg) (gwV lk_29a14a05 lk_b15aae89 lk_394237e6 lk_6d91b6d2 lk_fa884fd4) rfl hvX6_setting ⟨rfl, rfl⟩ ⟨Nat.le_of_ble_eq_true rfl, Nat.le_of_ble_eq_true rfl⟩ ⟨Nat.zero_le _, Nat.zero_le _⟩ rfl rfl (Nat.le_of_ble_eq_true rfl) 0 rfl vc6 rfl rfl rfl rfl (by decide) ?_
          obtain ⟨r10, u11, u12, u13, hg, hf⟩ := bd4_some hf
          refine sw_callV 240 G (wX6 Θ m0 m1 m2 m3 m4 m5 m6 m7 m8 m9 m_now m_saved m_aside m_states m_quiet (0 : Int32) u11 u12 u13 m_text m_length m_at m_verbs m_told m_commands) [0, 1, 2, 3, 4, 5, 6, 7, 8, 9] [] [0, 1, 2, 3, 4, 5, 6, 7, 8, 9] 1 dX6_digest_240 (kX6_plans Θ F m0 m1 m2 m3 m4 m5 m6 m7 m8 m9 m_now m_saved m_aside m_states m_quiet (0 : Int32) m_tried m_best m_touching m_text m_length m_at m_verbs m_told m_commands r9 r10 u11 u12 u13 hg) (gwV lk_c9873cba lk_e03af637 lk_57a6b268 lk_6d91b6d2 lk_7bd304a6) rfl hvX6_plans ⟨rfl, rfl⟩ ⟨Nat.le_of_ble_eq_true rfl, Nat.le_of_ble_eq_true rfl⟩ ⟨Nat.zero_le _, Nat.zero_le _⟩ rfl rfl (Nat.le_of_ble_eq_true rfl) 0 rfl vc6 rfl rfl rfl rfl (by decide) ?_
          refine sw_i2l 243 G dX6_digest_243 ?_
          refine sw_ladd 244 G dX6_digest_244 ?_
          refine sw_lmul 245 G dX6_digest_245 ?_
          refine sw_aload_n 246 G dX6_digest_246 1 rfl ?_
          obtain ⟨r14, hg, hf⟩ := bd1_some hf
          refine sw_callV 247 G (wX6 Θ m0 m1 m2 m3 m4 m5 m6 m7 m8 m9 m_now m_saved m_aside m_states m_quiet (0 : Int32) u11 u12 u13 m_text m_length m_at m_verbs m_told m_commands) [0, 1, 2, 3, 4, 5, 6, 7, 8, 9] [] [0, 1, 2, 3, 4, 5, 6, 7, 8, 9] 0 dX6_digest_247 (kX6_fits Θ F m0 m1 m2 m3 m4 m5 m6 m7 m8 m9 m_now m_saved m_aside m_states m_quiet (0 : Int32) u11 u12 u13 m_text m_length m_at m_verbs m_told m_commands r14 hg) (gwV lk_59b58236 lk_04e9490b lk_8cdcbfce lk_6d91b6d2 lk_b7a7c055) rfl hvX6_fits ⟨rfl, rfl⟩ ⟨Nat.le_of_ble_eq_true rfl, Nat.le_of_ble_eq_true rfl⟩ ⟨Nat.zero_le _, Nat.zero_le _⟩ rfl rfl (Nat.le_of_ble_eq_true rfl) 0 rfl vc6 rfl rfl rfl rfl (by decide) ?_
          refine sw_i2l 250 G dX6_digest_250 ?_
          refine sw_ladd 251 G dX6_digest_251 ?_
          refine sw_nml hf (fun v15 hf => ?_)
          refine sw_lstore_n 252 G [(1, .long v15), (0, .ref m0)] dX6_digest_252 (by decide) rfl ?_
          refine sw_ldc2 253 G (List.mem_cons_of_mem _ lk_6bd1a657) dX6_digest_253 ?_
          refine sw_ldc2 256 G (List.mem_cons_of_mem _ lk_6bd1a657) dX6_digest_256 ?_
          refine sw_lload_n 259 G dX6_digest_259 0 rfl ?_
          refine sw_lmul 260 G dX6_digest_260 ?_
          refine sw_aload_n 261 G dX6_digest_261 1 rfl ?_
          refine sw_iconst 262 G (0 : Int32) dX6_digest_262 rfl ?_
          obtain ⟨r16, hg, hf⟩ := bd1_some hf
          refine sw_callV 263 G (wX6 Θ m0 m1 m2 m3 m4 m5 m6 m7 m8 m9 m_now m_saved m_aside m_states m_quiet (0 : Int32) u11 u12 u13 m_text m_length m_at m_verbs m_told m_commands) [0, 1, 2, 3, 4, 5, 6, 7, 8, 9] [] [0, 1, 2, 3, 4, 5, 6, 7, 8, 9] 1 dX6_digest_263 (kX6_scrapOf Θ F m0 m1 m2 m3 m4 m5 m6 m7 m8 m9 m_now m_saved m_aside m_states m_quiet (0 : Int32) u11 u12 u13 m_text m_length m_at m_verbs m_told m_commands (0 : Int32) r16 hg) (gwV lk_02f97e93 lk_2c8d7153 lk_969add80 lk_6d91b6d2 lk_306b7792) rfl hvX6_scrapOf ⟨rfl, rfl⟩ ⟨Nat.le_of_ble_eq_true rfl, Nat.le_of_ble_eq_true rfl⟩ ⟨Nat.zero_le _, Nat.zero_le _⟩ rfl rfl (Nat.le_of_ble_eq_true rfl) 0 rfl vc6 rfl rfl rfl rfl (by decide) ?_
          refine sw_i2l 266 G dX6_digest_266 ?_
          refine sw_ladd 267 G dX6_digest_267 ?_
          refine sw_lmul 268 G dX6_digest_268 ?_
          refine sw_aload_n 269 G dX6_digest_269 1 rfl ?_
          refine sw_iconst 270 G (1 : Int32) dX6_digest_270 rfl ?_
          obtain ⟨r17, hg, hf⟩ := bd1_some hf
          refine sw_callV 271 G (wX6 Θ m0 m1 m2 m3 m4 m5 m6 m7 m8 m9 m_now m_saved m_aside m_states m_quiet (0 : Int32) u11 u12 u13 m_text m_length m_at m_verbs m_told m_commands) [0, 1, 2, 3, 4, 5, 6, 7, 8, 9] [] [0, 1, 2, 3, 4, 5, 6, 7, 8, 9] 1 dX6_digest_271 (kX6_scrapOf Θ F m0 m1 m2 m3 m4 m5 m6 m7 m8 m9 m_now m_saved m_aside m_states m_quiet (0 : Int32) u11 u12 u13 m_text m_length m_at m_verbs m_told m_commands (1 : Int32) r17 hg) (gwV lk_02f97e93 lk_2c8d7153 lk_969add80 lk_6d91b6d2 lk_306b7792) rfl hvX6_scrapOf ⟨rfl, rfl⟩ ⟨Nat.le_of_ble_eq_true rfl, Nat.le_of_ble_eq_true rfl⟩ ⟨Nat.zero_le _, Nat.zero_le _⟩ rfl rfl (Nat.le_of_ble_eq_true rfl) 0 rfl vc6 rfl rfl rfl rfl (by decide) ?_
          refine sw_i2l 274 G dX6_digest_274 ?_
          refine sw_ladd 275 G dX6_digest_275 ?_
          cases hf
          exact sw_lret 276 G dX6_digest_276 K
        refine sw_lv [(0, .ref m0), (1, .long v4), (3, .int (0 : Int32))] [1, 2, 0] rfl ?_
        refine lp_walk (P := fun (t : Int64 × Int32) => sw Θ p e rmX6_digest s m args below meth c A Q 5 0 0 119 [(0, .ref m0), (1, .long t.1), (3, .int t.2)] [] (wX6 Θ m0 m1 m2 m3 m4 m5 m6 m7 m8 m9 m_now m_saved m_aside m_states m_quiet (0 : Int32) m_tried m_best m_touching m_text m_length m_at m_verbs m_told m_commands)) hl (fun t119 y119 hf hin119 hex119 => ?_)
        obtain ⟨v18, v19⟩ := t119
        show sw Θ p e rmX6_digest s m args below meth c A Q 5 0 0 119 [(0, .ref m0), (1, .long v18), (3, .int v19)] [] (wX6 Θ m0 m1 m2 m3 m4 m5 m6 m7 m8 m9 m_now m_saved m_aside m_states m_quiet (0 : Int32) m_tried m_best m_touching m_text m_length m_at m_verbs m_told m_commands)
        have hf := uc2_some (K := _) hf
        refine sw_iload_n 119 G dX6_digest_119 2 rfl ?_
        refine sw_bipush 120 G (8 : Int32) dX6_digest_120 rfl ?_
        refine sw_icmp_ge 122 204 G dX6_digest_122 rfl hf (fun hf => ?_) (fun hf => ?_)
        · cases hf
          cases hex119 _ rfl
          exact sw_lv _ [0, 1] rfl hx119_204
        · refine sw_iconst 125 G (0 : Int32) dX6_digest_125 rfl ?_
          refine sw_istore 126 G [(4, .int (0 : Int32)), (0, .ref m0), (1, .long v18), (3, .int v19)] dX6_digest_126 (by decide) rfl ?_
          obtain ⟨v20, hl, hf⟩ := bd1_some hf
          have hx128_155 : sw Θ p e rmX6_digest s m args below meth c A Q 5 0 0 155 [(0, .ref m0), (1, .long v20), (3, .int v19)] [] (wX6 Θ m0 m1 m2 m3 m4 m5 m6 m7 m8 m9 m_now m_saved m_aside m_states m_quiet (0 : Int32) m_tried m_best m_touching m_text m_length m_at m_verbs m_told m_commands) := by
            refine sw_iconst 155 G (0 : Int32) dX6_digest_155 rfl ?_
            refine sw_istore 156 G [(4, .int (0 : Int32)), (0, .ref m0), (1, .long v20), (3, .int v19)] dX6_digest_156 (by decide) rfl ?_
            obtain ⟨v21, hl, hf⟩ := bd1_some hf
            have hx158_185 : sw Θ p e rmX6_digest s m args below meth c A Q 5 0 0 185 [(0, .ref m0), (1, .long v21), (3, .int v19)] [] (wX6 Θ m0 m1 m2 m3 m4 m5 m6 m7 m8 m9 m_now m_saved m_aside m_states m_quiet (0 : Int32) m_tried m_best m_touching m_text m_length m_at m_verbs m_told m_commands) := by
              refine sw_ldc2 185 G (List.mem_cons_of_mem _ lk_6bd1a657) dX6_digest_185 ?_
              refine sw_lload_n 188 G dX6_digest_188 1 rfl ?_
              refine sw_lmul 189 G dX6_digest_189 ?_
              refine sw_aload_n 190 G dX6_digest_190 0 rfl ?_
              refine sw_iload_n 191 G dX6_digest_191 2 rfl ?_
              refine sw_iconst 192 G (1 : Int32) dX6_digest_192 rfl ?_
              obtain ⟨r22, hg, hf⟩ := bd1_some hf
              refine sw_callV 193 G (wX6 Θ m0 m1 m2 m3 m4 m5 m6 m7 m8 m9 m_now m_saved m_aside m_states m_quiet (0 : Int32) m_tried m_best m_touching m_text m_length m_at m_verbs m_told m_commands) [0, 1, 2, 3, 4, 5, 6, 7, 8, 9] [] [0, 1, 2, 3, 4, 5, 6, 7, 8, 9] 2 dX6_digest_193 (kX6_ofPitch Θ m0 m1 m2 m3 m4 m5 m6 m7 m8 m9 m_now m_saved m_aside m_states m_quiet (0 : Int32) m_tried m_best m_touching m_text m_length m_at m_verbs m_told m_commands v19 (1 : Int32) r22 hg) (gwV lk_a40543c5 lk_e7c4f238 lk_d53ce5a7 lk_6d91b6d2 lk_df8fdb45) rfl hvX6_ofPitch ⟨rfl, rfl⟩ ⟨Nat.le_of_ble_eq_true rfl, Nat.le_of_ble_eq_true rfl⟩ ⟨Nat.zero_le _, Nat.zero_le _⟩ rfl rfl (Nat.le_of_ble_eq_true rfl) 0 rfl vc6 rfl rfl rfl rfl (by decide) ?_
              refine sw_ladd 196 G dX6_digest_196 ?_
              refine sw_nml hf (fun v23 hf => ?_)
              refine sw_lstore_n 197 G [(1, .long v23), (0, .ref m0), (3, .int v19)] dX6_digest_197 (by decide) rfl ?_
              refine sw_iinc 198 G (v19 + (1 : Int32)) [(3, .int (v19 + (1 : Int32))), (1, .long v23), (0, .ref m0)] dX6_digest_198 2 rfl rfl (by decide) rfl ?_
              refine sw_goto 201 G 119 dX6_digest_201 rfl ?_
              cases hf
              have hb := hin119 _ rfl
              exact sw_lv _ [2, 1, 0] (by rfl) hb
            refine sw_lv [(0, .ref m0), (1, .long v20), (3, .int v19), (4, .int (0 : Int32))] [1, 2, 3, 0] rfl ?_
            refine lp_walk (P := fun (t : Int64 × Int32) => sw Θ p e rmX6_digest s m args below meth c A Q 5 0 0 158 [(0, .ref m0), (1, .long t.1), (3, .int v19), (4, .int t.2)] [] (wX6 Θ m0 m1 m2 m3 m4 m5 m6 m7 m8 m9 m_now m_saved m_aside m_states m_quiet (0 : Int32) m_tried m_best m_touching m_text m_length m_at m_verbs m_told m_commands)) hl (fun t158 y158 hf hin158 hex158 => ?_)
            obtain ⟨v24, v25⟩ := t158
            show sw Θ p e rmX6_digest s m args below meth c A Q 5 0 0 158 [(0, .ref m0), (1, .long v24), (3, .int v19), (4, .int v25)] [] (wX6 Θ m0 m1 m2 m3 m4 m5 m6 m7 m8 m9 m_now m_saved m_aside m_states m_quiet (0 : Int32) m_tried m_best m_touching m_text m_length m_at m_verbs m_told m_commands)
            have hf := uc2_some (K := _) hf
            refine sw_iload 158 G dX6_digest_158 3 rfl ?_
            refine sw_iconst 160 G (4 : Int32) dX6_digest_160 rfl ?_
            refine sw_icmp_ge 161 185 G dX6_digest_161 rfl hf (fun hf => ?_) (fun hf => ?_)
            · cases hf
              cases hex158 _ rfl
              exact sw_lv _ [0, 1, 2] rfl hx158_185
            · refine sw_ldc2 164 G (List.mem_cons_of_mem _ lk_6bd1a657) dX6_digest_164 ?_
              refine sw_lload_n 167 G dX6_digest_167 1 rfl ?_
              refine sw_lmul 168 G dX6_digest_168 ?_
              refine sw_aload_n 169 G dX6_digest_169 0 rfl ?_
              refine sw_iload_n 170 G dX6_digest_170 2 rfl ?_
              refine sw_iload 171 G dX6_digest_171 3 rfl ?_
              obtain ⟨r26, hg, hf⟩ := bd1_some hf
              refine sw_callV 173 G (wX6 Θ m0 m1 m2 m3 m4 m5 m6 m7 m8 m9 m_now m_saved m_aside m_states m_quiet (0 : Int32) m_tried m_best m_touching m_text m_length m_at m_verbs m_told m_commands) [0, 1, 2, 3, 4, 5, 6, 7, 8, 9] [] [0, 1, 2, 3, 4, 5, 6, 7, 8, 9] 2 dX6_digest_173 (kX6_pitchOf Θ F m0 m1 m2 m3 m4 m5 m6 m7 m8 m9 m_now m_saved m_aside m_states m_quiet (0 : Int32) m_tried m_best m_touching m_text m_length m_at m_verbs m_told m_commands v19 v25 r26 hg) (gwV lk_f1a3a070 lk_1eac23ab lk_3a9f4bf8 lk_6d91b6d2 lk_ebd438ce) rfl hvX6_pitchOf ⟨rfl, rfl⟩ ⟨Nat.le_of_ble_eq_true rfl, Nat.le_of_ble_eq_true rfl⟩ ⟨Nat.zero_le _, Nat.zero_le _⟩ rfl rfl (Nat.le_of_ble_eq_true rfl) 0 rfl vc6 rfl rfl rfl rfl (by decide) ?_
              refine sw_i2l 176 G dX6_digest_176 ?_
              refine sw_ladd 177 G dX6_digest_177 ?_
              refine sw_nml hf (fun v27 hf => ?_)
              refine sw_lstore_n 178 G [(1, .long v27), (0, .ref m0), (3, .int v19), (4, .int v25)] dX6_digest_178 (by decide) rfl ?_
              refine sw_iinc 179 G (v25 + (1 : Int32)) [(4, .int (v25 + (1 : Int32))), (1, .long v27), (0, .ref m0), (3, .int v19)] dX6_digest_179 3 rfl rfl (by decide) rfl ?_
              refine sw_goto 182 G 158 dX6_digest_182 rfl ?_
              cases hf
              have hb := hin158 _ rfl
              exact sw_lv _ [2, 1, 3, 0] (by rfl) hb
          refine sw_lv [(0, .ref m0), (1, .long v18), (3, .int v19), (4, .int (0 : Int32))] [1, 2, 3, 0] rfl ?_
          refine lp_walk (P := fun (t : Int64 × Int32) => sw Θ p e rmX6_digest s m args below meth c A Q 5 0 0 128 [(0, .ref m0), (1, .long t.1), (3, .int v19), (4, .int t.2)] [] (wX6 Θ m0 m1 m2 m3 m4 m5 m6 m7 m8 m9 m_now m_saved m_aside m_states m_quiet (0 : Int32) m_tried m_best m_touching m_text m_length m_at m_verbs m_told m_commands)) hl (fun t128 y128 hf hin128 hex128 => ?_)
          obtain ⟨v28, v29⟩ := t128
          show sw Θ p e rmX6_digest s m args below meth c A Q 5 0 0 128 [(0, .ref m0), (1, .long v28), (3, .int v19), (4, .int v29)] [] (wX6 Θ m0 m1 m2 m3 m4 m5 m6 m7 m8 m9 m_now m_saved m_aside m_states m_quiet (0 : Int32) m_tried m_best m_touching m_text m_length m_at m_verbs m_told m_commands)
          have hf := uc2_some (K := _) hf
          refine sw_iload 128 G dX6_digest_128 3 rfl ?_
          refine sw_iconst 130 G (4 : Int32) dX6_digest_130 rfl ?_
          refine sw_icmp_ge 131 155 G dX6_digest_131 rfl hf (fun hf => ?_) (fun hf => ?_)
          · cases hf
            cases hex128 _ rfl
            exact sw_lv _ [0, 1, 2] rfl hx128_155
          · refine sw_ldc2 134 G (List.mem_cons_of_mem _ lk_6bd1a657) dX6_digest_134 ?_
            refine sw_lload_n 137 G dX6_digest_137 1 rfl ?_
            refine sw_lmul 138 G dX6_digest_138 ?_
            refine sw_aload_n 139 G dX6_digest_139 0 rfl ?_
            refine sw_iload_n 140 G dX6_digest_140 2 rfl ?_
            refine sw_iload 141 G dX6_digest_141 3 rfl ?_
            obtain ⟨r30, hg, hf⟩ := bd1_some hf
            refine sw_callV 143 G (wX6 Θ m0 m1 m2 m3 m4 m5 m6 m7 m8 m9 m_now m_saved m_aside m_states m_quiet (0 : Int32) m_tried m_best m_touching m_text m_length m_at m_verbs m_told m_commands) [0, 1, 2, 3, 4, 5, 6, 7, 8, 9] [] [0, 1, 2, 3, 4, 5, 6, 7, 8, 9] 2 dX6_digest_143 (kX6_stationOf Θ F m0 m1 m2 m3 m4 m5 m6 m7 m8 m9 m_now m_saved m_aside m_states m_quiet (0 : Int32) m_tried m_best m_touching m_text m_length m_at m_verbs m_told m_commands v19 v29 r30 hg) (gwV lk_8b4956e6 lk_06144404 lk_239f2f98 lk_6d91b6d2 lk_92431fb5) rfl hvX6_stationOf ⟨rfl, rfl⟩ ⟨Nat.le_of_ble_eq_true rfl, Nat.le_of_ble_eq_true rfl⟩ ⟨Nat.zero_le _, Nat.zero_le _⟩ rfl rfl (Nat.le_of_ble_eq_true rfl) 0 rfl vc6 rfl rfl rfl rfl (by decide) ?_
            refine sw_i2l 146 G dX6_digest_146 ?_
            refine sw_ladd 147 G dX6_digest_147 ?_
            refine sw_nml hf (fun v31 hf => ?_)
            refine sw_lstore_n 148 G [(1, .long v31), (0, .ref m0), (3, .int v19), (4, .int v29)] dX6_digest_148 (by decide) rfl ?_
            refine sw_iinc 149 G (v29 + (1 : Int32)) [(4, .int (v29 + (1 : Int32))), (1, .long v31), (0, .ref m0), (3, .int v19)] dX6_digest_149 3 rfl rfl (by decide) rfl ?_
            refine sw_goto 152 G 128 dX6_digest_152 rfl ?_
            cases hf
            have hb := hin128 _ rfl
            exact sw_lv _ [2, 1, 3, 0] (by rfl) hb
      refine sw_lv [(0, .ref m0), (1, .long v3), (3, .int (0 : Int32))] [1, 2, 0] rfl ?_
      refine lp_walk (P := fun (t : Int64 × Int32) => sw Θ p e rmX6_digest s m args below meth c A Q 5 0 0 70 [(0, .ref m0), (1, .long t.1), (3, .int t.2)] [] (wX6 Θ m0 m1 m2 m3 m4 m5 m6 m7 m8 m9 m_now m_saved m_aside m_states m_quiet (0 : Int32) m_tried m_best m_touching m_text m_length m_at m_verbs m_told m_commands)) hl (fun t70 y70 hf hin70 hex70 => ?_)
      obtain ⟨v32, v33⟩ := t70
      show sw Θ p e rmX6_digest s m args below meth c A Q 5 0 0 70 [(0, .ref m0), (1, .long v32), (3, .int v33)] [] (wX6 Θ m0 m1 m2 m3 m4 m5 m6 m7 m8 m9 m_now m_saved m_aside m_states m_quiet (0 : Int32) m_tried m_best m_touching m_text m_length m_at m_verbs m_told m_commands)
      have hf := uc2_some (K := _) hf
      refine sw_iload_n 70 G dX6_digest_70 2 rfl ?_
      refine sw_aload_n 71 G dX6_digest_71 0 rfl ?_
      refine sw_bipush 72 G (8 : Int32) dX6_digest_72 rfl ?_
      obtain ⟨r34, hg, hf⟩ := bd1_some hf
      refine sw_callV 74 G (wX6 Θ m0 m1 m2 m3 m4 m5 m6 m7 m8 m9 m_now m_saved m_aside m_states m_quiet (0 : Int32) m_tried m_best m_touching m_text m_length m_at m_verbs m_told m_commands) [0, 1, 2, 3, 4, 5, 6, 7, 8, 9] [] [0, 1, 2, 3, 4, 5, 6, 7, 8, 9] 1 dX6_digest_74 (kX6_many Θ m0 m1 m2 m3 m4 m5 m6 m7 m8 m9 m_now m_saved m_aside m_states m_quiet (0 : Int32) m_tried m_best m_touching m_text m_length m_at m_verbs m_told m_commands (8 : Int32) r34 hg) (gwV lk_184fe921 lk_d689724c lk_b095f72c lk_6d91b6d2 lk_d7f116ea) rfl hvX6_many ⟨rfl, rfl⟩ ⟨Nat.le_of_ble_eq_true rfl, Nat.le_of_ble_eq_true rfl⟩ ⟨Nat.zero_le _, Nat.zero_le _⟩ rfl rfl (Nat.le_of_ble_eq_true rfl) 0 rfl vc6 rfl rfl rfl rfl (by decide) ?_
      refine sw_icmp_ge 77 117 G dX6_digest_77 rfl hf (fun hf => ?_) (fun hf => ?_)
      · cases hf
        cases hex70 _ rfl
        exact sw_lv _ [0, 1] rfl hx70_117
      · refine sw_iconst 80 G (0 : Int32) dX6_digest_80 rfl ?_
        refine sw_istore 81 G [(4, .int (0 : Int32)), (0, .ref m0), (1, .long v32), (3, .int v33)] dX6_digest_81 (by decide) rfl ?_
        obtain ⟨v35, hl, hf⟩ := bd1_some hf
        have hx83_111 : sw Θ p e rmX6_digest s m args below meth c A Q 5 0 0 111 [(0, .ref m0), (1, .long v35), (3, .int v33)] [] (wX6 Θ m0 m1 m2 m3 m4 m5 m6 m7 m8 m9 m_now m_saved m_aside m_states m_quiet (0 : Int32) m_tried m_best m_touching m_text m_length m_at m_verbs m_told m_commands) := by
          refine sw_iinc 111 G (v33 + (1 : Int32)) [(3, .int (v33 + (1 : Int32))), (0, .ref m0), (1, .long v35)] dX6_digest_111 2 rfl rfl (by decide) rfl ?_
          refine sw_goto 114 G 70 dX6_digest_114 rfl ?_
          cases hf
          have hb := hin70 _ rfl
          exact sw_lv _ [1, 2, 0] (by rfl) hb
        refine sw_lv [(0, .ref m0), (1, .long v32), (3, .int v33), (4, .int (0 : Int32))] [1, 2, 3, 0] rfl ?_
        refine lp_walk (P := fun (t : Int64 × Int32) => sw Θ p e rmX6_digest s m args below meth c A Q 5 0 0 83 [(0, .ref m0), (1, .long t.1), (3, .int v33), (4, .int t.2)] [] (wX6 Θ m0 m1 m2 m3 m4 m5 m6 m7 m8 m9 m_now m_saved m_aside m_states m_quiet (0 : Int32) m_tried m_best m_touching m_text m_length m_at m_verbs m_told m_commands)) hl (fun t83 y83 hf hin83 hex83 => ?_)
        obtain ⟨v36, v37⟩ := t83
        show sw Θ p e rmX6_digest s m args below meth c A Q 5 0 0 83 [(0, .ref m0), (1, .long v36), (3, .int v33), (4, .int v37)] [] (wX6 Θ m0 m1 m2 m3 m4 m5 m6 m7 m8 m9 m_now m_saved m_aside m_states m_quiet (0 : Int32) m_tried m_best m_touching m_text m_length m_at m_verbs m_told m_commands)
        have hf := uc2_some (K := _) hf
        refine sw_iload 83 G dX6_digest_83 3 rfl ?_
        refine sw_bipush 85 G (8 : Int32) dX6_digest_85 rfl ?_
        refine sw_icmp_ge 87 111 G dX6_digest_87 rfl hf (fun hf => ?_) (fun hf => ?_)
        · cases hf
          cases hex83 _ rfl
          exact sw_lv _ [0, 1, 2] rfl hx83_111
        · refine sw_ldc2 90 G (List.mem_cons_of_mem _ lk_6bd1a657) dX6_digest_90 ?_
          refine sw_lload_n 93 G dX6_digest_93 1 rfl ?_
          refine sw_lmul 94 G dX6_digest_94 ?_
          refine sw_aload_n 95 G dX6_digest_95 0 rfl ?_
          refine sw_iload_n 96 G dX6_digest_96 2 rfl ?_
          refine sw_iload 97 G dX6_digest_97 3 rfl ?_
          obtain ⟨r38, hg, hf⟩ := bd1_some hf
          refine sw_callV 99 G (wX6 Θ m0 m1 m2 m3 m4 m5 m6 m7 m8 m9 m_now m_saved m_aside m_states m_quiet (0 : Int32) m_tried m_best m_touching m_text m_length m_at m_verbs m_told m_commands) [0, 1, 2, 3, 4, 5, 6, 7, 8, 9] [] [0, 1, 2, 3, 4, 5, 6, 7, 8, 9] 2 dX6_digest_99 (kX6_operationOf Θ F m0 m1 m2 m3 m4 m5 m6 m7 m8 m9 m_now m_saved m_aside m_states m_quiet (0 : Int32) m_tried m_best m_touching m_text m_length m_at m_verbs m_told m_commands v33 v37 r38 hg) (gwV lk_853aacef lk_0538ec45 lk_477b5f2a lk_6d91b6d2 lk_af1efc47) rfl hvX6_operationOf ⟨rfl, rfl⟩ ⟨Nat.le_of_ble_eq_true rfl, Nat.le_of_ble_eq_true rfl⟩ ⟨Nat.zero_le _, Nat.zero_le _⟩ rfl rfl (Nat.le_of_ble_eq_true rfl) 0 rfl vc6 rfl rfl rfl rfl (by decide) ?_
          refine sw_i2l 102 G dX6_digest_102 ?_
          refine sw_ladd 103 G dX6_digest_103 ?_
          refine sw_nml hf (fun v39 hf => ?_)
          refine sw_lstore_n 104 G [(1, .long v39), (0, .ref m0), (3, .int v33), (4, .int v37)] dX6_digest_104 (by decide) rfl ?_
          refine sw_iinc 105 G (v37 + (1 : Int32)) [(4, .int (v37 + (1 : Int32))), (1, .long v39), (0, .ref m0), (3, .int v33)] dX6_digest_105 3 rfl rfl (by decide) rfl ?_
          refine sw_goto 108 G 83 dX6_digest_108 rfl ?_
          cases hf
          have hb := hin83 _ rfl
          exact sw_lv _ [2, 1, 3, 0] (by rfl) hb
    refine sw_lv [(0, .ref m0), (1, .long v2), (3, .int (0 : Int32))] [1, 2, 0] rfl ?_
    refine lp_walk (P := fun (t : Int64 × Int32) => sw Θ p e rmX6_digest s m args below meth c A Q 5 0 0 44 [(0, .ref m0), (1, .long t.1), (3, .int t.2)] [] (wX6 Θ m0 m1 m2 m3 m4 m5 m6 m7 m8 m9 m_now m_saved m_aside m_states m_quiet (0 : Int32) m_tried m_best m_touching m_text m_length m_at m_verbs m_told m_commands)) hl (fun t44 y44 hf hin44 hex44 => ?_)
    obtain ⟨v40, v41⟩ := t44
    show sw Θ p e rmX6_digest s m args below meth c A Q 5 0 0 44 [(0, .ref m0), (1, .long v40), (3, .int v41)] [] (wX6 Θ m0 m1 m2 m3 m4 m5 m6 m7 m8 m9 m_now m_saved m_aside m_states m_quiet (0 : Int32) m_tried m_best m_touching m_text m_length m_at m_verbs m_told m_commands)
    have hf := uc2_some (K := _) hf
    refine sw_iload_n 44 G dX6_digest_44 2 rfl ?_
    refine sw_bipush 45 G (6 : Int32) dX6_digest_45 rfl ?_
    refine sw_icmp_ge 47 68 G dX6_digest_47 rfl hf (fun hf => ?_) (fun hf => ?_)
    · cases hf
      cases hex44 _ rfl
      exact sw_lv _ [0, 1] rfl hx44_68
    · refine sw_ldc2 50 G (List.mem_cons_of_mem _ lk_6bd1a657) dX6_digest_50 ?_
      refine sw_lload_n 53 G dX6_digest_53 1 rfl ?_
      refine sw_lmul 54 G dX6_digest_54 ?_
      refine sw_aload_n 55 G dX6_digest_55 0 rfl ?_
      refine sw_iload_n 56 G dX6_digest_56 2 rfl ?_
      obtain ⟨r42, hg, hf⟩ := bd1_some hf
      refine sw_callV 57 G (wX6 Θ m0 m1 m2 m3 m4 m5 m6 m7 m8 m9 m_now m_saved m_aside m_states m_quiet (0 : Int32) m_tried m_best m_touching m_text m_length m_at m_verbs m_told m_commands) [0, 1, 2, 3, 4, 5, 6, 7, 8, 9] [] [0, 1, 2, 3, 4, 5, 6, 7, 8, 9] 1 dX6_digest_57 (kX6_setOf Θ F m0 m1 m2 m3 m4 m5 m6 m7 m8 m9 m_now m_saved m_aside m_states m_quiet (0 : Int32) m_tried m_best m_touching m_text m_length m_at m_verbs m_told m_commands v41 r42 hg) (gwV lk_4bbf79cb lk_95459faf lk_72e5259f lk_6d91b6d2 lk_4d467c19) rfl hvX6_setOf ⟨rfl, rfl⟩ ⟨Nat.le_of_ble_eq_true rfl, Nat.le_of_ble_eq_true rfl⟩ ⟨Nat.zero_le _, Nat.zero_le _⟩ rfl rfl (Nat.le_of_ble_eq_true rfl) 0 rfl vc6 rfl rfl rfl rfl (by decide) ?_
      refine sw_ladd 60 G dX6_digest_60 ?_
      refine sw_nml hf (fun v43 hf => ?_)
      refine sw_lstore_n 61 G [(1, .long v43), (0, .ref m0), (3, .int v41)] dX6_digest_61 (by decide) rfl ?_
      refine sw_iinc 62 G (v41 + (1 : Int32)) [(3, .int (v41 + (1 : Int32))), (1, .long v43), (0, .ref m0)] dX6_digest_62 2 rfl rfl (by decide) rfl ?_
      refine sw_goto 65 G 44 dX6_digest_65 rfl ?_
      cases hf
      have hb := hin44 _ rfl
      exact sw_lv _ [2, 1, 0] (by rfl) hb
  refine sw_lv [(0, .ref m0), (1, .long v1), (3, .int (0 : Int32))] [2, 1, 0] rfl ?_
  refine lp_walk (P := fun (t : Int64 × Int32) => sw Θ p e rmX6_digest s m args below meth c A Q 5 0 0 17 [(0, .ref m0), (1, .long t.1), (3, .int t.2)] [] (wX6 Θ m0 m1 m2 m3 m4 m5 m6 m7 m8 m9 m_now m_saved m_aside m_states m_quiet (0 : Int32) m_tried m_best m_touching m_text m_length m_at m_verbs m_told m_commands)) hl (fun t17 y17 hf hin17 hex17 => ?_)
  obtain ⟨v44, v45⟩ := t17
  show sw Θ p e rmX6_digest s m args below meth c A Q 5 0 0 17 [(0, .ref m0), (1, .long v44), (3, .int v45)] [] (wX6 Θ m0 m1 m2 m3 m4 m5 m6 m7 m8 m9 m_now m_saved m_aside m_states m_quiet (0 : Int32) m_tried m_best m_touching m_text m_length m_at m_verbs m_told m_commands)
  have hf := uc2_some (K := _) hf
  refine sw_iload_n 17 G dX6_digest_17 2 rfl ?_
  refine sw_bipush 18 G (17 : Int32) dX6_digest_18 rfl ?_
  refine sw_icmp_ge 20 42 G dX6_digest_20 rfl hf (fun hf => ?_) (fun hf => ?_)
  · cases hf
    cases hex17 _ rfl
    exact sw_lv _ [0, 1] rfl hx17_42
  · refine sw_ldc2 23 G (List.mem_cons_of_mem _ lk_6bd1a657) dX6_digest_23 ?_
    refine sw_lload_n 26 G dX6_digest_26 1 rfl ?_
    refine sw_lmul 27 G dX6_digest_27 ?_
    refine sw_aload_n 28 G dX6_digest_28 0 rfl ?_
    refine sw_iload_n 29 G dX6_digest_29 2 rfl ?_
    obtain ⟨r46, hg, hf⟩ := bd1_some hf
    refine sw_callV 30 G (wX6 Θ m0 m1 m2 m3 m4 m5 m6 m7 m8 m9 m_now m_saved m_aside m_states m_quiet (0 : Int32) m_tried m_best m_touching m_text m_length m_at m_verbs m_told m_commands) [0, 1, 2, 3, 4, 5, 6, 7, 8, 9] [] [0, 1, 2, 3, 4, 5, 6, 7, 8, 9] 1 dX6_digest_30 (kX6_wholeOf Θ F m0 m1 m2 m3 m4 m5 m6 m7 m8 m9 m_now m_saved m_aside m_states m_quiet (0 : Int32) m_tried m_best m_touching m_text m_length m_at m_verbs m_told m_commands v45 r46 hg) (gwV lk_044a4268 lk_b55a9f78 lk_c3e65967 lk_6d91b6d2 lk_b11504df) rfl hvX6_wholeOf ⟨rfl, rfl⟩ ⟨Nat.le_of_ble_eq_true rfl, Nat.le_of_ble_eq_true rfl⟩ ⟨Nat.zero_le _, Nat.zero_le _⟩ rfl rfl (Nat.le_of_ble_eq_true rfl) 0 rfl vc6 rfl rfl rfl rfl (by decide) ?_
    refine sw_i2l 33 G dX6_digest_33 ?_
    refine sw_ladd 34 G dX6_digest_34 ?_
    refine sw_nml hf (fun v47 hf => ?_)
    refine sw_lstore_n 35 G [(1, .long v47), (0, .ref m0), (3, .int v45)] dX6_digest_35 (by decide) rfl ?_
    refine sw_iinc 36 G (v45 + (1 : Int32)) [(3, .int (v45 + (1 : Int32))), (1, .long v47), (0, .ref m0)] dX6_digest_36 2 rfl rfl (by decide) rfl ?_
    refine sw_goto 39 G 17 dX6_digest_39 rfl ?_
    cases hf
    have hb := hin17 _ rfl
    exact sw_lv _ [2, 1, 0] (by rfl) hb
