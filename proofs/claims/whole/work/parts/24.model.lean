abbrev rmX6_wholeOf : Room := { frames := 2, cells := 0, slots := 0, locals := 44 }
theorem hvX6_wholeOf : yX6_wholeOf.cls = RX6 ∧ yX6_wholeOf.cls ≠ "java/lang/invoke/MethodHandle" ∧ yX6_wholeOf.cls ≠ "java/lang/invoke/VarHandle" ∧ (parseMethodDescriptor yX6_wholeOf.desc).map (fun d => d.parameters.length) = some 1 := by decide +kernel
set_option maxRecDepth 100000 in
set_option maxHeartbeats 4000000 in
theorem kX6_wholeOf (Θ : Tht) (F : Nat) (m0 m1 m2 m3 m4 m5 m6 m7 m8 m9 : Nat) (m_now : Nat → Int64) (m_saved : Nat → Int64) (m_aside : Nat → Int64) (m_states : Int32) (m_quiet : Int32) (m_thrown : Int32) (m_tried : Nat → Int32) (m_best : Nat → Int32) (m_touching : Nat → Int32) (m_text : Nat → Int32) (m_length : Int32) (m_at : Int32) (m_verbs : Nat → Int32) (m_told : Nat → Int32) (m_commands : Int32) (a0 : Int32) (ro : Int32) (hf : fX6_wholeOf F m_now m_length a0 = some ro) : Fn Θ yX6_wholeOf (Cond.code yX6_wholeOf cX6_wholeOf 2 (some .int) :: GW) rmX6_wholeOf [.ref m0, .int a0] (wX6 Θ m0 m1 m2 m3 m4 m5 m6 m7 m8 m9 m_now m_saved m_aside m_states m_quiet m_thrown m_tried m_best m_touching m_text m_length m_at m_verbs m_told m_commands) (some (.int ro)) (wX6 Θ m0 m1 m2 m3 m4 m5 m6 m7 m8 m9 m_now m_saved m_aside m_states m_quiet m_thrown m_tried m_best m_touching m_text m_length m_at m_verbs m_told m_commands) := by
  delta fX6_wholeOf at hf
  refine Fn.of (by decide +kernel) rfl (Nat.le_of_ble_eq_true rfl) (fun p e s m args below meth c A Q G K => ?_)
  show sw Θ p e rmX6_wholeOf s m args below meth c A Q 2 0 0 0 [(0, .ref m0), (1, .int a0)] [] (wX6 Θ m0 m1 m2 m3 m4 m5 m6 m7 m8 m9 m_now m_saved m_aside m_states m_quiet m_thrown m_tried m_best m_touching m_text m_length m_at m_verbs m_told m_commands)
  refine sw_iload_n 0 G dX6_wholeOf_0 1 rfl ?_
  refine sw_bipush 1 G (9 : Int32) dX6_wholeOf_1 rfl ?_
  refine sw_icmp_ge 3 12 G dX6_wholeOf_3 rfl hf (fun hf => ?_) (fun hf => ?_)
  · refine sw_iload_n 12 G dX6_wholeOf_12 1 rfl ?_
    refine sw_bipush 13 G (11 : Int32) dX6_wholeOf_13 rfl ?_
    refine sw_icmp_ge 15 36 G dX6_wholeOf_15 rfl hf (fun hf => ?_) (fun hf => ?_)
    · refine sw_iload_n 36 G dX6_wholeOf_36 1 rfl ?_
      refine sw_bipush 37 G (15 : Int32) dX6_wholeOf_37 rfl ?_
      refine sw_icmp_ge 39 52 G dX6_wholeOf_39 rfl hf (fun hf => ?_) (fun hf => ?_)
      · refine sw_iload_n 52 G dX6_wholeOf_52 1 rfl ?_
        refine sw_bipush 53 G (15 : Int32) dX6_wholeOf_53 rfl ?_
        refine sw_icmp_ne 55 71 G dX6_wholeOf_55 rfl hf (fun hf => ?_) (fun hf => ?_)
        · refine sw_aload_n 71 G dX6_wholeOf_71 0 rfl ?_
          refine sw_get 72 G hnX6 0 10 dX6_wholeOf_72 vc6 (by decide) (List.mem_cons_of_mem _ lk_26b769ba) rfl rfl ?_
          cases hf
          exact sw_iret 75 G dX6_wholeOf_75 K
        · refine sw_aload_n 58 G dX6_wholeOf_58 0 rfl ?_
          refine sw_get 59 G hnX6 0 0 dX6_wholeOf_59 vc6 (by decide) (List.mem_cons_of_mem _ lk_54e63fd8) rfl rfl ?_
          refine sw_bipush 62 G (13 : Int32) dX6_wholeOf_62 rfl ?_
          refine sw_lald 64 G 1 dX6_wholeOf_64 rfl hf (fun hf => ?_)
          obtain ⟨r1, hg, hf⟩ := bd1_some hf
          refine sw_callS 65 G (wX6 Θ m0 m1 m2 m3 m4 m5 m6 m7 m8 m9 m_now m_saved m_aside m_states m_quiet m_thrown m_tried m_best m_touching m_text m_length m_at m_verbs m_told m_commands) [] [0, 1, 2, 3, 4, 5, 6, 7, 8, 9] [0, 1, 2, 3, 4, 5, 6, 7, 8, 9] 1 dX6_wholeOf_65 (kX6_ones Θ F (m_now (13 : Int32).toNatClampNeg) r1 hg) (gwS lk_d2b42130 lk_66add976 lk_cff7b874 lk_9c72bac3) rfl hsX6_ones ⟨rfl, rfl⟩ ⟨Nat.le_of_ble_eq_true rfl, Nat.le_of_ble_eq_true rfl⟩ ⟨Nat.zero_le _, Nat.zero_le _⟩ rfl rfl (Nat.le_of_ble_eq_true rfl) rfl rfl rfl (by decide) ?_
          refine sw_goto 68 G 75 dX6_wholeOf_68 rfl ?_
          cases hf
          exact sw_iret 75 G dX6_wholeOf_75 K
      · refine sw_aload_n 42 G dX6_wholeOf_42 0 rfl ?_
        refine sw_iload_n 43 G dX6_wholeOf_43 1 rfl ?_
        refine sw_iconst 44 G (2 : Int32) dX6_wholeOf_44 rfl ?_
        refine sw_isub 45 G dX6_wholeOf_45 ?_
        obtain ⟨r2, hg, hf⟩ := bd1_some hf
        refine sw_callV 46 G (wX6 Θ m0 m1 m2 m3 m4 m5 m6 m7 m8 m9 m_now m_saved m_aside m_states m_quiet m_thrown m_tried m_best m_touching m_text m_length m_at m_verbs m_told m_commands) [0, 1, 2, 3, 4, 5, 6, 7, 8, 9] [] [0, 1, 2, 3, 4, 5, 6, 7, 8, 9] 1 dX6_wholeOf_46 (kX6_many Θ m0 m1 m2 m3 m4 m5 m6 m7 m8 m9 m_now m_saved m_aside m_states m_quiet m_thrown m_tried m_best m_touching m_text m_length m_at m_verbs m_told m_commands (a0 - (2 : Int32)) r2 hg) (gwV lk_184fe921 lk_d689724c lk_b095f72c lk_6d91b6d2 lk_d7f116ea) rfl hvX6_many ⟨rfl, rfl⟩ ⟨Nat.le_of_ble_eq_true rfl, Nat.le_of_ble_eq_true rfl⟩ ⟨Nat.zero_le _, Nat.zero_le _⟩ rfl rfl (Nat.le_of_ble_eq_true rfl) 0 rfl vc6 rfl rfl rfl rfl (by decide) ?_
        refine sw_goto 49 G 75 dX6_wholeOf_49 rfl ?_
        cases hf
        exact sw_iret 75 G dX6_wholeOf_75 K
    · refine sw_iload_n 18 G dX6_wholeOf_18 1 rfl ?_
      refine sw_bipush 19 G (9 : Int32) dX6_wholeOf_19 rfl ?_
      refine sw_icmp_ne 21 31 G dX6_wholeOf_21 rfl hf (fun hf => ?_) (fun hf => ?_)
      · refine sw_aload_n 31 G dX6_wholeOf_31 0 rfl ?_
        obtain ⟨r3, hg, hf⟩ := bd1_some hf
        refine sw_callV 32 G (wX6 Θ m0 m1 m2 m3 m4 m5 m6 m7 m8 m9 m_now m_saved m_aside m_states m_quiet m_thrown m_tried m_best m_touching m_text m_length m_at m_verbs m_told m_commands) [0, 1, 2, 3, 4, 5, 6, 7, 8, 9] [] [0, 1, 2, 3, 4, 5, 6, 7, 8, 9] 0 dX6_wholeOf_32 (kX6_pitches Θ F m0 m1 m2 m3 m4 m5 m6 m7 m8 m9 m_now m_saved m_aside m_states m_quiet m_thrown m_tried m_best m_touching m_text m_length m_at m_verbs m_told m_commands r3 hg) (gwV lk_e8b45f90 lk_a2fb680c lk_c732479b lk_6d91b6d2 lk_d59b76ad) rfl hvX6_pitches ⟨rfl, rfl⟩ ⟨Nat.le_of_ble_eq_true rfl, Nat.le_of_ble_eq_true rfl⟩ ⟨Nat.zero_le _, Nat.zero_le _⟩ rfl rfl (Nat.le_of_ble_eq_true rfl) 0 rfl vc6 rfl rfl rfl rfl (by decide) ?_
        cases hf
        exact sw_iret 35 G dX6_wholeOf_35 K
      · refine sw_aload_n 24 G dX6_wholeOf_24 0 rfl ?_
        obtain ⟨r4, hg, hf⟩ := bd1_some hf
        refine sw_callV 25 G (wX6 Θ m0 m1 m2 m3 m4 m5 m6 m7 m8 m9 m_now m_saved m_aside m_states m_quiet m_thrown m_tried m_best m_touching m_text m_length m_at m_verbs m_told m_commands) [0, 1, 2, 3, 4, 5, 6, 7, 8, 9] [] [0, 1, 2, 3, 4, 5, 6, 7, 8, 9] 0 dX6_wholeOf_25 (kX6_stations Θ F m0 m1 m2 m3 m4 m5 m6 m7 m8 m9 m_now m_saved m_aside m_states m_quiet m_thrown m_tried m_best m_touching m_text m_length m_at m_verbs m_told m_commands r4 hg) (gwV lk_77b27923 lk_56fe8223 lk_16c61ef1 lk_6d91b6d2 lk_f876e1d3) rfl hvX6_stations ⟨rfl, rfl⟩ ⟨Nat.le_of_ble_eq_true rfl, Nat.le_of_ble_eq_true rfl⟩ ⟨Nat.zero_le _, Nat.zero_le _⟩ rfl rfl (Nat.le_of_ble_eq_true rfl) 0 rfl vc6 rfl rfl rfl rfl (by decide) ?_
        refine sw_goto 28 G 35 dX6_wholeOf_28 rfl ?_
        cases hf
        exact sw_iret 35 G dX6_wholeOf_35 K
  · refine sw_aload_n 6 G dX6_wholeOf_6 0 rfl ?_
    refine sw_iload_n 7 G dX6_wholeOf_7 1 rfl ?_
    obtain ⟨r5, hg, hf⟩ := bd1_some hf
    refine sw_callV 8 G (wX6 Θ m0 m1 m2 m3 m4 m5 m6 m7 m8 m9 m_now m_saved m_aside m_states m_quiet m_thrown m_tried m_best m_touching m_text m_length m_at m_verbs m_told m_commands) [0, 1, 2, 3, 4, 5, 6, 7, 8, 9] [] [0, 1, 2, 3, 4, 5, 6, 7, 8, 9] 1 dX6_wholeOf_8 (kX6_many Θ m0 m1 m2 m3 m4 m5 m6 m7 m8 m9 m_now m_saved m_aside m_states m_quiet m_thrown m_tried m_best m_touching m_text m_length m_at m_verbs m_told m_commands a0 r5 hg) (gwV lk_184fe921 lk_d689724c lk_b095f72c lk_6d91b6d2 lk_d7f116ea) rfl hvX6_many ⟨rfl, rfl⟩ ⟨Nat.le_of_ble_eq_true rfl, Nat.le_of_ble_eq_true rfl⟩ ⟨Nat.zero_le _, Nat.zero_le _⟩ rfl rfl (Nat.le_of_ble_eq_true rfl) 0 rfl vc6 rfl rfl rfl rfl (by decide) ?_
    cases hf
    exact sw_iret 11 G dX6_wholeOf_11 K
abbrev rmX6_whole : Room := { frames := 3, cells := 0, slots := 0, locals := 65 }
theorem hvX6_whole : yX6_whole.cls = RX6 ∧ yX6_whole.cls ≠ "java/lang/invoke/MethodHandle" ∧ yX6_whole.cls ≠ "java/lang/invoke/VarHandle" ∧ (parseMethodDescriptor yX6_whole.desc).map (fun d => d.parameters.length) = some 1 := by decide +kernel
set_option maxRecDepth 100000 in
set_option maxHeartbeats 4000000 in
theorem kX6_whole (Θ : Tht) (F : Nat) (m0 m1 m2 m3 m4 m5 m6 m7 m8 m9 : Nat) (m_now : Nat → Int64) (m_saved : Nat → Int64) (m_aside : Nat → Int64) (m_states : Int32) (m_quiet : Int32) (m_thrown : Int32) (m_tried : Nat → Int32) (m_best : Nat → Int32) (m_touching : Nat → Int32) (m_text : Nat → Int32) (m_length : Int32) (m_at : Int32) (m_verbs : Nat → Int32) (m_told : Nat → Int32) (m_commands : Int32) (a0 : Int32) (ro : Int32) (o_m_thrown : Int32) (hf : fX6_whole F m_now m_length a0 = some (ro, o_m_thrown)) : Fn Θ yX6_whole (Cond.code yX6_whole cX6_whole 2 (some .int) :: GW) rmX6_whole [.ref m0, .int a0] (wX6 Θ m0 m1 m2 m3 m4 m5 m6 m7 m8 m9 m_now m_saved m_aside m_states m_quiet m_thrown m_tried m_best m_touching m_text m_length m_at m_verbs m_told m_commands) (some (.int ro)) (wX6 Θ m0 m1 m2 m3 m4 m5 m6 m7 m8 m9 m_now m_saved m_aside m_states m_quiet o_m_thrown m_tried m_best m_touching m_text m_length m_at m_verbs m_told m_commands) := by
  delta fX6_whole at hf
  refine Fn.of (by decide +kernel) rfl (Nat.le_of_ble_eq_true rfl) (fun p e s m args below meth c A Q G K => ?_)
  show sw Θ p e rmX6_whole s m args below meth c A Q 2 0 0 0 [(0, .ref m0), (1, .int a0)] [] (wX6 Θ m0 m1 m2 m3 m4 m5 m6 m7 m8 m9 m_now m_saved m_aside m_states m_quiet m_thrown m_tried m_best m_touching m_text m_length m_at m_verbs m_told m_commands)
  refine sw_aload_n 0 G dX6_whole_0 0 rfl ?_
  refine sw_iconst 1 G (0 : Int32) dX6_whole_1 rfl ?_
  refine sw_put 2 G hnX6 tyX6_ok nmX6 0 5 (wX6 Θ m0 m1 m2 m3 m4 m5 m6 m7 m8 m9 m_now m_saved m_aside m_states m_quiet (0 : Int32) m_tried m_best m_touching m_text m_length m_at m_verbs m_told m_commands) dX6_whole_2 vc6 (by decide) (List.mem_cons_of_mem _ lk_fb3e5753) rfl rfl (Nat.le_of_ble_eq_true rfl) (tyX6_ok 5 (by decide)) rfl rfl rfl ?_
  refine sw_iload_n 5 G dX6_whole_5 1 rfl ?_
  refine sw_iconst 6 G (0 : Int32) dX6_whole_6 rfl ?_
  refine sw_bipush 7 G (16 : Int32) dX6_whole_7 rfl ?_
  obtain ⟨r1, hg, hf⟩ := bd1_some hf
  refine sw_callS 9 G (wX6 Θ m0 m1 m2 m3 m4 m5 m6 m7 m8 m9 m_now m_saved m_aside m_states m_quiet (0 : Int32) m_tried m_best m_touching m_text m_length m_at m_verbs m_told m_commands) [] [0, 1, 2, 3, 4, 5, 6, 7, 8, 9] [0, 1, 2, 3, 4, 5, 6, 7, 8, 9] 3 dX6_whole_9 (kX6_in Θ a0 (0 : Int32) (16 : Int32) r1 hg) (gwS lk_739e9842 lk_9ad51b2c lk_59eba9b0 lk_5ad5c33d) rfl hsX6_in ⟨rfl, rfl⟩ ⟨Nat.le_of_ble_eq_true rfl, Nat.le_of_ble_eq_true rfl⟩ ⟨Nat.zero_le _, Nat.zero_le _⟩ rfl rfl (Nat.le_of_ble_eq_true rfl) rfl rfl rfl (by decide) ?_
  refine sw_if_eq 12 23 G dX6_whole_12 rfl hf (fun hf => ?_) (fun hf => ?_)
  · refine sw_aload_n 23 G dX6_whole_23 0 rfl ?_
    refine sw_iconst 24 G (1 : Int32) dX6_whole_24 rfl ?_
    obtain ⟨r2, u3, hg, hf⟩ := bd2_some hf
    refine sw_callV 25 G (wX6 Θ m0 m1 m2 m3 m4 m5 m6 m7 m8 m9 m_now m_saved m_aside m_states m_quiet u3 m_tried m_best m_touching m_text m_length m_at m_verbs m_told m_commands) [0, 1, 2, 3, 4, 5, 6, 7, 8, 9] [] [0, 1, 2, 3, 4, 5, 6, 7, 8, 9] 1 dX6_whole_25 (kX6_fails Θ m0 m1 m2 m3 m4 m5 m6 m7 m8 m9 m_now m_saved m_aside m_states m_quiet (0 : Int32) m_tried m_best m_touching m_text m_length m_at m_verbs m_told m_commands (1 : Int32) r2 u3 hg) (gwV lk_c7279fda lk_b9e66eaa lk_2152c894 lk_6d91b6d2 lk_f2d2a162) rfl hvX6_fails ⟨rfl, rfl⟩ ⟨Nat.le_of_ble_eq_true rfl, Nat.le_of_ble_eq_true rfl⟩ ⟨Nat.zero_le _, Nat.zero_le _⟩ rfl rfl (Nat.le_of_ble_eq_true rfl) 0 rfl vc6 rfl rfl rfl rfl (by decide) ?_
    cases hf
    exact sw_iret 28 G dX6_whole_28 K
  · refine sw_aload_n 15 G dX6_whole_15 0 rfl ?_
    refine sw_iload_n 16 G dX6_whole_16 1 rfl ?_
    obtain ⟨r4, hg, hf⟩ := bd1_some hf
    refine sw_callV 17 G (wX6 Θ m0 m1 m2 m3 m4 m5 m6 m7 m8 m9 m_now m_saved m_aside m_states m_quiet (0 : Int32) m_tried m_best m_touching m_text m_length m_at m_verbs m_told m_commands) [0, 1, 2, 3, 4, 5, 6, 7, 8, 9] [] [0, 1, 2, 3, 4, 5, 6, 7, 8, 9] 1 dX6_whole_17 (kX6_wholeOf Θ F m0 m1 m2 m3 m4 m5 m6 m7 m8 m9 m_now m_saved m_aside m_states m_quiet (0 : Int32) m_tried m_best m_touching m_text m_length m_at m_verbs m_told m_commands a0 r4 hg) (gwV lk_044a4268 lk_b55a9f78 lk_c3e65967 lk_6d91b6d2 lk_b11504df) rfl hvX6_wholeOf ⟨rfl, rfl⟩ ⟨Nat.le_of_ble_eq_true rfl, Nat.le_of_ble_eq_true rfl⟩ ⟨Nat.zero_le _, Nat.zero_le _⟩ rfl rfl (Nat.le_of_ble_eq_true rfl) 0 rfl vc6 rfl rfl rfl rfl (by decide) ?_
    refine sw_goto 20 G 28 dX6_whole_20 rfl ?_
    cases hf
    exact sw_iret 28 G dX6_whole_28 K
abbrev rmX6_faultOfDie : Room := { frames := 5, cells := 0, slots := 0, locals := 119 }
theorem hvX6_faultOfDie : yX6_faultOfDie.cls = RX6 ∧ yX6_faultOfDie.cls ≠ "java/lang/invoke/MethodHandle" ∧ yX6_faultOfDie.cls ≠ "java/lang/invoke/VarHandle" ∧ (parseMethodDescriptor yX6_faultOfDie.desc).map (fun d => d.parameters.length) = some 0 := by decide +kernel
set_option maxRecDepth 100000 in
set_option maxHeartbeats 4000000 in
theorem kX6_faultOfDie (Θ : Tht) (F : Nat) (m0 m1 m2 m3 m4 m5 m6 m7 m8 m9 : Nat) (m_now : Nat → Int64) (m_saved : Nat → Int64) (m_aside : Nat → Int64) (m_states : Int32) (m_quiet : Int32) (m_thrown : Int32) (m_tried : Nat → Int32) (m_best : Nat → Int32) (m_touching : Nat → Int32) (m_text : Nat → Int32) (m_length : Int32) (m_at : Int32) (m_verbs : Nat → Int32) (m_told : Nat → Int32) (m_commands : Int32) (ro : Int32) (hf : fX6_faultOfDie F m_now = some ro) : Fn Θ yX6_faultOfDie (Cond.code yX6_faultOfDie cX6_faultOfDie 1 (some .int) :: GW) rmX6_faultOfDie [.ref m0] (wX6 Θ m0 m1 m2 m3 m4 m5 m6 m7 m8 m9 m_now m_saved m_aside m_states m_quiet m_thrown m_tried m_best m_touching m_text m_length m_at m_verbs m_told m_commands) (some (.int ro)) (wX6 Θ m0 m1 m2 m3 m4 m5 m6 m7 m8 m9 m_now m_saved m_aside m_states m_quiet m_thrown m_tried m_best m_touching m_text m_length m_at m_verbs m_told m_commands) := by
  delta fX6_faultOfDie at hf
  refine Fn.of (by decide +kernel) rfl (Nat.le_of_ble_eq_true rfl) (fun p e s m args below meth c A Q G K => ?_)
  show sw Θ p e rmX6_faultOfDie s m args below meth c A Q 1 0 0 0 [(0, .ref m0)] [] (wX6 Θ m0 m1 m2 m3 m4 m5 m6 m7 m8 m9 m_now m_saved m_aside m_states m_quiet m_thrown m_tried m_best m_touching m_text m_length m_at m_verbs m_told m_commands)
  refine sw_aload_n 0 G dX6_faultOfDie_0 0 rfl ?_
  obtain ⟨r1, hg, hf⟩ := bd1_some hf
  refine sw_callV 1 G (wX6 Θ m0 m1 m2 m3 m4 m5 m6 m7 m8 m9 m_now m_saved m_aside m_states m_quiet m_thrown m_tried m_best m_touching m_text m_length m_at m_verbs m_told m_commands) [0, 1, 2, 3, 4, 5, 6, 7, 8, 9] [] [0, 1, 2, 3, 4, 5, 6, 7, 8, 9] 0 dX6_faultOfDie_1 (kX6_part Θ F m0 m1 m2 m3 m4 m5 m6 m7 m8 m9 m_now m_saved m_aside m_states m_quiet m_thrown m_tried m_best m_touching m_text m_length m_at m_verbs m_told m_commands r1 hg) (gwV lk_a7d29f13 lk_b5d5ac57 lk_bbe75992 lk_6d91b6d2 lk_b1193bad) rfl hvX6_part ⟨rfl, rfl⟩ ⟨Nat.le_of_ble_eq_true rfl, Nat.le_of_ble_eq_true rfl⟩ ⟨Nat.zero_le _, Nat.zero_le _⟩ rfl rfl (Nat.le_of_ble_eq_true rfl) 0 rfl vc6 rfl rfl rfl rfl (by decide) ?_
  refine sw_lconst 4 G (0 : Int64) dX6_faultOfDie_4 rfl ?_
  refine sw_lcmp 5 G dX6_faultOfDie_5 ?_
  refine sw_if_ne 6 11 G dX6_faultOfDie_6 rfl hf (fun hf => ?_) (fun hf => ?_)
  · refine sw_aload_n 11 G dX6_faultOfDie_11 0 rfl ?_
    refine sw_iconst 12 G (0 : Int32) dX6_faultOfDie_12 rfl ?_
    obtain ⟨r2, hg, hf⟩ := bd1_some hf
    refine sw_callV 13 G (wX6 Θ m0 m1 m2 m3 m4 m5 m6 m7 m8 m9 m_now m_saved m_aside m_states m_quiet m_thrown m_tried m_best m_touching m_text m_length m_at m_verbs m_told m_commands) [0, 1, 2, 3, 4, 5, 6, 7, 8, 9] [] [0, 1, 2, 3, 4, 5, 6, 7, 8, 9] 1 dX6_faultOfDie_13 (kX6_takenBy Θ F m0 m1 m2 m3 m4 m5 m6 m7 m8 m9 m_now m_saved m_aside m_states m_quiet m_thrown m_tried m_best m_touching m_text m_length m_at m_verbs m_told m_commands (0 : Int32) r2 hg) (gwV lk_339b0518 lk_bcbf67c9 lk_467d07fc lk_6d91b6d2 lk_2e4e8c9d) rfl hvX6_takenBy ⟨rfl, rfl⟩ ⟨Nat.le_of_ble_eq_true rfl, Nat.le_of_ble_eq_true rfl⟩ ⟨Nat.zero_le _, Nat.zero_le _⟩ rfl rfl (Nat.le_of_ble_eq_true rfl) 0 rfl vc6 rfl rfl rfl rfl (by decide) ?_
    refine sw_aload_n 16 G dX6_faultOfDie_16 0 rfl ?_
    obtain ⟨r3, hg, hf⟩ := bd1_some hf
    refine sw_callV 17 G (wX6 Θ m0 m1 m2 m3 m4 m5 m6 m7 m8 m9 m_now m_saved m_aside m_states m_quiet m_thrown m_tried m_best m_touching m_text m_length m_at m_verbs m_told m_commands) [0, 1, 2, 3, 4, 5, 6, 7, 8, 9] [] [0, 1, 2, 3, 4, 5, 6, 7, 8, 9] 0 dX6_faultOfDie_17 (kX6_part Θ F m0 m1 m2 m3 m4 m5 m6 m7 m8 m9 m_now m_saved m_aside m_states m_quiet m_thrown m_tried m_best m_touching m_text m_length m_at m_verbs m_told m_commands r3 hg) (gwV lk_a7d29f13 lk_b5d5ac57 lk_bbe75992 lk_6d91b6d2 lk_b1193bad) rfl hvX6_part ⟨rfl, rfl⟩ ⟨Nat.le_of_ble_eq_true rfl, Nat.le_of_ble_eq_true rfl⟩ ⟨Nat.zero_le _, Nat.zero_le _⟩ rfl rfl (Nat.le_of_ble_eq_true rfl) 0 rfl vc6 rfl rfl rfl rfl (by decide) ?_
    refine sw_aload_n 20 G dX6_faultOfDie_20 0 rfl ?_
    obtain ⟨r4, hg, hf⟩ := bd1_some hf
    refine sw_callV 21 G (wX6 Θ m0 m1 m2 m3 m4 m5 m6 m7 m8 m9 m_now m_saved m_aside m_states m_quiet m_thrown m_tried m_best m_touching m_text m_length m_at m_verbs m_told m_commands) [0, 1, 2, 3, 4, 5, 6, 7, 8, 9] [] [0, 1, 2, 3, 4, 5, 6, 7, 8, 9] 0 dX6_faultOfDie_21 (kX6_links Θ F m0 m1 m2 m3 m4 m5 m6 m7 m8 m9 m_now m_saved m_aside m_states m_quiet m_thrown m_tried m_best m_touching m_text m_length m_at m_verbs m_told m_commands r4 hg) (gwV lk_d0a62bf9 lk_99890b55 lk_17a509a9 lk_6d91b6d2 lk_023738c8) rfl hvX6_links ⟨rfl, rfl⟩ ⟨Nat.le_of_ble_eq_true rfl, Nat.le_of_ble_eq_true rfl⟩ ⟨Nat.zero_le _, Nat.zero_le _⟩ rfl rfl (Nat.le_of_ble_eq_true rfl) 0 rfl vc6 rfl rfl rfl rfl (by decide) ?_
    refine sw_lor 24 G dX6_faultOfDie_24 ?_
    refine sw_land 25 G dX6_faultOfDie_25 ?_
    refine sw_lconst 26 G (0 : Int64) dX6_faultOfDie_26 rfl ?_
    refine sw_lcmp 27 G dX6_faultOfDie_27 ?_
    refine sw_if_eq 28 33 G dX6_faultOfDie_28 rfl hf (fun hf => ?_) (fun hf => ?_)
    · refine sw_aload_n 33 G dX6_faultOfDie_33 0 rfl ?_
      refine sw_iconst 34 G (0 : Int32) dX6_faultOfDie_34 rfl ?_
      obtain ⟨r5, hg, hf⟩ := bd1_some hf
      refine sw_callV 35 G (wX6 Θ m0 m1 m2 m3 m4 m5 m6 m7 m8 m9 m_now m_saved m_aside m_states m_quiet m_thrown m_tried m_best m_touching m_text m_length m_at m_verbs m_told m_commands) [0, 1, 2, 3, 4, 5, 6, 7, 8, 9] [] [0, 1, 2, 3, 4, 5, 6, 7, 8, 9] 1 dX6_faultOfDie_35 (kX6_takenBy Θ F m0 m1 m2 m3 m4 m5 m6 m7 m8 m9 m_now m_saved m_aside m_states m_quiet m_thrown m_tried m_best m_touching m_text m_length m_at m_verbs m_told m_commands (0 : Int32) r5 hg) (gwV lk_339b0518 lk_bcbf67c9 lk_467d07fc lk_6d91b6d2 lk_2e4e8c9d) rfl hvX6_takenBy ⟨rfl, rfl⟩ ⟨Nat.le_of_ble_eq_true rfl, Nat.le_of_ble_eq_true rfl⟩ ⟨Nat.zero_le _, Nat.zero_le _⟩ rfl rfl (Nat.le_of_ble_eq_true rfl) 0 rfl vc6 rfl rfl rfl rfl (by decide) ?_
      refine sw_aload_n 38 G dX6_faultOfDie_38 0 rfl ?_
      obtain ⟨r6, hg, hf⟩ := bd1_some hf
      refine sw_callV 39 G (wX6 Θ m0 m1 m2 m3 m4 m5 m6 m7 m8 m9 m_now m_saved m_aside m_states m_quiet m_thrown m_tried m_best m_touching m_text m_length m_at m_verbs m_told m_commands) [0, 1, 2, 3, 4, 5, 6, 7, 8, 9] [] [0, 1, 2, 3, 4, 5, 6, 7, 8, 9] 0 dX6_faultOfDie_39 (kX6_carrier Θ F m0 m1 m2 m3 m4 m5 m6 m7 m8 m9 m_now m_saved m_aside m_states m_quiet m_thrown m_tried m_best m_touching m_text m_length m_at m_verbs m_told m_commands r6 hg) (gwV lk_d2b03e46 lk_8b4faa2c lk_883df833 lk_6d91b6d2 lk_50b5fb00) rfl hvX6_carrier ⟨rfl, rfl⟩ ⟨Nat.le_of_ble_eq_true rfl, Nat.le_of_ble_eq_true rfl⟩ ⟨Nat.zero_le _, Nat.zero_le _⟩ rfl rfl (Nat.le_of_ble_eq_true rfl) 0 rfl vc6 rfl rfl rfl rfl (by decide) ?_
      refine sw_land 42 G dX6_faultOfDie_42 ?_
      refine sw_lconst 43 G (0 : Int64) dX6_faultOfDie_43 rfl ?_
      refine sw_lcmp 44 G dX6_faultOfDie_44 ?_
      refine sw_if_eq 45 50 G dX6_faultOfDie_45 rfl hf (fun hf => ?_) (fun hf => ?_)
      · refine sw_aload_n 50 G dX6_faultOfDie_50 0 rfl ?_
        refine sw_iconst 51 G (1 : Int32) dX6_faultOfDie_51 rfl ?_
        obtain ⟨r7, hg, hf⟩ := bd1_some hf
        refine sw_callV 52 G (wX6 Θ m0 m1 m2 m3 m4 m5 m6 m7 m8 m9 m_now m_saved m_aside m_states m_quiet m_thrown m_tried m_best m_touching m_text m_length m_at m_verbs m_told m_commands) [0, 1, 2, 3, 4, 5, 6, 7, 8, 9] [] [0, 1, 2, 3, 4, 5, 6, 7, 8, 9] 1 dX6_faultOfDie_52 (kX6_takenBy Θ F m0 m1 m2 m3 m4 m5 m6 m7 m8 m9 m_now m_saved m_aside m_states m_quiet m_thrown m_tried m_best m_touching m_text m_length m_at m_verbs m_told m_commands (1 : Int32) r7 hg) (gwV lk_339b0518 lk_bcbf67c9 lk_467d07fc lk_6d91b6d2 lk_2e4e8c9d) rfl hvX6_takenBy ⟨rfl, rfl⟩ ⟨Nat.le_of_ble_eq_true rfl, Nat.le_of_ble_eq_true rfl⟩ ⟨Nat.zero_le _, Nat.zero_le _⟩ rfl rfl (Nat.le_of_ble_eq_true rfl) 0 rfl vc6 rfl rfl rfl rfl (by decide) ?_
        refine sw_aload_n 55 G dX6_faultOfDie_55 0 rfl ?_
        obtain ⟨r8, hg, hf⟩ := bd1_some hf
        refine sw_callV 56 G (wX6 Θ m0 m1 m2 m3 m4 m5 m6 m7 m8 m9 m_now m_saved m_aside m_states m_quiet m_thrown m_tried m_best m_touching m_text m_length m_at m_verbs m_told m_commands) [0, 1, 2, 3, 4, 5, 6, 7, 8, 9] [] [0, 1, 2, 3, 4, 5, 6, 7, 8, 9] 0 dX6_faultOfDie_56 (kX6_part Θ F m0 m1 m2 m3 m4 m5 m6 m7 m8 m9 m_now m_saved m_aside m_states m_quiet m_thrown m_tried m_best m_touching m_text m_length m_at m_verbs m_told m_commands r8 hg) (gwV lk_a7d29f13 lk_b5d5ac57 lk_bbe75992 lk_6d91b6d2 lk_b1193bad) rfl hvX6_part ⟨rfl, rfl⟩ ⟨Nat.le_of_ble_eq_true rfl, Nat.le_of_ble_eq_true rfl⟩ ⟨Nat.zero_le _, Nat.zero_le _⟩ rfl rfl (Nat.le_of_ble_eq_true rfl) 0 rfl vc6 rfl rfl rfl rfl (by decide) ?_
        refine sw_ldc2 59 G (List.mem_cons_of_mem _ lk_e81893dd) dX6_faultOfDie_59 ?_
        refine sw_lxor 62 G dX6_faultOfDie_62 ?_
        refine sw_land 63 G dX6_faultOfDie_63 ?_
        refine sw_lconst 64 G (0 : Int64) dX6_faultOfDie_64 rfl ?_
        refine sw_lcmp 65 G dX6_faultOfDie_65 ?_
        refine sw_if_eq 66 71 G dX6_faultOfDie_66 rfl hf (fun hf => ?_) (fun hf => ?_)
        · refine sw_aload_n 71 G dX6_faultOfDie_71 0 rfl ?_
          obtain ⟨r9, hg, hf⟩ := bd1_some hf
          refine sw_callV 72 G (wX6 Θ m0 m1 m2 m3 m4 m5 m6 m7 m8 m9 m_now m_saved m_aside m_states m_quiet m_thrown m_tried m_best m_touching m_text m_length m_at m_verbs m_told m_commands) [0, 1, 2, 3, 4, 5, 6, 7, 8, 9] [] [0, 1, 2, 3, 4, 5, 6, 7, 8, 9] 0 dX6_faultOfDie_72 (kX6_standing Θ F m0 m1 m2 m3 m4 m5 m6 m7 m8 m9 m_now m_saved m_aside m_states m_quiet m_thrown m_tried m_best m_touching m_text m_length m_at m_verbs m_told m_commands r9 hg) (gwV lk_b3d36ad8 lk_1fef445f lk_164675ff lk_6d91b6d2 lk_f7318da5) rfl hvX6_standing ⟨rfl, rfl⟩ ⟨Nat.le_of_ble_eq_true rfl, Nat.le_of_ble_eq_true rfl⟩ ⟨Nat.zero_le _, Nat.zero_le _⟩ rfl rfl (Nat.le_of_ble_eq_true rfl) 0 rfl vc6 rfl rfl rfl rfl (by decide) ?_
          refine sw_lconst 75 G (0 : Int64) dX6_faultOfDie_75 rfl ?_
          refine sw_lcmp 76 G dX6_faultOfDie_76 ?_
          refine sw_if_eq 77 84 G dX6_faultOfDie_77 rfl hf (fun hf => ?_) (fun hf => ?_)
          · refine sw_aload_n 84 G dX6_faultOfDie_84 0 rfl ?_
            obtain ⟨r10, hg, hf⟩ := bd1_some hf
            refine sw_callV 85 G (wX6 Θ m0 m1 m2 m3 m4 m5 m6 m7 m8 m9 m_now m_saved m_aside m_states m_quiet m_thrown m_tried m_best m_touching m_text m_length m_at m_verbs m_told m_commands) [0, 1, 2, 3, 4, 5, 6, 7, 8, 9] [] [0, 1, 2, 3, 4, 5, 6, 7, 8, 9] 0 dX6_faultOfDie_85 (kX6_loose Θ F m0 m1 m2 m3 m4 m5 m6 m7 m8 m9 m_now m_saved m_aside m_states m_quiet m_thrown m_tried m_best m_touching m_text m_length m_at m_verbs m_told m_commands r10 hg) (gwV lk_6fd1bda8 lk_919e35ca lk_42c604fe lk_6d91b6d2 lk_ca807adc) rfl hvX6_loose ⟨rfl, rfl⟩ ⟨Nat.le_of_ble_eq_true rfl, Nat.le_of_ble_eq_true rfl⟩ ⟨Nat.zero_le _, Nat.zero_le _⟩ rfl rfl (Nat.le_of_ble_eq_true rfl) 0 rfl vc6 rfl rfl rfl rfl (by decide) ?_
            refine sw_lconst 88 G (0 : Int64) dX6_faultOfDie_88 rfl ?_
            refine sw_lcmp 89 G dX6_faultOfDie_89 ?_
            refine sw_if_eq 90 98 G dX6_faultOfDie_90 rfl hf (fun hf => ?_) (fun hf => ?_)
            · refine sw_iconst 98 G (0 : Int32) dX6_faultOfDie_98 rfl ?_
              cases hf
              exact sw_iret 99 G dX6_faultOfDie_99 K
            · refine sw_bipush 93 G (6 : Int32) dX6_faultOfDie_93 rfl ?_
              refine sw_goto 95 G 99 dX6_faultOfDie_95 rfl ?_
              cases hf
              exact sw_iret 99 G dX6_faultOfDie_99 K
          · refine sw_iconst 80 G (5 : Int32) dX6_faultOfDie_80 rfl ?_
            refine sw_goto 81 G 99 dX6_faultOfDie_81 rfl ?_
            cases hf
            exact sw_iret 99 G dX6_faultOfDie_99 K
        · refine sw_iconst 69 G (4 : Int32) dX6_faultOfDie_69 rfl ?_
          cases hf
          exact sw_iret 70 G dX6_faultOfDie_70 K
      · refine sw_iconst 48 G (3 : Int32) dX6_faultOfDie_48 rfl ?_
        cases hf
        exact sw_iret 49 G dX6_faultOfDie_49 K
    · refine sw_iconst 31 G (2 : Int32) dX6_faultOfDie_31 rfl ?_
      cases hf
      exact sw_iret 32 G dX6_faultOfDie_32 K
  · refine sw_iconst 9 G (1 : Int32) dX6_faultOfDie_9 rfl ?_
    cases hf
    exact sw_iret 10 G dX6_faultOfDie_10 K
abbrev rmX6_dieFault : Room := { frames := 6, cells := 0, slots := 0, locals := 139 }
theorem hvX6_dieFault : yX6_dieFault.cls = RX6 ∧ yX6_dieFault.cls ≠ "java/lang/invoke/MethodHandle" ∧ yX6_dieFault.cls ≠ "java/lang/invoke/VarHandle" ∧ (parseMethodDescriptor yX6_dieFault.desc).map (fun d => d.parameters.length) = some 0 := by decide +kernel
set_option maxRecDepth 100000 in
set_option maxHeartbeats 4000000 in
theorem kX6_dieFault (Θ : Tht) (F : Nat) (m0 m1 m2 m3 m4 m5 m6 m7 m8 m9 : Nat) (m_now : Nat → Int64) (m_saved : Nat → Int64) (m_aside : Nat → Int64) (m_states : Int32) (m_quiet : Int32) (m_thrown : Int32) (m_tried : Nat → Int32) (m_best : Nat → Int32) (m_touching : Nat → Int32) (m_text : Nat → Int32) (m_length : Int32) (m_at : Int32) (m_verbs : Nat → Int32) (m_told : Nat → Int32) (m_commands : Int32) (ro : Int32) (o_m_thrown : Int32) (hf : fX6_dieFault F m_now = some (ro, o_m_thrown)) : Fn Θ yX6_dieFault (Cond.code yX6_dieFault cX6_dieFault 1 (some .int) :: GW) rmX6_dieFault [.ref m0] (wX6 Θ m0 m1 m2 m3 m4 m5 m6 m7 m8 m9 m_now m_saved m_aside m_states m_quiet m_thrown m_tried m_best m_touching m_text m_length m_at m_verbs m_told m_commands) (some (.int ro)) (wX6 Θ m0 m1 m2 m3 m4 m5 m6 m7 m8 m9 m_now m_saved m_aside m_states m_quiet o_m_thrown m_tried m_best m_touching m_text m_length m_at m_verbs m_told m_commands) := by
  delta fX6_dieFault at hf
  refine Fn.of (by decide +kernel) rfl (Nat.le_of_ble_eq_true rfl) (fun p e s m args below meth c A Q G K => ?_)
  show sw Θ p e rmX6_dieFault s m args below meth c A Q 1 0 0 0 [(0, .ref m0)] [] (wX6 Θ m0 m1 m2 m3 m4 m5 m6 m7 m8 m9 m_now m_saved m_aside m_states m_quiet m_thrown m_tried m_best m_touching m_text m_length m_at m_verbs m_told m_commands)
  refine sw_aload_n 0 G dX6_dieFault_0 0 rfl ?_
  refine sw_iconst 1 G (0 : Int32) dX6_dieFault_1 rfl ?_
  refine sw_put 2 G hnX6 tyX6_ok nmX6 0 5 (wX6 Θ m0 m1 m2 m3 m4 m5 m6 m7 m8 m9 m_now m_saved m_aside m_states m_quiet (0 : Int32) m_tried m_best m_touching m_text m_length m_at m_verbs m_told m_commands) dX6_dieFault_2 vc6 (by decide) (List.mem_cons_of_mem _ lk_fb3e5753) rfl rfl (Nat.le_of_ble_eq_true rfl) (tyX6_ok 5 (by decide)) rfl rfl rfl ?_
  refine sw_aload_n 5 G dX6_dieFault_5 0 rfl ?_
  obtain ⟨r1, hg, hf⟩ := bd1_some hf
  refine sw_callV 6 G (wX6 Θ m0 m1 m2 m3 m4 m5 m6 m7 m8 m9 m_now m_saved m_aside m_states m_quiet (0 : Int32) m_tried m_best m_touching m_text m_length m_at m_verbs m_told m_commands) [0, 1, 2, 3, 4, 5, 6, 7, 8, 9] [] [0, 1, 2, 3, 4, 5, 6, 7, 8, 9] 0 dX6_dieFault_6 (kX6_faultOfDie Θ F m0 m1 m2 m3 m4 m5 m6 m7 m8 m9 m_now m_saved m_aside m_states m_quiet (0 : Int32) m_tried m_best m_touching m_text m_length m_at m_verbs m_told m_commands r1 hg) (gwV lk_2697961c lk_161dd2ac lk_829a0b84 lk_6d91b6d2 lk_08d457fc) rfl hvX6_faultOfDie ⟨rfl, rfl⟩ ⟨Nat.le_of_ble_eq_true rfl, Nat.le_of_ble_eq_true rfl⟩ ⟨Nat.zero_le _, Nat.zero_le _⟩ rfl rfl (Nat.le_of_ble_eq_true rfl) 0 rfl vc6 rfl rfl rfl rfl (by decide) ?_
  cases hf
  exact sw_iret 9 G dX6_dieFault_9 K
abbrev rmX6_planFault : Room := { frames := 5, cells := 0, slots := 0, locals := 124 }
theorem hvX6_planFault : yX6_planFault.cls = RX6 ∧ yX6_planFault.cls ≠ "java/lang/invoke/MethodHandle" ∧ yX6_planFault.cls ≠ "java/lang/invoke/VarHandle" ∧ (parseMethodDescriptor yX6_planFault.desc).map (fun d => d.parameters.length) = some 0 := by decide +kernel
set_option maxRecDepth 100000 in
set_option maxHeartbeats 4000000 in
theorem kX6_planFault (Θ : Tht) (F : Nat) (m0 m1 m2 m3 m4 m5 m6 m7 m8 m9 : Nat) (m_now : Nat → Int64) (m_saved : Nat → Int64) (m_aside : Nat → Int64) (m_states : Int32) (m_quiet : Int32) (m_thrown : Int32) (m_tried : Nat → Int32) (m_best : Nat → Int32) (m_touching : Nat → Int32) (m_text : Nat → Int32) (m_length : Int32) (m_at : Int32) (m_verbs : Nat → Int32) (m_told : Nat → Int32) (m_commands : Int32) (ro : Int32) (o_m_thrown : Int32) (hf : fX6_planFault F m_now = some (ro, o_m_thrown)) : Fn Θ yX6_planFault (Cond.code yX6_planFault cX6_planFault 1 (some .int) :: GW) rmX6_planFault [.ref m0] (wX6 Θ m0 m1 m2 m3 m4 m5 m6 m7 m8 m9 m_now m_saved m_aside m_states m_quiet m_thrown m_tried m_best m_touching m_text m_length m_at m_verbs m_told m_commands) (some (.int ro)) (wX6 Θ m0 m1 m2 m3 m4 m5 m6 m7 m8 m9 m_now m_saved m_aside m_states m_quiet o_m_thrown m_tried m_best m_touching m_text m_length m_at m_verbs m_told m_commands) := by
  delta fX6_planFault at hf
  refine Fn.of (by decide +kernel) rfl (Nat.le_of_ble_eq_true rfl) (fun p e s m args below meth c A Q G K => ?_)
  show sw Θ p e rmX6_planFault s m args below meth c A Q 1 0 0 0 [(0, .ref m0)] [] (wX6 Θ m0 m1 m2 m3 m4 m5 m6 m7 m8 m9 m_now m_saved m_aside m_states m_quiet m_thrown m_tried m_best m_touching m_text m_length m_at m_verbs m_told m_commands)
  refine sw_aload_n 0 G dX6_planFault_0 0 rfl ?_
  refine sw_iconst 1 G (0 : Int32) dX6_planFault_1 rfl ?_
  refine sw_put 2 G hnX6 tyX6_ok nmX6 0 5 (wX6 Θ m0 m1 m2 m3 m4 m5 m6 m7 m8 m9 m_now m_saved m_aside m_states m_quiet (0 : Int32) m_tried m_best m_touching m_text m_length m_at m_verbs m_told m_commands) dX6_planFault_2 vc6 (by decide) (List.mem_cons_of_mem _ lk_fb3e5753) rfl rfl (Nat.le_of_ble_eq_true rfl) (tyX6_ok 5 (by decide)) rfl rfl rfl ?_
  refine sw_aload_n 5 G dX6_planFault_5 0 rfl ?_
  obtain ⟨r1, hg, hf⟩ := bd1_some hf
  refine sw_callV 6 G (wX6 Θ m0 m1 m2 m3 m4 m5 m6 m7 m8 m9 m_now m_saved m_aside m_states m_quiet (0 : Int32) m_tried m_best m_touching m_text m_length m_at m_verbs m_told m_commands) [0, 1, 2, 3, 4, 5, 6, 7, 8, 9] [] [0, 1, 2, 3, 4, 5, 6, 7, 8, 9] 0 dX6_planFault_6 (kX6_faultOfPlan Θ F m0 m1 m2 m3 m4 m5 m6 m7 m8 m9 m_now m_saved m_aside m_states m_quiet (0 : Int32) m_tried m_best m_touching m_text m_length m_at m_verbs m_told m_commands r1 hg) (gwV lk_39095643 lk_783d0a72 lk_1dc62568 lk_6d91b6d2 lk_c4c7b5ef) rfl hvX6_faultOfPlan ⟨rfl, rfl⟩ ⟨Nat.le_of_ble_eq_true rfl, Nat.le_of_ble_eq_true rfl⟩ ⟨Nat.zero_le _, Nat.zero_le _⟩ rfl rfl (Nat.le_of_ble_eq_true rfl) 0 rfl vc6 rfl rfl rfl rfl (by decide) ?_
  cases hf
  exact sw_iret 9 G dX6_planFault_9 K
abbrev rmX6_planned : Room := { frames := 5, cells := 0, slots := 0, locals := 120 }
theorem hvX6_planned : yX6_planned.cls = RX6 ∧ yX6_planned.cls ≠ "java/lang/invoke/MethodHandle" ∧ yX6_planned.cls ≠ "java/lang/invoke/VarHandle" ∧ (parseMethodDescriptor yX6_planned.desc).map (fun d => d.parameters.length) = some 1 := by decide +kernel
set_option maxRecDepth 100000 in
set_option maxHeartbeats 4000000 in
theorem kX6_planned (Θ : Tht) (F : Nat) (m0 m1 m2 m3 m4 m5 m6 m7 m8 m9 : Nat) (m_now : Nat → Int64) (m_saved : Nat → Int64) (m_aside : Nat → Int64) (m_states : Int32) (m_quiet : Int32) (m_thrown : Int32) (m_tried : Nat → Int32) (m_best : Nat → Int32) (m_touching : Nat → Int32) (m_text : Nat → Int32) (m_length : Int32) (m_at : Int32) (m_verbs : Nat → Int32) (m_told : Nat → Int32) (m_commands : Int32) (a0 : Int32) (ro : Int32) (o_m_thrown : Int32) (o_m_tried : Nat → Int32) (o_m_best : Nat → Int32) (o_m_touching : Nat → Int32) (hf : fX6_planned F m_now m_tried m_best m_touching a0 = some (ro, o_m_thrown, o_m_tried, o_m_best, o_m_touching)) : Fn Θ yX6_planned (Cond.code yX6_planned cX6_planned 3 (some .int) :: GW) rmX6_planned [.ref m0, .int a0] (wX6 Θ m0 m1 m2 m3 m4 m5 m6 m7 m8 m9 m_now m_saved m_aside m_states m_quiet m_thrown m_tried m_best m_touching m_text m_length m_at m_verbs m_told m_commands) (some (.int ro)) (wX6 Θ m0 m1 m2 m3 m4 m5 m6 m7 m8 m9 m_now m_saved m_aside m_states m_quiet o_m_thrown o_m_tried o_m_best o_m_touching m_text m_length m_at m_verbs m_told m_commands) := by
  delta fX6_planned at hf
  refine Fn.of (by decide +kernel) rfl (Nat.le_of_ble_eq_true rfl) (fun p e s m args below meth c A Q G K => ?_)
  show sw Θ p e rmX6_planned s m args below meth c A Q 3 0 0 0 [(0, .ref m0), (1, .int a0)] [] (wX6 Θ m0 m1 m2 m3 m4 m5 m6 m7 m8 m9 m_now m_saved m_aside m_states m_quiet m_thrown m_tried m_best m_touching m_text m_length m_at m_verbs m_told m_commands)
  refine sw_aload_n 0 G dX6_planned_0 0 rfl ?_
  refine sw_iconst 1 G (0 : Int32) dX6_planned_1 rfl ?_
  refine sw_put 2 G hnX6 tyX6_ok nmX6 0 5 (wX6 Θ m0 m1 m2 m3 m4 m5 m6 m7 m8 m9 m_now m_saved m_aside m_states m_quiet (0 : Int32) m_tried m_best m_touching m_text m_length m_at m_verbs m_told m_commands) dX6_planned_2 vc6 (by decide) (List.mem_cons_of_mem _ lk_fb3e5753) rfl rfl (Nat.le_of_ble_eq_true rfl) (tyX6_ok 5 (by decide)) rfl rfl rfl ?_
  refine sw_iload_n 5 G dX6_planned_5 1 rfl ?_
  refine sw_iconst 6 G (-1 : Int32) dX6_planned_6 rfl ?_
  refine sw_icmp_eq 7 24 G dX6_planned_7 rfl hf (fun hf => ?_) (fun hf => ?_)
  · refine sw_aload_n 24 G dX6_planned_24 0 rfl ?_
    refine sw_aload_n 25 G dX6_planned_25 0 rfl ?_
    refine sw_iconst 26 G (0 : Int32) dX6_planned_26 rfl ?_
    obtain ⟨r1, hg, hf⟩ := bd1_some hf
    refine sw_callV 27 G (wX6 Θ m0 m1 m2 m3 m4 m5 m6 m7 m8 m9 m_now m_saved m_aside m_states m_quiet (0 : Int32) m_tried m_best m_touching m_text m_length m_at m_verbs m_told m_commands) [0, 1, 2, 3, 4, 5, 6, 7, 8, 9] [] [0, 1, 2, 3, 4, 5, 6, 7, 8, 9] 1 dX6_planned_27 (kX6_setting Θ m0 m1 m2 m3 m4 m5 m6 m7 m8 m9 m_now m_saved m_aside m_states m_quiet (0 : Int32) m_tried m_best m_touching m_text m_length m_at m_verbs m_told m_commands (0 : Int32) r1 hg) (gwV lk_29a14a05 lk_b15aae89 lk_394237e6 lk_6d91b6d2 lk_fa884fd4) rfl hvX6_setting ⟨rfl, rfl⟩ ⟨Nat.le_of_ble_eq_true rfl, Nat.le_of_ble_eq_true rfl⟩ ⟨Nat.zero_le _, Nat.zero_le _⟩ rfl rfl (Nat.le_of_ble_eq_true rfl) 0 rfl vc6 rfl rfl rfl rfl (by decide) ?_
    obtain ⟨r2, u3, u4, u5, hg, hf⟩ := bd4_some hf
    refine sw_callV 30 G (wX6 Θ m0 m1 m2 m3 m4 m5 m6 m7 m8 m9 m_now m_saved m_aside m_states m_quiet (0 : Int32) u3 u4 u5 m_text m_length m_at m_verbs m_told m_commands) [0, 1, 2, 3, 4, 5, 6, 7, 8, 9] [] [0, 1, 2, 3, 4, 5, 6, 7, 8, 9] 1 dX6_planned_30 (kX6_plans Θ F m0 m1 m2 m3 m4 m5 m6 m7 m8 m9 m_now m_saved m_aside m_states m_quiet (0 : Int32) m_tried m_best m_touching m_text m_length m_at m_verbs m_told m_commands r1 r2 u3 u4 u5 hg) (gwV lk_c9873cba lk_e03af637 lk_57a6b268 lk_6d91b6d2 lk_7bd304a6) rfl hvX6_plans ⟨rfl, rfl⟩ ⟨Nat.le_of_ble_eq_true rfl, Nat.le_of_ble_eq_true rfl⟩ ⟨Nat.zero_le _, Nat.zero_le _⟩ rfl rfl (Nat.le_of_ble_eq_true rfl) 0 rfl vc6 rfl rfl rfl rfl (by decide) ?_
    refine sw_istore_n 33 G [(2, .int r2), (0, .ref m0), (1, .int a0)] dX6_planned_33 (by decide) rfl ?_
    refine sw_iload_n 34 G dX6_planned_34 0 rfl ?_
    refine sw_iconst 35 G (-1 : Int32) dX6_planned_35 rfl ?_
    refine sw_icmp_eq 36 44 G dX6_planned_36 rfl hf (fun hf => ?_) (fun hf => ?_)
    · refine sw_iload_n 44 G dX6_planned_44 0 rfl ?_
      refine sw_goto 45 G 54 dX6_planned_45 rfl ?_
      cases hf
      exact sw_iret 54 G dX6_planned_54 K
    · refine sw_iload_n 39 G dX6_planned_39 2 rfl ?_
      refine sw_iconst 40 G (-1 : Int32) dX6_planned_40 rfl ?_
      refine sw_icmp_ne 41 48 G dX6_planned_41 rfl hf (fun hf => ?_) (fun hf => ?_)
      · refine sw_aload_n 48 G dX6_planned_48 1 rfl ?_
        refine sw_get 49 G hnX6 0 7 dX6_planned_49 vc6 (by decide) (List.mem_cons_of_mem _ lk_49b9a7b5) rfl rfl ?_
        refine sw_iload_n 52 G dX6_planned_52 2 rfl ?_
        refine sw_iald 53 G 5 dX6_planned_53 rfl hf (fun hf => ?_)
        cases hf
        exact sw_iret 54 G dX6_planned_54 K
      · refine sw_iload_n 44 G dX6_planned_44 0 rfl ?_
        refine sw_goto 45 G 54 dX6_planned_45 rfl ?_
        cases hf
        exact sw_iret 54 G dX6_planned_54 K
  · refine sw_aload_n 10 G dX6_planned_10 0 rfl ?_
    refine sw_iload_n 11 G dX6_planned_11 1 rfl ?_
    obtain ⟨r6, hg, hf⟩ := bd1_some hf
    refine sw_callV 12 G (wX6 Θ m0 m1 m2 m3 m4 m5 m6 m7 m8 m9 m_now m_saved m_aside m_states m_quiet (0 : Int32) m_tried m_best m_touching m_text m_length m_at m_verbs m_told m_commands) [0, 1, 2, 3, 4, 5, 6, 7, 8, 9] [] [0, 1, 2, 3, 4, 5, 6, 7, 8, 9] 1 dX6_planned_12 (kX6_isOp Θ m0 m1 m2 m3 m4 m5 m6 m7 m8 m9 m_now m_saved m_aside m_states m_quiet (0 : Int32) m_tried m_best m_touching m_text m_length m_at m_verbs m_told m_commands a0 r6 hg) (gwV lk_5d9a90b0 lk_9ff6988e lk_64f05732 lk_6d91b6d2 lk_a01bf882) rfl hvX6_isOp ⟨rfl, rfl⟩ ⟨Nat.le_of_ble_eq_true rfl, Nat.le_of_ble_eq_true rfl⟩ ⟨Nat.zero_le _, Nat.zero_le _⟩ rfl rfl (Nat.le_of_ble_eq_true rfl) 0 rfl vc6 rfl rfl rfl rfl (by decide) ?_
    refine sw_if_ne 15 24 G dX6_planned_15 rfl hf (fun hf => ?_) (fun hf => ?_)
    · refine sw_aload_n 24 G dX6_planned_24 0 rfl ?_
      refine sw_aload_n 25 G dX6_planned_25 0 rfl ?_
      refine sw_iconst 26 G (0 : Int32) dX6_planned_26 rfl ?_
      obtain ⟨r7, hg, hf⟩ := bd1_some hf
      refine sw_callV 27 G (wX6 Θ m0 m1 m2 m3 m4 m5 m6 m7 m8 m9 m_now m_saved m_aside m_states m_quiet (0 : Int32) m_tried m_best m_touching m_text m_length m_at m_verbs m_told m_commands) [0, 1, 2, 3, 4, 5, 6, 7, 8, 9] [] [0, 1, 2, 3, 4, 5, 6, 7, 8, 9] 1 dX6_planned_27 (kX6_setting Θ m0 m1 m2 m3 m4 m5 m6 m7 m8 m9 m_now m_saved m_aside m_states m_quiet (0 : Int32) m_tried m_best m_touching m_text m_length m_at m_verbs m_told m_commands (0 : Int32) r7 hg) (gwV lk_29a14a05 lk_b15aae89 lk_394237e6 lk_6d91b6d2 lk_fa884fd4) rfl hvX6_setting ⟨rfl, rfl⟩ ⟨Nat.le_of_ble_eq_true rfl, Nat.le_of_ble_eq_true rfl⟩ ⟨Nat.zero_le _, Nat.zero_le _⟩ rfl rfl (Nat.le_of_ble_eq_true rfl) 0 rfl vc6 rfl rfl rfl rfl (by decide) ?_
      obtain ⟨r8, u9, u10, u11, hg, hf⟩ := bd4_some hf
      refine sw_callV 30 G (wX6 Θ m0 m1 m2 m3 m4 m5 m6 m7 m8 m9 m_now m_saved m_aside m_states m_quiet (0 : Int32) u9 u10 u11 m_text m_length m_at m_verbs m_told m_commands) [0, 1, 2, 3, 4, 5, 6, 7, 8, 9] [] [0, 1, 2, 3, 4, 5, 6, 7, 8, 9] 1 dX6_planned_30 (kX6_plans Θ F m0 m1 m2 m3 m4 m5 m6 m7 m8 m9 m_now m_saved m_aside m_states m_quiet (0 : Int32) m_tried m_best m_touching m_text m_length m_at m_verbs m_told m_commands r7 r8 u9 u10 u11 hg) (gwV lk_c9873cba lk_e03af637 lk_57a6b268 lk_6d91b6d2 lk_7bd304a6) rfl hvX6_plans ⟨rfl, rfl⟩ ⟨Nat.le_of_ble_eq_true rfl, Nat.le_of_ble_eq_true rfl⟩ ⟨Nat.zero_le _, Nat.zero_le _⟩ rfl rfl (Nat.le_of_ble_eq_true rfl) 0 rfl vc6 rfl rfl rfl rfl (by decide) ?_
      refine sw_istore_n 33 G [(2, .int r8), (0, .ref m0), (1, .int a0)] dX6_planned_33 (by decide) rfl ?_
      refine sw_iload_n 34 G dX6_planned_34 0 rfl ?_
      refine sw_iconst 35 G (-1 : Int32) dX6_planned_35 rfl ?_
      refine sw_icmp_eq 36 44 G dX6_planned_36 rfl hf (fun hf => ?_) (fun hf => ?_)
      · refine sw_iload_n 44 G dX6_planned_44 0 rfl ?_
        refine sw_goto 45 G 54 dX6_planned_45 rfl ?_
        cases hf
        exact sw_iret 54 G dX6_planned_54 K
      · refine sw_iload_n 39 G dX6_planned_39 2 rfl ?_
        refine sw_iconst 40 G (-1 : Int32) dX6_planned_40 rfl ?_
        refine sw_icmp_ne 41 48 G dX6_planned_41 rfl hf (fun hf => ?_) (fun hf => ?_)
        · refine sw_aload_n 48 G dX6_planned_48 1 rfl ?_
          refine sw_get 49 G hnX6 0 7 dX6_planned_49 vc6 (by decide) (List.mem_cons_of_mem _ lk_49b9a7b5) rfl rfl ?_
          refine sw_iload_n 52 G dX6_planned_52 2 rfl ?_
          refine sw_iald 53 G 5 dX6_planned_53 rfl hf (fun hf => ?_)
          cases hf
          exact sw_iret 54 G dX6_planned_54 K
        · refine sw_iload_n 44 G dX6_planned_44 0 rfl ?_
          refine sw_goto 45 G 54 dX6_planned_45 rfl ?_
          cases hf
          exact sw_iret 54 G dX6_planned_54 K
    · refine sw_aload_n 18 G dX6_planned_18 0 rfl ?_
      refine sw_iconst 19 G (1 : Int32) dX6_planned_19 rfl ?_
      obtain ⟨r12, u13, hg, hf⟩ := bd2_some hf
      refine sw_callV 20 G (wX6 Θ m0 m1 m2 m3 m4 m5 m6 m7 m8 m9 m_now m_saved m_aside m_states m_quiet u13 m_tried m_best m_touching m_text m_length m_at m_verbs m_told m_commands) [0, 1, 2, 3, 4, 5, 6, 7, 8, 9] [] [0, 1, 2, 3, 4, 5, 6, 7, 8, 9] 1 dX6_planned_20 (kX6_fails Θ m0 m1 m2 m3 m4 m5 m6 m7 m8 m9 m_now m_saved m_aside m_states m_quiet (0 : Int32) m_tried m_best m_touching m_text m_length m_at m_verbs m_told m_commands (1 : Int32) r12 u13 hg) (gwV lk_c7279fda lk_b9e66eaa lk_2152c894 lk_6d91b6d2 lk_f2d2a162) rfl hvX6_fails ⟨rfl, rfl⟩ ⟨Nat.le_of_ble_eq_true rfl, Nat.le_of_ble_eq_true rfl⟩ ⟨Nat.zero_le _, Nat.zero_le _⟩ rfl rfl (Nat.le_of_ble_eq_true rfl) 0 rfl vc6 rfl rfl rfl rfl (by decide) ?_
      cases hf
      exact sw_iret 23 G dX6_planned_23 K
abbrev rmX6_leastLimit : Room := { frames := 5, cells := 0, slots := 0, locals := 120 }
theorem hvX6_leastLimit : yX6_leastLimit.cls = RX6 ∧ yX6_leastLimit.cls ≠ "java/lang/invoke/MethodHandle" ∧ yX6_leastLimit.cls ≠ "java/lang/invoke/VarHandle" ∧ (parseMethodDescriptor yX6_leastLimit.desc).map (fun d => d.parameters.length) = some 0 := by decide +kernel
set_option maxRecDepth 100000 in
set_option maxHeartbeats 4000000 in
theorem kX6_leastLimit (Θ : Tht) (F : Nat) (m0 m1 m2 m3 m4 m5 m6 m7 m8 m9 : Nat) (m_now : Nat → Int64) (m_saved : Nat → Int64) (m_aside : Nat → Int64) (m_states : Int32) (m_quiet : Int32) (m_thrown : Int32) (m_tried : Nat → Int32) (m_best : Nat → Int32) (m_touching : Nat → Int32) (m_text : Nat → Int32) (m_length : Int32) (m_at : Int32) (m_verbs : Nat → Int32) (m_told : Nat → Int32) (m_commands : Int32) (ro : Int32) (o_m_thrown : Int32) (o_m_tried : Nat → Int32) (o_m_best : Nat → Int32) (o_m_touching : Nat → Int32) (hf : fX6_leastLimit F m_now m_tried m_best m_touching = some (ro, o_m_thrown, o_m_tried, o_m_best, o_m_touching)) : Fn Θ yX6_leastLimit (Cond.code yX6_leastLimit cX6_leastLimit 4 (some .int) :: GW) rmX6_leastLimit [.ref m0] (wX6 Θ m0 m1 m2 m3 m4 m5 m6 m7 m8 m9 m_now m_saved m_aside m_states m_quiet m_thrown m_tried m_best m_touching m_text m_length m_at m_verbs m_told m_commands) (some (.int ro)) (wX6 Θ m0 m1 m2 m3 m4 m5 m6 m7 m8 m9 m_now m_saved m_aside m_states m_quiet o_m_thrown o_m_tried o_m_best o_m_touching m_text m_length m_at m_verbs m_told m_commands) := by
  delta fX6_leastLimit at hf
  refine Fn.of (by decide +kernel) rfl (Nat.le_of_ble_eq_true rfl) (fun p e s m args below meth c A Q G K => ?_)
  show sw Θ p e rmX6_leastLimit s m args below meth c A Q 4 0 0 0 [(0, .ref m0)] [] (wX6 Θ m0 m1 m2 m3 m4 m5 m6 m7 m8 m9 m_now m_saved m_aside m_states m_quiet m_thrown m_tried m_best m_touching m_text m_length m_at m_verbs m_told m_commands)
  refine sw_aload_n 0 G dX6_leastLimit_0 0 rfl ?_
  refine sw_iconst 1 G (0 : Int32) dX6_leastLimit_1 rfl ?_
  refine sw_put 2 G hnX6 tyX6_ok nmX6 0 5 (wX6 Θ m0 m1 m2 m3 m4 m5 m6 m7 m8 m9 m_now m_saved m_aside m_states m_quiet (0 : Int32) m_tried m_best m_touching m_text m_length m_at m_verbs m_told m_commands) dX6_leastLimit_2 vc6 (by decide) (List.mem_cons_of_mem _ lk_fb3e5753) rfl rfl (Nat.le_of_ble_eq_true rfl) (tyX6_ok 5 (by decide)) rfl rfl rfl ?_
  refine sw_aload_n 5 G dX6_leastLimit_5 0 rfl ?_
  refine sw_sipush 6 G (999 : Int32) dX6_leastLimit_6 rfl ?_
  obtain ⟨r1, u2, u3, u4, hg, hf⟩ := bd4_some hf
  refine sw_callV 9 G (wX6 Θ m0 m1 m2 m3 m4 m5 m6 m7 m8 m9 m_now m_saved m_aside m_states m_quiet (0 : Int32) u2 u3 u4 m_text m_length m_at m_verbs m_told m_commands) [0, 1, 2, 3, 4, 5, 6, 7, 8, 9] [] [0, 1, 2, 3, 4, 5, 6, 7, 8, 9] 1 dX6_leastLimit_9 (kX6_plans Θ F m0 m1 m2 m3 m4 m5 m6 m7 m8 m9 m_now m_saved m_aside m_states m_quiet (0 : Int32) m_tried m_best m_touching m_text m_length m_at m_verbs m_told m_commands (999 : Int32) r1 u2 u3 u4 hg) (gwV lk_c9873cba lk_e03af637 lk_57a6b268 lk_6d91b6d2 lk_7bd304a6) rfl hvX6_plans ⟨rfl, rfl⟩ ⟨Nat.le_of_ble_eq_true rfl, Nat.le_of_ble_eq_true rfl⟩ ⟨Nat.zero_le _, Nat.zero_le _⟩ rfl rfl (Nat.le_of_ble_eq_true rfl) 0 rfl vc6 rfl rfl rfl rfl (by decide) ?_
  refine sw_iconst 12 G (-1 : Int32) dX6_leastLimit_12 rfl ?_
  refine sw_icmp_ne 13 18 G dX6_leastLimit_13 rfl hf (fun hf => ?_) (fun hf => ?_)
  · refine sw_iconst 18 G (1 : Int32) dX6_leastLimit_18 rfl ?_
    refine sw_istore_n 19 G [(1, .int (1 : Int32)), (0, .ref m0)] dX6_leastLimit_19 (by decide) rfl ?_
    refine sw_sipush 20 G (999 : Int32) dX6_leastLimit_20 rfl ?_
    refine sw_istore_n 23 G [(2, .int (999 : Int32)), (1, .int (1 : Int32)), (0, .ref m0)] dX6_leastLimit_23 (by decide) rfl ?_
    obtain ⟨v5, v6, v7, v8, hl, hf⟩ := bd4_some hf
    have hx24_56 : sw Θ p e rmX6_leastLimit s m args below meth c A Q 4 0 0 56 [(1, .int v5)] [] (wX6 Θ m0 m1 m2 m3 m4 m5 m6 m7 m8 m9 m_now m_saved m_aside m_states m_quiet (0 : Int32) v6 v7 v8 m_text m_length m_at m_verbs m_told m_commands) := by
      refine sw_iload_n 56 G dX6_leastLimit_56 0 rfl ?_
      cases hf
      exact sw_iret 57 G dX6_leastLimit_57 K
    refine sw_lv [(0, .ref m0), (1, .int (1 : Int32)), (2, .int (999 : Int32))] [2, 1, 0] rfl ?_
    refine lp_walk (P := fun (t : Int32 × Int32 × (Nat → Int32) × (Nat → Int32) × (Nat → Int32)) => sw Θ p e rmX6_leastLimit s m args below meth c A Q 4 0 0 24 [(0, .ref m0), (1, .int t.1), (2, .int t.2.1)] [] (wX6 Θ m0 m1 m2 m3 m4 m5 m6 m7 m8 m9 m_now m_saved m_aside m_states m_quiet (0 : Int32) t.2.2.1 t.2.2.2.1 t.2.2.2.2 m_text m_length m_at m_verbs m_told m_commands)) hl (fun t24 y24 hf hin24 hex24 => ?_)
    obtain ⟨v9, v10, v11, v12, v13⟩ := t24
    show sw Θ p e rmX6_leastLimit s m args below meth c A Q 4 0 0 24 [(0, .ref m0), (1, .int v9), (2, .int v10)] [] (wX6 Θ m0 m1 m2 m3 m4 m5 m6 m7 m8 m9 m_now m_saved m_aside m_states m_quiet (0 : Int32) v11 v12 v13 m_text m_length m_at m_verbs m_told m_commands)
    have hf := uc5_some (K := _) hf
    refine sw_iload_n 24 G dX6_leastLimit_24 1 rfl ?_
    refine sw_iload_n 25 G dX6_leastLimit_25 2 rfl ?_
    refine sw_icmp_ge 26 56 G dX6_leastLimit_26 rfl hf (fun hf => ?_) (fun hf => ?_)
    · cases hf
      cases hex24 _ rfl
      exact sw_lv _ [1] rfl hx24_56
    · refine sw_iload_n 29 G dX6_leastLimit_29 1 rfl ?_
      refine sw_iload_n 30 G dX6_leastLimit_30 2 rfl ?_
      refine sw_iadd 31 G dX6_leastLimit_31 ?_
      refine sw_iconst 32 G (2 : Int32) dX6_leastLimit_32 rfl ?_
      refine sw_idiv 33 G dX6_leastLimit_33 hf (fun hf => ?_)
      refine sw_nmi hf (fun v14 hf => ?_)
      refine sw_istore_n 34 G [(3, .int v14), (0, .ref m0), (1, .int v9), (2, .int v10)] dX6_leastLimit_34 (by decide) rfl ?_
      refine sw_aload_n 35 G dX6_leastLimit_35 1 rfl ?_
      refine sw_iload_n 36 G dX6_leastLimit_36 0 rfl ?_
      obtain ⟨r15, u16, u17, u18, hg, hf⟩ := bd4_some hf
      refine sw_callV 37 G (wX6 Θ m0 m1 m2 m3 m4 m5 m6 m7 m8 m9 m_now m_saved m_aside m_states m_quiet (0 : Int32) u16 u17 u18 m_text m_length m_at m_verbs m_told m_commands) [0, 1, 2, 3, 4, 5, 6, 7, 8, 9] [] [0, 1, 2, 3, 4, 5, 6, 7, 8, 9] 1 dX6_leastLimit_37 (kX6_plans Θ F m0 m1 m2 m3 m4 m5 m6 m7 m8 m9 m_now m_saved m_aside m_states m_quiet (0 : Int32) v11 v12 v13 m_text m_length m_at m_verbs m_told m_commands v14 r15 u16 u17 u18 hg) (gwV lk_c9873cba lk_e03af637 lk_57a6b268 lk_6d91b6d2 lk_7bd304a6) rfl hvX6_plans ⟨rfl, rfl⟩ ⟨Nat.le_of_ble_eq_true rfl, Nat.le_of_ble_eq_true rfl⟩ ⟨Nat.zero_le _, Nat.zero_le _⟩ rfl rfl (Nat.le_of_ble_eq_true rfl) 0 rfl vc6 rfl rfl rfl rfl (by decide) ?_
      refine sw_iconst 40 G (-1 : Int32) dX6_leastLimit_40 rfl ?_
      obtain ⟨v19, v20, hj, hf⟩ := bd2_some hf
      have hx53 : sw Θ p e rmX6_leastLimit s m args below meth c A Q 4 0 0 53 [(0, .ref m0), (1, .int v19), (2, .int v20)] [] (wX6 Θ m0 m1 m2 m3 m4 m5 m6 m7 m8 m9 m_now m_saved m_aside m_states m_quiet (0 : Int32) u16 u17 u18 m_text m_length m_at m_verbs m_told m_commands) := by
        refine sw_goto 53 G 24 dX6_leastLimit_53 rfl ?_
        cases hf
        have hb := hin24 _ rfl
        exact sw_lv _ [0, 1, 2] (by rfl) hb
      clear hf
      have hf := hj
      clear hj
      refine sw_icmp_ne 41 51 G dX6_leastLimit_41 rfl hf (fun hf => ?_) (fun hf => ?_)
      · refine sw_iload_n 51 G dX6_leastLimit_51 0 rfl ?_
        refine sw_istore_n 52 G [(2, .int v14), (3, .int v14), (0, .ref m0), (1, .int v9)] dX6_leastLimit_52 (by decide) rfl ?_
        cases hf
        exact sw_lv _ [2, 3, 0] rfl hx53
      · refine sw_iload_n 44 G dX6_leastLimit_44 0 rfl ?_
        refine sw_iconst 45 G (1 : Int32) dX6_leastLimit_45 rfl ?_
        refine sw_iadd 46 G dX6_leastLimit_46 ?_
        refine sw_nmi hf (fun v21 hf => ?_)
        refine sw_istore_n 47 G [(1, .int v21), (3, .int v14), (0, .ref m0), (2, .int v10)] dX6_leastLimit_47 (by decide) rfl ?_
        refine sw_goto 48 G 53 dX6_leastLimit_48 rfl ?_
        cases hf
        exact sw_lv _ [2, 0, 3] rfl hx53
  · refine sw_iconst 16 G (-1 : Int32) dX6_leastLimit_16 rfl ?_
    cases hf
    exact sw_iret 17 G dX6_leastLimit_17 K
abbrev rmX6_fits : Room := { frames := 4, cells := 0, slots := 0, locals := 93 }
theorem hvX6_fits : yX6_fits.cls = RX6 ∧ yX6_fits.cls ≠ "java/lang/invoke/MethodHandle" ∧ yX6_fits.cls ≠ "java/lang/invoke/VarHandle" ∧ (parseMethodDescriptor yX6_fits.desc).map (fun d => d.parameters.length) = some 0 := by decide +kernel
set_option maxRecDepth 100000 in
set_option maxHeartbeats 4000000 in
theorem kX6_fits (Θ : Tht) (F : Nat) (m0 m1 m2 m3 m4 m5 m6 m7 m8 m9 : Nat) (m_now : Nat → Int64) (m_saved : Nat → Int64) (m_aside : Nat → Int64) (m_states : Int32) (m_quiet : Int32) (m_thrown : Int32) (m_tried : Nat → Int32) (m_best : Nat → Int32) (m_touching : Nat → Int32) (m_text : Nat → Int32) (m_length : Int32) (m_at : Int32) (m_verbs : Nat → Int32) (m_told : Nat → Int32) (m_commands : Int32) (ro : Int32) (hf : fX6_fits F m_now = some ro) : Fn Θ yX6_fits (Cond.code yX6_fits cX6_fits 7 (some .int) :: GW) rmX6_fits [.ref m0] (wX6 Θ m0 m1 m2 m3 m4 m5 m6 m7 m8 m9 m_now m_saved m_aside m_states m_quiet m_thrown m_tried m_best m_touching m_text m_length m_at m_verbs m_told m_commands) (some (.int ro)) (wX6 Θ m0 m1 m2 m3 m4 m5 m6 m7 m8 m9 m_now m_saved m_aside m_states m_quiet m_thrown m_tried m_best m_touching m_text m_length m_at m_verbs m_told m_commands) := by
  delta fX6_fits at hf
  refine Fn.of (by decide +kernel) rfl (Nat.le_of_ble_eq_true rfl) (fun p e s m args below meth c A Q G K => ?_)
  show sw Θ p e rmX6_fits s m args below meth c A Q 7 0 0 0 [(0, .ref m0)] [] (wX6 Θ m0 m1 m2 m3 m4 m5 m6 m7 m8 m9 m_now m_saved m_aside m_states m_quiet m_thrown m_tried m_best m_touching m_text m_length m_at m_verbs m_told m_commands)
  refine sw_aload_n 0 G dX6_fits_0 0 rfl ?_
  obtain ⟨r1, hg, hf⟩ := bd1_some hf
  refine sw_callV 1 G (wX6 Θ m0 m1 m2 m3 m4 m5 m6 m7 m8 m9 m_now m_saved m_aside m_states m_quiet m_thrown m_tried m_best m_touching m_text m_length m_at m_verbs m_told m_commands) [0, 1, 2, 3, 4, 5, 6, 7, 8, 9] [] [0, 1, 2, 3, 4, 5, 6, 7, 8, 9] 0 dX6_fits_1 (kX6_part Θ F m0 m1 m2 m3 m4 m5 m6 m7 m8 m9 m_now m_saved m_aside m_states m_quiet m_thrown m_tried m_best m_touching m_text m_length m_at m_verbs m_told m_commands r1 hg) (gwV lk_a7d29f13 lk_b5d5ac57 lk_bbe75992 lk_6d91b6d2 lk_b1193bad) rfl hvX6_part ⟨rfl, rfl⟩ ⟨Nat.le_of_ble_eq_true rfl, Nat.le_of_ble_eq_true rfl⟩ ⟨Nat.zero_le _, Nat.zero_le _⟩ rfl rfl (Nat.le_of_ble_eq_true rfl) 0 rfl vc6 rfl rfl rfl rfl (by decide) ?_
  refine sw_lstore_n 4 G [(1, .long r1), (0, .ref m0)] dX6_fits_4 (by decide) rfl ?_
  refine sw_lconst 5 G (0 : Int64) dX6_fits_5 rfl ?_
  refine sw_lstore_n 6 G [(3, .long (0 : Int64)), (1, .long r1), (0, .ref m0)] dX6_fits_6 (by decide) rfl ?_
  refine sw_aload_n 7 G dX6_fits_7 2 rfl ?_
  refine sw_iconst 8 G (0 : Int32) dX6_fits_8 rfl ?_
  obtain ⟨r2, hg, hf⟩ := bd1_some hf
  refine sw_callV 9 G (wX6 Θ m0 m1 m2 m3 m4 m5 m6 m7 m8 m9 m_now m_saved m_aside m_states m_quiet m_thrown m_tried m_best m_touching m_text m_length m_at m_verbs m_told m_commands) [0, 1, 2, 3, 4, 5, 6, 7, 8, 9] [] [0, 1, 2, 3, 4, 5, 6, 7, 8, 9] 1 dX6_fits_9 (kX6_many Θ m0 m1 m2 m3 m4 m5 m6 m7 m8 m9 m_now m_saved m_aside m_states m_quiet m_thrown m_tried m_best m_touching m_text m_length m_at m_verbs m_told m_commands (0 : Int32) r2 hg) (gwV lk_184fe921 lk_d689724c lk_b095f72c lk_6d91b6d2 lk_d7f116ea) rfl hvX6_many ⟨rfl, rfl⟩ ⟨Nat.le_of_ble_eq_true rfl, Nat.le_of_ble_eq_true rfl⟩ ⟨Nat.zero_le _, Nat.zero_le _⟩ rfl rfl (Nat.le_of_ble_eq_true rfl) 0 rfl vc6 rfl rfl rfl rfl (by decide) ?_
  refine sw_aload_n 12 G dX6_fits_12 2 rfl ?_
  refine sw_iconst 13 G (1 : Int32) dX6_fits_13 rfl ?_
  obtain ⟨r3, hg, hf⟩ := bd1_some hf
  refine sw_callV 14 G (wX6 Θ m0 m1 m2 m3 m4 m5 m6 m7 m8 m9 m_now m_saved m_aside m_states m_quiet m_thrown m_tried m_best m_touching m_text m_length m_at m_verbs m_told m_commands) [0, 1, 2, 3, 4, 5, 6, 7, 8, 9] [] [0, 1, 2, 3, 4, 5, 6, 7, 8, 9] 1 dX6_fits_14 (kX6_many Θ m0 m1 m2 m3 m4 m5 m6 m7 m8 m9 m_now m_saved m_aside m_states m_quiet m_thrown m_tried m_best m_touching m_text m_length m_at m_verbs m_told m_commands (1 : Int32) r3 hg) (gwV lk_184fe921 lk_d689724c lk_b095f72c lk_6d91b6d2 lk_d7f116ea) rfl hvX6_many ⟨rfl, rfl⟩ ⟨Nat.le_of_ble_eq_true rfl, Nat.le_of_ble_eq_true rfl⟩ ⟨Nat.zero_le _, Nat.zero_le _⟩ rfl rfl (Nat.le_of_ble_eq_true rfl) 0 rfl vc6 rfl rfl rfl rfl (by decide) ?_
  refine sw_imul 17 G dX6_fits_17 ?_
  refine sw_nmi hf (fun v4 hf => ?_)
  refine sw_istore 18 G [(5, .int v4), (3, .long (0 : Int64)), (1, .long r1), (0, .ref m0)] dX6_fits_18 (by decide) rfl ?_
  refine sw_iconst 20 G (0 : Int32) dX6_fits_20 rfl ?_
  refine sw_istore 21 G [(6, .int (0 : Int32)), (5, .int v4), (3, .long (0 : Int64)), (1, .long r1), (0, .ref m0)] dX6_fits_21 (by decide) rfl ?_
  obtain ⟨v5, hl, hf⟩ := bd1_some hf
  have hx23_63 : sw Θ p e rmX6_fits s m args below meth c A Q 7 0 0 63 [(0, .ref m0), (1, .long r1), (3, .long v5)] [] (wX6 Θ m0 m1 m2 m3 m4 m5 m6 m7 m8 m9 m_now m_saved m_aside m_states m_quiet m_thrown m_tried m_best m_touching m_text m_length m_at m_verbs m_told m_commands) := by
    refine sw_lload_n 63 G dX6_fits_63 1 rfl ?_
    refine sw_lconst 64 G (0 : Int64) dX6_fits_64 rfl ?_
    refine sw_lcmp 65 G dX6_fits_65 ?_
    refine sw_if_eq 66 90 G dX6_fits_66 rfl hf (fun hf => ?_) (fun hf => ?_)
    · refine sw_iconst 90 G (0 : Int32) dX6_fits_90 rfl ?_
      cases hf
      exact sw_iret 91 G dX6_fits_91 K
    · refine sw_lload_n 69 G dX6_fits_69 2 rfl ?_
      refine sw_aload_n 70 G dX6_fits_70 0 rfl ?_
      obtain ⟨r6, hg, hf⟩ := bd1_some hf
      refine sw_callV 71 G (wX6 Θ m0 m1 m2 m3 m4 m5 m6 m7 m8 m9 m_now m_saved m_aside m_states m_quiet m_thrown m_tried m_best m_touching m_text m_length m_at m_verbs m_told m_commands) [0, 1, 2, 3, 4, 5, 6, 7, 8, 9] [] [0, 1, 2, 3, 4, 5, 6, 7, 8, 9] 0 dX6_fits_71 (kX6_carrier Θ F m0 m1 m2 m3 m4 m5 m6 m7 m8 m9 m_now m_saved m_aside m_states m_quiet m_thrown m_tried m_best m_touching m_text m_length m_at m_verbs m_told m_commands r6 hg) (gwV lk_d2b03e46 lk_8b4faa2c lk_883df833 lk_6d91b6d2 lk_50b5fb00) rfl hvX6_carrier ⟨rfl, rfl⟩ ⟨Nat.le_of_ble_eq_true rfl, Nat.le_of_ble_eq_true rfl⟩ ⟨Nat.zero_le _, Nat.zero_le _⟩ rfl rfl (Nat.le_of_ble_eq_true rfl) 0 rfl vc6 rfl rfl rfl rfl (by decide) ?_
      refine sw_aload_n 74 G dX6_fits_74 0 rfl ?_
      refine sw_lload_n 75 G dX6_fits_75 1 rfl ?_
      obtain ⟨r7, hg, hf⟩ := bd1_some hf
      refine sw_callV 76 G (wX6 Θ m0 m1 m2 m3 m4 m5 m6 m7 m8 m9 m_now m_saved m_aside m_states m_quiet m_thrown m_tried m_best m_touching m_text m_length m_at m_verbs m_told m_commands) [0, 1, 2, 3, 4, 5, 6, 7, 8, 9] [] [0, 1, 2, 3, 4, 5, 6, 7, 8, 9] 1 dX6_fits_76 (kX6_grown Θ F m0 m1 m2 m3 m4 m5 m6 m7 m8 m9 m_now m_saved m_aside m_states m_quiet m_thrown m_tried m_best m_touching m_text m_length m_at m_verbs m_told m_commands r1 r7 hg) (gwV lk_40d4f518 lk_9c5cd476 lk_437445e1 lk_6d91b6d2 lk_9e186105) rfl hvX6_grown ⟨rfl, rfl⟩ ⟨Nat.le_of_ble_eq_true rfl, Nat.le_of_ble_eq_true rfl⟩ ⟨Nat.zero_le _, Nat.zero_le _⟩ rfl rfl (Nat.le_of_ble_eq_true rfl) 0 rfl vc6 rfl rfl rfl rfl (by decide) ?_
      refine sw_lor 79 G dX6_fits_79 ?_
      refine sw_land 80 G dX6_fits_80 ?_
      refine sw_lconst 81 G (0 : Int64) dX6_fits_81 rfl ?_
      refine sw_lcmp 82 G dX6_fits_82 ?_
      refine sw_if_ne 83 90 G dX6_fits_83 rfl hf (fun hf => ?_) (fun hf => ?_)
      · refine sw_iconst 90 G (0 : Int32) dX6_fits_90 rfl ?_
        cases hf
        exact sw_iret 91 G dX6_fits_91 K
      · refine sw_iconst 86 G (1 : Int32) dX6_fits_86 rfl ?_
        refine sw_goto 87 G 91 dX6_fits_87 rfl ?_
        cases hf
        exact sw_iret 91 G dX6_fits_91 K
  refine sw_lv [(0, .ref m0), (1, .long r1), (3, .long (0 : Int64)), (5, .int v4), (6, .int (0 : Int32))] [4, 3, 2, 1, 0] rfl ?_
  refine lp_walk (P := fun (t : Int64 × Int32) => sw Θ p e rmX6_fits s m args below meth c A Q 7 0 0 23 [(0, .ref m0), (1, .long r1), (3, .long t.1), (5, .int v4), (6, .int t.2)] [] (wX6 Θ m0 m1 m2 m3 m4 m5 m6 m7 m8 m9 m_now m_saved m_aside m_states m_quiet m_thrown m_tried m_best m_touching m_text m_length m_at m_verbs m_told m_commands)) hl (fun t23 y23 hf hin23 hex23 => ?_)
  obtain ⟨v8, v9⟩ := t23
  show sw Θ p e rmX6_fits s m args below meth c A Q 7 0 0 23 [(0, .ref m0), (1, .long r1), (3, .long v8), (5, .int v4), (6, .int v9)] [] (wX6 Θ m0 m1 m2 m3 m4 m5 m6 m7 m8 m9 m_now m_saved m_aside m_states m_quiet m_thrown m_tried m_best m_touching m_text m_length m_at m_verbs m_told m_commands)
  have hf := uc2_some (K := _) hf
  refine sw_iload 23 G dX6_fits_23 4 rfl ?_
  refine sw_iload 25 G dX6_fits_25 3 rfl ?_
  refine sw_icmp_ge 27 63 G dX6_fits_27 rfl hf (fun hf => ?_) (fun hf => ?_)
  · cases hf
    cases hex23 _ rfl
    exact sw_lv _ [0, 1, 2] rfl hx23_63
  · refine sw_lload_n 30 G dX6_fits_30 2 rfl ?_
    refine sw_lload_n 31 G dX6_fits_31 1 rfl ?_
    refine sw_iload 32 G dX6_fits_32 4 rfl ?_
    refine sw_lshr 34 G dX6_fits_34 ?_
    refine sw_lconst 35 G (1 : Int64) dX6_fits_35 rfl ?_
    refine sw_land 36 G dX6_fits_36 ?_
    refine sw_lconst 37 G (1 : Int64) dX6_fits_37 rfl ?_
    refine sw_lcmp 38 G dX6_fits_38 ?_
    obtain ⟨v10, hj, hf⟩ := bd1_some hf
    have hx55 : sw Θ p e rmX6_fits s m args below meth c A Q 7 0 0 55 [(0, .ref m0), (1, .long r1), (5, .int v4), (6, .int v9)] [.long v10, .long v8] (wX6 Θ m0 m1 m2 m3 m4 m5 m6 m7 m8 m9 m_now m_saved m_aside m_states m_quiet m_thrown m_tried m_best m_touching m_text m_length m_at m_verbs m_told m_commands) := by
      refine sw_lor 55 G dX6_fits_55 ?_
      refine sw_nml hf (fun v11 hf => ?_)
      refine sw_lstore_n 56 G [(3, .long v11), (0, .ref m0), (1, .long r1), (5, .int v4), (6, .int v9)] dX6_fits_56 (by decide) rfl ?_
      refine sw_iinc 57 G (v9 + (1 : Int32)) [(6, .int (v9 + (1 : Int32))), (3, .long v11), (0, .ref m0), (1, .long r1), (5, .int v4)] dX6_fits_57 4 rfl rfl (by decide) rfl ?_
      refine sw_goto 60 G 23 dX6_fits_60 rfl ?_
      cases hf
      have hb := hin23 _ rfl
      exact sw_lv _ [2, 3, 1, 4, 0] (by rfl) hb
    clear hf
    have hf := hj
    clear hj
    refine sw_if_ne 39 54 G dX6_fits_39 rfl hf (fun hf => ?_) (fun hf => ?_)
    · refine sw_lconst 54 G (0 : Int64) dX6_fits_54 rfl ?_
      cases hf
      exact sw_lv _ [0, 1, 3, 4] rfl hx55
    · refine sw_lconst 42 G (1 : Int64) dX6_fits_42 rfl ?_
      refine sw_iload 43 G dX6_fits_43 3 rfl ?_
      refine sw_iconst 45 G (1 : Int32) dX6_fits_45 rfl ?_
      refine sw_isub 46 G dX6_fits_46 ?_
      refine sw_iload 47 G dX6_fits_47 4 rfl ?_
      refine sw_isub 49 G dX6_fits_49 ?_
      refine sw_lshl 50 G dX6_fits_50 ?_
      refine sw_goto 51 G 55 dX6_fits_51 rfl ?_
      cases hf
      exact sw_lv _ [0, 1, 3, 4] rfl hx55
abbrev rmX6_fitsTwice : Room := { frames := 5, cells := 0, slots := 0, locals := 119 }
theorem hvX6_fitsTwice : yX6_fitsTwice.cls = RX6 ∧ yX6_fitsTwice.cls ≠ "java/lang/invoke/MethodHandle" ∧ yX6_fitsTwice.cls ≠ "java/lang/invoke/VarHandle" ∧ (parseMethodDescriptor yX6_fitsTwice.desc).map (fun d => d.parameters.length) = some 0 := by decide +kernel
set_option maxRecDepth 100000 in
set_option maxHeartbeats 4000000 in
theorem kX6_fitsTwice (Θ : Tht) (F : Nat) (m0 m1 m2 m3 m4 m5 m6 m7 m8 m9 : Nat) (m_now : Nat → Int64) (m_saved : Nat → Int64) (m_aside : Nat → Int64) (m_states : Int32) (m_quiet : Int32) (m_thrown : Int32) (m_tried : Nat → Int32) (m_best : Nat → Int32) (m_touching : Nat → Int32) (m_text : Nat → Int32) (m_length : Int32) (m_at : Int32) (m_verbs : Nat → Int32) (m_told : Nat → Int32) (m_commands : Int32) (ro : Int32) (o_m_thrown : Int32) (hf : fX6_fitsTwice F m_now = some (ro, o_m_thrown)) : Fn Θ yX6_fitsTwice (Cond.code yX6_fitsTwice cX6_fitsTwice 1 (some .int) :: GW) rmX6_fitsTwice [.ref m0] (wX6 Θ m0 m1 m2 m3 m4 m5 m6 m7 m8 m9 m_now m_saved m_aside m_states m_quiet m_thrown m_tried m_best m_touching m_text m_length m_at m_verbs m_told m_commands) (some (.int ro)) (wX6 Θ m0 m1 m2 m3 m4 m5 m6 m7 m8 m9 m_now m_saved m_aside m_states m_quiet o_m_thrown m_tried m_best m_touching m_text m_length m_at m_verbs m_told m_commands) := by
  delta fX6_fitsTwice at hf
  refine Fn.of (by decide +kernel) rfl (Nat.le_of_ble_eq_true rfl) (fun p e s m args below meth c A Q G K => ?_)
  show sw Θ p e rmX6_fitsTwice s m args below meth c A Q 1 0 0 0 [(0, .ref m0)] [] (wX6 Θ m0 m1 m2 m3 m4 m5 m6 m7 m8 m9 m_now m_saved m_aside m_states m_quiet m_thrown m_tried m_best m_touching m_text m_length m_at m_verbs m_told m_commands)
  refine sw_aload_n 0 G dX6_fitsTwice_0 0 rfl ?_
  refine sw_iconst 1 G (0 : Int32) dX6_fitsTwice_1 rfl ?_
  refine sw_put 2 G hnX6 tyX6_ok nmX6 0 5 (wX6 Θ m0 m1 m2 m3 m4 m5 m6 m7 m8 m9 m_now m_saved m_aside m_states m_quiet (0 : Int32) m_tried m_best m_touching m_text m_length m_at m_verbs m_told m_commands) dX6_fitsTwice_2 vc6 (by decide) (List.mem_cons_of_mem _ lk_fb3e5753) rfl rfl (Nat.le_of_ble_eq_true rfl) (tyX6_ok 5 (by decide)) rfl rfl rfl ?_
  refine sw_aload_n 5 G dX6_fitsTwice_5 0 rfl ?_
  obtain ⟨r1, hg, hf⟩ := bd1_some hf
  refine sw_callV 6 G (wX6 Θ m0 m1 m2 m3 m4 m5 m6 m7 m8 m9 m_now m_saved m_aside m_states m_quiet (0 : Int32) m_tried m_best m_touching m_text m_length m_at m_verbs m_told m_commands) [0, 1, 2, 3, 4, 5, 6, 7, 8, 9] [] [0, 1, 2, 3, 4, 5, 6, 7, 8, 9] 0 dX6_fitsTwice_6 (kX6_fits Θ F m0 m1 m2 m3 m4 m5 m6 m7 m8 m9 m_now m_saved m_aside m_states m_quiet (0 : Int32) m_tried m_best m_touching m_text m_length m_at m_verbs m_told m_commands r1 hg) (gwV lk_59b58236 lk_04e9490b lk_8cdcbfce lk_6d91b6d2 lk_b7a7c055) rfl hvX6_fits ⟨rfl, rfl⟩ ⟨Nat.le_of_ble_eq_true rfl, Nat.le_of_ble_eq_true rfl⟩ ⟨Nat.zero_le _, Nat.zero_le _⟩ rfl rfl (Nat.le_of_ble_eq_true rfl) 0 rfl vc6 rfl rfl rfl rfl (by decide) ?_
  cases hf
  exact sw_iret 9 G dX6_fitsTwice_9 K
abbrev rmX6_scrapOf : Room := { frames := 5, cells := 0, slots := 0, locals := 119 }
theorem hvX6_scrapOf : yX6_scrapOf.cls = RX6 ∧ yX6_scrapOf.cls ≠ "java/lang/invoke/MethodHandle" ∧ yX6_scrapOf.cls ≠ "java/lang/invoke/VarHandle" ∧ (parseMethodDescriptor yX6_scrapOf.desc).map (fun d => d.parameters.length) = some 1 := by decide +kernel
set_option maxRecDepth 100000 in
set_option maxHeartbeats 4000000 in
theorem kX6_scrapOf (Θ : Tht) (F : Nat) (m0 m1 m2 m3 m4 m5 m6 m7 m8 m9 : Nat) (m_now : Nat → Int64) (m_saved : Nat → Int64) (m_aside : Nat → Int64) (m_states : Int32) (m_quiet : Int32) (m_thrown : Int32) (m_tried : Nat → Int32) (m_best : Nat → Int32) (m_touching : Nat → Int32) (m_text : Nat → Int32) (m_length : Int32) (m_at : Int32) (m_verbs : Nat → Int32) (m_told : Nat → Int32) (m_commands : Int32) (a0 : Int32) (ro : Int32) (hf : fX6_scrapOf F m_now a0 = some ro) : Fn Θ yX6_scrapOf (Cond.code yX6_scrapOf cX6_scrapOf 4 (some .int) :: GW) rmX6_scrapOf [.ref m0, .int a0] (wX6 Θ m0 m1 m2 m3 m4 m5 m6 m7 m8 m9 m_now m_saved m_aside m_states m_quiet m_thrown m_tried m_best m_touching m_text m_length m_at m_verbs m_told m_commands) (some (.int ro)) (wX6 Θ m0 m1 m2 m3 m4 m5 m6 m7 m8 m9 m_now m_saved m_aside m_states m_quiet m_thrown m_tried m_best m_touching m_text m_length m_at m_verbs m_told m_commands) := by
  delta fX6_scrapOf at hf
  refine Fn.of (by decide +kernel) rfl (Nat.le_of_ble_eq_true rfl) (fun p e s m args below meth c A Q G K => ?_)
  show sw Θ p e rmX6_scrapOf s m args below meth c A Q 4 0 0 0 [(0, .ref m0), (1, .int a0)] [] (wX6 Θ m0 m1 m2 m3 m4 m5 m6 m7 m8 m9 m_now m_saved m_aside m_states m_quiet m_thrown m_tried m_best m_touching m_text m_length m_at m_verbs m_told m_commands)
  refine sw_aload_n 0 G dX6_scrapOf_0 0 rfl ?_
  refine sw_iconst 1 G (0 : Int32) dX6_scrapOf_1 rfl ?_
  obtain ⟨r1, hg, hf⟩ := bd1_some hf
  refine sw_callV 2 G (wX6 Θ m0 m1 m2 m3 m4 m5 m6 m7 m8 m9 m_now m_saved m_aside m_states m_quiet m_thrown m_tried m_best m_touching m_text m_length m_at m_verbs m_told m_commands) [0, 1, 2, 3, 4, 5, 6, 7, 8, 9] [] [0, 1, 2, 3, 4, 5, 6, 7, 8, 9] 1 dX6_scrapOf_2 (kX6_many Θ m0 m1 m2 m3 m4 m5 m6 m7 m8 m9 m_now m_saved m_aside m_states m_quiet m_thrown m_tried m_best m_touching m_text m_length m_at m_verbs m_told m_commands (0 : Int32) r1 hg) (gwV lk_184fe921 lk_d689724c lk_b095f72c lk_6d91b6d2 lk_d7f116ea) rfl hvX6_many ⟨rfl, rfl⟩ ⟨Nat.le_of_ble_eq_true rfl, Nat.le_of_ble_eq_true rfl⟩ ⟨Nat.zero_le _, Nat.zero_le _⟩ rfl rfl (Nat.le_of_ble_eq_true rfl) 0 rfl vc6 rfl rfl rfl rfl (by decide) ?_
  refine sw_aload_n 5 G dX6_scrapOf_5 0 rfl ?_
  refine sw_iconst 6 G (1 : Int32) dX6_scrapOf_6 rfl ?_
  obtain ⟨r2, hg, hf⟩ := bd1_some hf
  refine sw_callV 7 G (wX6 Θ m0 m1 m2 m3 m4 m5 m6 m7 m8 m9 m_now m_saved m_aside m_states m_quiet m_thrown m_tried m_best m_touching m_text m_length m_at m_verbs m_told m_commands) [0, 1, 2, 3, 4, 5, 6, 7, 8, 9] [] [0, 1, 2, 3, 4, 5, 6, 7, 8, 9] 1 dX6_scrapOf_7 (kX6_many Θ m0 m1 m2 m3 m4 m5 m6 m7 m8 m9 m_now m_saved m_aside m_states m_quiet m_thrown m_tried m_best m_touching m_text m_length m_at m_verbs m_told m_commands (1 : Int32) r2 hg) (gwV lk_184fe921 lk_d689724c lk_b095f72c lk_6d91b6d2 lk_d7f116ea) rfl hvX6_many ⟨rfl, rfl⟩ ⟨Nat.le_of_ble_eq_true rfl, Nat.le_of_ble_eq_true rfl⟩ ⟨Nat.zero_le _, Nat.zero_le _⟩ rfl rfl (Nat.le_of_ble_eq_true rfl) 0 rfl vc6 rfl rfl rfl rfl (by decide) ?_
  refine sw_imul 10 G dX6_scrapOf_10 ?_
  refine sw_nmi hf (fun v3 hf => ?_)
  refine sw_istore_n 11 G [(2, .int v3), (0, .ref m0), (1, .int a0)] dX6_scrapOf_11 (by decide) rfl ?_
  refine sw_iload_n 12 G dX6_scrapOf_12 2 rfl ?_
  obtain ⟨v4, hj, hf⟩ := bd1_some hf
  have hx43 : sw Θ p e rmX6_scrapOf s m args below meth c A Q 4 0 0 43 [(2, .int v3)] [.int v4] (wX6 Θ m0 m1 m2 m3 m4 m5 m6 m7 m8 m9 m_now m_saved m_aside m_states m_quiet m_thrown m_tried m_best m_touching m_text m_length m_at m_verbs m_told m_commands) := by
    refine sw_istore_n 43 G [(3, .int v4), (2, .int v3)] dX6_scrapOf_43 (by decide) rfl ?_
    refine sw_sipush 44 G (1000 : Int32) dX6_scrapOf_44 rfl ?_
    refine sw_iload_n 47 G dX6_scrapOf_47 1 rfl ?_
    refine sw_iload_n 48 G dX6_scrapOf_48 0 rfl ?_
    refine sw_isub 49 G dX6_scrapOf_49 ?_
    refine sw_imul 50 G dX6_scrapOf_50 ?_
    refine sw_iload_n 51 G dX6_scrapOf_51 1 rfl ?_
    refine sw_idiv 52 G dX6_scrapOf_52 hf (fun hf => ?_)
    cases hf
    exact sw_iret 53 G dX6_scrapOf_53 K
  clear hf
  have hf := hj
  clear hj
  refine sw_if_eq 13 36 G dX6_scrapOf_13 rfl hf (fun hf => ?_) (fun hf => ?_)
  · refine sw_aload_n 36 G dX6_scrapOf_36 1 rfl ?_
    obtain ⟨r5, hg, hf⟩ := bd1_some hf
    refine sw_callV 37 G (wX6 Θ m0 m1 m2 m3 m4 m5 m6 m7 m8 m9 m_now m_saved m_aside m_states m_quiet m_thrown m_tried m_best m_touching m_text m_length m_at m_verbs m_told m_commands) [0, 1, 2, 3, 4, 5, 6, 7, 8, 9] [] [0, 1, 2, 3, 4, 5, 6, 7, 8, 9] 0 dX6_scrapOf_37 (kX6_part Θ F m0 m1 m2 m3 m4 m5 m6 m7 m8 m9 m_now m_saved m_aside m_states m_quiet m_thrown m_tried m_best m_touching m_text m_length m_at m_verbs m_told m_commands r5 hg) (gwV lk_a7d29f13 lk_b5d5ac57 lk_bbe75992 lk_6d91b6d2 lk_b1193bad) rfl hvX6_part ⟨rfl, rfl⟩ ⟨Nat.le_of_ble_eq_true rfl, Nat.le_of_ble_eq_true rfl⟩ ⟨Nat.zero_le _, Nat.zero_le _⟩ rfl rfl (Nat.le_of_ble_eq_true rfl) 0 rfl vc6 rfl rfl rfl rfl (by decide) ?_
    obtain ⟨r6, hg, hf⟩ := bd1_some hf
    refine sw_callS 40 G (wX6 Θ m0 m1 m2 m3 m4 m5 m6 m7 m8 m9 m_now m_saved m_aside m_states m_quiet m_thrown m_tried m_best m_touching m_text m_length m_at m_verbs m_told m_commands) [] [0, 1, 2, 3, 4, 5, 6, 7, 8, 9] [0, 1, 2, 3, 4, 5, 6, 7, 8, 9] 1 dX6_scrapOf_40 (kX6_ones Θ F r5 r6 hg) (gwS lk_d2b42130 lk_66add976 lk_cff7b874 lk_9c72bac3) rfl hsX6_ones ⟨rfl, rfl⟩ ⟨Nat.le_of_ble_eq_true rfl, Nat.le_of_ble_eq_true rfl⟩ ⟨Nat.zero_le _, Nat.zero_le _⟩ rfl rfl (Nat.le_of_ble_eq_true rfl) rfl rfl rfl (by decide) ?_
    cases hf
    exact sw_lv _ [0] rfl hx43
  · refine sw_aload_n 16 G dX6_scrapOf_16 1 rfl ?_
    obtain ⟨r7, hg, hf⟩ := bd1_some hf
    refine sw_callV 17 G (wX6 Θ m0 m1 m2 m3 m4 m5 m6 m7 m8 m9 m_now m_saved m_aside m_states m_quiet m_thrown m_tried m_best m_touching m_text m_length m_at m_verbs m_told m_commands) [0, 1, 2, 3, 4, 5, 6, 7, 8, 9] [] [0, 1, 2, 3, 4, 5, 6, 7, 8, 9] 0 dX6_scrapOf_17 (kX6_fits Θ F m0 m1 m2 m3 m4 m5 m6 m7 m8 m9 m_now m_saved m_aside m_states m_quiet m_thrown m_tried m_best m_touching m_text m_length m_at m_verbs m_told m_commands r7 hg) (gwV lk_59b58236 lk_04e9490b lk_8cdcbfce lk_6d91b6d2 lk_b7a7c055) rfl hvX6_fits ⟨rfl, rfl⟩ ⟨Nat.le_of_ble_eq_true rfl, Nat.le_of_ble_eq_true rfl⟩ ⟨Nat.zero_le _, Nat.zero_le _⟩ rfl rfl (Nat.le_of_ble_eq_true rfl) 0 rfl vc6 rfl rfl rfl rfl (by decide) ?_
    refine sw_iconst 20 G (1 : Int32) dX6_scrapOf_20 rfl ?_
    refine sw_icmp_ne 21 36 G dX6_scrapOf_21 rfl hf (fun hf => ?_) (fun hf => ?_)
    · refine sw_aload_n 36 G dX6_scrapOf_36 1 rfl ?_
      obtain ⟨r8, hg, hf⟩ := bd1_some hf
      refine sw_callV 37 G (wX6 Θ m0 m1 m2 m3 m4 m5 m6 m7 m8 m9 m_now m_saved m_aside m_states m_quiet m_thrown m_tried m_best m_touching m_text m_length m_at m_verbs m_told m_commands) [0, 1, 2, 3, 4, 5, 6, 7, 8, 9] [] [0, 1, 2, 3, 4, 5, 6, 7, 8, 9] 0 dX6_scrapOf_37 (kX6_part Θ F m0 m1 m2 m3 m4 m5 m6 m7 m8 m9 m_now m_saved m_aside m_states m_quiet m_thrown m_tried m_best m_touching m_text m_length m_at m_verbs m_told m_commands r8 hg) (gwV lk_a7d29f13 lk_b5d5ac57 lk_bbe75992 lk_6d91b6d2 lk_b1193bad) rfl hvX6_part ⟨rfl, rfl⟩ ⟨Nat.le_of_ble_eq_true rfl, Nat.le_of_ble_eq_true rfl⟩ ⟨Nat.zero_le _, Nat.zero_le _⟩ rfl rfl (Nat.le_of_ble_eq_true rfl) 0 rfl vc6 rfl rfl rfl rfl (by decide) ?_
      obtain ⟨r9, hg, hf⟩ := bd1_some hf
      refine sw_callS 40 G (wX6 Θ m0 m1 m2 m3 m4 m5 m6 m7 m8 m9 m_now m_saved m_aside m_states m_quiet m_thrown m_tried m_best m_touching m_text m_length m_at m_verbs m_told m_commands) [] [0, 1, 2, 3, 4, 5, 6, 7, 8, 9] [0, 1, 2, 3, 4, 5, 6, 7, 8, 9] 1 dX6_scrapOf_40 (kX6_ones Θ F r8 r9 hg) (gwS lk_d2b42130 lk_66add976 lk_cff7b874 lk_9c72bac3) rfl hsX6_ones ⟨rfl, rfl⟩ ⟨Nat.le_of_ble_eq_true rfl, Nat.le_of_ble_eq_true rfl⟩ ⟨Nat.zero_le _, Nat.zero_le _⟩ rfl rfl (Nat.le_of_ble_eq_true rfl) rfl rfl rfl (by decide) ?_
      cases hf
      exact sw_lv _ [0] rfl hx43
    · refine sw_iconst 24 G (2 : Int32) dX6_scrapOf_24 rfl ?_
      refine sw_aload_n 25 G dX6_scrapOf_25 1 rfl ?_
      obtain ⟨r10, hg, hf⟩ := bd1_some hf
      refine sw_callV 26 G (wX6 Θ m0 m1 m2 m3 m4 m5 m6 m7 m8 m9 m_now m_saved m_aside m_states m_quiet m_thrown m_tried m_best m_touching m_text m_length m_at m_verbs m_told m_commands) [0, 1, 2, 3, 4, 5, 6, 7, 8, 9] [] [0, 1, 2, 3, 4, 5, 6, 7, 8, 9] 0 dX6_scrapOf_26 (kX6_part Θ F m0 m1 m2 m3 m4 m5 m6 m7 m8 m9 m_now m_saved m_aside m_states m_quiet m_thrown m_tried m_best m_touching m_text m_length m_at m_verbs m_told m_commands r10 hg) (gwV lk_a7d29f13 lk_b5d5ac57 lk_bbe75992 lk_6d91b6d2 lk_b1193bad) rfl hvX6_part ⟨rfl, rfl⟩ ⟨Nat.le_of_ble_eq_true rfl, Nat.le_of_ble_eq_true rfl⟩ ⟨Nat.zero_le _, Nat.zero_le _⟩ rfl rfl (Nat.le_of_ble_eq_true rfl) 0 rfl vc6 rfl rfl rfl rfl (by decide) ?_
      obtain ⟨r11, hg, hf⟩ := bd1_some hf
      refine sw_callS 29 G (wX6 Θ m0 m1 m2 m3 m4 m5 m6 m7 m8 m9 m_now m_saved m_aside m_states m_quiet m_thrown m_tried m_best m_touching m_text m_length m_at m_verbs m_told m_commands) [] [0, 1, 2, 3, 4, 5, 6, 7, 8, 9] [0, 1, 2, 3, 4, 5, 6, 7, 8, 9] 1 dX6_scrapOf_29 (kX6_ones Θ F r10 r11 hg) (gwS lk_d2b42130 lk_66add976 lk_cff7b874 lk_9c72bac3) rfl hsX6_ones ⟨rfl, rfl⟩ ⟨Nat.le_of_ble_eq_true rfl, Nat.le_of_ble_eq_true rfl⟩ ⟨Nat.zero_le _, Nat.zero_le _⟩ rfl rfl (Nat.le_of_ble_eq_true rfl) rfl rfl rfl (by decide) ?_
      refine sw_imul 32 G dX6_scrapOf_32 ?_
      refine sw_goto 33 G 43 dX6_scrapOf_33 rfl ?_
      cases hf
      exact sw_lv _ [0] rfl hx43
abbrev rmX6_scrap : Room := { frames := 6, cells := 0, slots := 0, locals := 142 }
theorem hvX6_scrap : yX6_scrap.cls = RX6 ∧ yX6_scrap.cls ≠ "java/lang/invoke/MethodHandle" ∧ yX6_scrap.cls ≠ "java/lang/invoke/VarHandle" ∧ (parseMethodDescriptor yX6_scrap.desc).map (fun d => d.parameters.length) = some 1 := by decide +kernel
set_option maxRecDepth 100000 in
set_option maxHeartbeats 4000000 in
theorem kX6_scrap (Θ : Tht) (F : Nat) (m0 m1 m2 m3 m4 m5 m6 m7 m8 m9 : Nat) (m_now : Nat → Int64) (m_saved : Nat → Int64) (m_aside : Nat → Int64) (m_states : Int32) (m_quiet : Int32) (m_thrown : Int32) (m_tried : Nat → Int32) (m_best : Nat → Int32) (m_touching : Nat → Int32) (m_text : Nat → Int32) (m_length : Int32) (m_at : Int32) (m_verbs : Nat → Int32) (m_told : Nat → Int32) (m_commands : Int32) (a0 : Int32) (ro : Int32) (o_m_thrown : Int32) (hf : fX6_scrap F m_now a0 = some (ro, o_m_thrown)) : Fn Θ yX6_scrap (Cond.code yX6_scrap cX6_scrap 2 (some .int) :: GW) rmX6_scrap [.ref m0, .int a0] (wX6 Θ m0 m1 m2 m3 m4 m5 m6 m7 m8 m9 m_now m_saved m_aside m_states m_quiet m_thrown m_tried m_best m_touching m_text m_length m_at m_verbs m_told m_commands) (some (.int ro)) (wX6 Θ m0 m1 m2 m3 m4 m5 m6 m7 m8 m9 m_now m_saved m_aside m_states m_quiet o_m_thrown m_tried m_best m_touching m_text m_length m_at m_verbs m_told m_commands) := by
  delta fX6_scrap at hf
  refine Fn.of (by decide +kernel) rfl (Nat.le_of_ble_eq_true rfl) (fun p e s m args below meth c A Q G K => ?_)
  show sw Θ p e rmX6_scrap s m args below meth c A Q 2 0 0 0 [(0, .ref m0), (1, .int a0)] [] (wX6 Θ m0 m1 m2 m3 m4 m5 m6 m7 m8 m9 m_now m_saved m_aside m_states m_quiet m_thrown m_tried m_best m_touching m_text m_length m_at m_verbs m_told m_commands)
  refine sw_aload_n 0 G dX6_scrap_0 0 rfl ?_
  refine sw_iconst 1 G (0 : Int32) dX6_scrap_1 rfl ?_
  refine sw_put 2 G hnX6 tyX6_ok nmX6 0 5 (wX6 Θ m0 m1 m2 m3 m4 m5 m6 m7 m8 m9 m_now m_saved m_aside m_states m_quiet (0 : Int32) m_tried m_best m_touching m_text m_length m_at m_verbs m_told m_commands) dX6_scrap_2 vc6 (by decide) (List.mem_cons_of_mem _ lk_fb3e5753) rfl rfl (Nat.le_of_ble_eq_true rfl) (tyX6_ok 5 (by decide)) rfl rfl rfl ?_
  refine sw_aload_n 5 G dX6_scrap_5 0 rfl ?_
  refine sw_iload_n 6 G dX6_scrap_6 1 rfl ?_
  obtain ⟨r1, hg, hf⟩ := bd1_some hf
  refine sw_callV 7 G (wX6 Θ m0 m1 m2 m3 m4 m5 m6 m7 m8 m9 m_now m_saved m_aside m_states m_quiet (0 : Int32) m_tried m_best m_touching m_text m_length m_at m_verbs m_told m_commands) [0, 1, 2, 3, 4, 5, 6, 7, 8, 9] [] [0, 1, 2, 3, 4, 5, 6, 7, 8, 9] 1 dX6_scrap_7 (kX6_scrapOf Θ F m0 m1 m2 m3 m4 m5 m6 m7 m8 m9 m_now m_saved m_aside m_states m_quiet (0 : Int32) m_tried m_best m_touching m_text m_length m_at m_verbs m_told m_commands a0 r1 hg) (gwV lk_02f97e93 lk_2c8d7153 lk_969add80 lk_6d91b6d2 lk_306b7792) rfl hvX6_scrapOf ⟨rfl, rfl⟩ ⟨Nat.le_of_ble_eq_true rfl, Nat.le_of_ble_eq_true rfl⟩ ⟨Nat.zero_le _, Nat.zero_le _⟩ rfl rfl (Nat.le_of_ble_eq_true rfl) 0 rfl vc6 rfl rfl rfl rfl (by decide) ?_
  cases hf
  exact sw_iret 10 G dX6_scrap_10 K
abbrev rmX6_strokesToGood : Room := { frames := 7, cells := 0, slots := 0, locals := 167 }
theorem hvX6_strokesToGood : yX6_strokesToGood.cls = RX6 ∧ yX6_strokesToGood.cls ≠ "java/lang/invoke/MethodHandle" ∧ yX6_strokesToGood.cls ≠ "java/lang/invoke/VarHandle" ∧ (parseMethodDescriptor yX6_strokesToGood.desc).map (fun d => d.parameters.length) = some 0 := by decide +kernel
set_option maxRecDepth 100000 in
set_option maxHeartbeats 4000000 in
theorem kX6_strokesToGood (Θ : Tht) (F : Nat) (m0 m1 m2 m3 m4 m5 m6 m7 m8 m9 : Nat) (m_now : Nat → Int64) (m_saved : Nat → Int64) (m_aside : Nat → Int64) (m_states : Int32) (m_quiet : Int32) (m_thrown : Int32) (m_tried : Nat → Int32) (m_best : Nat → Int32) (m_touching : Nat → Int32) (m_text : Nat → Int32) (m_length : Int32) (m_at : Int32) (m_verbs : Nat → Int32) (m_told : Nat → Int32) (m_commands : Int32) (ro : Int32) (o_m_now : Nat → Int64) (o_m_aside : Nat → Int64) (o_m_thrown : Int32) (hf : fX6_strokesToGood F m_now m_aside = some (ro, o_m_now, o_m_aside, o_m_thrown)) : Fn Θ yX6_strokesToGood (Cond.code yX6_strokesToGood cX6_strokesToGood 3 (some .int) :: GW) rmX6_strokesToGood [.ref m0] (wX6 Θ m0 m1 m2 m3 m4 m5 m6 m7 m8 m9 m_now m_saved m_aside m_states m_quiet m_thrown m_tried m_best m_touching m_text m_length m_at m_verbs m_told m_commands) (some (.int ro)) (wX6 Θ m0 m1 m2 m3 m4 m5 m6 m7 m8 m9 o_m_now m_saved o_m_aside m_states m_quiet o_m_thrown m_tried m_best m_touching m_text m_length m_at m_verbs m_told m_commands) := by
  delta fX6_strokesToGood at hf
  refine Fn.of (by decide +kernel) rfl (Nat.le_of_ble_eq_true rfl) (fun p e s m args below meth c A Q G K => ?_)
  show sw Θ p e rmX6_strokesToGood s m args below meth c A Q 3 0 0 0 [(0, .ref m0)] [] (wX6 Θ m0 m1 m2 m3 m4 m5 m6 m7 m8 m9 m_now m_saved m_aside m_states m_quiet m_thrown m_tried m_best m_touching m_text m_length m_at m_verbs m_told m_commands)
  refine sw_aload_n 0 G dX6_strokesToGood_0 0 rfl ?_
  refine sw_iconst 1 G (0 : Int32) dX6_strokesToGood_1 rfl ?_
  refine sw_put 2 G hnX6 tyX6_ok nmX6 0 5 (wX6 Θ m0 m1 m2 m3 m4 m5 m6 m7 m8 m9 m_now m_saved m_aside m_states m_quiet (0 : Int32) m_tried m_best m_touching m_text m_length m_at m_verbs m_told m_commands) dX6_strokesToGood_2 vc6 (by decide) (List.mem_cons_of_mem _ lk_fb3e5753) rfl rfl (Nat.le_of_ble_eq_true rfl) (tyX6_ok 5 (by decide)) rfl rfl rfl ?_
  refine sw_iconst 5 G (0 : Int32) dX6_strokesToGood_5 rfl ?_
  refine sw_istore_n 6 G [(1, .int (0 : Int32)), (0, .ref m0)] dX6_strokesToGood_6 (by decide) rfl ?_
  obtain ⟨v1, hl, hf⟩ := bd1_some hf
  have hx7_31 : sw Θ p e rmX6_strokesToGood s m args below meth c A Q 3 0 0 31 [(0, .ref m0)] [] (wX6 Θ m0 m1 m2 m3 m4 m5 m6 m7 m8 m9 m_now m_saved v1 m_states m_quiet (0 : Int32) m_tried m_best m_touching m_text m_length m_at m_verbs m_told m_commands) := by
    refine sw_iconst 31 G (-1 : Int32) dX6_strokesToGood_31 rfl ?_
    refine sw_istore_n 32 G [(1, .int (-1 : Int32)), (0, .ref m0)] dX6_strokesToGood_32 (by decide) rfl ?_
    refine sw_iconst 33 G (1 : Int32) dX6_strokesToGood_33 rfl ?_
    refine sw_istore_n 34 G [(2, .int (1 : Int32)), (1, .int (-1 : Int32)), (0, .ref m0)] dX6_strokesToGood_34 (by decide) rfl ?_
    obtain ⟨v2, v3, hl, hf⟩ := bd2_some hf
    have hx35_81 : sw Θ p e rmX6_strokesToGood s m args below meth c A Q 3 0 0 81 [(0, .ref m0), (1, .int v2)] [] (wX6 Θ m0 m1 m2 m3 m4 m5 m6 m7 m8 m9 v3 m_saved v1 m_states m_quiet (0 : Int32) m_tried m_best m_touching m_text m_length m_at m_verbs m_told m_commands) := by
      refine sw_iconst 81 G (0 : Int32) dX6_strokesToGood_81 rfl ?_
      refine sw_istore_n 82 G [(2, .int (0 : Int32)), (0, .ref m0), (1, .int v2)] dX6_strokesToGood_82 (by decide) rfl ?_
      obtain ⟨v4, hl, hf⟩ := bd1_some hf
      have hx83_107 : sw Θ p e rmX6_strokesToGood s m args below meth c A Q 3 0 0 107 [(1, .int v2)] [] (wX6 Θ m0 m1 m2 m3 m4 m5 m6 m7 m8 m9 v4 m_saved v1 m_states m_quiet (0 : Int32) m_tried m_best m_touching m_text m_length m_at m_verbs m_told m_commands) := by
        refine sw_iload_n 107 G dX6_strokesToGood_107 0 rfl ?_
        cases hf
        exact sw_iret 108 G dX6_strokesToGood_108 K
      refine sw_lv [(0, .ref m0), (1, .int v2), (2, .int (0 : Int32))] [1, 2, 0] rfl ?_
      refine lp_walk (P := fun (t : Int32 × (Nat → Int64)) => sw Θ p e rmX6_strokesToGood s m args below meth c A Q 3 0 0 83 [(0, .ref m0), (1, .int v2), (2, .int t.1)] [] (wX6 Θ m0 m1 m2 m3 m4 m5 m6 m7 m8 m9 t.2 m_saved v1 m_states m_quiet (0 : Int32) m_tried m_best m_touching m_text m_length m_at m_verbs m_told m_commands)) hl (fun t83 y83 hf hin83 hex83 => ?_)
      obtain ⟨v5, v6⟩ := t83
      show sw Θ p e rmX6_strokesToGood s m args below meth c A Q 3 0 0 83 [(0, .ref m0), (1, .int v2), (2, .int v5)] [] (wX6 Θ m0 m1 m2 m3 m4 m5 m6 m7 m8 m9 v6 m_saved v1 m_states m_quiet (0 : Int32) m_tried m_best m_touching m_text m_length m_at m_verbs m_told m_commands)
      have hf := uc2_some (K := _) hf
      refine sw_iload_n 83 G dX6_strokesToGood_83 2 rfl ?_
      refine sw_bipush 84 G (100 : Int32) dX6_strokesToGood_84 rfl ?_
      refine sw_icmp_ge 86 107 G dX6_strokesToGood_86 rfl hf (fun hf => ?_) (fun hf => ?_)
      · cases hf
        cases hex83 _ rfl
        exact sw_lv _ [1] rfl hx83_107
      · refine sw_aload_n 89 G dX6_strokesToGood_89 0 rfl ?_
        refine sw_get 90 G hnX6 0 0 dX6_strokesToGood_90 vc6 (by decide) (List.mem_cons_of_mem _ lk_54e63fd8) rfl rfl ?_
        refine sw_iload_n 93 G dX6_strokesToGood_93 2 rfl ?_
        refine sw_aload_n 94 G dX6_strokesToGood_94 0 rfl ?_
        refine sw_get 95 G hnX6 0 2 dX6_strokesToGood_95 vc6 (by decide) (List.mem_cons_of_mem _ lk_7178d1a8) rfl rfl ?_
        refine sw_iload_n 98 G dX6_strokesToGood_98 2 rfl ?_
        refine sw_lald 99 G 3 dX6_strokesToGood_99 rfl hf (fun hf => ?_)
        refine sw_nml hf (fun v7 hf => ?_)
        refine sw_last 100 G 1 (wX6 Θ m0 m1 m2 m3 m4 m5 m6 m7 m8 m9 (vp_updL v6 v5.toNatClampNeg v7) m_saved v1 m_states m_quiet (0 : Int32) m_tried m_best m_touching m_text m_length m_at m_verbs m_told m_commands) dX6_strokesToGood_100 rfl rfl hf (fun hf => ?_)
        refine sw_iinc 101 G (v5 + (1 : Int32)) [(2, .int (v5 + (1 : Int32))), (0, .ref m0), (1, .int v2)] dX6_strokesToGood_101 2 rfl rfl (by decide) rfl ?_
        refine sw_goto 104 G 83 dX6_strokesToGood_104 rfl ?_
        cases hf
        have hb := hin83 _ rfl
        exact sw_lv _ [1, 2, 0] (by rfl) hb
    refine sw_lv [(0, .ref m0), (1, .int (-1 : Int32)), (2, .int (1 : Int32))] [2, 1, 0] rfl ?_
    refine lp_walk (P := fun (t : Int32 × Int32 × (Nat → Int64)) => sw Θ p e rmX6_strokesToGood s m args below meth c A Q 3 0 0 35 [(0, .ref m0), (1, .int t.1), (2, .int t.2.1)] [] (wX6 Θ m0 m1 m2 m3 m4 m5 m6 m7 m8 m9 t.2.2 m_saved v1 m_states m_quiet (0 : Int32) m_tried m_best m_touching m_text m_length m_at m_verbs m_told m_commands)) hl (fun t35 y35 hf hin35 hex35 => ?_)
    obtain ⟨v8, v9, v10⟩ := t35
    show sw Θ p e rmX6_strokesToGood s m args below meth c A Q 3 0 0 35 [(0, .ref m0), (1, .int v8), (2, .int v9)] [] (wX6 Θ m0 m1 m2 m3 m4 m5 m6 m7 m8 m9 v10 m_saved v1 m_states m_quiet (0 : Int32) m_tried m_best m_touching m_text m_length m_at m_verbs m_told m_commands)
    have hf := uc3_some (K := _) hf
    refine sw_iload_n 35 G dX6_strokesToGood_35 2 rfl ?_
    refine sw_bipush 36 G (60 : Int32) dX6_strokesToGood_36 rfl ?_
    refine sw_icmp_gt 38 81 G dX6_strokesToGood_38 rfl hf (fun hf => ?_) (fun hf => ?_)
    · cases hf
      cases hex35 _ rfl
      exact sw_lv _ [0, 1] rfl hx35_81
    · refine sw_iload_n 41 G dX6_strokesToGood_41 1 rfl ?_
      refine sw_iconst 42 G (-1 : Int32) dX6_strokesToGood_42 rfl ?_
      refine sw_icmp_ne 43 81 G dX6_strokesToGood_43 rfl hf (fun hf => ?_) (fun hf => ?_)
      · cases hf
        cases hex35 _ rfl
        exact sw_lv _ [0, 1] rfl hx35_81
      · refine sw_aload_n 46 G dX6_strokesToGood_46 0 rfl ?_
        obtain ⟨r11, u12, hg, hf⟩ := bd2_some hf
        refine sw_callV 47 G (wX6 Θ m0 m1 m2 m3 m4 m5 m6 m7 m8 m9 u12 m_saved v1 m_states m_quiet (0 : Int32) m_tried m_best m_touching m_text m_length m_at m_verbs m_told m_commands) [0, 1, 2, 3, 4, 5, 6, 7, 8, 9] [] [0, 1, 2, 3, 4, 5, 6, 7, 8, 9] 0 dX6_strokesToGood_47 (kX6_strokes Θ F m0 m1 m2 m3 m4 m5 m6 m7 m8 m9 v10 m_saved v1 m_states m_quiet (0 : Int32) m_tried m_best m_touching m_text m_length m_at m_verbs m_told m_commands r11 u12 hg) (gwV lk_79291226 lk_bdb844a0 lk_c7616fdd lk_6d91b6d2 lk_fcbb8659) rfl hvX6_strokes ⟨rfl, rfl⟩ ⟨Nat.le_of_ble_eq_true rfl, Nat.le_of_ble_eq_true rfl⟩ ⟨Nat.zero_le _, Nat.zero_le _⟩ rfl rfl (Nat.le_of_ble_eq_true rfl) 0 rfl vc6 rfl rfl rfl rfl (by decide) ?_
        refine sw_pop 50 G dX6_strokesToGood_50 rfl ?_
        refine sw_aload_n 51 G dX6_strokesToGood_51 0 rfl ?_
        refine sw_get 52 G hnX6 0 0 dX6_strokesToGood_52 vc6 (by decide) (List.mem_cons_of_mem _ lk_54e63fd8) rfl rfl ?_
        refine sw_bipush 55 G (10 : Int32) dX6_strokesToGood_55 rfl ?_
        refine sw_lald 57 G 1 dX6_strokesToGood_57 rfl hf (fun hf => ?_)
        refine sw_aload_n 58 G dX6_strokesToGood_58 0 rfl ?_
        refine sw_get 59 G hnX6 0 2 dX6_strokesToGood_59 vc6 (by decide) (List.mem_cons_of_mem _ lk_7178d1a8) rfl rfl ?_
        refine sw_bipush 62 G (10 : Int32) dX6_strokesToGood_62 rfl ?_
        refine sw_lald 64 G 3 dX6_strokesToGood_64 rfl hf (fun hf => ?_)
        refine sw_lcmp 65 G dX6_strokesToGood_65 ?_
        obtain ⟨v13, hj, hf⟩ := bd1_some hf
        have hx74 : sw Θ p e rmX6_strokesToGood s m args below meth c A Q 3 0 0 74 [(0, .ref m0), (2, .int v9)] [.int v13] (wX6 Θ m0 m1 m2 m3 m4 m5 m6 m7 m8 m9 u12 m_saved v1 m_states m_quiet (0 : Int32) m_tried m_best m_touching m_text m_length m_at m_verbs m_told m_commands) := by
          refine sw_istore_n 74 G [(1, .int v13), (0, .ref m0), (2, .int v9)] dX6_strokesToGood_74 (by decide) rfl ?_
          refine sw_iinc 75 G (v9 + (1 : Int32)) [(2, .int (v9 + (1 : Int32))), (1, .int v13), (0, .ref m0)] dX6_strokesToGood_75 2 rfl rfl (by decide) rfl ?_
          refine sw_goto 78 G 35 dX6_strokesToGood_78 rfl ?_
          cases hf
          have hb := hin35 _ rfl
          exact sw_lv _ [2, 1, 0] (by rfl) hb
        clear hf
        have hf := hj
        clear hj
        refine sw_if_le 66 73 G dX6_strokesToGood_66 rfl hf (fun hf => ?_) (fun hf => ?_)
        · refine sw_iconst 73 G (-1 : Int32) dX6_strokesToGood_73 rfl ?_
          cases hf
          exact sw_lv _ [0, 2] rfl hx74
        · refine sw_iload_n 69 G dX6_strokesToGood_69 2 rfl ?_
          refine sw_goto 70 G 74 dX6_strokesToGood_70 rfl ?_
          cases hf
          exact sw_lv _ [0, 2] rfl hx74
  refine sw_lv [(0, .ref m0), (1, .int (0 : Int32))] [1, 0] rfl ?_
  refine lp_walk (P := fun (t : Int32 × (Nat → Int64)) => sw Θ p e rmX6_strokesToGood s m args below meth c A Q 3 0 0 7 [(0, .ref m0), (1, .int t.1)] [] (wX6 Θ m0 m1 m2 m3 m4 m5 m6 m7 m8 m9 m_now m_saved t.2 m_states m_quiet (0 : Int32) m_tried m_best m_touching m_text m_length m_at m_verbs m_told m_commands)) hl (fun t7 y7 hf hin7 hex7 => ?_)
  obtain ⟨v14, v15⟩ := t7
  show sw Θ p e rmX6_strokesToGood s m args below meth c A Q 3 0 0 7 [(0, .ref m0), (1, .int v14)] [] (wX6 Θ m0 m1 m2 m3 m4 m5 m6 m7 m8 m9 m_now m_saved v15 m_states m_quiet (0 : Int32) m_tried m_best m_touching m_text m_length m_at m_verbs m_told m_commands)
  have hf := uc2_some (K := _) hf
  refine sw_iload_n 7 G dX6_strokesToGood_7 1 rfl ?_
  refine sw_bipush 8 G (100 : Int32) dX6_strokesToGood_8 rfl ?_
  refine sw_icmp_ge 10 31 G dX6_strokesToGood_10 rfl hf (fun hf => ?_) (fun hf => ?_)
  · cases hf
    cases hex7 _ rfl
    exact sw_lv _ [0] rfl hx7_31
  · refine sw_aload_n 13 G dX6_strokesToGood_13 0 rfl ?_
    refine sw_get 14 G hnX6 0 2 dX6_strokesToGood_14 vc6 (by decide) (List.mem_cons_of_mem _ lk_7178d1a8) rfl rfl ?_
    refine sw_iload_n 17 G dX6_strokesToGood_17 1 rfl ?_
    refine sw_aload_n 18 G dX6_strokesToGood_18 0 rfl ?_
    refine sw_get 19 G hnX6 0 0 dX6_strokesToGood_19 vc6 (by decide) (List.mem_cons_of_mem _ lk_54e63fd8) rfl rfl ?_
    refine sw_iload_n 22 G dX6_strokesToGood_22 1 rfl ?_
    refine sw_lald 23 G 1 dX6_strokesToGood_23 rfl hf (fun hf => ?_)
    refine sw_nml hf (fun v16 hf => ?_)
    refine sw_last 24 G 3 (wX6 Θ m0 m1 m2 m3 m4 m5 m6 m7 m8 m9 m_now m_saved (vp_updL v15 v14.toNatClampNeg v16) m_states m_quiet (0 : Int32) m_tried m_best m_touching m_text m_length m_at m_verbs m_told m_commands) dX6_strokesToGood_24 rfl rfl hf (fun hf => ?_)
    refine sw_iinc 25 G (v14 + (1 : Int32)) [(1, .int (v14 + (1 : Int32))), (0, .ref m0)] dX6_strokesToGood_25 1 rfl rfl (by decide) rfl ?_
    refine sw_goto 28 G 7 dX6_strokesToGood_28 rfl ?_
    cases hf
    have hb := hin7 _ rfl
    exact sw_lv _ [1, 0] (by rfl) hb
abbrev rmX6_type : Room := { frames := 1, cells := 0, slots := 0, locals := 22 }
theorem hvX6_type : yX6_type.cls = RX6 ∧ yX6_type.cls ≠ "java/lang/invoke/MethodHandle" ∧ yX6_type.cls ≠ "java/lang/invoke/VarHandle" ∧ (parseMethodDescriptor yX6_type.desc).map (fun d => d.parameters.length) = some 1 := by decide +kernel
set_option maxRecDepth 100000 in
set_option maxHeartbeats 4000000 in
theorem kX6_type (Θ : Tht) (m0 m1 m2 m3 m4 m5 m6 m7 m8 m9 : Nat) (m_now : Nat → Int64) (m_saved : Nat → Int64) (m_aside : Nat → Int64) (m_states : Int32) (m_quiet : Int32) (m_thrown : Int32) (m_tried : Nat → Int32) (m_best : Nat → Int32) (m_touching : Nat → Int32) (m_text : Nat → Int32) (m_length : Int32) (m_at : Int32) (m_verbs : Nat → Int32) (m_told : Nat → Int32) (m_commands : Int32) (a0 : Int32) (ro : Int32) (o_m_thrown : Int32) (o_m_text : Nat → Int32) (o_m_length : Int32) (hf : fX6_type m_text m_length a0 = some (ro, o_m_thrown, o_m_text, o_m_length)) : Fn Θ yX6_type (Cond.code yX6_type cX6_type 2 (some .int) :: GW) rmX6_type [.ref m0, .int a0] (wX6 Θ m0 m1 m2 m3 m4 m5 m6 m7 m8 m9 m_now m_saved m_aside m_states m_quiet m_thrown m_tried m_best m_touching m_text m_length m_at m_verbs m_told m_commands) (some (.int ro)) (wX6 Θ m0 m1 m2 m3 m4 m5 m6 m7 m8 m9 m_now m_saved m_aside m_states m_quiet o_m_thrown m_tried m_best m_touching o_m_text o_m_length m_at m_verbs m_told m_commands) := by
  delta fX6_type at hf
  refine Fn.of (by decide +kernel) rfl (Nat.le_of_ble_eq_true rfl) (fun p e s m args below meth c A Q G K => ?_)
  show sw Θ p e rmX6_type s m args below meth c A Q 2 0 0 0 [(0, .ref m0), (1, .int a0)] [] (wX6 Θ m0 m1 m2 m3 m4 m5 m6 m7 m8 m9 m_now m_saved m_aside m_states m_quiet m_thrown m_tried m_best m_touching m_text m_length m_at m_verbs m_told m_commands)
  refine sw_aload_n 0 G dX6_type_0 0 rfl ?_
  refine sw_iconst 1 G (0 : Int32) dX6_type_1 rfl ?_
  refine sw_put 2 G hnX6 tyX6_ok nmX6 0 5 (wX6 Θ m0 m1 m2 m3 m4 m5 m6 m7 m8 m9 m_now m_saved m_aside m_states m_quiet (0 : Int32) m_tried m_best m_touching m_text m_length m_at m_verbs m_told m_commands) dX6_type_2 vc6 (by decide) (List.mem_cons_of_mem _ lk_fb3e5753) rfl rfl (Nat.le_of_ble_eq_true rfl) (tyX6_ok 5 (by decide)) rfl rfl rfl ?_
  refine sw_iload_n 5 G dX6_type_5 1 rfl ?_
  refine sw_iconst 6 G (0 : Int32) dX6_type_6 rfl ?_
  refine sw_bipush 7 G (127 : Int32) dX6_type_7 rfl ?_
  obtain ⟨r1, hg, hf⟩ := bd1_some hf
  refine sw_callS 9 G (wX6 Θ m0 m1 m2 m3 m4 m5 m6 m7 m8 m9 m_now m_saved m_aside m_states m_quiet (0 : Int32) m_tried m_best m_touching m_text m_length m_at m_verbs m_told m_commands) [] [0, 1, 2, 3, 4, 5, 6, 7, 8, 9] [0, 1, 2, 3, 4, 5, 6, 7, 8, 9] 3 dX6_type_9 (kX6_in Θ a0 (0 : Int32) (127 : Int32) r1 hg) (gwS lk_739e9842 lk_9ad51b2c lk_59eba9b0 lk_5ad5c33d) rfl hsX6_in ⟨rfl, rfl⟩ ⟨Nat.le_of_ble_eq_true rfl, Nat.le_of_ble_eq_true rfl⟩ ⟨Nat.zero_le _, Nat.zero_le _⟩ rfl rfl (Nat.le_of_ble_eq_true rfl) rfl rfl rfl (by decide) ?_
  refine sw_if_ne 12 21 G dX6_type_12 rfl hf (fun hf => ?_) (fun hf => ?_)
  · refine sw_aload_n 21 G dX6_type_21 0 rfl ?_
    refine sw_get 22 G hnX6 0 10 dX6_type_22 vc6 (by decide) (List.mem_cons_of_mem _ lk_26b769ba) rfl rfl ?_
    refine sw_sipush 25 G (150 : Int32) dX6_type_25 rfl ?_
    refine sw_icmp_ne 28 37 G dX6_type_28 rfl hf (fun hf => ?_) (fun hf => ?_)
    · refine sw_aload_n 37 G dX6_type_37 0 rfl ?_
      refine sw_get 38 G hnX6 0 9 dX6_type_38 vc6 (by decide) (List.mem_cons_of_mem _ lk_3bfcc6a0) rfl rfl ?_
      refine sw_aload_n 41 G dX6_type_41 0 rfl ?_
      refine sw_get 42 G hnX6 0 10 dX6_type_42 vc6 (by decide) (List.mem_cons_of_mem _ lk_26b769ba) rfl rfl ?_
      refine sw_iload_n 45 G dX6_type_45 1 rfl ?_
      refine sw_iast 46 G 7 (wX6 Θ m0 m1 m2 m3 m4 m5 m6 m7 m8 m9 m_now m_saved m_aside m_states m_quiet (0 : Int32) m_tried m_best m_touching (upd m_text m_length.toNatClampNeg a0) m_length m_at m_verbs m_told m_commands) dX6_type_46 rfl rfl hf (fun hf => ?_)
      refine sw_aload_n 47 G dX6_type_47 0 rfl ?_
      refine sw_dup 48 G dX6_type_48 rfl ?_
      refine sw_get 49 G hnX6 0 10 dX6_type_49 vc6 (by decide) (List.mem_cons_of_mem _ lk_26b769ba) rfl rfl ?_
      refine sw_iconst 52 G (1 : Int32) dX6_type_52 rfl ?_
      refine sw_iadd 53 G dX6_type_53 ?_
      refine sw_nmi hf (fun v2 hf => ?_)
      refine sw_put 54 G hnX6 tyX6_ok nmX6 0 10 (wX6 Θ m0 m1 m2 m3 m4 m5 m6 m7 m8 m9 m_now m_saved m_aside m_states m_quiet (0 : Int32) m_tried m_best m_touching (upd m_text m_length.toNatClampNeg a0) v2 m_at m_verbs m_told m_commands) dX6_type_54 vc6 (by decide) (List.mem_cons_of_mem _ lk_26b769ba) rfl rfl (Nat.le_of_ble_eq_true rfl) (tyX6_ok 10 (by decide)) rfl rfl rfl ?_
      refine sw_aload_n 57 G dX6_type_57 0 rfl ?_
      refine sw_get 58 G hnX6 0 10 dX6_type_58 vc6 (by decide) (List.mem_cons_of_mem _ lk_26b769ba) rfl rfl ?_
      cases hf
      exact sw_iret 61 G dX6_type_61 K
    · refine sw_aload_n 31 G dX6_type_31 0 rfl ?_
      refine sw_iconst 32 G (2 : Int32) dX6_type_32 rfl ?_
      obtain ⟨r3, u4, hg, hf⟩ := bd2_some hf
      refine sw_callV 33 G (wX6 Θ m0 m1 m2 m3 m4 m5 m6 m7 m8 m9 m_now m_saved m_aside m_states m_quiet u4 m_tried m_best m_touching m_text m_length m_at m_verbs m_told m_commands) [0, 1, 2, 3, 4, 5, 6, 7, 8, 9] [] [0, 1, 2, 3, 4, 5, 6, 7, 8, 9] 1 dX6_type_33 (kX6_fails Θ m0 m1 m2 m3 m4 m5 m6 m7 m8 m9 m_now m_saved m_aside m_states m_quiet (0 : Int32) m_tried m_best m_touching m_text m_length m_at m_verbs m_told m_commands (2 : Int32) r3 u4 hg) (gwV lk_c7279fda lk_b9e66eaa lk_2152c894 lk_6d91b6d2 lk_f2d2a162) rfl hvX6_fails ⟨rfl, rfl⟩ ⟨Nat.le_of_ble_eq_true rfl, Nat.le_of_ble_eq_true rfl⟩ ⟨Nat.zero_le _, Nat.zero_le _⟩ rfl rfl (Nat.le_of_ble_eq_true rfl) 0 rfl vc6 rfl rfl rfl rfl (by decide) ?_
      cases hf
      exact sw_iret 36 G dX6_type_36 K
  · refine sw_aload_n 15 G dX6_type_15 0 rfl ?_
    refine sw_iconst 16 G (1 : Int32) dX6_type_16 rfl ?_
    obtain ⟨r5, u6, hg, hf⟩ := bd2_some hf
    refine sw_callV 17 G (wX6 Θ m0 m1 m2 m3 m4 m5 m6 m7 m8 m9 m_now m_saved m_aside m_states m_quiet u6 m_tried m_best m_touching m_text m_length m_at m_verbs m_told m_commands) [0, 1, 2, 3, 4, 5, 6, 7, 8, 9] [] [0, 1, 2, 3, 4, 5, 6, 7, 8, 9] 1 dX6_type_17 (kX6_fails Θ m0 m1 m2 m3 m4 m5 m6 m7 m8 m9 m_now m_saved m_aside m_states m_quiet (0 : Int32) m_tried m_best m_touching m_text m_length m_at m_verbs m_told m_commands (1 : Int32) r5 u6 hg) (gwV lk_c7279fda lk_b9e66eaa lk_2152c894 lk_6d91b6d2 lk_f2d2a162) rfl hvX6_fails ⟨rfl, rfl⟩ ⟨Nat.le_of_ble_eq_true rfl, Nat.le_of_ble_eq_true rfl⟩ ⟨Nat.zero_le _, Nat.zero_le _⟩ rfl rfl (Nat.le_of_ble_eq_true rfl) 0 rfl vc6 rfl rfl rfl rfl (by decide) ?_
    cases hf
    exact sw_iret 20 G dX6_type_20 K
abbrev rmX6_clearCommands : Room := { frames := 0, cells := 0, slots := 0, locals := 0 }
theorem hvX6_clearCommands : yX6_clearCommands.cls = RX6 ∧ yX6_clearCommands.cls ≠ "java/lang/invoke/MethodHandle" ∧ yX6_clearCommands.cls ≠ "java/lang/invoke/VarHandle" ∧ (parseMethodDescriptor yX6_clearCommands.desc).map (fun d => d.parameters.length) = some 0 := by decide +kernel
set_option maxRecDepth 100000 in
set_option maxHeartbeats 4000000 in
theorem kX6_clearCommands (Θ : Tht) (m0 m1 m2 m3 m4 m5 m6 m7 m8 m9 : Nat) (m_now : Nat → Int64) (m_saved : Nat → Int64) (m_aside : Nat → Int64) (m_states : Int32) (m_quiet : Int32) (m_thrown : Int32) (m_tried : Nat → Int32) (m_best : Nat → Int32) (m_touching : Nat → Int32) (m_text : Nat → Int32) (m_length : Int32) (m_at : Int32) (m_verbs : Nat → Int32) (m_told : Nat → Int32) (m_commands : Int32) (ro : Int32) (o_m_thrown : Int32) (o_m_length : Int32) (hf : fX6_clearCommands m_length = some (ro, o_m_thrown, o_m_length)) : Fn Θ yX6_clearCommands (Cond.code yX6_clearCommands cX6_clearCommands 2 (some .int) :: GW) rmX6_clearCommands [.ref m0] (wX6 Θ m0 m1 m2 m3 m4 m5 m6 m7 m8 m9 m_now m_saved m_aside m_states m_quiet m_thrown m_tried m_best m_touching m_text m_length m_at m_verbs m_told m_commands) (some (.int ro)) (wX6 Θ m0 m1 m2 m3 m4 m5 m6 m7 m8 m9 m_now m_saved m_aside m_states m_quiet o_m_thrown m_tried m_best m_touching m_text o_m_length m_at m_verbs m_told m_commands) := by
  delta fX6_clearCommands at hf
  refine Fn.of (by decide +kernel) rfl (Nat.le_of_ble_eq_true rfl) (fun p e s m args below meth c A Q G K => ?_)
  show sw Θ p e rmX6_clearCommands s m args below meth c A Q 2 0 0 0 [(0, .ref m0)] [] (wX6 Θ m0 m1 m2 m3 m4 m5 m6 m7 m8 m9 m_now m_saved m_aside m_states m_quiet m_thrown m_tried m_best m_touching m_text m_length m_at m_verbs m_told m_commands)
  refine sw_aload_n 0 G dX6_clearCommands_0 0 rfl ?_
  refine sw_iconst 1 G (0 : Int32) dX6_clearCommands_1 rfl ?_
  refine sw_put 2 G hnX6 tyX6_ok nmX6 0 5 (wX6 Θ m0 m1 m2 m3 m4 m5 m6 m7 m8 m9 m_now m_saved m_aside m_states m_quiet (0 : Int32) m_tried m_best m_touching m_text m_length m_at m_verbs m_told m_commands) dX6_clearCommands_2 vc6 (by decide) (List.mem_cons_of_mem _ lk_fb3e5753) rfl rfl (Nat.le_of_ble_eq_true rfl) (tyX6_ok 5 (by decide)) rfl rfl rfl ?_
  refine sw_aload_n 5 G dX6_clearCommands_5 0 rfl ?_
  refine sw_get 6 G hnX6 0 10 dX6_clearCommands_6 vc6 (by decide) (List.mem_cons_of_mem _ lk_26b769ba) rfl rfl ?_
  refine sw_istore_n 9 G [(1, .int m_length), (0, .ref m0)] dX6_clearCommands_9 (by decide) rfl ?_
  refine sw_aload_n 10 G dX6_clearCommands_10 1 rfl ?_
  refine sw_iconst 11 G (0 : Int32) dX6_clearCommands_11 rfl ?_
  refine sw_put 12 G hnX6 tyX6_ok nmX6 0 10 (wX6 Θ m0 m1 m2 m3 m4 m5 m6 m7 m8 m9 m_now m_saved m_aside m_states m_quiet (0 : Int32) m_tried m_best m_touching m_text (0 : Int32) m_at m_verbs m_told m_commands) dX6_clearCommands_12 vc6 (by decide) (List.mem_cons_of_mem _ lk_26b769ba) rfl rfl (Nat.le_of_ble_eq_true rfl) (tyX6_ok 10 (by decide)) rfl rfl rfl ?_
  refine sw_iload_n 15 G dX6_clearCommands_15 0 rfl ?_
  cases hf
  exact sw_iret 16 G dX6_clearCommands_16 K
abbrev rmX6_isAt : Room := { frames := 1, cells := 0, slots := 0, locals := 22 }
theorem hvX6_isAt : yX6_isAt.cls = RX6 ∧ yX6_isAt.cls ≠ "java/lang/invoke/MethodHandle" ∧ yX6_isAt.cls ≠ "java/lang/invoke/VarHandle" ∧ (parseMethodDescriptor yX6_isAt.desc).map (fun d => d.parameters.length) = some 2 := by decide +kernel
set_option maxRecDepth 100000 in
set_option maxHeartbeats 4000000 in
theorem kX6_isAt (Θ : Tht) (m0 m1 m2 m3 m4 m5 m6 m7 m8 m9 : Nat) (m_now : Nat → Int64) (m_saved : Nat → Int64) (m_aside : Nat → Int64) (m_states : Int32) (m_quiet : Int32) (m_thrown : Int32) (m_tried : Nat → Int32) (m_best : Nat → Int32) (m_touching : Nat → Int32) (m_text : Nat → Int32) (m_length : Int32) (m_at : Int32) (m_verbs : Nat → Int32) (m_told : Nat → Int32) (m_commands : Int32) (a0 : Int32) (a1 : Int32) (ro : Int32) (hf : fX6_isAt m_text m_length m_at a0 a1 = some ro) : Fn Θ yX6_isAt (Cond.code yX6_isAt cX6_isAt 3 (some .boolean) :: GW) rmX6_isAt [.ref m0, .int a0, .int a1] (wX6 Θ m0 m1 m2 m3 m4 m5 m6 m7 m8 m9 m_now m_saved m_aside m_states m_quiet m_thrown m_tried m_best m_touching m_text m_length m_at m_verbs m_told m_commands) (some (.int ro)) (wX6 Θ m0 m1 m2 m3 m4 m5 m6 m7 m8 m9 m_now m_saved m_aside m_states m_quiet m_thrown m_tried m_best m_touching m_text m_length m_at m_verbs m_told m_commands) := by
  delta fX6_isAt at hf
  refine Fn.of (by decide +kernel) rfl (Nat.le_of_ble_eq_true rfl) (fun p e s m args below meth c A Q G K => ?_)
  show sw Θ p e rmX6_isAt s m args below meth c A Q 3 0 0 0 [(0, .ref m0), (1, .int a0), (2, .int a1)] [] (wX6 Θ m0 m1 m2 m3 m4 m5 m6 m7 m8 m9 m_now m_saved m_aside m_states m_quiet m_thrown m_tried m_best m_touching m_text m_length m_at m_verbs m_told m_commands)
  refine sw_aload_n 0 G dX6_isAt_0 0 rfl ?_
  refine sw_get 1 G hnX6 0 11 dX6_isAt_1 vc6 (by decide) (List.mem_cons_of_mem _ lk_3cd34cb2) rfl rfl ?_
  refine sw_aload_n 4 G dX6_isAt_4 0 rfl ?_
  refine sw_get 5 G hnX6 0 10 dX6_isAt_5 vc6 (by decide) (List.mem_cons_of_mem _ lk_26b769ba) rfl rfl ?_
  refine sw_icmp_ge 8 32 G dX6_isAt_8 rfl hf (fun hf => ?_) (fun hf => ?_)
  · refine sw_iconst 32 G (0 : Int32) dX6_isAt_32 rfl ?_
    cases hf
    exact sw_zret 33 G dX6_isAt_33 K rfl
  · refine sw_aload_n 11 G dX6_isAt_11 0 rfl ?_
    refine sw_get 12 G hnX6 0 9 dX6_isAt_12 vc6 (by decide) (List.mem_cons_of_mem _ lk_3bfcc6a0) rfl rfl ?_
    refine sw_aload_n 15 G dX6_isAt_15 0 rfl ?_
    refine sw_get 16 G hnX6 0 11 dX6_isAt_16 vc6 (by decide) (List.mem_cons_of_mem _ lk_3cd34cb2) rfl rfl ?_
    refine sw_iald 19 G 7 dX6_isAt_19 rfl hf (fun hf => ?_)
    refine sw_iload_n 20 G dX6_isAt_20 1 rfl ?_
    refine sw_iload_n 21 G dX6_isAt_21 2 rfl ?_
    obtain ⟨r1, hg, hf⟩ := bd1_some hf
    refine sw_callS 22 G (wX6 Θ m0 m1 m2 m3 m4 m5 m6 m7 m8 m9 m_now m_saved m_aside m_states m_quiet m_thrown m_tried m_best m_touching m_text m_length m_at m_verbs m_told m_commands) [] [0, 1, 2, 3, 4, 5, 6, 7, 8, 9] [0, 1, 2, 3, 4, 5, 6, 7, 8, 9] 3 dX6_isAt_22 (kX6_in Θ (m_text m_at.toNatClampNeg) a0 a1 r1 hg) (gwS lk_739e9842 lk_9ad51b2c lk_59eba9b0 lk_5ad5c33d) rfl hsX6_in ⟨rfl, rfl⟩ ⟨Nat.le_of_ble_eq_true rfl, Nat.le_of_ble_eq_true rfl⟩ ⟨Nat.zero_le _, Nat.zero_le _⟩ rfl rfl (Nat.le_of_ble_eq_true rfl) rfl rfl rfl (by decide) ?_
    refine sw_if_eq 25 32 G dX6_isAt_25 rfl hf (fun hf => ?_) (fun hf => ?_)
    · refine sw_iconst 32 G (0 : Int32) dX6_isAt_32 rfl ?_
      cases hf
      exact sw_zret 33 G dX6_isAt_33 K rfl
    · refine sw_iconst 28 G (1 : Int32) dX6_isAt_28 rfl ?_
      refine sw_goto 29 G 33 dX6_isAt_29 rfl ?_
      cases hf
      exact sw_zret 33 G dX6_isAt_33 K rfl
abbrev rmX6_skips : Room := { frames := 2, cells := 0, slots := 0, locals := 44 }
theorem hvX6_skips : yX6_skips.cls = RX6 ∧ yX6_skips.cls ≠ "java/lang/invoke/MethodHandle" ∧ yX6_skips.cls ≠ "java/lang/invoke/VarHandle" ∧ (parseMethodDescriptor yX6_skips.desc).map (fun d => d.parameters.length) = some 0 := by decide +kernel
set_option maxRecDepth 100000 in
set_option maxHeartbeats 4000000 in
theorem kX6_skips (Θ : Tht) (F : Nat) (m0 m1 m2 m3 m4 m5 m6 m7 m8 m9 : Nat) (m_now : Nat → Int64) (m_saved : Nat → Int64) (m_aside : Nat → Int64) (m_states : Int32) (m_quiet : Int32) (m_thrown : Int32) (m_tried : Nat → Int32) (m_best : Nat → Int32) (m_touching : Nat → Int32) (m_text : Nat → Int32) (m_length : Int32) (m_at : Int32) (m_verbs : Nat → Int32) (m_told : Nat → Int32) (m_commands : Int32) (o_m_at : Int32) (hf : fX6_skips F m_text m_length m_at = some o_m_at) : Fn Θ yX6_skips (Cond.code yX6_skips cX6_skips 1 none :: GW) rmX6_skips [.ref m0] (wX6 Θ m0 m1 m2 m3 m4 m5 m6 m7 m8 m9 m_now m_saved m_aside m_states m_quiet m_thrown m_tried m_best m_touching m_text m_length m_at m_verbs m_told m_commands) none (wX6 Θ m0 m1 m2 m3 m4 m5 m6 m7 m8 m9 m_now m_saved m_aside m_states m_quiet m_thrown m_tried m_best m_touching m_text m_length o_m_at m_verbs m_told m_commands) := by
  delta fX6_skips at hf
  refine Fn.of (by decide +kernel) rfl (Nat.le_of_ble_eq_true rfl) (fun p e s m args below meth c A Q G K => ?_)
  show sw Θ p e rmX6_skips s m args below meth c A Q 1 0 0 0 [(0, .ref m0)] [] (wX6 Θ m0 m1 m2 m3 m4 m5 m6 m7 m8 m9 m_now m_saved m_aside m_states m_quiet m_thrown m_tried m_best m_touching m_text m_length m_at m_verbs m_told m_commands)
  obtain ⟨v1, hl, hf⟩ := bd1_some hf
  have hx0_24 : sw Θ p e rmX6_skips s m args below meth c A Q 1 0 0 24 [] [] (wX6 Θ m0 m1 m2 m3 m4 m5 m6 m7 m8 m9 m_now m_saved m_aside m_states m_quiet m_thrown m_tried m_best m_touching m_text m_length v1 m_verbs m_told m_commands) := by
    cases hf
    exact sw_vret 24 G dX6_skips_24 K
  refine sw_lv [(0, .ref m0)] [0] rfl ?_
  refine lp_walk (P := fun (t : Int32) => sw Θ p e rmX6_skips s m args below meth c A Q 1 0 0 0 [(0, .ref m0)] [] (wX6 Θ m0 m1 m2 m3 m4 m5 m6 m7 m8 m9 m_now m_saved m_aside m_states m_quiet m_thrown m_tried m_best m_touching m_text m_length t m_verbs m_told m_commands)) hl (fun t0 y0 hf hin0 hex0 => ?_)
  obtain ⟨v2, rfl⟩ : ∃ z, z = t0 := ⟨_, rfl⟩
  show sw Θ p e rmX6_skips s m args below meth c A Q 1 0 0 0 [(0, .ref m0)] [] (wX6 Θ m0 m1 m2 m3 m4 m5 m6 m7 m8 m9 m_now m_saved m_aside m_states m_quiet m_thrown m_tried m_best m_touching m_text m_length v2 m_verbs m_told m_commands)
  have hf := uc1_some (K := _) hf
  refine sw_aload_n 0 G dX6_skips_0 0 rfl ?_
  refine sw_bipush 1 G (32 : Int32) dX6_skips_1 rfl ?_
  refine sw_bipush 3 G (32 : Int32) dX6_skips_3 rfl ?_
  obtain ⟨r3, hg, hf⟩ := bd1_some hf
  refine sw_callV 5 G (wX6 Θ m0 m1 m2 m3 m4 m5 m6 m7 m8 m9 m_now m_saved m_aside m_states m_quiet m_thrown m_tried m_best m_touching m_text m_length v2 m_verbs m_told m_commands) [0, 1, 2, 3, 4, 5, 6, 7, 8, 9] [] [0, 1, 2, 3, 4, 5, 6, 7, 8, 9] 2 dX6_skips_5 (kX6_isAt Θ m0 m1 m2 m3 m4 m5 m6 m7 m8 m9 m_now m_saved m_aside m_states m_quiet m_thrown m_tried m_best m_touching m_text m_length v2 m_verbs m_told m_commands (32 : Int32) (32 : Int32) r3 hg) (gwV lk_22091cd2 lk_59752bef lk_882e9241 lk_6d91b6d2 lk_1f197f9d) rfl hvX6_isAt ⟨rfl, rfl⟩ ⟨Nat.le_of_ble_eq_true rfl, Nat.le_of_ble_eq_true rfl⟩ ⟨Nat.zero_le _, Nat.zero_le _⟩ rfl rfl (Nat.le_of_ble_eq_true rfl) 0 rfl vc6 rfl rfl rfl rfl (by decide) ?_
  refine sw_if_eq 8 24 G dX6_skips_8 rfl hf (fun hf => ?_) (fun hf => ?_)
  · cases hf
    cases hex0 _ rfl
    exact sw_lv _ [] rfl hx0_24
  · refine sw_aload_n 11 G dX6_skips_11 0 rfl ?_
    refine sw_dup 12 G dX6_skips_12 rfl ?_
    refine sw_get 13 G hnX6 0 11 dX6_skips_13 vc6 (by decide) (List.mem_cons_of_mem _ lk_3cd34cb2) rfl rfl ?_
    refine sw_iconst 16 G (1 : Int32) dX6_skips_16 rfl ?_
    refine sw_iadd 17 G dX6_skips_17 ?_
    refine sw_nmi hf (fun v4 hf => ?_)
    refine sw_put 18 G hnX6 tyX6_ok nmX6 0 11 (wX6 Θ m0 m1 m2 m3 m4 m5 m6 m7 m8 m9 m_now m_saved m_aside m_states m_quiet m_thrown m_tried m_best m_touching m_text m_length v4 m_verbs m_told m_commands) dX6_skips_18 vc6 (by decide) (List.mem_cons_of_mem _ lk_3cd34cb2) rfl rfl (Nat.le_of_ble_eq_true rfl) (tyX6_ok 11 (by decide)) rfl rfl rfl ?_
    refine sw_goto 21 G 0 dX6_skips_21 rfl ?_
    cases hf
    have hb := hin0 _ rfl
    exact sw_lv _ [0] (by rfl) hb
abbrev rmX6_verbOf : Room := { frames := 0, cells := 0, slots := 0, locals := 0 }
theorem hsX6_verbOf : yX6_verbOf.cls ≠ "java/lang/invoke/MethodHandle" ∧ yX6_verbOf.cls ≠ "java/lang/invoke/VarHandle" ∧ (parseMethodDescriptor yX6_verbOf.desc).map (fun d => d.parameters.length) = some 1 := by decide +kernel
set_option maxRecDepth 100000 in
set_option maxHeartbeats 4000000 in
theorem kX6_verbOf (Θ : Tht) (a0 : Int64) (ro : Int32) (hf : fX6_verbOf a0 = some ro) : Fn Θ yX6_verbOf (Cond.code yX6_verbOf cX6_verbOf 2 (some .int) :: GW) rmX6_verbOf [.long a0] ([]) (some (.int ro)) ([]) := by
  delta fX6_verbOf at hf
  refine Fn.of (by decide +kernel) rfl (Nat.le_of_ble_eq_true rfl) (fun p e s m args below meth c A Q G K => ?_)
  show sw Θ p e rmX6_verbOf s m args below meth c A Q 2 0 0 0 [(0, .long a0)] [] ([])
  refine sw_lload_n 0 G dX6_verbOf_0 0 rfl ?_
  refine sw_ldc2 1 G (List.mem_cons_of_mem _ lk_593908c6) dX6_verbOf_1 ?_
  refine sw_lcmp 4 G dX6_verbOf_4 ?_
  refine sw_if_eq 5 24 G dX6_verbOf_5 rfl hf (fun hf => ?_) (fun hf => ?_)
  · refine sw_lload_n 24 G dX6_verbOf_24 0 rfl ?_
    refine sw_ldc2 25 G (List.mem_cons_of_mem _ lk_593908c6) dX6_verbOf_25 ?_
    refine sw_lcmp 28 G dX6_verbOf_28 ?_
    refine sw_if_ne 29 36 G dX6_verbOf_29 rfl hf (fun hf => ?_) (fun hf => ?_)
    · refine sw_lload_n 36 G dX6_verbOf_36 0 rfl ?_
      refine sw_ldc2 37 G (List.mem_cons_of_mem _ lk_e3531f5b) dX6_verbOf_37 ?_
      refine sw_lcmp 40 G dX6_verbOf_40 ?_
      refine sw_if_ne 41 48 G dX6_verbOf_41 rfl hf (fun hf => ?_) (fun hf => ?_)
      · refine sw_iconst 48 G (2 : Int32) dX6_verbOf_48 rfl ?_
        cases hf
        exact sw_iret 49 G dX6_verbOf_49 K
      · refine sw_iconst 44 G (1 : Int32) dX6_verbOf_44 rfl ?_
        refine sw_goto 45 G 49 dX6_verbOf_45 rfl ?_
        cases hf
        exact sw_iret 49 G dX6_verbOf_49 K
    · refine sw_iconst 32 G (0 : Int32) dX6_verbOf_32 rfl ?_
      refine sw_goto 33 G 49 dX6_verbOf_33 rfl ?_
      cases hf
      exact sw_iret 49 G dX6_verbOf_49 K
  · refine sw_lload_n 8 G dX6_verbOf_8 0 rfl ?_
    refine sw_ldc2 9 G (List.mem_cons_of_mem _ lk_e3531f5b) dX6_verbOf_9 ?_
    refine sw_lcmp 12 G dX6_verbOf_12 ?_
    refine sw_if_eq 13 24 G dX6_verbOf_13 rfl hf (fun hf => ?_) (fun hf => ?_)
    · refine sw_lload_n 24 G dX6_verbOf_24 0 rfl ?_
      refine sw_ldc2 25 G (List.mem_cons_of_mem _ lk_593908c6) dX6_verbOf_25 ?_
      refine sw_lcmp 28 G dX6_verbOf_28 ?_
      refine sw_if_ne 29 36 G dX6_verbOf_29 rfl hf (fun hf => ?_) (fun hf => ?_)
      · refine sw_lload_n 36 G dX6_verbOf_36 0 rfl ?_
        refine sw_ldc2 37 G (List.mem_cons_of_mem _ lk_e3531f5b) dX6_verbOf_37 ?_
        refine sw_lcmp 40 G dX6_verbOf_40 ?_
        refine sw_if_ne 41 48 G dX6_verbOf_41 rfl hf (fun hf => ?_) (fun hf => ?_)
        · refine sw_iconst 48 G (2 : Int32) dX6_verbOf_48 rfl ?_
          cases hf
          exact sw_iret 49 G dX6_verbOf_49 K
        · refine sw_iconst 44 G (1 : Int32) dX6_verbOf_44 rfl ?_
          refine sw_goto 45 G 49 dX6_verbOf_45 rfl ?_
          cases hf
          exact sw_iret 49 G dX6_verbOf_49 K
      · refine sw_iconst 32 G (0 : Int32) dX6_verbOf_32 rfl ?_
        refine sw_goto 33 G 49 dX6_verbOf_33 rfl ?_
        cases hf
        exact sw_iret 49 G dX6_verbOf_49 K
    · refine sw_lload_n 16 G dX6_verbOf_16 0 rfl ?_
      refine sw_ldc2 17 G (List.mem_cons_of_mem _ lk_240a8684) dX6_verbOf_17 ?_
      refine sw_lcmp 20 G dX6_verbOf_20 ?_
      refine sw_if_ne 21 50 G dX6_verbOf_21 rfl hf (fun hf => ?_) (fun hf => ?_)
      · refine sw_lload_n 50 G dX6_verbOf_50 0 rfl ?_
        refine sw_ldc2 51 G (List.mem_cons_of_mem _ lk_ac7669ad) dX6_verbOf_51 ?_
        refine sw_lcmp 54 G dX6_verbOf_54 ?_
        refine sw_if_eq 55 74 G dX6_verbOf_55 rfl hf (fun hf => ?_) (fun hf => ?_)
        · refine sw_lload_n 74 G dX6_verbOf_74 0 rfl ?_
          refine sw_ldc2 75 G (List.mem_cons_of_mem _ lk_ac7669ad) dX6_verbOf_75 ?_
          refine sw_lcmp 78 G dX6_verbOf_78 ?_
          refine sw_if_ne 79 86 G dX6_verbOf_79 rfl hf (fun hf => ?_) (fun hf => ?_)
          · refine sw_lload_n 86 G dX6_verbOf_86 0 rfl ?_
            refine sw_ldc2 87 G (List.mem_cons_of_mem _ lk_6e43ac5c) dX6_verbOf_87 ?_
            refine sw_lcmp 90 G dX6_verbOf_90 ?_
            refine sw_if_ne 91 98 G dX6_verbOf_91 rfl hf (fun hf => ?_) (fun hf => ?_)
            · refine sw_iconst 98 G (5 : Int32) dX6_verbOf_98 rfl ?_
              cases hf
              exact sw_iret 99 G dX6_verbOf_99 K
            · refine sw_iconst 94 G (4 : Int32) dX6_verbOf_94 rfl ?_
              refine sw_goto 95 G 99 dX6_verbOf_95 rfl ?_
              cases hf
              exact sw_iret 99 G dX6_verbOf_99 K
          · refine sw_iconst 82 G (3 : Int32) dX6_verbOf_82 rfl ?_
            refine sw_goto 83 G 99 dX6_verbOf_83 rfl ?_
            cases hf
            exact sw_iret 99 G dX6_verbOf_99 K
        · refine sw_lload_n 58 G dX6_verbOf_58 0 rfl ?_
          refine sw_ldc2 59 G (List.mem_cons_of_mem _ lk_6e43ac5c) dX6_verbOf_59 ?_
          refine sw_lcmp 62 G dX6_verbOf_62 ?_
          refine sw_if_eq 63 74 G dX6_verbOf_63 rfl hf (fun hf => ?_) (fun hf => ?_)
          · refine sw_lload_n 74 G dX6_verbOf_74 0 rfl ?_
            refine sw_ldc2 75 G (List.mem_cons_of_mem _ lk_ac7669ad) dX6_verbOf_75 ?_
            refine sw_lcmp 78 G dX6_verbOf_78 ?_
            refine sw_if_ne 79 86 G dX6_verbOf_79 rfl hf (fun hf => ?_) (fun hf => ?_)
            · refine sw_lload_n 86 G dX6_verbOf_86 0 rfl ?_
              refine sw_ldc2 87 G (List.mem_cons_of_mem _ lk_6e43ac5c) dX6_verbOf_87 ?_
              refine sw_lcmp 90 G dX6_verbOf_90 ?_
              refine sw_if_ne 91 98 G dX6_verbOf_91 rfl hf (fun hf => ?_) (fun hf => ?_)
              · refine sw_iconst 98 G (5 : Int32) dX6_verbOf_98 rfl ?_
                cases hf
                exact sw_iret 99 G dX6_verbOf_99 K
              · refine sw_iconst 94 G (4 : Int32) dX6_verbOf_94 rfl ?_
                refine sw_goto 95 G 99 dX6_verbOf_95 rfl ?_
                cases hf
                exact sw_iret 99 G dX6_verbOf_99 K
            · refine sw_iconst 82 G (3 : Int32) dX6_verbOf_82 rfl ?_
              refine sw_goto 83 G 99 dX6_verbOf_83 rfl ?_
              cases hf
              exact sw_iret 99 G dX6_verbOf_99 K
          · refine sw_lload_n 66 G dX6_verbOf_66 0 rfl ?_
            refine sw_ldc2 67 G (List.mem_cons_of_mem _ lk_a3776dec) dX6_verbOf_67 ?_
            refine sw_lcmp 70 G dX6_verbOf_70 ?_
            refine sw_if_ne 71 100 G dX6_verbOf_71 rfl hf (fun hf => ?_) (fun hf => ?_)
            · refine sw_lload_n 100 G dX6_verbOf_100 0 rfl ?_
              refine sw_ldc2 101 G (List.mem_cons_of_mem _ lk_7f3cda5f) dX6_verbOf_101 ?_
              refine sw_lcmp 104 G dX6_verbOf_104 ?_
              refine sw_if_eq 105 116 G dX6_verbOf_105 rfl hf (fun hf => ?_) (fun hf => ?_)
              · refine sw_lload_n 116 G dX6_verbOf_116 0 rfl ?_
                refine sw_ldc2 117 G (List.mem_cons_of_mem _ lk_7f3cda5f) dX6_verbOf_117 ?_
                refine sw_lcmp 120 G dX6_verbOf_120 ?_
                refine sw_if_ne 121 129 G dX6_verbOf_121 rfl hf (fun hf => ?_) (fun hf => ?_)
                · refine sw_bipush 129 G (7 : Int32) dX6_verbOf_129 rfl ?_
                  cases hf
                  exact sw_iret 131 G dX6_verbOf_131 K
                · refine sw_bipush 124 G (6 : Int32) dX6_verbOf_124 rfl ?_
                  refine sw_goto 126 G 131 dX6_verbOf_126 rfl ?_
                  cases hf
                  exact sw_iret 131 G dX6_verbOf_131 K
              · refine sw_lload_n 108 G dX6_verbOf_108 0 rfl ?_
                refine sw_ldc2 109 G (List.mem_cons_of_mem _ lk_5b09fd03) dX6_verbOf_109 ?_
                refine sw_lcmp 112 G dX6_verbOf_112 ?_
                refine sw_if_ne 113 132 G dX6_verbOf_113 rfl hf (fun hf => ?_) (fun hf => ?_)
                · refine sw_lload_n 132 G dX6_verbOf_132 0 rfl ?_
                  refine sw_ldc2 133 G (List.mem_cons_of_mem _ lk_c98235da) dX6_verbOf_133 ?_
                  refine sw_lcmp 136 G dX6_verbOf_136 ?_
                  refine sw_if_ne 137 145 G dX6_verbOf_137 rfl hf (fun hf => ?_) (fun hf => ?_)
                  · refine sw_iconst 145 G (-1 : Int32) dX6_verbOf_145 rfl ?_
                    cases hf
                    exact sw_iret 146 G dX6_verbOf_146 K
                  · refine sw_bipush 140 G (8 : Int32) dX6_verbOf_140 rfl ?_
                    refine sw_goto 142 G 146 dX6_verbOf_142 rfl ?_
                    cases hf
                    exact sw_iret 146 G dX6_verbOf_146 K
                · refine sw_lload_n 116 G dX6_verbOf_116 0 rfl ?_
                  refine sw_ldc2 117 G (List.mem_cons_of_mem _ lk_7f3cda5f) dX6_verbOf_117 ?_
                  refine sw_lcmp 120 G dX6_verbOf_120 ?_
                  refine sw_if_ne 121 129 G dX6_verbOf_121 rfl hf (fun hf => ?_) (fun hf => ?_)
                  · refine sw_bipush 129 G (7 : Int32) dX6_verbOf_129 rfl ?_
                    cases hf
                    exact sw_iret 131 G dX6_verbOf_131 K
                  · refine sw_bipush 124 G (6 : Int32) dX6_verbOf_124 rfl ?_
                    refine sw_goto 126 G 131 dX6_verbOf_126 rfl ?_
                    cases hf
                    exact sw_iret 131 G dX6_verbOf_131 K
            · refine sw_lload_n 74 G dX6_verbOf_74 0 rfl ?_
              refine sw_ldc2 75 G (List.mem_cons_of_mem _ lk_ac7669ad) dX6_verbOf_75 ?_
              refine sw_lcmp 78 G dX6_verbOf_78 ?_
              refine sw_if_ne 79 86 G dX6_verbOf_79 rfl hf (fun hf => ?_) (fun hf => ?_)
              · refine sw_lload_n 86 G dX6_verbOf_86 0 rfl ?_
                refine sw_ldc2 87 G (List.mem_cons_of_mem _ lk_6e43ac5c) dX6_verbOf_87 ?_
                refine sw_lcmp 90 G dX6_verbOf_90 ?_
                refine sw_if_ne 91 98 G dX6_verbOf_91 rfl hf (fun hf => ?_) (fun hf => ?_)
                · refine sw_iconst 98 G (5 : Int32) dX6_verbOf_98 rfl ?_
                  cases hf
                  exact sw_iret 99 G dX6_verbOf_99 K
                · refine sw_iconst 94 G (4 : Int32) dX6_verbOf_94 rfl ?_
                  refine sw_goto 95 G 99 dX6_verbOf_95 rfl ?_
                  cases hf
                  exact sw_iret 99 G dX6_verbOf_99 K
              · refine sw_iconst 82 G (3 : Int32) dX6_verbOf_82 rfl ?_
                refine sw_goto 83 G 99 dX6_verbOf_83 rfl ?_
                cases hf
                exact sw_iret 99 G dX6_verbOf_99 K
      · refine sw_lload_n 24 G dX6_verbOf_24 0 rfl ?_
        refine sw_ldc2 25 G (List.mem_cons_of_mem _ lk_593908c6) dX6_verbOf_25 ?_
        refine sw_lcmp 28 G dX6_verbOf_28 ?_
        refine sw_if_ne 29 36 G dX6_verbOf_29 rfl hf (fun hf => ?_) (fun hf => ?_)
        · refine sw_lload_n 36 G dX6_verbOf_36 0 rfl ?_
          refine sw_ldc2 37 G (List.mem_cons_of_mem _ lk_e3531f5b) dX6_verbOf_37 ?_
          refine sw_lcmp 40 G dX6_verbOf_40 ?_
          refine sw_if_ne 41 48 G dX6_verbOf_41 rfl hf (fun hf => ?_) (fun hf => ?_)
          · refine sw_iconst 48 G (2 : Int32) dX6_verbOf_48 rfl ?_
            cases hf
            exact sw_iret 49 G dX6_verbOf_49 K
          · refine sw_iconst 44 G (1 : Int32) dX6_verbOf_44 rfl ?_
            refine sw_goto 45 G 49 dX6_verbOf_45 rfl ?_
            cases hf
            exact sw_iret 49 G dX6_verbOf_49 K
        · refine sw_iconst 32 G (0 : Int32) dX6_verbOf_32 rfl ?_
          refine sw_goto 33 G 49 dX6_verbOf_33 rfl ?_
          cases hf
          exact sw_iret 49 G dX6_verbOf_49 K
