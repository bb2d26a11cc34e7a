abbrev rmX6_thrown : Room := { frames := 0, cells := 0, slots := 0, locals := 0 }
theorem hvX6_thrown : yX6_thrown.cls = RX6 ∧ yX6_thrown.cls ≠ "java/lang/invoke/MethodHandle" ∧ yX6_thrown.cls ≠ "java/lang/invoke/VarHandle" ∧ (parseMethodDescriptor yX6_thrown.desc).map (fun d => d.parameters.length) = some 0 := by decide +kernel
set_option maxRecDepth 100000 in
set_option maxHeartbeats 4000000 in
theorem kX6_thrown (Θ : Tht) (m0 m1 m2 m3 m4 m5 m6 m7 m8 m9 : Nat) (m_now : Nat → Int64) (m_saved : Nat → Int64) (m_aside : Nat → Int64) (m_states : Int32) (m_quiet : Int32) (m_thrown : Int32) (m_tried : Nat → Int32) (m_best : Nat → Int32) (m_touching : Nat → Int32) (m_text : Nat → Int32) (m_length : Int32) (m_at : Int32) (m_verbs : Nat → Int32) (m_told : Nat → Int32) (m_commands : Int32) (ro : Int32) (hf : fX6_thrown m_thrown = some ro) : Fn Θ yX6_thrown (Cond.code yX6_thrown cX6_thrown 1 (some .int) :: GW) rmX6_thrown [.ref m0] (wX6 Θ m0 m1 m2 m3 m4 m5 m6 m7 m8 m9 m_now m_saved m_aside m_states m_quiet m_thrown m_tried m_best m_touching m_text m_length m_at m_verbs m_told m_commands) (some (.int ro)) (wX6 Θ m0 m1 m2 m3 m4 m5 m6 m7 m8 m9 m_now m_saved m_aside m_states m_quiet m_thrown m_tried m_best m_touching m_text m_length m_at m_verbs m_told m_commands) := by
  delta fX6_thrown at hf
  refine Fn.of (by decide +kernel) rfl (Nat.le_of_ble_eq_true rfl) (fun p e s m args below meth c A Q G K => ?_)
  show sw Θ p e rmX6_thrown s m args below meth c A Q 1 0 0 0 [(0, .ref m0)] [] (wX6 Θ m0 m1 m2 m3 m4 m5 m6 m7 m8 m9 m_now m_saved m_aside m_states m_quiet m_thrown m_tried m_best m_touching m_text m_length m_at m_verbs m_told m_commands)
  refine sw_aload_n 0 G dX6_thrown_0 0 rfl ?_
  refine sw_get 1 G hnX6 0 5 dX6_thrown_1 vc6 (by decide) (List.mem_cons_of_mem _ lk_fb3e5753) rfl rfl ?_
  cases hf
  exact sw_iret 4 G dX6_thrown_4 K
abbrev rmX6_fails : Room := { frames := 0, cells := 0, slots := 0, locals := 0 }
theorem hvX6_fails : yX6_fails.cls = RX6 ∧ yX6_fails.cls ≠ "java/lang/invoke/MethodHandle" ∧ yX6_fails.cls ≠ "java/lang/invoke/VarHandle" ∧ (parseMethodDescriptor yX6_fails.desc).map (fun d => d.parameters.length) = some 1 := by decide +kernel
set_option maxRecDepth 100000 in
set_option maxHeartbeats 4000000 in
theorem kX6_fails (Θ : Tht) (m0 m1 m2 m3 m4 m5 m6 m7 m8 m9 : Nat) (m_now : Nat → Int64) (m_saved : Nat → Int64) (m_aside : Nat → Int64) (m_states : Int32) (m_quiet : Int32) (m_thrown : Int32) (m_tried : Nat → Int32) (m_best : Nat → Int32) (m_touching : Nat → Int32) (m_text : Nat → Int32) (m_length : Int32) (m_at : Int32) (m_verbs : Nat → Int32) (m_told : Nat → Int32) (m_commands : Int32) (a0 : Int32) (ro : Int32) (o_m_thrown : Int32) (hf : fX6_fails a0 = some (ro, o_m_thrown)) : Fn Θ yX6_fails (Cond.code yX6_fails cX6_fails 2 (some .int) :: GW) rmX6_fails [.ref m0, .int a0] (wX6 Θ m0 m1 m2 m3 m4 m5 m6 m7 m8 m9 m_now m_saved m_aside m_states m_quiet m_thrown m_tried m_best m_touching m_text m_length m_at m_verbs m_told m_commands) (some (.int ro)) (wX6 Θ m0 m1 m2 m3 m4 m5 m6 m7 m8 m9 m_now m_saved m_aside m_states m_quiet o_m_thrown m_tried m_best m_touching m_text m_length m_at m_verbs m_told m_commands) := by
  delta fX6_fails at hf
  refine Fn.of (by decide +kernel) rfl (Nat.le_of_ble_eq_true rfl) (fun p e s m args below meth c A Q G K => ?_)
  show sw Θ p e rmX6_fails s m args below meth c A Q 2 0 0 0 [(0, .ref m0), (1, .int a0)] [] (wX6 Θ m0 m1 m2 m3 m4 m5 m6 m7 m8 m9 m_now m_saved m_aside m_states m_quiet m_thrown m_tried m_best m_touching m_text m_length m_at m_verbs m_told m_commands)
  refine sw_aload_n 0 G dX6_fails_0 0 rfl ?_
  refine sw_iload_n 1 G dX6_fails_1 1 rfl ?_
  refine sw_put 2 G hnX6 tyX6_ok nmX6 0 5 (wX6 Θ m0 m1 m2 m3 m4 m5 m6 m7 m8 m9 m_now m_saved m_aside m_states m_quiet a0 m_tried m_best m_touching m_text m_length m_at m_verbs m_told m_commands) dX6_fails_2 vc6 (by decide) (List.mem_cons_of_mem _ lk_fb3e5753) rfl rfl (Nat.le_of_ble_eq_true rfl) (tyX6_ok 5 (by decide)) rfl rfl rfl ?_
  refine sw_iconst 5 G (0 : Int32) dX6_fails_5 rfl ?_
  cases hf
  exact sw_iret 6 G dX6_fails_6 K
abbrev rmX6_in : Room := { frames := 0, cells := 0, slots := 0, locals := 0 }
theorem hsX6_in : yX6_in.cls ≠ "java/lang/invoke/MethodHandle" ∧ yX6_in.cls ≠ "java/lang/invoke/VarHandle" ∧ (parseMethodDescriptor yX6_in.desc).map (fun d => d.parameters.length) = some 3 := by decide +kernel
set_option maxRecDepth 100000 in
set_option maxHeartbeats 4000000 in
theorem kX6_in (Θ : Tht) (a0 : Int32) (a1 : Int32) (a2 : Int32) (ro : Int32) (hf : fX6_in a0 a1 a2 = some ro) : Fn Θ yX6_in (Cond.code yX6_in cX6_in 3 (some .boolean) :: GW) rmX6_in [.int a0, .int a1, .int a2] ([]) (some (.int ro)) ([]) := by
  delta fX6_in at hf
  refine Fn.of (by decide +kernel) rfl (Nat.le_of_ble_eq_true rfl) (fun p e s m args below meth c A Q G K => ?_)
  show sw Θ p e rmX6_in s m args below meth c A Q 3 0 0 0 [(0, .int a0), (1, .int a1), (2, .int a2)] [] ([])
  refine sw_iload_n 0 G dX6_in_0 0 rfl ?_
  refine sw_iload_n 1 G dX6_in_1 1 rfl ?_
  refine sw_icmp_lt 2 14 G dX6_in_2 rfl hf (fun hf => ?_) (fun hf => ?_)
  · refine sw_iconst 14 G (0 : Int32) dX6_in_14 rfl ?_
    cases hf
    exact sw_zret 15 G dX6_in_15 K rfl
  · refine sw_iload_n 5 G dX6_in_5 0 rfl ?_
    refine sw_iload_n 6 G dX6_in_6 2 rfl ?_
    refine sw_icmp_gt 7 14 G dX6_in_7 rfl hf (fun hf => ?_) (fun hf => ?_)
    · refine sw_iconst 14 G (0 : Int32) dX6_in_14 rfl ?_
      cases hf
      exact sw_zret 15 G dX6_in_15 K rfl
    · refine sw_iconst 10 G (1 : Int32) dX6_in_10 rfl ?_
      refine sw_goto 11 G 15 dX6_in_11 rfl ?_
      cases hf
      exact sw_zret 15 G dX6_in_15 K rfl
abbrev rmX6_many : Room := { frames := 0, cells := 0, slots := 0, locals := 0 }
theorem hvX6_many : yX6_many.cls = RX6 ∧ yX6_many.cls ≠ "java/lang/invoke/MethodHandle" ∧ yX6_many.cls ≠ "java/lang/invoke/VarHandle" ∧ (parseMethodDescriptor yX6_many.desc).map (fun d => d.parameters.length) = some 1 := by decide +kernel
set_option maxRecDepth 100000 in
set_option maxHeartbeats 4000000 in
theorem kX6_many (Θ : Tht) (m0 m1 m2 m3 m4 m5 m6 m7 m8 m9 : Nat) (m_now : Nat → Int64) (m_saved : Nat → Int64) (m_aside : Nat → Int64) (m_states : Int32) (m_quiet : Int32) (m_thrown : Int32) (m_tried : Nat → Int32) (m_best : Nat → Int32) (m_touching : Nat → Int32) (m_text : Nat → Int32) (m_length : Int32) (m_at : Int32) (m_verbs : Nat → Int32) (m_told : Nat → Int32) (m_commands : Int32) (a0 : Int32) (ro : Int32) (hf : fX6_many m_now a0 = some ro) : Fn Θ yX6_many (Cond.code yX6_many cX6_many 2 (some .int) :: GW) rmX6_many [.ref m0, .int a0] (wX6 Θ m0 m1 m2 m3 m4 m5 m6 m7 m8 m9 m_now m_saved m_aside m_states m_quiet m_thrown m_tried m_best m_touching m_text m_length m_at m_verbs m_told m_commands) (some (.int ro)) (wX6 Θ m0 m1 m2 m3 m4 m5 m6 m7 m8 m9 m_now m_saved m_aside m_states m_quiet m_thrown m_tried m_best m_touching m_text m_length m_at m_verbs m_told m_commands) := by
  delta fX6_many at hf
  refine Fn.of (by decide +kernel) rfl (Nat.le_of_ble_eq_true rfl) (fun p e s m args below meth c A Q G K => ?_)
  show sw Θ p e rmX6_many s m args below meth c A Q 2 0 0 0 [(0, .ref m0), (1, .int a0)] [] (wX6 Θ m0 m1 m2 m3 m4 m5 m6 m7 m8 m9 m_now m_saved m_aside m_states m_quiet m_thrown m_tried m_best m_touching m_text m_length m_at m_verbs m_told m_commands)
  refine sw_aload_n 0 G dX6_many_0 0 rfl ?_
  refine sw_get 1 G hnX6 0 0 dX6_many_1 vc6 (by decide) (List.mem_cons_of_mem _ lk_54e63fd8) rfl rfl ?_
  refine sw_iload_n 4 G dX6_many_4 1 rfl ?_
  refine sw_lald 5 G 1 dX6_many_5 rfl hf (fun hf => ?_)
  refine sw_l2i 6 G dX6_many_6 ?_
  cases hf
  exact sw_iret 7 G dX6_many_7 K
abbrev rmX6_setting : Room := { frames := 0, cells := 0, slots := 0, locals := 0 }
theorem hvX6_setting : yX6_setting.cls = RX6 ∧ yX6_setting.cls ≠ "java/lang/invoke/MethodHandle" ∧ yX6_setting.cls ≠ "java/lang/invoke/VarHandle" ∧ (parseMethodDescriptor yX6_setting.desc).map (fun d => d.parameters.length) = some 1 := by decide +kernel
set_option maxRecDepth 100000 in
set_option maxHeartbeats 4000000 in
theorem kX6_setting (Θ : Tht) (m0 m1 m2 m3 m4 m5 m6 m7 m8 m9 : Nat) (m_now : Nat → Int64) (m_saved : Nat → Int64) (m_aside : Nat → Int64) (m_states : Int32) (m_quiet : Int32) (m_thrown : Int32) (m_tried : Nat → Int32) (m_best : Nat → Int32) (m_touching : Nat → Int32) (m_text : Nat → Int32) (m_length : Int32) (m_at : Int32) (m_verbs : Nat → Int32) (m_told : Nat → Int32) (m_commands : Int32) (a0 : Int32) (ro : Int32) (hf : fX6_setting m_now a0 = some ro) : Fn Θ yX6_setting (Cond.code yX6_setting cX6_setting 2 (some .int) :: GW) rmX6_setting [.ref m0, .int a0] (wX6 Θ m0 m1 m2 m3 m4 m5 m6 m7 m8 m9 m_now m_saved m_aside m_states m_quiet m_thrown m_tried m_best m_touching m_text m_length m_at m_verbs m_told m_commands) (some (.int ro)) (wX6 Θ m0 m1 m2 m3 m4 m5 m6 m7 m8 m9 m_now m_saved m_aside m_states m_quiet m_thrown m_tried m_best m_touching m_text m_length m_at m_verbs m_told m_commands) := by
  delta fX6_setting at hf
  refine Fn.of (by decide +kernel) rfl (Nat.le_of_ble_eq_true rfl) (fun p e s m args below meth c A Q G K => ?_)
  show sw Θ p e rmX6_setting s m args below meth c A Q 2 0 0 0 [(0, .ref m0), (1, .int a0)] [] (wX6 Θ m0 m1 m2 m3 m4 m5 m6 m7 m8 m9 m_now m_saved m_aside m_states m_quiet m_thrown m_tried m_best m_touching m_text m_length m_at m_verbs m_told m_commands)
  refine sw_aload_n 0 G dX6_setting_0 0 rfl ?_
  refine sw_get 1 G hnX6 0 0 dX6_setting_1 vc6 (by decide) (List.mem_cons_of_mem _ lk_54e63fd8) rfl rfl ?_
  refine sw_iconst 4 G (3 : Int32) dX6_setting_4 rfl ?_
  refine sw_iload_n 5 G dX6_setting_5 1 rfl ?_
  refine sw_iadd 6 G dX6_setting_6 ?_
  refine sw_nmi hf (fun v1 hf => ?_)
  refine sw_lald 7 G 1 dX6_setting_7 rfl hf (fun hf => ?_)
  refine sw_l2i 8 G dX6_setting_8 ?_
  cases hf
  exact sw_iret 9 G dX6_setting_9 K
abbrev rmX6_ofOp : Room := { frames := 0, cells := 0, slots := 0, locals := 0 }
theorem hvX6_ofOp : yX6_ofOp.cls = RX6 ∧ yX6_ofOp.cls ≠ "java/lang/invoke/MethodHandle" ∧ yX6_ofOp.cls ≠ "java/lang/invoke/VarHandle" ∧ (parseMethodDescriptor yX6_ofOp.desc).map (fun d => d.parameters.length) = some 2 := by decide +kernel
set_option maxRecDepth 100000 in
set_option maxHeartbeats 4000000 in
theorem kX6_ofOp (Θ : Tht) (m0 m1 m2 m3 m4 m5 m6 m7 m8 m9 : Nat) (m_now : Nat → Int64) (m_saved : Nat → Int64) (m_aside : Nat → Int64) (m_states : Int32) (m_quiet : Int32) (m_thrown : Int32) (m_tried : Nat → Int32) (m_best : Nat → Int32) (m_touching : Nat → Int32) (m_text : Nat → Int32) (m_length : Int32) (m_at : Int32) (m_verbs : Nat → Int32) (m_told : Nat → Int32) (m_commands : Int32) (a0 : Int32) (a1 : Int32) (ro : Int32) (hf : fX6_ofOp m_now a0 a1 = some ro) : Fn Θ yX6_ofOp (Cond.code yX6_ofOp cX6_ofOp 3 (some .int) :: GW) rmX6_ofOp [.ref m0, .int a0, .int a1] (wX6 Θ m0 m1 m2 m3 m4 m5 m6 m7 m8 m9 m_now m_saved m_aside m_states m_quiet m_thrown m_tried m_best m_touching m_text m_length m_at m_verbs m_told m_commands) (some (.int ro)) (wX6 Θ m0 m1 m2 m3 m4 m5 m6 m7 m8 m9 m_now m_saved m_aside m_states m_quiet m_thrown m_tried m_best m_touching m_text m_length m_at m_verbs m_told m_commands) := by
  delta fX6_ofOp at hf
  refine Fn.of (by decide +kernel) rfl (Nat.le_of_ble_eq_true rfl) (fun p e s m args below meth c A Q G K => ?_)
  show sw Θ p e rmX6_ofOp s m args below meth c A Q 3 0 0 0 [(0, .ref m0), (1, .int a0), (2, .int a1)] [] (wX6 Θ m0 m1 m2 m3 m4 m5 m6 m7 m8 m9 m_now m_saved m_aside m_states m_quiet m_thrown m_tried m_best m_touching m_text m_length m_at m_verbs m_told m_commands)
  refine sw_aload_n 0 G dX6_ofOp_0 0 rfl ?_
  refine sw_get 1 G hnX6 0 0 dX6_ofOp_1 vc6 (by decide) (List.mem_cons_of_mem _ lk_54e63fd8) rfl rfl ?_
  refine sw_bipush 4 G (20 : Int32) dX6_ofOp_4 rfl ?_
  refine sw_bipush 6 G (6 : Int32) dX6_ofOp_6 rfl ?_
  refine sw_iload_n 8 G dX6_ofOp_8 1 rfl ?_
  refine sw_imul 9 G dX6_ofOp_9 ?_
  refine sw_iadd 10 G dX6_ofOp_10 ?_
  refine sw_nmi hf (fun v1 hf => ?_)
  refine sw_iload_n 11 G dX6_ofOp_11 2 rfl ?_
  refine sw_iadd 12 G dX6_ofOp_12 ?_
  refine sw_nmi hf (fun v2 hf => ?_)
  refine sw_lald 13 G 1 dX6_ofOp_13 rfl hf (fun hf => ?_)
  refine sw_l2i 14 G dX6_ofOp_14 ?_
  cases hf
  exact sw_iret 15 G dX6_ofOp_15 K
abbrev rmX6_isOp : Room := { frames := 1, cells := 0, slots := 0, locals := 22 }
theorem hvX6_isOp : yX6_isOp.cls = RX6 ∧ yX6_isOp.cls ≠ "java/lang/invoke/MethodHandle" ∧ yX6_isOp.cls ≠ "java/lang/invoke/VarHandle" ∧ (parseMethodDescriptor yX6_isOp.desc).map (fun d => d.parameters.length) = some 1 := by decide +kernel
set_option maxRecDepth 100000 in
set_option maxHeartbeats 4000000 in
theorem kX6_isOp (Θ : Tht) (m0 m1 m2 m3 m4 m5 m6 m7 m8 m9 : Nat) (m_now : Nat → Int64) (m_saved : Nat → Int64) (m_aside : Nat → Int64) (m_states : Int32) (m_quiet : Int32) (m_thrown : Int32) (m_tried : Nat → Int32) (m_best : Nat → Int32) (m_touching : Nat → Int32) (m_text : Nat → Int32) (m_length : Int32) (m_at : Int32) (m_verbs : Nat → Int32) (m_told : Nat → Int32) (m_commands : Int32) (a0 : Int32) (ro : Int32) (hf : fX6_isOp m_now a0 = some ro) : Fn Θ yX6_isOp (Cond.code yX6_isOp cX6_isOp 2 (some .boolean) :: GW) rmX6_isOp [.ref m0, .int a0] (wX6 Θ m0 m1 m2 m3 m4 m5 m6 m7 m8 m9 m_now m_saved m_aside m_states m_quiet m_thrown m_tried m_best m_touching m_text m_length m_at m_verbs m_told m_commands) (some (.int ro)) (wX6 Θ m0 m1 m2 m3 m4 m5 m6 m7 m8 m9 m_now m_saved m_aside m_states m_quiet m_thrown m_tried m_best m_touching m_text m_length m_at m_verbs m_told m_commands) := by
  delta fX6_isOp at hf
  refine Fn.of (by decide +kernel) rfl (Nat.le_of_ble_eq_true rfl) (fun p e s m args below meth c A Q G K => ?_)
  show sw Θ p e rmX6_isOp s m args below meth c A Q 2 0 0 0 [(0, .ref m0), (1, .int a0)] [] (wX6 Θ m0 m1 m2 m3 m4 m5 m6 m7 m8 m9 m_now m_saved m_aside m_states m_quiet m_thrown m_tried m_best m_touching m_text m_length m_at m_verbs m_told m_commands)
  refine sw_iload_n 0 G dX6_isOp_0 1 rfl ?_
  refine sw_iconst 1 G (0 : Int32) dX6_isOp_1 rfl ?_
  refine sw_aload_n 2 G dX6_isOp_2 0 rfl ?_
  refine sw_bipush 3 G (8 : Int32) dX6_isOp_3 rfl ?_
  obtain ⟨r1, hg, hf⟩ := bd1_some hf
  refine sw_callV 5 G (wX6 Θ m0 m1 m2 m3 m4 m5 m6 m7 m8 m9 m_now m_saved m_aside m_states m_quiet m_thrown m_tried m_best m_touching m_text m_length m_at m_verbs m_told m_commands) [0, 1, 2, 3, 4, 5, 6, 7, 8, 9] [] [0, 1, 2, 3, 4, 5, 6, 7, 8, 9] 1 dX6_isOp_5 (kX6_many Θ m0 m1 m2 m3 m4 m5 m6 m7 m8 m9 m_now m_saved m_aside m_states m_quiet m_thrown m_tried m_best m_touching m_text m_length m_at m_verbs m_told m_commands (8 : Int32) r1 hg) (gwV lk_184fe921 lk_d689724c lk_b095f72c lk_6d91b6d2 lk_d7f116ea) rfl hvX6_many ⟨rfl, rfl⟩ ⟨Nat.le_of_ble_eq_true rfl, Nat.le_of_ble_eq_true rfl⟩ ⟨Nat.zero_le _, Nat.zero_le _⟩ rfl rfl (Nat.le_of_ble_eq_true rfl) 0 rfl vc6 rfl rfl rfl rfl (by decide) ?_
  refine sw_iconst 8 G (1 : Int32) dX6_isOp_8 rfl ?_
  refine sw_isub 9 G dX6_isOp_9 ?_
  obtain ⟨r2, hg, hf⟩ := bd1_some hf
  refine sw_callS 10 G (wX6 Θ m0 m1 m2 m3 m4 m5 m6 m7 m8 m9 m_now m_saved m_aside m_states m_quiet m_thrown m_tried m_best m_touching m_text m_length m_at m_verbs m_told m_commands) [] [0, 1, 2, 3, 4, 5, 6, 7, 8, 9] [0, 1, 2, 3, 4, 5, 6, 7, 8, 9] 3 dX6_isOp_10 (kX6_in Θ a0 (0 : Int32) (r1 - (1 : Int32)) r2 hg) (gwS lk_739e9842 lk_9ad51b2c lk_59eba9b0 lk_5ad5c33d) rfl hsX6_in ⟨rfl, rfl⟩ ⟨Nat.le_of_ble_eq_true rfl, Nat.le_of_ble_eq_true rfl⟩ ⟨Nat.zero_le _, Nat.zero_le _⟩ rfl rfl (Nat.le_of_ble_eq_true rfl) rfl rfl rfl (by decide) ?_
  obtain ⟨hz, hf⟩ := gb_some hf
  cases hf
  exact sw_zret 13 G dX6_isOp_13 K hz
abbrev rmX6_ofPitch : Room := { frames := 0, cells := 0, slots := 0, locals := 0 }
theorem hvX6_ofPitch : yX6_ofPitch.cls = RX6 ∧ yX6_ofPitch.cls ≠ "java/lang/invoke/MethodHandle" ∧ yX6_ofPitch.cls ≠ "java/lang/invoke/VarHandle" ∧ (parseMethodDescriptor yX6_ofPitch.desc).map (fun d => d.parameters.length) = some 2 := by decide +kernel
set_option maxRecDepth 100000 in
set_option maxHeartbeats 4000000 in
theorem kX6_ofPitch (Θ : Tht) (m0 m1 m2 m3 m4 m5 m6 m7 m8 m9 : Nat) (m_now : Nat → Int64) (m_saved : Nat → Int64) (m_aside : Nat → Int64) (m_states : Int32) (m_quiet : Int32) (m_thrown : Int32) (m_tried : Nat → Int32) (m_best : Nat → Int32) (m_touching : Nat → Int32) (m_text : Nat → Int32) (m_length : Int32) (m_at : Int32) (m_verbs : Nat → Int32) (m_told : Nat → Int32) (m_commands : Int32) (a0 : Int32) (a1 : Int32) (ro : Int64) (hf : fX6_ofPitch m_now a0 a1 = some ro) : Fn Θ yX6_ofPitch (Cond.code yX6_ofPitch cX6_ofPitch 3 (some .long) :: GW) rmX6_ofPitch [.ref m0, .int a0, .int a1] (wX6 Θ m0 m1 m2 m3 m4 m5 m6 m7 m8 m9 m_now m_saved m_aside m_states m_quiet m_thrown m_tried m_best m_touching m_text m_length m_at m_verbs m_told m_commands) (some (.long ro)) (wX6 Θ m0 m1 m2 m3 m4 m5 m6 m7 m8 m9 m_now m_saved m_aside m_states m_quiet m_thrown m_tried m_best m_touching m_text m_length m_at m_verbs m_told m_commands) := by
  delta fX6_ofPitch at hf
  refine Fn.of (by decide +kernel) rfl (Nat.le_of_ble_eq_true rfl) (fun p e s m args below meth c A Q G K => ?_)
  show sw Θ p e rmX6_ofPitch s m args below meth c A Q 3 0 0 0 [(0, .ref m0), (1, .int a0), (2, .int a1)] [] (wX6 Θ m0 m1 m2 m3 m4 m5 m6 m7 m8 m9 m_now m_saved m_aside m_states m_quiet m_thrown m_tried m_best m_touching m_text m_length m_at m_verbs m_told m_commands)
  refine sw_aload_n 0 G dX6_ofPitch_0 0 rfl ?_
  refine sw_get 1 G hnX6 0 0 dX6_ofPitch_1 vc6 (by decide) (List.mem_cons_of_mem _ lk_54e63fd8) rfl rfl ?_
  refine sw_bipush 4 G (60 : Int32) dX6_ofPitch_4 rfl ?_
  refine sw_iconst 6 G (5 : Int32) dX6_ofPitch_6 rfl ?_
  refine sw_iload_n 7 G dX6_ofPitch_7 1 rfl ?_
  refine sw_imul 8 G dX6_ofPitch_8 ?_
  refine sw_iadd 9 G dX6_ofPitch_9 ?_
  refine sw_nmi hf (fun v1 hf => ?_)
  refine sw_iload_n 10 G dX6_ofPitch_10 2 rfl ?_
  refine sw_iadd 11 G dX6_ofPitch_11 ?_
  refine sw_nmi hf (fun v2 hf => ?_)
  refine sw_lald 12 G 1 dX6_ofPitch_12 rfl hf (fun hf => ?_)
  cases hf
  exact sw_lret 13 G dX6_ofPitch_13 K
abbrev rmX6_ones : Room := { frames := 0, cells := 0, slots := 0, locals := 0 }
theorem hsX6_ones : yX6_ones.cls ≠ "java/lang/invoke/MethodHandle" ∧ yX6_ones.cls ≠ "java/lang/invoke/VarHandle" ∧ (parseMethodDescriptor yX6_ones.desc).map (fun d => d.parameters.length) = some 1 := by decide +kernel
set_option maxRecDepth 100000 in
set_option maxHeartbeats 4000000 in
theorem kX6_ones (Θ : Tht) (F : Nat) (a0 : Int64) (ro : Int32) (hf : fX6_ones F a0 = some ro) : Fn Θ yX6_ones (Cond.code yX6_ones cX6_ones 4 (some .int) :: GW) rmX6_ones [.long a0] ([]) (some (.int ro)) ([]) := by
  delta fX6_ones at hf
  refine Fn.of (by decide +kernel) rfl (Nat.le_of_ble_eq_true rfl) (fun p e s m args below meth c A Q G K => ?_)
  show sw Θ p e rmX6_ones s m args below meth c A Q 4 0 0 0 [(0, .long a0)] [] ([])
  refine sw_iconst 0 G (0 : Int32) dX6_ones_0 rfl ?_
  refine sw_istore_n 1 G [(2, .int (0 : Int32)), (0, .long a0)] dX6_ones_1 (by decide) rfl ?_
  refine sw_iconst 2 G (0 : Int32) dX6_ones_2 rfl ?_
  refine sw_istore_n 3 G [(3, .int (0 : Int32)), (2, .int (0 : Int32)), (0, .long a0)] dX6_ones_3 (by decide) rfl ?_
  obtain ⟨v1, hl, hf⟩ := bd1_some hf
  have hx4_25 : sw Θ p e rmX6_ones s m args below meth c A Q 4 0 0 25 [(2, .int v1)] [] ([]) := by
    refine sw_iload_n 25 G dX6_ones_25 0 rfl ?_
    cases hf
    exact sw_iret 26 G dX6_ones_26 K
  refine sw_lv [(0, .long a0), (2, .int (0 : Int32)), (3, .int (0 : Int32))] [2, 1, 0] rfl ?_
  refine lp_walk (P := fun (t : Int32 × Int32) => sw Θ p e rmX6_ones s m args below meth c A Q 4 0 0 4 [(0, .long a0), (2, .int t.1), (3, .int t.2)] [] ([])) hl (fun t4 y4 hf hin4 hex4 => ?_)
  obtain ⟨v2, v3⟩ := t4
  show sw Θ p e rmX6_ones s m args below meth c A Q 4 0 0 4 [(0, .long a0), (2, .int v2), (3, .int v3)] [] ([])
  have hf := uc2_some (K := _) hf
  refine sw_iload_n 4 G dX6_ones_4 2 rfl ?_
  refine sw_bipush 5 G (60 : Int32) dX6_ones_5 rfl ?_
  refine sw_icmp_ge 7 25 G dX6_ones_7 rfl hf (fun hf => ?_) (fun hf => ?_)
  · cases hf
    cases hex4 _ rfl
    exact sw_lv _ [1] rfl hx4_25
  · refine sw_iload_n 10 G dX6_ones_10 1 rfl ?_
    refine sw_lload_n 11 G dX6_ones_11 0 rfl ?_
    refine sw_iload_n 12 G dX6_ones_12 2 rfl ?_
    refine sw_lshr 13 G dX6_ones_13 ?_
    refine sw_lconst 14 G (1 : Int64) dX6_ones_14 rfl ?_
    refine sw_land 15 G dX6_ones_15 ?_
    refine sw_l2i 16 G dX6_ones_16 ?_
    refine sw_iadd 17 G dX6_ones_17 ?_
    refine sw_nmi hf (fun v4 hf => ?_)
    refine sw_istore_n 18 G [(2, .int v4), (0, .long a0), (3, .int v3)] dX6_ones_18 (by decide) rfl ?_
    refine sw_iinc 19 G (v3 + (1 : Int32)) [(3, .int (v3 + (1 : Int32))), (2, .int v4), (0, .long a0)] dX6_ones_19 2 rfl rfl (by decide) rfl ?_
    refine sw_goto 22 G 4 dX6_ones_22 rfl ?_
    cases hf
    have hb := hin4 _ rfl
    exact sw_lv _ [2, 1, 0] (by rfl) hb
abbrev rmX6_save : Room := { frames := 0, cells := 0, slots := 0, locals := 0 }
theorem hvX6_save : yX6_save.cls = RX6 ∧ yX6_save.cls ≠ "java/lang/invoke/MethodHandle" ∧ yX6_save.cls ≠ "java/lang/invoke/VarHandle" ∧ (parseMethodDescriptor yX6_save.desc).map (fun d => d.parameters.length) = some 0 := by decide +kernel
set_option maxRecDepth 100000 in
set_option maxHeartbeats 4000000 in
theorem kX6_save (Θ : Tht) (F : Nat) (m0 m1 m2 m3 m4 m5 m6 m7 m8 m9 : Nat) (m_now : Nat → Int64) (m_saved : Nat → Int64) (m_aside : Nat → Int64) (m_states : Int32) (m_quiet : Int32) (m_thrown : Int32) (m_tried : Nat → Int32) (m_best : Nat → Int32) (m_touching : Nat → Int32) (m_text : Nat → Int32) (m_length : Int32) (m_at : Int32) (m_verbs : Nat → Int32) (m_told : Nat → Int32) (m_commands : Int32) (o_m_saved : Nat → Int64) (o_m_states : Int32) (hf : fX6_save F m_now m_saved m_states m_quiet = some (o_m_saved, o_m_states)) : Fn Θ yX6_save (Cond.code yX6_save cX6_save 2 none :: GW) rmX6_save [.ref m0] (wX6 Θ m0 m1 m2 m3 m4 m5 m6 m7 m8 m9 m_now m_saved m_aside m_states m_quiet m_thrown m_tried m_best m_touching m_text m_length m_at m_verbs m_told m_commands) none (wX6 Θ m0 m1 m2 m3 m4 m5 m6 m7 m8 m9 m_now o_m_saved m_aside o_m_states m_quiet m_thrown m_tried m_best m_touching m_text m_length m_at m_verbs m_told m_commands) := by
  delta fX6_save at hf
  refine Fn.of (by decide +kernel) rfl (Nat.le_of_ble_eq_true rfl) (fun p e s m args below meth c A Q G K => ?_)
  show sw Θ p e rmX6_save s m args below meth c A Q 2 0 0 0 [(0, .ref m0)] [] (wX6 Θ m0 m1 m2 m3 m4 m5 m6 m7 m8 m9 m_now m_saved m_aside m_states m_quiet m_thrown m_tried m_best m_touching m_text m_length m_at m_verbs m_told m_commands)
  refine sw_aload_n 0 G dX6_save_0 0 rfl ?_
  refine sw_get 1 G hnX6 0 4 dX6_save_1 vc6 (by decide) (List.mem_cons_of_mem _ lk_a02adbde) rfl rfl ?_
  refine sw_if_eq 4 8 G dX6_save_4 rfl hf (fun hf => ?_) (fun hf => ?_)
  · refine sw_aload_n 8 G dX6_save_8 0 rfl ?_
    refine sw_get 9 G hnX6 0 3 dX6_save_9 vc6 (by decide) (List.mem_cons_of_mem _ lk_6da2e398) rfl rfl ?_
    refine sw_iconst 12 G (4 : Int32) dX6_save_12 rfl ?_
    obtain ⟨v1, v2, hj, hf⟩ := bd2_some hf
    have hx56 : sw Θ p e rmX6_save s m args below meth c A Q 2 0 0 56 [(0, .ref m0)] [] (wX6 Θ m0 m1 m2 m3 m4 m5 m6 m7 m8 m9 m_now v1 m_aside v2 m_quiet m_thrown m_tried m_best m_touching m_text m_length m_at m_verbs m_told m_commands) := by
      refine sw_iconst 56 G (0 : Int32) dX6_save_56 rfl ?_
      refine sw_istore_n 57 G [(1, .int (0 : Int32)), (0, .ref m0)] dX6_save_57 (by decide) rfl ?_
      obtain ⟨v9, hl, hf⟩ := bd1_some hf
      have hx58_90 : sw Θ p e rmX6_save s m args below meth c A Q 2 0 0 90 [(0, .ref m0)] [] (wX6 Θ m0 m1 m2 m3 m4 m5 m6 m7 m8 m9 m_now v9 m_aside v2 m_quiet m_thrown m_tried m_best m_touching m_text m_length m_at m_verbs m_told m_commands) := by
        refine sw_aload_n 90 G dX6_save_90 0 rfl ?_
        refine sw_dup 91 G dX6_save_91 rfl ?_
        refine sw_get 92 G hnX6 0 3 dX6_save_92 vc6 (by decide) (List.mem_cons_of_mem _ lk_6da2e398) rfl rfl ?_
        refine sw_iconst 95 G (1 : Int32) dX6_save_95 rfl ?_
        refine sw_iadd 96 G dX6_save_96 ?_
        refine sw_nmi hf (fun v10 hf => ?_)
        refine sw_put 97 G hnX6 tyX6_ok nmX6 0 3 (wX6 Θ m0 m1 m2 m3 m4 m5 m6 m7 m8 m9 m_now v9 m_aside v10 m_quiet m_thrown m_tried m_best m_touching m_text m_length m_at m_verbs m_told m_commands) dX6_save_97 vc6 (by decide) (List.mem_cons_of_mem _ lk_6da2e398) rfl rfl (Nat.le_of_ble_eq_true rfl) (tyX6_ok 3 (by decide)) rfl rfl rfl ?_
        cases hf
        exact sw_vret 100 G dX6_save_100 K
      refine sw_lv [(0, .ref m0), (1, .int (0 : Int32))] [1, 0] rfl ?_
      refine lp_walk (P := fun (t : Int32 × (Nat → Int64)) => sw Θ p e rmX6_save s m args below meth c A Q 2 0 0 58 [(0, .ref m0), (1, .int t.1)] [] (wX6 Θ m0 m1 m2 m3 m4 m5 m6 m7 m8 m9 m_now t.2 m_aside v2 m_quiet m_thrown m_tried m_best m_touching m_text m_length m_at m_verbs m_told m_commands)) hl (fun t58 y58 hf hin58 hex58 => ?_)
      obtain ⟨v11, v12⟩ := t58
      show sw Θ p e rmX6_save s m args below meth c A Q 2 0 0 58 [(0, .ref m0), (1, .int v11)] [] (wX6 Θ m0 m1 m2 m3 m4 m5 m6 m7 m8 m9 m_now v12 m_aside v2 m_quiet m_thrown m_tried m_best m_touching m_text m_length m_at m_verbs m_told m_commands)
      have hf := uc2_some (K := _) hf
      refine sw_iload_n 58 G dX6_save_58 1 rfl ?_
      refine sw_bipush 59 G (100 : Int32) dX6_save_59 rfl ?_
      refine sw_icmp_ge 61 90 G dX6_save_61 rfl hf (fun hf => ?_) (fun hf => ?_)
      · cases hf
        cases hex58 _ rfl
        exact sw_lv _ [0] rfl hx58_90
      · refine sw_aload_n 64 G dX6_save_64 0 rfl ?_
        refine sw_get 65 G hnX6 0 1 dX6_save_65 vc6 (by decide) (List.mem_cons_of_mem _ lk_370692ad) rfl rfl ?_
        refine sw_bipush 68 G (100 : Int32) dX6_save_68 rfl ?_
        refine sw_aload_n 70 G dX6_save_70 0 rfl ?_
        refine sw_get 71 G hnX6 0 3 dX6_save_71 vc6 (by decide) (List.mem_cons_of_mem _ lk_6da2e398) rfl rfl ?_
        refine sw_imul 74 G dX6_save_74 ?_
        refine sw_nmi hf (fun v13 hf => ?_)
        refine sw_iload_n 75 G dX6_save_75 1 rfl ?_
        refine sw_iadd 76 G dX6_save_76 ?_
        refine sw_nmi hf (fun v14 hf => ?_)
        refine sw_aload_n 77 G dX6_save_77 0 rfl ?_
        refine sw_get 78 G hnX6 0 0 dX6_save_78 vc6 (by decide) (List.mem_cons_of_mem _ lk_54e63fd8) rfl rfl ?_
        refine sw_iload_n 81 G dX6_save_81 1 rfl ?_
        refine sw_lald 82 G 1 dX6_save_82 rfl hf (fun hf => ?_)
        refine sw_nml hf (fun v15 hf => ?_)
        refine sw_last 83 G 2 (wX6 Θ m0 m1 m2 m3 m4 m5 m6 m7 m8 m9 m_now (vp_updL v12 v14.toNatClampNeg v15) m_aside v2 m_quiet m_thrown m_tried m_best m_touching m_text m_length m_at m_verbs m_told m_commands) dX6_save_83 rfl rfl hf (fun hf => ?_)
        refine sw_iinc 84 G (v11 + (1 : Int32)) [(1, .int (v11 + (1 : Int32))), (0, .ref m0)] dX6_save_84 1 rfl rfl (by decide) rfl ?_
        refine sw_goto 87 G 58 dX6_save_87 rfl ?_
        cases hf
        have hb := hin58 _ rfl
        exact sw_lv _ [1, 0] (by rfl) hb
    clear hf
    have hf := hj
    clear hj
    refine sw_icmp_ne 13 56 G dX6_save_13 rfl hf (fun hf => ?_) (fun hf => ?_)
    · cases hf
      exact sw_lv _ [0] rfl hx56
    · refine sw_iconst 16 G (0 : Int32) dX6_save_16 rfl ?_
      refine sw_istore_n 17 G [(1, .int (0 : Int32)), (0, .ref m0)] dX6_save_17 (by decide) rfl ?_
      obtain ⟨v3, hl, hf⟩ := bd1_some hf
      have hx18_46 : sw Θ p e rmX6_save s m args below meth c A Q 2 0 0 46 [(0, .ref m0)] [] (wX6 Θ m0 m1 m2 m3 m4 m5 m6 m7 m8 m9 m_now v3 m_aside m_states m_quiet m_thrown m_tried m_best m_touching m_text m_length m_at m_verbs m_told m_commands) := by
        refine sw_aload_n 46 G dX6_save_46 0 rfl ?_
        refine sw_dup 47 G dX6_save_47 rfl ?_
        refine sw_get 48 G hnX6 0 3 dX6_save_48 vc6 (by decide) (List.mem_cons_of_mem _ lk_6da2e398) rfl rfl ?_
        refine sw_iconst 51 G (1 : Int32) dX6_save_51 rfl ?_
        refine sw_isub 52 G dX6_save_52 ?_
        refine sw_nmi hf (fun v4 hf => ?_)
        refine sw_put 53 G hnX6 tyX6_ok nmX6 0 3 (wX6 Θ m0 m1 m2 m3 m4 m5 m6 m7 m8 m9 m_now v3 m_aside v4 m_quiet m_thrown m_tried m_best m_touching m_text m_length m_at m_verbs m_told m_commands) dX6_save_53 vc6 (by decide) (List.mem_cons_of_mem _ lk_6da2e398) rfl rfl (Nat.le_of_ble_eq_true rfl) (tyX6_ok 3 (by decide)) rfl rfl rfl ?_
        cases hf
        exact sw_lv _ [0] rfl hx56
      refine sw_lv [(0, .ref m0), (1, .int (0 : Int32))] [1, 0] rfl ?_
      refine lp_walk (P := fun (t : Int32 × (Nat → Int64)) => sw Θ p e rmX6_save s m args below meth c A Q 2 0 0 18 [(0, .ref m0), (1, .int t.1)] [] (wX6 Θ m0 m1 m2 m3 m4 m5 m6 m7 m8 m9 m_now t.2 m_aside m_states m_quiet m_thrown m_tried m_best m_touching m_text m_length m_at m_verbs m_told m_commands)) hl (fun t18 y18 hf hin18 hex18 => ?_)
      obtain ⟨v5, v6⟩ := t18
      show sw Θ p e rmX6_save s m args below meth c A Q 2 0 0 18 [(0, .ref m0), (1, .int v5)] [] (wX6 Θ m0 m1 m2 m3 m4 m5 m6 m7 m8 m9 m_now v6 m_aside m_states m_quiet m_thrown m_tried m_best m_touching m_text m_length m_at m_verbs m_told m_commands)
      have hf := uc2_some (K := _) hf
      refine sw_iload_n 18 G dX6_save_18 1 rfl ?_
      refine sw_sipush 19 G (300 : Int32) dX6_save_19 rfl ?_
      refine sw_icmp_ge 22 46 G dX6_save_22 rfl hf (fun hf => ?_) (fun hf => ?_)
      · cases hf
        cases hex18 _ rfl
        exact sw_lv _ [0] rfl hx18_46
      · refine sw_aload_n 25 G dX6_save_25 0 rfl ?_
        refine sw_get 26 G hnX6 0 1 dX6_save_26 vc6 (by decide) (List.mem_cons_of_mem _ lk_370692ad) rfl rfl ?_
        refine sw_iload_n 29 G dX6_save_29 1 rfl ?_
        refine sw_aload_n 30 G dX6_save_30 0 rfl ?_
        refine sw_get 31 G hnX6 0 1 dX6_save_31 vc6 (by decide) (List.mem_cons_of_mem _ lk_370692ad) rfl rfl ?_
        refine sw_iload_n 34 G dX6_save_34 1 rfl ?_
        refine sw_bipush 35 G (100 : Int32) dX6_save_35 rfl ?_
        refine sw_iadd 37 G dX6_save_37 ?_
        refine sw_nmi hf (fun v7 hf => ?_)
        refine sw_lald 38 G 2 dX6_save_38 rfl hf (fun hf => ?_)
        refine sw_nml hf (fun v8 hf => ?_)
        refine sw_last 39 G 2 (wX6 Θ m0 m1 m2 m3 m4 m5 m6 m7 m8 m9 m_now (vp_updL v6 v5.toNatClampNeg v8) m_aside m_states m_quiet m_thrown m_tried m_best m_touching m_text m_length m_at m_verbs m_told m_commands) dX6_save_39 rfl rfl hf (fun hf => ?_)
        refine sw_iinc 40 G (v5 + (1 : Int32)) [(1, .int (v5 + (1 : Int32))), (0, .ref m0)] dX6_save_40 1 rfl rfl (by decide) rfl ?_
        refine sw_goto 43 G 18 dX6_save_43 rfl ?_
        cases hf
        have hb := hin18 _ rfl
        exact sw_lv _ [1, 0] (by rfl) hb
  · cases hf
    exact sw_vret 7 G dX6_save_7 K
abbrev rmX6_isRectangle : Room := { frames := 1, cells := 0, slots := 0, locals := 22 }
theorem hvX6_isRectangle : yX6_isRectangle.cls = RX6 ∧ yX6_isRectangle.cls ≠ "java/lang/invoke/MethodHandle" ∧ yX6_isRectangle.cls ≠ "java/lang/invoke/VarHandle" ∧ (parseMethodDescriptor yX6_isRectangle.desc).map (fun d => d.parameters.length) = some 4 := by decide +kernel
set_option maxRecDepth 100000 in
set_option maxHeartbeats 4000000 in
theorem kX6_isRectangle (Θ : Tht) (m0 m1 m2 m3 m4 m5 m6 m7 m8 m9 : Nat) (m_now : Nat → Int64) (m_saved : Nat → Int64) (m_aside : Nat → Int64) (m_states : Int32) (m_quiet : Int32) (m_thrown : Int32) (m_tried : Nat → Int32) (m_best : Nat → Int32) (m_touching : Nat → Int32) (m_text : Nat → Int32) (m_length : Int32) (m_at : Int32) (m_verbs : Nat → Int32) (m_told : Nat → Int32) (m_commands : Int32) (a0 : Int32) (a1 : Int32) (a2 : Int32) (a3 : Int32) (ro : Int32) (hf : fX6_isRectangle m_now a0 a1 a2 a3 = some ro) : Fn Θ yX6_isRectangle (Cond.code yX6_isRectangle cX6_isRectangle 5 (some .boolean) :: GW) rmX6_isRectangle [.ref m0, .int a0, .int a1, .int a2, .int a3] (wX6 Θ m0 m1 m2 m3 m4 m5 m6 m7 m8 m9 m_now m_saved m_aside m_states m_quiet m_thrown m_tried m_best m_touching m_text m_length m_at m_verbs m_told m_commands) (some (.int ro)) (wX6 Θ m0 m1 m2 m3 m4 m5 m6 m7 m8 m9 m_now m_saved m_aside m_states m_quiet m_thrown m_tried m_best m_touching m_text m_length m_at m_verbs m_told m_commands) := by
  delta fX6_isRectangle at hf
  refine Fn.of (by decide +kernel) rfl (Nat.le_of_ble_eq_true rfl) (fun p e s m args below meth c A Q G K => ?_)
  show sw Θ p e rmX6_isRectangle s m args below meth c A Q 5 0 0 0 [(0, .ref m0), (1, .int a0), (2, .int a1), (3, .int a2), (4, .int a3)] [] (wX6 Θ m0 m1 m2 m3 m4 m5 m6 m7 m8 m9 m_now m_saved m_aside m_states m_quiet m_thrown m_tried m_best m_touching m_text m_length m_at m_verbs m_told m_commands)
  refine sw_iload_n 0 G dX6_isRectangle_0 1 rfl ?_
  refine sw_iconst 1 G (0 : Int32) dX6_isRectangle_1 rfl ?_
  refine sw_aload_n 2 G dX6_isRectangle_2 0 rfl ?_
  refine sw_iconst 3 G (0 : Int32) dX6_isRectangle_3 rfl ?_
  obtain ⟨r1, hg, hf⟩ := bd1_some hf
  refine sw_callV 4 G (wX6 Θ m0 m1 m2 m3 m4 m5 m6 m7 m8 m9 m_now m_saved m_aside m_states m_quiet m_thrown m_tried m_best m_touching m_text m_length m_at m_verbs m_told m_commands) [0, 1, 2, 3, 4, 5, 6, 7, 8, 9] [] [0, 1, 2, 3, 4, 5, 6, 7, 8, 9] 1 dX6_isRectangle_4 (kX6_many Θ m0 m1 m2 m3 m4 m5 m6 m7 m8 m9 m_now m_saved m_aside m_states m_quiet m_thrown m_tried m_best m_touching m_text m_length m_at m_verbs m_told m_commands (0 : Int32) r1 hg) (gwV lk_184fe921 lk_d689724c lk_b095f72c lk_6d91b6d2 lk_d7f116ea) rfl hvX6_many ⟨rfl, rfl⟩ ⟨Nat.le_of_ble_eq_true rfl, Nat.le_of_ble_eq_true rfl⟩ ⟨Nat.zero_le _, Nat.zero_le _⟩ rfl rfl (Nat.le_of_ble_eq_true rfl) 0 rfl vc6 rfl rfl rfl rfl (by decide) ?_
  refine sw_iconst 7 G (1 : Int32) dX6_isRectangle_7 rfl ?_
  refine sw_isub 8 G dX6_isRectangle_8 ?_
  obtain ⟨r2, hg, hf⟩ := bd1_some hf
  refine sw_callS 9 G (wX6 Θ m0 m1 m2 m3 m4 m5 m6 m7 m8 m9 m_now m_saved m_aside m_states m_quiet m_thrown m_tried m_best m_touching m_text m_length m_at m_verbs m_told m_commands) [] [0, 1, 2, 3, 4, 5, 6, 7, 8, 9] [0, 1, 2, 3, 4, 5, 6, 7, 8, 9] 3 dX6_isRectangle_9 (kX6_in Θ a0 (0 : Int32) (r1 - (1 : Int32)) r2 hg) (gwS lk_739e9842 lk_9ad51b2c lk_59eba9b0 lk_5ad5c33d) rfl hsX6_in ⟨rfl, rfl⟩ ⟨Nat.le_of_ble_eq_true rfl, Nat.le_of_ble_eq_true rfl⟩ ⟨Nat.zero_le _, Nat.zero_le _⟩ rfl rfl (Nat.le_of_ble_eq_true rfl) rfl rfl rfl (by decide) ?_
  refine sw_if_eq 12 65 G dX6_isRectangle_12 rfl hf (fun hf => ?_) (fun hf => ?_)
  · refine sw_iconst 65 G (0 : Int32) dX6_isRectangle_65 rfl ?_
    cases hf
    exact sw_zret 66 G dX6_isRectangle_66 K rfl
  · refine sw_iload_n 15 G dX6_isRectangle_15 2 rfl ?_
    refine sw_iconst 16 G (0 : Int32) dX6_isRectangle_16 rfl ?_
    refine sw_aload_n 17 G dX6_isRectangle_17 0 rfl ?_
    refine sw_iconst 18 G (1 : Int32) dX6_isRectangle_18 rfl ?_
    obtain ⟨r3, hg, hf⟩ := bd1_some hf
    refine sw_callV 19 G (wX6 Θ m0 m1 m2 m3 m4 m5 m6 m7 m8 m9 m_now m_saved m_aside m_states m_quiet m_thrown m_tried m_best m_touching m_text m_length m_at m_verbs m_told m_commands) [0, 1, 2, 3, 4, 5, 6, 7, 8, 9] [] [0, 1, 2, 3, 4, 5, 6, 7, 8, 9] 1 dX6_isRectangle_19 (kX6_many Θ m0 m1 m2 m3 m4 m5 m6 m7 m8 m9 m_now m_saved m_aside m_states m_quiet m_thrown m_tried m_best m_touching m_text m_length m_at m_verbs m_told m_commands (1 : Int32) r3 hg) (gwV lk_184fe921 lk_d689724c lk_b095f72c lk_6d91b6d2 lk_d7f116ea) rfl hvX6_many ⟨rfl, rfl⟩ ⟨Nat.le_of_ble_eq_true rfl, Nat.le_of_ble_eq_true rfl⟩ ⟨Nat.zero_le _, Nat.zero_le _⟩ rfl rfl (Nat.le_of_ble_eq_true rfl) 0 rfl vc6 rfl rfl rfl rfl (by decide) ?_
    refine sw_iconst 22 G (1 : Int32) dX6_isRectangle_22 rfl ?_
    refine sw_isub 23 G dX6_isRectangle_23 ?_
    obtain ⟨r4, hg, hf⟩ := bd1_some hf
    refine sw_callS 24 G (wX6 Θ m0 m1 m2 m3 m4 m5 m6 m7 m8 m9 m_now m_saved m_aside m_states m_quiet m_thrown m_tried m_best m_touching m_text m_length m_at m_verbs m_told m_commands) [] [0, 1, 2, 3, 4, 5, 6, 7, 8, 9] [0, 1, 2, 3, 4, 5, 6, 7, 8, 9] 3 dX6_isRectangle_24 (kX6_in Θ a1 (0 : Int32) (r3 - (1 : Int32)) r4 hg) (gwS lk_739e9842 lk_9ad51b2c lk_59eba9b0 lk_5ad5c33d) rfl hsX6_in ⟨rfl, rfl⟩ ⟨Nat.le_of_ble_eq_true rfl, Nat.le_of_ble_eq_true rfl⟩ ⟨Nat.zero_le _, Nat.zero_le _⟩ rfl rfl (Nat.le_of_ble_eq_true rfl) rfl rfl rfl (by decide) ?_
    refine sw_if_eq 27 65 G dX6_isRectangle_27 rfl hf (fun hf => ?_) (fun hf => ?_)
    · refine sw_iconst 65 G (0 : Int32) dX6_isRectangle_65 rfl ?_
      cases hf
      exact sw_zret 66 G dX6_isRectangle_66 K rfl
    · refine sw_iload_n 30 G dX6_isRectangle_30 3 rfl ?_
      refine sw_iconst 31 G (1 : Int32) dX6_isRectangle_31 rfl ?_
      refine sw_aload_n 32 G dX6_isRectangle_32 0 rfl ?_
      refine sw_iconst 33 G (0 : Int32) dX6_isRectangle_33 rfl ?_
      obtain ⟨r5, hg, hf⟩ := bd1_some hf
      refine sw_callV 34 G (wX6 Θ m0 m1 m2 m3 m4 m5 m6 m7 m8 m9 m_now m_saved m_aside m_states m_quiet m_thrown m_tried m_best m_touching m_text m_length m_at m_verbs m_told m_commands) [0, 1, 2, 3, 4, 5, 6, 7, 8, 9] [] [0, 1, 2, 3, 4, 5, 6, 7, 8, 9] 1 dX6_isRectangle_34 (kX6_many Θ m0 m1 m2 m3 m4 m5 m6 m7 m8 m9 m_now m_saved m_aside m_states m_quiet m_thrown m_tried m_best m_touching m_text m_length m_at m_verbs m_told m_commands (0 : Int32) r5 hg) (gwV lk_184fe921 lk_d689724c lk_b095f72c lk_6d91b6d2 lk_d7f116ea) rfl hvX6_many ⟨rfl, rfl⟩ ⟨Nat.le_of_ble_eq_true rfl, Nat.le_of_ble_eq_true rfl⟩ ⟨Nat.zero_le _, Nat.zero_le _⟩ rfl rfl (Nat.le_of_ble_eq_true rfl) 0 rfl vc6 rfl rfl rfl rfl (by decide) ?_
      refine sw_iload_n 37 G dX6_isRectangle_37 1 rfl ?_
      refine sw_isub 38 G dX6_isRectangle_38 ?_
      obtain ⟨r6, hg, hf⟩ := bd1_some hf
      refine sw_callS 39 G (wX6 Θ m0 m1 m2 m3 m4 m5 m6 m7 m8 m9 m_now m_saved m_aside m_states m_quiet m_thrown m_tried m_best m_touching m_text m_length m_at m_verbs m_told m_commands) [] [0, 1, 2, 3, 4, 5, 6, 7, 8, 9] [0, 1, 2, 3, 4, 5, 6, 7, 8, 9] 3 dX6_isRectangle_39 (kX6_in Θ a2 (1 : Int32) (r5 - a0) r6 hg) (gwS lk_739e9842 lk_9ad51b2c lk_59eba9b0 lk_5ad5c33d) rfl hsX6_in ⟨rfl, rfl⟩ ⟨Nat.le_of_ble_eq_true rfl, Nat.le_of_ble_eq_true rfl⟩ ⟨Nat.zero_le _, Nat.zero_le _⟩ rfl rfl (Nat.le_of_ble_eq_true rfl) rfl rfl rfl (by decide) ?_
      refine sw_if_eq 42 65 G dX6_isRectangle_42 rfl hf (fun hf => ?_) (fun hf => ?_)
      · refine sw_iconst 65 G (0 : Int32) dX6_isRectangle_65 rfl ?_
        cases hf
        exact sw_zret 66 G dX6_isRectangle_66 K rfl
      · refine sw_iload 45 G dX6_isRectangle_45 4 rfl ?_
        refine sw_iconst 47 G (1 : Int32) dX6_isRectangle_47 rfl ?_
        refine sw_aload_n 48 G dX6_isRectangle_48 0 rfl ?_
        refine sw_iconst 49 G (1 : Int32) dX6_isRectangle_49 rfl ?_
        obtain ⟨r7, hg, hf⟩ := bd1_some hf
        refine sw_callV 50 G (wX6 Θ m0 m1 m2 m3 m4 m5 m6 m7 m8 m9 m_now m_saved m_aside m_states m_quiet m_thrown m_tried m_best m_touching m_text m_length m_at m_verbs m_told m_commands) [0, 1, 2, 3, 4, 5, 6, 7, 8, 9] [] [0, 1, 2, 3, 4, 5, 6, 7, 8, 9] 1 dX6_isRectangle_50 (kX6_many Θ m0 m1 m2 m3 m4 m5 m6 m7 m8 m9 m_now m_saved m_aside m_states m_quiet m_thrown m_tried m_best m_touching m_text m_length m_at m_verbs m_told m_commands (1 : Int32) r7 hg) (gwV lk_184fe921 lk_d689724c lk_b095f72c lk_6d91b6d2 lk_d7f116ea) rfl hvX6_many ⟨rfl, rfl⟩ ⟨Nat.le_of_ble_eq_true rfl, Nat.le_of_ble_eq_true rfl⟩ ⟨Nat.zero_le _, Nat.zero_le _⟩ rfl rfl (Nat.le_of_ble_eq_true rfl) 0 rfl vc6 rfl rfl rfl rfl (by decide) ?_
        refine sw_iload_n 53 G dX6_isRectangle_53 2 rfl ?_
        refine sw_isub 54 G dX6_isRectangle_54 ?_
        obtain ⟨r8, hg, hf⟩ := bd1_some hf
        refine sw_callS 55 G (wX6 Θ m0 m1 m2 m3 m4 m5 m6 m7 m8 m9 m_now m_saved m_aside m_states m_quiet m_thrown m_tried m_best m_touching m_text m_length m_at m_verbs m_told m_commands) [] [0, 1, 2, 3, 4, 5, 6, 7, 8, 9] [0, 1, 2, 3, 4, 5, 6, 7, 8, 9] 3 dX6_isRectangle_55 (kX6_in Θ a3 (1 : Int32) (r7 - a1) r8 hg) (gwS lk_739e9842 lk_9ad51b2c lk_59eba9b0 lk_5ad5c33d) rfl hsX6_in ⟨rfl, rfl⟩ ⟨Nat.le_of_ble_eq_true rfl, Nat.le_of_ble_eq_true rfl⟩ ⟨Nat.zero_le _, Nat.zero_le _⟩ rfl rfl (Nat.le_of_ble_eq_true rfl) rfl rfl rfl (by decide) ?_
        refine sw_if_eq 58 65 G dX6_isRectangle_58 rfl hf (fun hf => ?_) (fun hf => ?_)
        · refine sw_iconst 65 G (0 : Int32) dX6_isRectangle_65 rfl ?_
          cases hf
          exact sw_zret 66 G dX6_isRectangle_66 K rfl
        · refine sw_iconst 61 G (1 : Int32) dX6_isRectangle_61 rfl ?_
          refine sw_goto 62 G 66 dX6_isRectangle_62 rfl ?_
          cases hf
          exact sw_zret 66 G dX6_isRectangle_66 K rfl
abbrev rmX6_rectangle : Room := { frames := 1, cells := 0, slots := 0, locals := 21 }
theorem hvX6_rectangle : yX6_rectangle.cls = RX6 ∧ yX6_rectangle.cls ≠ "java/lang/invoke/MethodHandle" ∧ yX6_rectangle.cls ≠ "java/lang/invoke/VarHandle" ∧ (parseMethodDescriptor yX6_rectangle.desc).map (fun d => d.parameters.length) = some 4 := by decide +kernel
set_option maxRecDepth 100000 in
set_option maxHeartbeats 4000000 in
theorem kX6_rectangle (Θ : Tht) (F : Nat) (m0 m1 m2 m3 m4 m5 m6 m7 m8 m9 : Nat) (m_now : Nat → Int64) (m_saved : Nat → Int64) (m_aside : Nat → Int64) (m_states : Int32) (m_quiet : Int32) (m_thrown : Int32) (m_tried : Nat → Int32) (m_best : Nat → Int32) (m_touching : Nat → Int32) (m_text : Nat → Int32) (m_length : Int32) (m_at : Int32) (m_verbs : Nat → Int32) (m_told : Nat → Int32) (m_commands : Int32) (a0 : Int32) (a1 : Int32) (a2 : Int32) (a3 : Int32) (ro : Int64) (hf : fX6_rectangle F m_now a0 a1 a2 a3 = some ro) : Fn Θ yX6_rectangle (Cond.code yX6_rectangle cX6_rectangle 9 (some .long) :: GW) rmX6_rectangle [.ref m0, .int a0, .int a1, .int a2, .int a3] (wX6 Θ m0 m1 m2 m3 m4 m5 m6 m7 m8 m9 m_now m_saved m_aside m_states m_quiet m_thrown m_tried m_best m_touching m_text m_length m_at m_verbs m_told m_commands) (some (.long ro)) (wX6 Θ m0 m1 m2 m3 m4 m5 m6 m7 m8 m9 m_now m_saved m_aside m_states m_quiet m_thrown m_tried m_best m_touching m_text m_length m_at m_verbs m_told m_commands) := by
  delta fX6_rectangle at hf
  refine Fn.of (by decide +kernel) rfl (Nat.le_of_ble_eq_true rfl) (fun p e s m args below meth c A Q G K => ?_)
  show sw Θ p e rmX6_rectangle s m args below meth c A Q 9 0 0 0 [(0, .ref m0), (1, .int a0), (2, .int a1), (3, .int a2), (4, .int a3)] [] (wX6 Θ m0 m1 m2 m3 m4 m5 m6 m7 m8 m9 m_now m_saved m_aside m_states m_quiet m_thrown m_tried m_best m_touching m_text m_length m_at m_verbs m_told m_commands)
  refine sw_lconst 0 G (0 : Int64) dX6_rectangle_0 rfl ?_
  refine sw_lstore 1 G [(5, .long (0 : Int64)), (0, .ref m0), (1, .int a0), (2, .int a1), (3, .int a2), (4, .int a3)] dX6_rectangle_1 (by decide) rfl ?_
  refine sw_iload_n 3 G dX6_rectangle_3 3 rfl ?_
  refine sw_istore 4 G [(7, .int a1), (5, .long (0 : Int64)), (0, .ref m0), (1, .int a0), (2, .int a1), (3, .int a2), (4, .int a3)] dX6_rectangle_4 (by decide) rfl ?_
  obtain ⟨v1, hl, hf⟩ := bd1_some hf
  have hx6_56 : sw Θ p e rmX6_rectangle s m args below meth c A Q 9 0 0 56 [(5, .long v1)] [] (wX6 Θ m0 m1 m2 m3 m4 m5 m6 m7 m8 m9 m_now m_saved m_aside m_states m_quiet m_thrown m_tried m_best m_touching m_text m_length m_at m_verbs m_told m_commands) := by
    refine sw_lload 56 G dX6_rectangle_56 0 rfl ?_
    cases hf
    exact sw_lret 58 G dX6_rectangle_58 K
  refine sw_lv [(0, .ref m0), (1, .int a0), (2, .int a1), (3, .int a2), (4, .int a3), (5, .long (0 : Int64)), (7, .int a1)] [2, 3, 4, 5, 6, 1, 0] rfl ?_
  refine lp_walk (P := fun (t : Int64 × Int32) => sw Θ p e rmX6_rectangle s m args below meth c A Q 9 0 0 6 [(0, .ref m0), (1, .int a0), (2, .int a1), (3, .int a2), (4, .int a3), (5, .long t.1), (7, .int t.2)] [] (wX6 Θ m0 m1 m2 m3 m4 m5 m6 m7 m8 m9 m_now m_saved m_aside m_states m_quiet m_thrown m_tried m_best m_touching m_text m_length m_at m_verbs m_told m_commands)) hl (fun t6 y6 hf hin6 hex6 => ?_)
  obtain ⟨v2, v3⟩ := t6
  show sw Θ p e rmX6_rectangle s m args below meth c A Q 9 0 0 6 [(0, .ref m0), (1, .int a0), (2, .int a1), (3, .int a2), (4, .int a3), (5, .long v2), (7, .int v3)] [] (wX6 Θ m0 m1 m2 m3 m4 m5 m6 m7 m8 m9 m_now m_saved m_aside m_states m_quiet m_thrown m_tried m_best m_touching m_text m_length m_at m_verbs m_told m_commands)
  have hf := uc2_some (K := _) hf
  refine sw_iload 6 G dX6_rectangle_6 6 rfl ?_
  refine sw_iload_n 8 G dX6_rectangle_8 2 rfl ?_
  refine sw_iload 9 G dX6_rectangle_9 4 rfl ?_
  refine sw_iadd 11 G dX6_rectangle_11 ?_
  refine sw_icmp_ge 12 56 G dX6_rectangle_12 rfl hf (fun hf => ?_) (fun hf => ?_)
  · cases hf
    cases hex6 _ rfl
    exact sw_lv _ [5] rfl hx6_56
  · refine sw_iload_n 15 G dX6_rectangle_15 1 rfl ?_
    refine sw_istore 16 G [(8, .int a0), (0, .ref m0), (1, .int a0), (2, .int a1), (3, .int a2), (4, .int a3), (5, .long v2), (7, .int v3)] dX6_rectangle_16 (by decide) rfl ?_
    obtain ⟨v4, hl, hf⟩ := bd1_some hf
    have hx18_50 : sw Θ p e rmX6_rectangle s m args below meth c A Q 9 0 0 50 [(0, .ref m0), (1, .int a0), (2, .int a1), (3, .int a2), (4, .int a3), (5, .long v4), (7, .int v3)] [] (wX6 Θ m0 m1 m2 m3 m4 m5 m6 m7 m8 m9 m_now m_saved m_aside m_states m_quiet m_thrown m_tried m_best m_touching m_text m_length m_at m_verbs m_told m_commands) := by
      refine sw_iinc 50 G (v3 + (1 : Int32)) [(7, .int (v3 + (1 : Int32))), (0, .ref m0), (1, .int a0), (2, .int a1), (3, .int a2), (4, .int a3), (5, .long v4)] dX6_rectangle_50 6 rfl rfl (by decide) rfl ?_
      refine sw_goto 53 G 6 dX6_rectangle_53 rfl ?_
      cases hf
      have hb := hin6 _ rfl
      exact sw_lv _ [1, 2, 3, 4, 5, 6, 0] (by rfl) hb
    refine sw_lv [(0, .ref m0), (1, .int a0), (2, .int a1), (3, .int a2), (4, .int a3), (5, .long v2), (7, .int v3), (8, .int a0)] [1, 2, 3, 4, 5, 6, 7, 0] rfl ?_
    refine lp_walk (P := fun (t : Int64 × Int32) => sw Θ p e rmX6_rectangle s m args below meth c A Q 9 0 0 18 [(0, .ref m0), (1, .int a0), (2, .int a1), (3, .int a2), (4, .int a3), (5, .long t.1), (7, .int v3), (8, .int t.2)] [] (wX6 Θ m0 m1 m2 m3 m4 m5 m6 m7 m8 m9 m_now m_saved m_aside m_states m_quiet m_thrown m_tried m_best m_touching m_text m_length m_at m_verbs m_told m_commands)) hl (fun t18 y18 hf hin18 hex18 => ?_)
    obtain ⟨v5, v6⟩ := t18
    show sw Θ p e rmX6_rectangle s m args below meth c A Q 9 0 0 18 [(0, .ref m0), (1, .int a0), (2, .int a1), (3, .int a2), (4, .int a3), (5, .long v5), (7, .int v3), (8, .int v6)] [] (wX6 Θ m0 m1 m2 m3 m4 m5 m6 m7 m8 m9 m_now m_saved m_aside m_states m_quiet m_thrown m_tried m_best m_touching m_text m_length m_at m_verbs m_told m_commands)
    have hf := uc2_some (K := _) hf
    refine sw_iload 18 G dX6_rectangle_18 7 rfl ?_
    refine sw_iload_n 20 G dX6_rectangle_20 1 rfl ?_
    refine sw_iload_n 21 G dX6_rectangle_21 3 rfl ?_
    refine sw_iadd 22 G dX6_rectangle_22 ?_
    refine sw_icmp_ge 23 50 G dX6_rectangle_23 rfl hf (fun hf => ?_) (fun hf => ?_)
    · cases hf
      cases hex18 _ rfl
      exact sw_lv _ [0, 1, 2, 3, 4, 5, 6] rfl hx18_50
    · refine sw_lload 26 G dX6_rectangle_26 5 rfl ?_
      refine sw_lconst 28 G (1 : Int64) dX6_rectangle_28 rfl ?_
      refine sw_iload 29 G dX6_rectangle_29 6 rfl ?_
      refine sw_aload_n 31 G dX6_rectangle_31 0 rfl ?_
      refine sw_iconst 32 G (0 : Int32) dX6_rectangle_32 rfl ?_
      obtain ⟨r7, hg, hf⟩ := bd1_some hf
      refine sw_callV 33 G (wX6 Θ m0 m1 m2 m3 m4 m5 m6 m7 m8 m9 m_now m_saved m_aside m_states m_quiet m_thrown m_tried m_best m_touching m_text m_length m_at m_verbs m_told m_commands) [0, 1, 2, 3, 4, 5, 6, 7, 8, 9] [] [0, 1, 2, 3, 4, 5, 6, 7, 8, 9] 1 dX6_rectangle_33 (kX6_many Θ m0 m1 m2 m3 m4 m5 m6 m7 m8 m9 m_now m_saved m_aside m_states m_quiet m_thrown m_tried m_best m_touching m_text m_length m_at m_verbs m_told m_commands (0 : Int32) r7 hg) (gwV lk_184fe921 lk_d689724c lk_b095f72c lk_6d91b6d2 lk_d7f116ea) rfl hvX6_many ⟨rfl, rfl⟩ ⟨Nat.le_of_ble_eq_true rfl, Nat.le_of_ble_eq_true rfl⟩ ⟨Nat.zero_le _, Nat.zero_le _⟩ rfl rfl (Nat.le_of_ble_eq_true rfl) 0 rfl vc6 rfl rfl rfl rfl (by decide) ?_
      refine sw_imul 36 G dX6_rectangle_36 ?_
      refine sw_iload 37 G dX6_rectangle_37 7 rfl ?_
      refine sw_iadd 39 G dX6_rectangle_39 ?_
      refine sw_lshl 40 G dX6_rectangle_40 ?_
      refine sw_lor 41 G dX6_rectangle_41 ?_
      refine sw_nml hf (fun v8 hf => ?_)
      refine sw_lstore 42 G [(5, .long v8), (0, .ref m0), (1, .int a0), (2, .int a1), (3, .int a2), (4, .int a3), (7, .int v3), (8, .int v6)] dX6_rectangle_42 (by decide) rfl ?_
      refine sw_iinc 44 G (v6 + (1 : Int32)) [(8, .int (v6 + (1 : Int32))), (5, .long v8), (0, .ref m0), (1, .int a0), (2, .int a1), (3, .int a2), (4, .int a3), (7, .int v3)] dX6_rectangle_44 7 rfl rfl (by decide) rfl ?_
      refine sw_goto 47 G 18 dX6_rectangle_47 rfl ?_
      cases hf
      have hb := hin18 _ rfl
      exact sw_lv _ [2, 3, 4, 5, 6, 1, 7, 0] (by rfl) hb
abbrev rmX6_all : Room := { frames := 2, cells := 0, slots := 0, locals := 49 }
theorem hvX6_all : yX6_all.cls = RX6 ∧ yX6_all.cls ≠ "java/lang/invoke/MethodHandle" ∧ yX6_all.cls ≠ "java/lang/invoke/VarHandle" ∧ (parseMethodDescriptor yX6_all.desc).map (fun d => d.parameters.length) = some 0 := by decide +kernel
set_option maxRecDepth 100000 in
set_option maxHeartbeats 4000000 in
theorem kX6_all (Θ : Tht) (F : Nat) (m0 m1 m2 m3 m4 m5 m6 m7 m8 m9 : Nat) (m_now : Nat → Int64) (m_saved : Nat → Int64) (m_aside : Nat → Int64) (m_states : Int32) (m_quiet : Int32) (m_thrown : Int32) (m_tried : Nat → Int32) (m_best : Nat → Int32) (m_touching : Nat → Int32) (m_text : Nat → Int32) (m_length : Int32) (m_at : Int32) (m_verbs : Nat → Int32) (m_told : Nat → Int32) (m_commands : Int32) (ro : Int64) (hf : fX6_all F m_now = some ro) : Fn Θ yX6_all (Cond.code yX6_all cX6_all 1 (some .long) :: GW) rmX6_all [.ref m0] (wX6 Θ m0 m1 m2 m3 m4 m5 m6 m7 m8 m9 m_now m_saved m_aside m_states m_quiet m_thrown m_tried m_best m_touching m_text m_length m_at m_verbs m_told m_commands) (some (.long ro)) (wX6 Θ m0 m1 m2 m3 m4 m5 m6 m7 m8 m9 m_now m_saved m_aside m_states m_quiet m_thrown m_tried m_best m_touching m_text m_length m_at m_verbs m_told m_commands) := by
  delta fX6_all at hf
  refine Fn.of (by decide +kernel) rfl (Nat.le_of_ble_eq_true rfl) (fun p e s m args below meth c A Q G K => ?_)
  show sw Θ p e rmX6_all s m args below meth c A Q 1 0 0 0 [(0, .ref m0)] [] (wX6 Θ m0 m1 m2 m3 m4 m5 m6 m7 m8 m9 m_now m_saved m_aside m_states m_quiet m_thrown m_tried m_best m_touching m_text m_length m_at m_verbs m_told m_commands)
  refine sw_aload_n 0 G dX6_all_0 0 rfl ?_
  refine sw_iconst 1 G (0 : Int32) dX6_all_1 rfl ?_
  refine sw_iconst 2 G (0 : Int32) dX6_all_2 rfl ?_
  refine sw_aload_n 3 G dX6_all_3 0 rfl ?_
  refine sw_iconst 4 G (0 : Int32) dX6_all_4 rfl ?_
  obtain ⟨r1, hg, hf⟩ := bd1_some hf
  refine sw_callV 5 G (wX6 Θ m0 m1 m2 m3 m4 m5 m6 m7 m8 m9 m_now m_saved m_aside m_states m_quiet m_thrown m_tried m_best m_touching m_text m_length m_at m_verbs m_told m_commands) [0, 1, 2, 3, 4, 5, 6, 7, 8, 9] [] [0, 1, 2, 3, 4, 5, 6, 7, 8, 9] 1 dX6_all_5 (kX6_many Θ m0 m1 m2 m3 m4 m5 m6 m7 m8 m9 m_now m_saved m_aside m_states m_quiet m_thrown m_tried m_best m_touching m_text m_length m_at m_verbs m_told m_commands (0 : Int32) r1 hg) (gwV lk_184fe921 lk_d689724c lk_b095f72c lk_6d91b6d2 lk_d7f116ea) rfl hvX6_many ⟨rfl, rfl⟩ ⟨Nat.le_of_ble_eq_true rfl, Nat.le_of_ble_eq_true rfl⟩ ⟨Nat.zero_le _, Nat.zero_le _⟩ rfl rfl (Nat.le_of_ble_eq_true rfl) 0 rfl vc6 rfl rfl rfl rfl (by decide) ?_
  refine sw_aload_n 8 G dX6_all_8 0 rfl ?_
  refine sw_iconst 9 G (1 : Int32) dX6_all_9 rfl ?_
  obtain ⟨r2, hg, hf⟩ := bd1_some hf
  refine sw_callV 10 G (wX6 Θ m0 m1 m2 m3 m4 m5 m6 m7 m8 m9 m_now m_saved m_aside m_states m_quiet m_thrown m_tried m_best m_touching m_text m_length m_at m_verbs m_told m_commands) [0, 1, 2, 3, 4, 5, 6, 7, 8, 9] [] [0, 1, 2, 3, 4, 5, 6, 7, 8, 9] 1 dX6_all_10 (kX6_many Θ m0 m1 m2 m3 m4 m5 m6 m7 m8 m9 m_now m_saved m_aside m_states m_quiet m_thrown m_tried m_best m_touching m_text m_length m_at m_verbs m_told m_commands (1 : Int32) r2 hg) (gwV lk_184fe921 lk_d689724c lk_b095f72c lk_6d91b6d2 lk_d7f116ea) rfl hvX6_many ⟨rfl, rfl⟩ ⟨Nat.le_of_ble_eq_true rfl, Nat.le_of_ble_eq_true rfl⟩ ⟨Nat.zero_le _, Nat.zero_le _⟩ rfl rfl (Nat.le_of_ble_eq_true rfl) 0 rfl vc6 rfl rfl rfl rfl (by decide) ?_
  obtain ⟨r3, hg, hf⟩ := bd1_some hf
  refine sw_callV 13 G (wX6 Θ m0 m1 m2 m3 m4 m5 m6 m7 m8 m9 m_now m_saved m_aside m_states m_quiet m_thrown m_tried m_best m_touching m_text m_length m_at m_verbs m_told m_commands) [0, 1, 2, 3, 4, 5, 6, 7, 8, 9] [] [0, 1, 2, 3, 4, 5, 6, 7, 8, 9] 4 dX6_all_13 (kX6_rectangle Θ F m0 m1 m2 m3 m4 m5 m6 m7 m8 m9 m_now m_saved m_aside m_states m_quiet m_thrown m_tried m_best m_touching m_text m_length m_at m_verbs m_told m_commands (0 : Int32) (0 : Int32) r1 r2 r3 hg) (gwV lk_61063461 lk_41ee9c05 lk_1a4154e9 lk_6d91b6d2 lk_91662179) rfl hvX6_rectangle ⟨rfl, rfl⟩ ⟨Nat.le_of_ble_eq_true rfl, Nat.le_of_ble_eq_true rfl⟩ ⟨Nat.zero_le _, Nat.zero_le _⟩ rfl rfl (Nat.le_of_ble_eq_true rfl) 0 rfl vc6 rfl rfl rfl rfl (by decide) ?_
  cases hf
  exact sw_lret 16 G dX6_all_16 K
abbrev rmX6_carrier : Room := { frames := 2, cells := 0, slots := 0, locals := 49 }
theorem hvX6_carrier : yX6_carrier.cls = RX6 ∧ yX6_carrier.cls ≠ "java/lang/invoke/MethodHandle" ∧ yX6_carrier.cls ≠ "java/lang/invoke/VarHandle" ∧ (parseMethodDescriptor yX6_carrier.desc).map (fun d => d.parameters.length) = some 0 := by decide +kernel
set_option maxRecDepth 100000 in
set_option maxHeartbeats 4000000 in
theorem kX6_carrier (Θ : Tht) (F : Nat) (m0 m1 m2 m3 m4 m5 m6 m7 m8 m9 : Nat) (m_now : Nat → Int64) (m_saved : Nat → Int64) (m_aside : Nat → Int64) (m_states : Int32) (m_quiet : Int32) (m_thrown : Int32) (m_tried : Nat → Int32) (m_best : Nat → Int32) (m_touching : Nat → Int32) (m_text : Nat → Int32) (m_length : Int32) (m_at : Int32) (m_verbs : Nat → Int32) (m_told : Nat → Int32) (m_commands : Int32) (ro : Int64) (hf : fX6_carrier F m_now = some ro) : Fn Θ yX6_carrier (Cond.code yX6_carrier cX6_carrier 5 (some .long) :: GW) rmX6_carrier [.ref m0] (wX6 Θ m0 m1 m2 m3 m4 m5 m6 m7 m8 m9 m_now m_saved m_aside m_states m_quiet m_thrown m_tried m_best m_touching m_text m_length m_at m_verbs m_told m_commands) (some (.long ro)) (wX6 Θ m0 m1 m2 m3 m4 m5 m6 m7 m8 m9 m_now m_saved m_aside m_states m_quiet m_thrown m_tried m_best m_touching m_text m_length m_at m_verbs m_told m_commands) := by
  delta fX6_carrier at hf
  refine Fn.of (by decide +kernel) rfl (Nat.le_of_ble_eq_true rfl) (fun p e s m args below meth c A Q G K => ?_)
  show sw Θ p e rmX6_carrier s m args below meth c A Q 5 0 0 0 [(0, .ref m0)] [] (wX6 Θ m0 m1 m2 m3 m4 m5 m6 m7 m8 m9 m_now m_saved m_aside m_states m_quiet m_thrown m_tried m_best m_touching m_text m_length m_at m_verbs m_told m_commands)
  refine sw_aload_n 0 G dX6_carrier_0 0 rfl ?_
  refine sw_iconst 1 G (0 : Int32) dX6_carrier_1 rfl ?_
  refine sw_iconst 2 G (0 : Int32) dX6_carrier_2 rfl ?_
  refine sw_aload_n 3 G dX6_carrier_3 0 rfl ?_
  refine sw_iconst 4 G (0 : Int32) dX6_carrier_4 rfl ?_
  obtain ⟨r1, hg, hf⟩ := bd1_some hf
  refine sw_callV 5 G (wX6 Θ m0 m1 m2 m3 m4 m5 m6 m7 m8 m9 m_now m_saved m_aside m_states m_quiet m_thrown m_tried m_best m_touching m_text m_length m_at m_verbs m_told m_commands) [0, 1, 2, 3, 4, 5, 6, 7, 8, 9] [] [0, 1, 2, 3, 4, 5, 6, 7, 8, 9] 1 dX6_carrier_5 (kX6_many Θ m0 m1 m2 m3 m4 m5 m6 m7 m8 m9 m_now m_saved m_aside m_states m_quiet m_thrown m_tried m_best m_touching m_text m_length m_at m_verbs m_told m_commands (0 : Int32) r1 hg) (gwV lk_184fe921 lk_d689724c lk_b095f72c lk_6d91b6d2 lk_d7f116ea) rfl hvX6_many ⟨rfl, rfl⟩ ⟨Nat.le_of_ble_eq_true rfl, Nat.le_of_ble_eq_true rfl⟩ ⟨Nat.zero_le _, Nat.zero_le _⟩ rfl rfl (Nat.le_of_ble_eq_true rfl) 0 rfl vc6 rfl rfl rfl rfl (by decide) ?_
  refine sw_iconst 8 G (1 : Int32) dX6_carrier_8 rfl ?_
  obtain ⟨r2, hg, hf⟩ := bd1_some hf
  refine sw_callV 9 G (wX6 Θ m0 m1 m2 m3 m4 m5 m6 m7 m8 m9 m_now m_saved m_aside m_states m_quiet m_thrown m_tried m_best m_touching m_text m_length m_at m_verbs m_told m_commands) [0, 1, 2, 3, 4, 5, 6, 7, 8, 9] [] [0, 1, 2, 3, 4, 5, 6, 7, 8, 9] 4 dX6_carrier_9 (kX6_rectangle Θ F m0 m1 m2 m3 m4 m5 m6 m7 m8 m9 m_now m_saved m_aside m_states m_quiet m_thrown m_tried m_best m_touching m_text m_length m_at m_verbs m_told m_commands (0 : Int32) (0 : Int32) r1 (1 : Int32) r2 hg) (gwV lk_61063461 lk_41ee9c05 lk_1a4154e9 lk_6d91b6d2 lk_91662179) rfl hvX6_rectangle ⟨rfl, rfl⟩ ⟨Nat.le_of_ble_eq_true rfl, Nat.le_of_ble_eq_true rfl⟩ ⟨Nat.zero_le _, Nat.zero_le _⟩ rfl rfl (Nat.le_of_ble_eq_true rfl) 0 rfl vc6 rfl rfl rfl rfl (by decide) ?_
  refine sw_lstore_n 12 G [(1, .long r2), (0, .ref m0)] dX6_carrier_12 (by decide) rfl ?_
  refine sw_aload_n 13 G dX6_carrier_13 1 rfl ?_
  refine sw_iconst 14 G (0 : Int32) dX6_carrier_14 rfl ?_
  refine sw_aload_n 15 G dX6_carrier_15 1 rfl ?_
  refine sw_iconst 16 G (1 : Int32) dX6_carrier_16 rfl ?_
  obtain ⟨r3, hg, hf⟩ := bd1_some hf
  refine sw_callV 17 G (wX6 Θ m0 m1 m2 m3 m4 m5 m6 m7 m8 m9 m_now m_saved m_aside m_states m_quiet m_thrown m_tried m_best m_touching m_text m_length m_at m_verbs m_told m_commands) [0, 1, 2, 3, 4, 5, 6, 7, 8, 9] [] [0, 1, 2, 3, 4, 5, 6, 7, 8, 9] 1 dX6_carrier_17 (kX6_many Θ m0 m1 m2 m3 m4 m5 m6 m7 m8 m9 m_now m_saved m_aside m_states m_quiet m_thrown m_tried m_best m_touching m_text m_length m_at m_verbs m_told m_commands (1 : Int32) r3 hg) (gwV lk_184fe921 lk_d689724c lk_b095f72c lk_6d91b6d2 lk_d7f116ea) rfl hvX6_many ⟨rfl, rfl⟩ ⟨Nat.le_of_ble_eq_true rfl, Nat.le_of_ble_eq_true rfl⟩ ⟨Nat.zero_le _, Nat.zero_le _⟩ rfl rfl (Nat.le_of_ble_eq_true rfl) 0 rfl vc6 rfl rfl rfl rfl (by decide) ?_
  refine sw_iconst 20 G (1 : Int32) dX6_carrier_20 rfl ?_
  refine sw_isub 21 G dX6_carrier_21 ?_
  refine sw_aload_n 22 G dX6_carrier_22 1 rfl ?_
  refine sw_iconst 23 G (0 : Int32) dX6_carrier_23 rfl ?_
  obtain ⟨r4, hg, hf⟩ := bd1_some hf
  refine sw_callV 24 G (wX6 Θ m0 m1 m2 m3 m4 m5 m6 m7 m8 m9 m_now m_saved m_aside m_states m_quiet m_thrown m_tried m_best m_touching m_text m_length m_at m_verbs m_told m_commands) [0, 1, 2, 3, 4, 5, 6, 7, 8, 9] [] [0, 1, 2, 3, 4, 5, 6, 7, 8, 9] 1 dX6_carrier_24 (kX6_many Θ m0 m1 m2 m3 m4 m5 m6 m7 m8 m9 m_now m_saved m_aside m_states m_quiet m_thrown m_tried m_best m_touching m_text m_length m_at m_verbs m_told m_commands (0 : Int32) r4 hg) (gwV lk_184fe921 lk_d689724c lk_b095f72c lk_6d91b6d2 lk_d7f116ea) rfl hvX6_many ⟨rfl, rfl⟩ ⟨Nat.le_of_ble_eq_true rfl, Nat.le_of_ble_eq_true rfl⟩ ⟨Nat.zero_le _, Nat.zero_le _⟩ rfl rfl (Nat.le_of_ble_eq_true rfl) 0 rfl vc6 rfl rfl rfl rfl (by decide) ?_
  refine sw_iconst 27 G (1 : Int32) dX6_carrier_27 rfl ?_
  obtain ⟨r5, hg, hf⟩ := bd1_some hf
  refine sw_callV 28 G (wX6 Θ m0 m1 m2 m3 m4 m5 m6 m7 m8 m9 m_now m_saved m_aside m_states m_quiet m_thrown m_tried m_best m_touching m_text m_length m_at m_verbs m_told m_commands) [0, 1, 2, 3, 4, 5, 6, 7, 8, 9] [] [0, 1, 2, 3, 4, 5, 6, 7, 8, 9] 4 dX6_carrier_28 (kX6_rectangle Θ F m0 m1 m2 m3 m4 m5 m6 m7 m8 m9 m_now m_saved m_aside m_states m_quiet m_thrown m_tried m_best m_touching m_text m_length m_at m_verbs m_told m_commands (0 : Int32) (r3 - (1 : Int32)) r4 (1 : Int32) r5 hg) (gwV lk_61063461 lk_41ee9c05 lk_1a4154e9 lk_6d91b6d2 lk_91662179) rfl hvX6_rectangle ⟨rfl, rfl⟩ ⟨Nat.le_of_ble_eq_true rfl, Nat.le_of_ble_eq_true rfl⟩ ⟨Nat.zero_le _, Nat.zero_le _⟩ rfl rfl (Nat.le_of_ble_eq_true rfl) 0 rfl vc6 rfl rfl rfl rfl (by decide) ?_
  refine sw_lstore_n 31 G [(3, .long r5), (1, .long r2), (0, .ref m0)] dX6_carrier_31 (by decide) rfl ?_
  refine sw_aload_n 32 G dX6_carrier_32 2 rfl ?_
  refine sw_get 33 G hnX6 0 0 dX6_carrier_33 vc6 (by decide) (List.mem_cons_of_mem _ lk_54e63fd8) rfl rfl ?_
  refine sw_iconst 36 G (2 : Int32) dX6_carrier_36 rfl ?_
  refine sw_lald 37 G 1 dX6_carrier_37 rfl hf (fun hf => ?_)
  refine sw_lconst 38 G (0 : Int64) dX6_carrier_38 rfl ?_
  refine sw_lcmp 39 G dX6_carrier_39 ?_
  refine sw_if_ne 40 47 G dX6_carrier_40 rfl hf (fun hf => ?_) (fun hf => ?_)
  · refine sw_aload_n 47 G dX6_carrier_47 2 rfl ?_
    refine sw_get 48 G hnX6 0 0 dX6_carrier_48 vc6 (by decide) (List.mem_cons_of_mem _ lk_54e63fd8) rfl rfl ?_
    refine sw_iconst 51 G (2 : Int32) dX6_carrier_51 rfl ?_
    refine sw_lald 52 G 1 dX6_carrier_52 rfl hf (fun hf => ?_)
    refine sw_lconst 53 G (1 : Int64) dX6_carrier_53 rfl ?_
    refine sw_lcmp 54 G dX6_carrier_54 ?_
    refine sw_if_ne 55 62 G dX6_carrier_55 rfl hf (fun hf => ?_) (fun hf => ?_)
    · refine sw_lload_n 62 G dX6_carrier_62 1 rfl ?_
      refine sw_lload_n 63 G dX6_carrier_63 0 rfl ?_
      refine sw_lor 64 G dX6_carrier_64 ?_
      cases hf
      exact sw_lret 65 G dX6_carrier_65 K
    · refine sw_lload_n 58 G dX6_carrier_58 0 rfl ?_
      refine sw_goto 59 G 65 dX6_carrier_59 rfl ?_
      cases hf
      exact sw_lret 65 G dX6_carrier_65 K
  · refine sw_lload_n 43 G dX6_carrier_43 1 rfl ?_
    refine sw_goto 44 G 65 dX6_carrier_44 rfl ?_
    cases hf
    exact sw_lret 65 G dX6_carrier_65 K
abbrev rmX6_part : Room := { frames := 3, cells := 0, slots := 0, locals := 73 }
theorem hvX6_part : yX6_part.cls = RX6 ∧ yX6_part.cls ≠ "java/lang/invoke/MethodHandle" ∧ yX6_part.cls ≠ "java/lang/invoke/VarHandle" ∧ (parseMethodDescriptor yX6_part.desc).map (fun d => d.parameters.length) = some 0 := by decide +kernel
set_option maxRecDepth 100000 in
set_option maxHeartbeats 4000000 in
theorem kX6_part (Θ : Tht) (F : Nat) (m0 m1 m2 m3 m4 m5 m6 m7 m8 m9 : Nat) (m_now : Nat → Int64) (m_saved : Nat → Int64) (m_aside : Nat → Int64) (m_states : Int32) (m_quiet : Int32) (m_thrown : Int32) (m_tried : Nat → Int32) (m_best : Nat → Int32) (m_touching : Nat → Int32) (m_text : Nat → Int32) (m_length : Int32) (m_at : Int32) (m_verbs : Nat → Int32) (m_told : Nat → Int32) (m_commands : Int32) (ro : Int64) (hf : fX6_part F m_now = some ro) : Fn Θ yX6_part (Cond.code yX6_part cX6_part 1 (some .long) :: GW) rmX6_part [.ref m0] (wX6 Θ m0 m1 m2 m3 m4 m5 m6 m7 m8 m9 m_now m_saved m_aside m_states m_quiet m_thrown m_tried m_best m_touching m_text m_length m_at m_verbs m_told m_commands) (some (.long ro)) (wX6 Θ m0 m1 m2 m3 m4 m5 m6 m7 m8 m9 m_now m_saved m_aside m_states m_quiet m_thrown m_tried m_best m_touching m_text m_length m_at m_verbs m_told m_commands) := by
  delta fX6_part at hf
  refine Fn.of (by decide +kernel) rfl (Nat.le_of_ble_eq_true rfl) (fun p e s m args below meth c A Q G K => ?_)
  show sw Θ p e rmX6_part s m args below meth c A Q 1 0 0 0 [(0, .ref m0)] [] (wX6 Θ m0 m1 m2 m3 m4 m5 m6 m7 m8 m9 m_now m_saved m_aside m_states m_quiet m_thrown m_tried m_best m_touching m_text m_length m_at m_verbs m_told m_commands)
  refine sw_aload_n 0 G dX6_part_0 0 rfl ?_
  refine sw_get 1 G hnX6 0 0 dX6_part_1 vc6 (by decide) (List.mem_cons_of_mem _ lk_54e63fd8) rfl rfl ?_
  refine sw_bipush 4 G (14 : Int32) dX6_part_4 rfl ?_
  refine sw_lald 6 G 1 dX6_part_6 rfl hf (fun hf => ?_)
  refine sw_aload_n 7 G dX6_part_7 0 rfl ?_
  obtain ⟨r1, hg, hf⟩ := bd1_some hf
  refine sw_callV 8 G (wX6 Θ m0 m1 m2 m3 m4 m5 m6 m7 m8 m9 m_now m_saved m_aside m_states m_quiet m_thrown m_tried m_best m_touching m_text m_length m_at m_verbs m_told m_commands) [0, 1, 2, 3, 4, 5, 6, 7, 8, 9] [] [0, 1, 2, 3, 4, 5, 6, 7, 8, 9] 0 dX6_part_8 (kX6_carrier Θ F m0 m1 m2 m3 m4 m5 m6 m7 m8 m9 m_now m_saved m_aside m_states m_quiet m_thrown m_tried m_best m_touching m_text m_length m_at m_verbs m_told m_commands r1 hg) (gwV lk_d2b03e46 lk_8b4faa2c lk_883df833 lk_6d91b6d2 lk_50b5fb00) rfl hvX6_carrier ⟨rfl, rfl⟩ ⟨Nat.le_of_ble_eq_true rfl, Nat.le_of_ble_eq_true rfl⟩ ⟨Nat.zero_le _, Nat.zero_le _⟩ rfl rfl (Nat.le_of_ble_eq_true rfl) 0 rfl vc6 rfl rfl rfl rfl (by decide) ?_
  refine sw_ldc2 11 G (List.mem_cons_of_mem _ lk_e81893dd) dX6_part_11 ?_
  refine sw_lxor 14 G dX6_part_14 ?_
  refine sw_land 15 G dX6_part_15 ?_
  cases hf
  exact sw_lret 16 G dX6_part_16 K
abbrev rmX6_links : Room := { frames := 3, cells := 0, slots := 0, locals := 73 }
theorem hvX6_links : yX6_links.cls = RX6 ∧ yX6_links.cls ≠ "java/lang/invoke/MethodHandle" ∧ yX6_links.cls ≠ "java/lang/invoke/VarHandle" ∧ (parseMethodDescriptor yX6_links.desc).map (fun d => d.parameters.length) = some 0 := by decide +kernel
set_option maxRecDepth 100000 in
set_option maxHeartbeats 4000000 in
theorem kX6_links (Θ : Tht) (F : Nat) (m0 m1 m2 m3 m4 m5 m6 m7 m8 m9 : Nat) (m_now : Nat → Int64) (m_saved : Nat → Int64) (m_aside : Nat → Int64) (m_states : Int32) (m_quiet : Int32) (m_thrown : Int32) (m_tried : Nat → Int32) (m_best : Nat → Int32) (m_touching : Nat → Int32) (m_text : Nat → Int32) (m_length : Int32) (m_at : Int32) (m_verbs : Nat → Int32) (m_told : Nat → Int32) (m_commands : Int32) (ro : Int64) (hf : fX6_links F m_now = some ro) : Fn Θ yX6_links (Cond.code yX6_links cX6_links 1 (some .long) :: GW) rmX6_links [.ref m0] (wX6 Θ m0 m1 m2 m3 m4 m5 m6 m7 m8 m9 m_now m_saved m_aside m_states m_quiet m_thrown m_tried m_best m_touching m_text m_length m_at m_verbs m_told m_commands) (some (.long ro)) (wX6 Θ m0 m1 m2 m3 m4 m5 m6 m7 m8 m9 m_now m_saved m_aside m_states m_quiet m_thrown m_tried m_best m_touching m_text m_length m_at m_verbs m_told m_commands) := by
  delta fX6_links at hf
  refine Fn.of (by decide +kernel) rfl (Nat.le_of_ble_eq_true rfl) (fun p e s m args below meth c A Q G K => ?_)
  show sw Θ p e rmX6_links s m args below meth c A Q 1 0 0 0 [(0, .ref m0)] [] (wX6 Θ m0 m1 m2 m3 m4 m5 m6 m7 m8 m9 m_now m_saved m_aside m_states m_quiet m_thrown m_tried m_best m_touching m_text m_length m_at m_verbs m_told m_commands)
  refine sw_aload_n 0 G dX6_links_0 0 rfl ?_
  refine sw_get 1 G hnX6 0 0 dX6_links_1 vc6 (by decide) (List.mem_cons_of_mem _ lk_54e63fd8) rfl rfl ?_
  refine sw_bipush 4 G (15 : Int32) dX6_links_4 rfl ?_
  refine sw_lald 6 G 1 dX6_links_6 rfl hf (fun hf => ?_)
  refine sw_aload_n 7 G dX6_links_7 0 rfl ?_
  obtain ⟨r1, hg, hf⟩ := bd1_some hf
  refine sw_callV 8 G (wX6 Θ m0 m1 m2 m3 m4 m5 m6 m7 m8 m9 m_now m_saved m_aside m_states m_quiet m_thrown m_tried m_best m_touching m_text m_length m_at m_verbs m_told m_commands) [0, 1, 2, 3, 4, 5, 6, 7, 8, 9] [] [0, 1, 2, 3, 4, 5, 6, 7, 8, 9] 0 dX6_links_8 (kX6_carrier Θ F m0 m1 m2 m3 m4 m5 m6 m7 m8 m9 m_now m_saved m_aside m_states m_quiet m_thrown m_tried m_best m_touching m_text m_length m_at m_verbs m_told m_commands r1 hg) (gwV lk_d2b03e46 lk_8b4faa2c lk_883df833 lk_6d91b6d2 lk_50b5fb00) rfl hvX6_carrier ⟨rfl, rfl⟩ ⟨Nat.le_of_ble_eq_true rfl, Nat.le_of_ble_eq_true rfl⟩ ⟨Nat.zero_le _, Nat.zero_le _⟩ rfl rfl (Nat.le_of_ble_eq_true rfl) 0 rfl vc6 rfl rfl rfl rfl (by decide) ?_
  refine sw_ldc2 11 G (List.mem_cons_of_mem _ lk_e81893dd) dX6_links_11 ?_
  refine sw_lxor 14 G dX6_links_14 ?_
  refine sw_land 15 G dX6_links_15 ?_
  cases hf
  exact sw_lret 16 G dX6_links_16 K
abbrev rmX6_grown : Room := { frames := 1, cells := 0, slots := 0, locals := 21 }
theorem hvX6_grown : yX6_grown.cls = RX6 ∧ yX6_grown.cls ≠ "java/lang/invoke/MethodHandle" ∧ yX6_grown.cls ≠ "java/lang/invoke/VarHandle" ∧ (parseMethodDescriptor yX6_grown.desc).map (fun d => d.parameters.length) = some 1 := by decide +kernel
set_option maxRecDepth 100000 in
set_option maxHeartbeats 4000000 in
theorem kX6_grown (Θ : Tht) (F : Nat) (m0 m1 m2 m3 m4 m5 m6 m7 m8 m9 : Nat) (m_now : Nat → Int64) (m_saved : Nat → Int64) (m_aside : Nat → Int64) (m_states : Int32) (m_quiet : Int32) (m_thrown : Int32) (m_tried : Nat → Int32) (m_best : Nat → Int32) (m_touching : Nat → Int32) (m_text : Nat → Int32) (m_length : Int32) (m_at : Int32) (m_verbs : Nat → Int32) (m_told : Nat → Int32) (m_commands : Int32) (a0 : Int64) (ro : Int64) (hf : fX6_grown F m_now a0 = some ro) : Fn Θ yX6_grown (Cond.code yX6_grown cX6_grown 8 (some .long) :: GW) rmX6_grown [.ref m0, .long a0] (wX6 Θ m0 m1 m2 m3 m4 m5 m6 m7 m8 m9 m_now m_saved m_aside m_states m_quiet m_thrown m_tried m_best m_touching m_text m_length m_at m_verbs m_told m_commands) (some (.long ro)) (wX6 Θ m0 m1 m2 m3 m4 m5 m6 m7 m8 m9 m_now m_saved m_aside m_states m_quiet m_thrown m_tried m_best m_touching m_text m_length m_at m_verbs m_told m_commands) := by
  delta fX6_grown at hf
  refine Fn.of (by decide +kernel) rfl (Nat.le_of_ble_eq_true rfl) (fun p e s m args below meth c A Q G K => ?_)
  show sw Θ p e rmX6_grown s m args below meth c A Q 8 0 0 0 [(0, .ref m0), (1, .long a0)] [] (wX6 Θ m0 m1 m2 m3 m4 m5 m6 m7 m8 m9 m_now m_saved m_aside m_states m_quiet m_thrown m_tried m_best m_touching m_text m_length m_at m_verbs m_told m_commands)
  refine sw_lload_n 0 G dX6_grown_0 1 rfl ?_
  refine sw_lstore_n 1 G [(3, .long a0), (0, .ref m0), (1, .long a0)] dX6_grown_1 (by decide) rfl ?_
  refine sw_aload_n 2 G dX6_grown_2 1 rfl ?_
  refine sw_iconst 3 G (0 : Int32) dX6_grown_3 rfl ?_
  obtain ⟨r1, hg, hf⟩ := bd1_some hf
  refine sw_callV 4 G (wX6 Θ m0 m1 m2 m3 m4 m5 m6 m7 m8 m9 m_now m_saved m_aside m_states m_quiet m_thrown m_tried m_best m_touching m_text m_length m_at m_verbs m_told m_commands) [0, 1, 2, 3, 4, 5, 6, 7, 8, 9] [] [0, 1, 2, 3, 4, 5, 6, 7, 8, 9] 1 dX6_grown_4 (kX6_many Θ m0 m1 m2 m3 m4 m5 m6 m7 m8 m9 m_now m_saved m_aside m_states m_quiet m_thrown m_tried m_best m_touching m_text m_length m_at m_verbs m_told m_commands (0 : Int32) r1 hg) (gwV lk_184fe921 lk_d689724c lk_b095f72c lk_6d91b6d2 lk_d7f116ea) rfl hvX6_many ⟨rfl, rfl⟩ ⟨Nat.le_of_ble_eq_true rfl, Nat.le_of_ble_eq_true rfl⟩ ⟨Nat.zero_le _, Nat.zero_le _⟩ rfl rfl (Nat.le_of_ble_eq_true rfl) 0 rfl vc6 rfl rfl rfl rfl (by decide) ?_
  refine sw_aload_n 7 G dX6_grown_7 1 rfl ?_
  refine sw_iconst 8 G (1 : Int32) dX6_grown_8 rfl ?_
  obtain ⟨r2, hg, hf⟩ := bd1_some hf
  refine sw_callV 9 G (wX6 Θ m0 m1 m2 m3 m4 m5 m6 m7 m8 m9 m_now m_saved m_aside m_states m_quiet m_thrown m_tried m_best m_touching m_text m_length m_at m_verbs m_told m_commands) [0, 1, 2, 3, 4, 5, 6, 7, 8, 9] [] [0, 1, 2, 3, 4, 5, 6, 7, 8, 9] 1 dX6_grown_9 (kX6_many Θ m0 m1 m2 m3 m4 m5 m6 m7 m8 m9 m_now m_saved m_aside m_states m_quiet m_thrown m_tried m_best m_touching m_text m_length m_at m_verbs m_told m_commands (1 : Int32) r2 hg) (gwV lk_184fe921 lk_d689724c lk_b095f72c lk_6d91b6d2 lk_d7f116ea) rfl hvX6_many ⟨rfl, rfl⟩ ⟨Nat.le_of_ble_eq_true rfl, Nat.le_of_ble_eq_true rfl⟩ ⟨Nat.zero_le _, Nat.zero_le _⟩ rfl rfl (Nat.le_of_ble_eq_true rfl) 0 rfl vc6 rfl rfl rfl rfl (by decide) ?_
  refine sw_imul 12 G dX6_grown_12 ?_
  refine sw_nmi hf (fun v3 hf => ?_)
  refine sw_istore 13 G [(5, .int v3), (3, .long a0), (0, .ref m0), (1, .long a0)] dX6_grown_13 (by decide) rfl ?_
  refine sw_iconst 15 G (0 : Int32) dX6_grown_15 rfl ?_
  refine sw_istore 16 G [(6, .int (0 : Int32)), (5, .int v3), (3, .long a0), (0, .ref m0), (1, .long a0)] dX6_grown_16 (by decide) rfl ?_
  obtain ⟨v4, hl, hf⟩ := bd1_some hf
  have hx18_152 : sw Θ p e rmX6_grown s m args below meth c A Q 8 0 0 152 [(3, .long v4)] [] (wX6 Θ m0 m1 m2 m3 m4 m5 m6 m7 m8 m9 m_now m_saved m_aside m_states m_quiet m_thrown m_tried m_best m_touching m_text m_length m_at m_verbs m_told m_commands) := by
    refine sw_lload_n 152 G dX6_grown_152 0 rfl ?_
    cases hf
    exact sw_lret 153 G dX6_grown_153 K
  refine sw_lv [(0, .ref m0), (1, .long a0), (3, .long a0), (5, .int v3), (6, .int (0 : Int32))] [3, 4, 2, 1, 0] rfl ?_
  refine lp_walk (P := fun (t : Int64 × Int32) => sw Θ p e rmX6_grown s m args below meth c A Q 8 0 0 18 [(0, .ref m0), (1, .long a0), (3, .long t.1), (5, .int v3), (6, .int t.2)] [] (wX6 Θ m0 m1 m2 m3 m4 m5 m6 m7 m8 m9 m_now m_saved m_aside m_states m_quiet m_thrown m_tried m_best m_touching m_text m_length m_at m_verbs m_told m_commands)) hl (fun t18 y18 hf hin18 hex18 => ?_)
  obtain ⟨v5, v6⟩ := t18
  show sw Θ p e rmX6_grown s m args below meth c A Q 8 0 0 18 [(0, .ref m0), (1, .long a0), (3, .long v5), (5, .int v3), (6, .int v6)] [] (wX6 Θ m0 m1 m2 m3 m4 m5 m6 m7 m8 m9 m_now m_saved m_aside m_states m_quiet m_thrown m_tried m_best m_touching m_text m_length m_at m_verbs m_told m_commands)
  have hf := uc2_some (K := _) hf
  refine sw_iload 18 G dX6_grown_18 4 rfl ?_
  refine sw_iload 20 G dX6_grown_20 3 rfl ?_
  refine sw_icmp_ge 22 152 G dX6_grown_22 rfl hf (fun hf => ?_) (fun hf => ?_)
  · cases hf
    cases hex18 _ rfl
    exact sw_lv _ [2] rfl hx18_152
  · refine sw_lload_n 25 G dX6_grown_25 1 rfl ?_
    refine sw_iload 26 G dX6_grown_26 4 rfl ?_
    refine sw_lshr 28 G dX6_grown_28 ?_
    refine sw_lconst 29 G (1 : Int64) dX6_grown_29 rfl ?_
    refine sw_land 30 G dX6_grown_30 ?_
    refine sw_lconst 31 G (1 : Int64) dX6_grown_31 rfl ?_
    refine sw_lcmp 32 G dX6_grown_32 ?_
    obtain ⟨v7, hj, hf⟩ := bd1_some hf
    have hx146 : sw Θ p e rmX6_grown s m args below meth c A Q 8 0 0 146 [(0, .ref m0), (1, .long a0), (3, .long v7), (5, .int v3), (6, .int v6)] [] (wX6 Θ m0 m1 m2 m3 m4 m5 m6 m7 m8 m9 m_now m_saved m_aside m_states m_quiet m_thrown m_tried m_best m_touching m_text m_length m_at m_verbs m_told m_commands) := by
      refine sw_iinc 146 G (v6 + (1 : Int32)) [(6, .int (v6 + (1 : Int32))), (0, .ref m0), (1, .long a0), (3, .long v7), (5, .int v3)] dX6_grown_146 4 rfl rfl (by decide) rfl ?_
      refine sw_goto 149 G 18 dX6_grown_149 rfl ?_
      cases hf
      have hb := hin18 _ rfl
      exact sw_lv _ [1, 2, 3, 4, 0] (by rfl) hb
    clear hf
    have hf := hj
    clear hj
    refine sw_if_ne 33 146 G dX6_grown_33 rfl hf (fun hf => ?_) (fun hf => ?_)
    · cases hf
      exact sw_lv _ [0, 1, 2, 3, 4] rfl hx146
    · refine sw_iload 36 G dX6_grown_36 4 rfl ?_
      refine sw_aload_n 38 G dX6_grown_38 0 rfl ?_
      refine sw_iconst 39 G (0 : Int32) dX6_grown_39 rfl ?_
      obtain ⟨r8, hg, hf⟩ := bd1_some hf
      refine sw_callV 40 G (wX6 Θ m0 m1 m2 m3 m4 m5 m6 m7 m8 m9 m_now m_saved m_aside m_states m_quiet m_thrown m_tried m_best m_touching m_text m_length m_at m_verbs m_told m_commands) [0, 1, 2, 3, 4, 5, 6, 7, 8, 9] [] [0, 1, 2, 3, 4, 5, 6, 7, 8, 9] 1 dX6_grown_40 (kX6_many Θ m0 m1 m2 m3 m4 m5 m6 m7 m8 m9 m_now m_saved m_aside m_states m_quiet m_thrown m_tried m_best m_touching m_text m_length m_at m_verbs m_told m_commands (0 : Int32) r8 hg) (gwV lk_184fe921 lk_d689724c lk_b095f72c lk_6d91b6d2 lk_d7f116ea) rfl hvX6_many ⟨rfl, rfl⟩ ⟨Nat.le_of_ble_eq_true rfl, Nat.le_of_ble_eq_true rfl⟩ ⟨Nat.zero_le _, Nat.zero_le _⟩ rfl rfl (Nat.le_of_ble_eq_true rfl) 0 rfl vc6 rfl rfl rfl rfl (by decide) ?_
      refine sw_irem 43 G dX6_grown_43 hf (fun hf => ?_)
      refine sw_nmi hf (fun v9 hf => ?_)
      refine sw_istore 44 G [(7, .int v9), (0, .ref m0), (1, .long a0), (3, .long v5), (5, .int v3), (6, .int v6)] dX6_grown_44 (by decide) rfl ?_
      refine sw_lload_n 46 G dX6_grown_46 3 rfl ?_
      refine sw_iload 47 G dX6_grown_47 0 rfl ?_
      obtain ⟨v10, hj, hf⟩ := bd1_some hf
      have hx62 : sw Θ p e rmX6_grown s m args below meth c A Q 8 0 0 62 [(0, .ref m0), (1, .long a0), (5, .int v3), (6, .int v6), (7, .int v9)] [.long v10, .long v5] (wX6 Θ m0 m1 m2 m3 m4 m5 m6 m7 m8 m9 m_now m_saved m_aside m_states m_quiet m_thrown m_tried m_best m_touching m_text m_length m_at m_verbs m_told m_commands) := by
        refine sw_lor 62 G dX6_grown_62 ?_
        refine sw_nml hf (fun v11 hf => ?_)
        refine sw_lstore_n 63 G [(3, .long v11), (0, .ref m0), (1, .long a0), (5, .int v3), (6, .int v6), (7, .int v9)] dX6_grown_63 (by decide) rfl ?_
        refine sw_lload_n 64 G dX6_grown_64 0 rfl ?_
        refine sw_iload 65 G dX6_grown_65 5 rfl ?_
        refine sw_aload_n 67 G dX6_grown_67 1 rfl ?_
        refine sw_iconst 68 G (0 : Int32) dX6_grown_68 rfl ?_
        obtain ⟨r12, hg, hf⟩ := bd1_some hf
        refine sw_callV 69 G (wX6 Θ m0 m1 m2 m3 m4 m5 m6 m7 m8 m9 m_now m_saved m_aside m_states m_quiet m_thrown m_tried m_best m_touching m_text m_length m_at m_verbs m_told m_commands) [0, 1, 2, 3, 4, 5, 6, 7, 8, 9] [] [0, 1, 2, 3, 4, 5, 6, 7, 8, 9] 1 dX6_grown_69 (kX6_many Θ m0 m1 m2 m3 m4 m5 m6 m7 m8 m9 m_now m_saved m_aside m_states m_quiet m_thrown m_tried m_best m_touching m_text m_length m_at m_verbs m_told m_commands (0 : Int32) r12 hg) (gwV lk_184fe921 lk_d689724c lk_b095f72c lk_6d91b6d2 lk_d7f116ea) rfl hvX6_many ⟨rfl, rfl⟩ ⟨Nat.le_of_ble_eq_true rfl, Nat.le_of_ble_eq_true rfl⟩ ⟨Nat.zero_le _, Nat.zero_le _⟩ rfl rfl (Nat.le_of_ble_eq_true rfl) 0 rfl vc6 rfl rfl rfl rfl (by decide) ?_
        refine sw_iconst 72 G (1 : Int32) dX6_grown_72 rfl ?_
        refine sw_isub 73 G dX6_grown_73 ?_
        obtain ⟨v13, hj, hf⟩ := bd1_some hf
        have hx87 : sw Θ p e rmX6_grown s m args below meth c A Q 8 0 0 87 [(0, .ref m0), (1, .long a0), (5, .int v3), (6, .int v6)] [.long v13, .long v11] (wX6 Θ m0 m1 m2 m3 m4 m5 m6 m7 m8 m9 m_now m_saved m_aside m_states m_quiet m_thrown m_tried m_best m_touching m_text m_length m_at m_verbs m_told m_commands) := by
          refine sw_lor 87 G dX6_grown_87 ?_
          refine sw_nml hf (fun v14 hf => ?_)
          refine sw_lstore_n 88 G [(3, .long v14), (0, .ref m0), (1, .long a0), (5, .int v3), (6, .int v6)] dX6_grown_88 (by decide) rfl ?_
          refine sw_lload_n 89 G dX6_grown_89 0 rfl ?_
          refine sw_iload 90 G dX6_grown_90 4 rfl ?_
          refine sw_aload_n 92 G dX6_grown_92 1 rfl ?_
          refine sw_iconst 93 G (0 : Int32) dX6_grown_93 rfl ?_
          obtain ⟨r15, hg, hf⟩ := bd1_some hf
          refine sw_callV 94 G (wX6 Θ m0 m1 m2 m3 m4 m5 m6 m7 m8 m9 m_now m_saved m_aside m_states m_quiet m_thrown m_tried m_best m_touching m_text m_length m_at m_verbs m_told m_commands) [0, 1, 2, 3, 4, 5, 6, 7, 8, 9] [] [0, 1, 2, 3, 4, 5, 6, 7, 8, 9] 1 dX6_grown_94 (kX6_many Θ m0 m1 m2 m3 m4 m5 m6 m7 m8 m9 m_now m_saved m_aside m_states m_quiet m_thrown m_tried m_best m_touching m_text m_length m_at m_verbs m_told m_commands (0 : Int32) r15 hg) (gwV lk_184fe921 lk_d689724c lk_b095f72c lk_6d91b6d2 lk_d7f116ea) rfl hvX6_many ⟨rfl, rfl⟩ ⟨Nat.le_of_ble_eq_true rfl, Nat.le_of_ble_eq_true rfl⟩ ⟨Nat.zero_le _, Nat.zero_le _⟩ rfl rfl (Nat.le_of_ble_eq_true rfl) 0 rfl vc6 rfl rfl rfl rfl (by decide) ?_
          obtain ⟨v16, hj, hf⟩ := bd1_some hf
          have hx114 : sw Θ p e rmX6_grown s m args below meth c A Q 8 0 0 114 [(0, .ref m0), (1, .long a0), (5, .int v3), (6, .int v6)] [.long v16, .long v14] (wX6 Θ m0 m1 m2 m3 m4 m5 m6 m7 m8 m9 m_now m_saved m_aside m_states m_quiet m_thrown m_tried m_best m_touching m_text m_length m_at m_verbs m_told m_commands) := by
            refine sw_lor 114 G dX6_grown_114 ?_
            refine sw_nml hf (fun v18 hf => ?_)
            refine sw_lstore_n 115 G [(3, .long v18), (0, .ref m0), (1, .long a0), (5, .int v3), (6, .int v6)] dX6_grown_115 (by decide) rfl ?_
            refine sw_lload_n 116 G dX6_grown_116 0 rfl ?_
            refine sw_iload 117 G dX6_grown_117 4 rfl ?_
            refine sw_aload_n 119 G dX6_grown_119 1 rfl ?_
            refine sw_iconst 120 G (0 : Int32) dX6_grown_120 rfl ?_
            obtain ⟨r19, hg, hf⟩ := bd1_some hf
            refine sw_callV 121 G (wX6 Θ m0 m1 m2 m3 m4 m5 m6 m7 m8 m9 m_now m_saved m_aside m_states m_quiet m_thrown m_tried m_best m_touching m_text m_length m_at m_verbs m_told m_commands) [0, 1, 2, 3, 4, 5, 6, 7, 8, 9] [] [0, 1, 2, 3, 4, 5, 6, 7, 8, 9] 1 dX6_grown_121 (kX6_many Θ m0 m1 m2 m3 m4 m5 m6 m7 m8 m9 m_now m_saved m_aside m_states m_quiet m_thrown m_tried m_best m_touching m_text m_length m_at m_verbs m_told m_commands (0 : Int32) r19 hg) (gwV lk_184fe921 lk_d689724c lk_b095f72c lk_6d91b6d2 lk_d7f116ea) rfl hvX6_many ⟨rfl, rfl⟩ ⟨Nat.le_of_ble_eq_true rfl, Nat.le_of_ble_eq_true rfl⟩ ⟨Nat.zero_le _, Nat.zero_le _⟩ rfl rfl (Nat.le_of_ble_eq_true rfl) 0 rfl vc6 rfl rfl rfl rfl (by decide) ?_
            refine sw_iadd 124 G dX6_grown_124 ?_
            refine sw_iload 125 G dX6_grown_125 3 rfl ?_
            obtain ⟨v20, hj, hf⟩ := bd1_some hf
            have hx144 : sw Θ p e rmX6_grown s m args below meth c A Q 8 0 0 144 [(0, .ref m0), (1, .long a0), (5, .int v3), (6, .int v6)] [.long v20, .long v18] (wX6 Θ m0 m1 m2 m3 m4 m5 m6 m7 m8 m9 m_now m_saved m_aside m_states m_quiet m_thrown m_tried m_best m_touching m_text m_length m_at m_verbs m_told m_commands) := by
              refine sw_lor 144 G dX6_grown_144 ?_
              refine sw_nml hf (fun v22 hf => ?_)
              refine sw_lstore_n 145 G [(3, .long v22), (0, .ref m0), (1, .long a0), (5, .int v3), (6, .int v6)] dX6_grown_145 (by decide) rfl ?_
              cases hf
              exact sw_lv _ [1, 2, 0, 3, 4] rfl hx146
            clear hf
            have hf := hj
            clear hj
            refine sw_icmp_ge 127 143 G dX6_grown_127 rfl hf (fun hf => ?_) (fun hf => ?_)
            · refine sw_lconst 143 G (0 : Int64) dX6_grown_143 rfl ?_
              cases hf
              exact sw_lv _ [1, 2, 3, 4] rfl hx144
            · refine sw_lconst 130 G (1 : Int64) dX6_grown_130 rfl ?_
              refine sw_iload 131 G dX6_grown_131 4 rfl ?_
              refine sw_aload_n 133 G dX6_grown_133 1 rfl ?_
              refine sw_iconst 134 G (0 : Int32) dX6_grown_134 rfl ?_
              obtain ⟨r21, hg, hf⟩ := bd1_some hf
              refine sw_callV 135 G (wX6 Θ m0 m1 m2 m3 m4 m5 m6 m7 m8 m9 m_now m_saved m_aside m_states m_quiet m_thrown m_tried m_best m_touching m_text m_length m_at m_verbs m_told m_commands) [0, 1, 2, 3, 4, 5, 6, 7, 8, 9] [] [0, 1, 2, 3, 4, 5, 6, 7, 8, 9] 1 dX6_grown_135 (kX6_many Θ m0 m1 m2 m3 m4 m5 m6 m7 m8 m9 m_now m_saved m_aside m_states m_quiet m_thrown m_tried m_best m_touching m_text m_length m_at m_verbs m_told m_commands (0 : Int32) r21 hg) (gwV lk_184fe921 lk_d689724c lk_b095f72c lk_6d91b6d2 lk_d7f116ea) rfl hvX6_many ⟨rfl, rfl⟩ ⟨Nat.le_of_ble_eq_true rfl, Nat.le_of_ble_eq_true rfl⟩ ⟨Nat.zero_le _, Nat.zero_le _⟩ rfl rfl (Nat.le_of_ble_eq_true rfl) 0 rfl vc6 rfl rfl rfl rfl (by decide) ?_
              refine sw_iadd 138 G dX6_grown_138 ?_
              refine sw_lshl 139 G dX6_grown_139 ?_
              refine sw_goto 140 G 144 dX6_grown_140 rfl ?_
              cases hf
              exact sw_lv _ [1, 2, 3, 4] rfl hx144
          clear hf
          have hf := hj
          clear hj
          refine sw_icmp_lt 97 113 G dX6_grown_97 rfl hf (fun hf => ?_) (fun hf => ?_)
          · refine sw_lconst 113 G (0 : Int64) dX6_grown_113 rfl ?_
            cases hf
            exact sw_lv _ [1, 2, 3, 4] rfl hx114
          · refine sw_lconst 100 G (1 : Int64) dX6_grown_100 rfl ?_
            refine sw_iload 101 G dX6_grown_101 4 rfl ?_
            refine sw_aload_n 103 G dX6_grown_103 1 rfl ?_
            refine sw_iconst 104 G (0 : Int32) dX6_grown_104 rfl ?_
            obtain ⟨r17, hg, hf⟩ := bd1_some hf
            refine sw_callV 105 G (wX6 Θ m0 m1 m2 m3 m4 m5 m6 m7 m8 m9 m_now m_saved m_aside m_states m_quiet m_thrown m_tried m_best m_touching m_text m_length m_at m_verbs m_told m_commands) [0, 1, 2, 3, 4, 5, 6, 7, 8, 9] [] [0, 1, 2, 3, 4, 5, 6, 7, 8, 9] 1 dX6_grown_105 (kX6_many Θ m0 m1 m2 m3 m4 m5 m6 m7 m8 m9 m_now m_saved m_aside m_states m_quiet m_thrown m_tried m_best m_touching m_text m_length m_at m_verbs m_told m_commands (0 : Int32) r17 hg) (gwV lk_184fe921 lk_d689724c lk_b095f72c lk_6d91b6d2 lk_d7f116ea) rfl hvX6_many ⟨rfl, rfl⟩ ⟨Nat.le_of_ble_eq_true rfl, Nat.le_of_ble_eq_true rfl⟩ ⟨Nat.zero_le _, Nat.zero_le _⟩ rfl rfl (Nat.le_of_ble_eq_true rfl) 0 rfl vc6 rfl rfl rfl rfl (by decide) ?_
            refine sw_isub 108 G dX6_grown_108 ?_
            refine sw_lshl 109 G dX6_grown_109 ?_
            refine sw_goto 110 G 114 dX6_grown_110 rfl ?_
            cases hf
            exact sw_lv _ [1, 2, 3, 4] rfl hx114
        clear hf
        have hf := hj
        clear hj
        refine sw_icmp_ge 74 86 G dX6_grown_74 rfl hf (fun hf => ?_) (fun hf => ?_)
        · refine sw_lconst 86 G (0 : Int64) dX6_grown_86 rfl ?_
          cases hf
          exact sw_lv _ [1, 2, 3, 4] rfl hx87
        · refine sw_lconst 77 G (1 : Int64) dX6_grown_77 rfl ?_
          refine sw_iload 78 G dX6_grown_78 4 rfl ?_
          refine sw_iconst 80 G (1 : Int32) dX6_grown_80 rfl ?_
          refine sw_iadd 81 G dX6_grown_81 ?_
          refine sw_lshl 82 G dX6_grown_82 ?_
          refine sw_goto 83 G 87 dX6_grown_83 rfl ?_
          cases hf
          exact sw_lv _ [1, 2, 3, 4] rfl hx87
      clear hf
      have hf := hj
      clear hj
      refine sw_if_le 49 61 G dX6_grown_49 rfl hf (fun hf => ?_) (fun hf => ?_)
      · refine sw_lconst 61 G (0 : Int64) dX6_grown_61 rfl ?_
        cases hf
        exact sw_lv _ [1, 2, 4, 5, 0] rfl hx62
      · refine sw_lconst 52 G (1 : Int64) dX6_grown_52 rfl ?_
        refine sw_iload 53 G dX6_grown_53 5 rfl ?_
        refine sw_iconst 55 G (1 : Int32) dX6_grown_55 rfl ?_
        refine sw_isub 56 G dX6_grown_56 ?_
        refine sw_lshl 57 G dX6_grown_57 ?_
        refine sw_goto 58 G 62 dX6_grown_58 rfl ?_
        cases hf
        exact sw_lv _ [1, 2, 4, 5, 0] rfl hx62
abbrev rmX6_cellsOf : Room := { frames := 2, cells := 0, slots := 0, locals := 49 }
theorem hvX6_cellsOf : yX6_cellsOf.cls = RX6 ∧ yX6_cellsOf.cls ≠ "java/lang/invoke/MethodHandle" ∧ yX6_cellsOf.cls ≠ "java/lang/invoke/VarHandle" ∧ (parseMethodDescriptor yX6_cellsOf.desc).map (fun d => d.parameters.length) = some 1 := by decide +kernel
set_option maxRecDepth 100000 in
set_option maxHeartbeats 4000000 in
theorem kX6_cellsOf (Θ : Tht) (F : Nat) (m0 m1 m2 m3 m4 m5 m6 m7 m8 m9 : Nat) (m_now : Nat → Int64) (m_saved : Nat → Int64) (m_aside : Nat → Int64) (m_states : Int32) (m_quiet : Int32) (m_thrown : Int32) (m_tried : Nat → Int32) (m_best : Nat → Int32) (m_touching : Nat → Int32) (m_text : Nat → Int32) (m_length : Int32) (m_at : Int32) (m_verbs : Nat → Int32) (m_told : Nat → Int32) (m_commands : Int32) (a0 : Int32) (ro : Int64) (hf : fX6_cellsOf F m_now a0 = some ro) : Fn Θ yX6_cellsOf (Cond.code yX6_cellsOf cX6_cellsOf 2 (some .long) :: GW) rmX6_cellsOf [.ref m0, .int a0] (wX6 Θ m0 m1 m2 m3 m4 m5 m6 m7 m8 m9 m_now m_saved m_aside m_states m_quiet m_thrown m_tried m_best m_touching m_text m_length m_at m_verbs m_told m_commands) (some (.long ro)) (wX6 Θ m0 m1 m2 m3 m4 m5 m6 m7 m8 m9 m_now m_saved m_aside m_states m_quiet m_thrown m_tried m_best m_touching m_text m_length m_at m_verbs m_told m_commands) := by
  delta fX6_cellsOf at hf
  refine Fn.of (by decide +kernel) rfl (Nat.le_of_ble_eq_true rfl) (fun p e s m args below meth c A Q G K => ?_)
  show sw Θ p e rmX6_cellsOf s m args below meth c A Q 2 0 0 0 [(0, .ref m0), (1, .int a0)] [] (wX6 Θ m0 m1 m2 m3 m4 m5 m6 m7 m8 m9 m_now m_saved m_aside m_states m_quiet m_thrown m_tried m_best m_touching m_text m_length m_at m_verbs m_told m_commands)
  refine sw_aload_n 0 G dX6_cellsOf_0 0 rfl ?_
  refine sw_aload_n 1 G dX6_cellsOf_1 0 rfl ?_
  refine sw_iload_n 2 G dX6_cellsOf_2 1 rfl ?_
  refine sw_iconst 3 G (1 : Int32) dX6_cellsOf_3 rfl ?_
  obtain ⟨r1, hg, hf⟩ := bd1_some hf
  refine sw_callV 4 G (wX6 Θ m0 m1 m2 m3 m4 m5 m6 m7 m8 m9 m_now m_saved m_aside m_states m_quiet m_thrown m_tried m_best m_touching m_text m_length m_at m_verbs m_told m_commands) [0, 1, 2, 3, 4, 5, 6, 7, 8, 9] [] [0, 1, 2, 3, 4, 5, 6, 7, 8, 9] 2 dX6_cellsOf_4 (kX6_ofOp Θ m0 m1 m2 m3 m4 m5 m6 m7 m8 m9 m_now m_saved m_aside m_states m_quiet m_thrown m_tried m_best m_touching m_text m_length m_at m_verbs m_told m_commands a0 (1 : Int32) r1 hg) (gwV lk_2264dc2b lk_fffc09d0 lk_e7d0f718 lk_6d91b6d2 lk_229db627) rfl hvX6_ofOp ⟨rfl, rfl⟩ ⟨Nat.le_of_ble_eq_true rfl, Nat.le_of_ble_eq_true rfl⟩ ⟨Nat.zero_le _, Nat.zero_le _⟩ rfl rfl (Nat.le_of_ble_eq_true rfl) 0 rfl vc6 rfl rfl rfl rfl (by decide) ?_
  refine sw_aload_n 7 G dX6_cellsOf_7 0 rfl ?_
  refine sw_iload_n 8 G dX6_cellsOf_8 1 rfl ?_
  refine sw_iconst 9 G (2 : Int32) dX6_cellsOf_9 rfl ?_
  obtain ⟨r2, hg, hf⟩ := bd1_some hf
  refine sw_callV 10 G (wX6 Θ m0 m1 m2 m3 m4 m5 m6 m7 m8 m9 m_now m_saved m_aside m_states m_quiet m_thrown m_tried m_best m_touching m_text m_length m_at m_verbs m_told m_commands) [0, 1, 2, 3, 4, 5, 6, 7, 8, 9] [] [0, 1, 2, 3, 4, 5, 6, 7, 8, 9] 2 dX6_cellsOf_10 (kX6_ofOp Θ m0 m1 m2 m3 m4 m5 m6 m7 m8 m9 m_now m_saved m_aside m_states m_quiet m_thrown m_tried m_best m_touching m_text m_length m_at m_verbs m_told m_commands a0 (2 : Int32) r2 hg) (gwV lk_2264dc2b lk_fffc09d0 lk_e7d0f718 lk_6d91b6d2 lk_229db627) rfl hvX6_ofOp ⟨rfl, rfl⟩ ⟨Nat.le_of_ble_eq_true rfl, Nat.le_of_ble_eq_true rfl⟩ ⟨Nat.zero_le _, Nat.zero_le _⟩ rfl rfl (Nat.le_of_ble_eq_true rfl) 0 rfl vc6 rfl rfl rfl rfl (by decide) ?_
  refine sw_aload_n 13 G dX6_cellsOf_13 0 rfl ?_
  refine sw_iload_n 14 G dX6_cellsOf_14 1 rfl ?_
  refine sw_iconst 15 G (3 : Int32) dX6_cellsOf_15 rfl ?_
  obtain ⟨r3, hg, hf⟩ := bd1_some hf
  refine sw_callV 16 G (wX6 Θ m0 m1 m2 m3 m4 m5 m6 m7 m8 m9 m_now m_saved m_aside m_states m_quiet m_thrown m_tried m_best m_touching m_text m_length m_at m_verbs m_told m_commands) [0, 1, 2, 3, 4, 5, 6, 7, 8, 9] [] [0, 1, 2, 3, 4, 5, 6, 7, 8, 9] 2 dX6_cellsOf_16 (kX6_ofOp Θ m0 m1 m2 m3 m4 m5 m6 m7 m8 m9 m_now m_saved m_aside m_states m_quiet m_thrown m_tried m_best m_touching m_text m_length m_at m_verbs m_told m_commands a0 (3 : Int32) r3 hg) (gwV lk_2264dc2b lk_fffc09d0 lk_e7d0f718 lk_6d91b6d2 lk_229db627) rfl hvX6_ofOp ⟨rfl, rfl⟩ ⟨Nat.le_of_ble_eq_true rfl, Nat.le_of_ble_eq_true rfl⟩ ⟨Nat.zero_le _, Nat.zero_le _⟩ rfl rfl (Nat.le_of_ble_eq_true rfl) 0 rfl vc6 rfl rfl rfl rfl (by decide) ?_
  refine sw_aload_n 19 G dX6_cellsOf_19 0 rfl ?_
  refine sw_iload_n 20 G dX6_cellsOf_20 1 rfl ?_
  refine sw_iconst 21 G (4 : Int32) dX6_cellsOf_21 rfl ?_
  obtain ⟨r4, hg, hf⟩ := bd1_some hf
  refine sw_callV 22 G (wX6 Θ m0 m1 m2 m3 m4 m5 m6 m7 m8 m9 m_now m_saved m_aside m_states m_quiet m_thrown m_tried m_best m_touching m_text m_length m_at m_verbs m_told m_commands) [0, 1, 2, 3, 4, 5, 6, 7, 8, 9] [] [0, 1, 2, 3, 4, 5, 6, 7, 8, 9] 2 dX6_cellsOf_22 (kX6_ofOp Θ m0 m1 m2 m3 m4 m5 m6 m7 m8 m9 m_now m_saved m_aside m_states m_quiet m_thrown m_tried m_best m_touching m_text m_length m_at m_verbs m_told m_commands a0 (4 : Int32) r4 hg) (gwV lk_2264dc2b lk_fffc09d0 lk_e7d0f718 lk_6d91b6d2 lk_229db627) rfl hvX6_ofOp ⟨rfl, rfl⟩ ⟨Nat.le_of_ble_eq_true rfl, Nat.le_of_ble_eq_true rfl⟩ ⟨Nat.zero_le _, Nat.zero_le _⟩ rfl rfl (Nat.le_of_ble_eq_true rfl) 0 rfl vc6 rfl rfl rfl rfl (by decide) ?_
  obtain ⟨r5, hg, hf⟩ := bd1_some hf
  refine sw_callV 25 G (wX6 Θ m0 m1 m2 m3 m4 m5 m6 m7 m8 m9 m_now m_saved m_aside m_states m_quiet m_thrown m_tried m_best m_touching m_text m_length m_at m_verbs m_told m_commands) [0, 1, 2, 3, 4, 5, 6, 7, 8, 9] [] [0, 1, 2, 3, 4, 5, 6, 7, 8, 9] 4 dX6_cellsOf_25 (kX6_rectangle Θ F m0 m1 m2 m3 m4 m5 m6 m7 m8 m9 m_now m_saved m_aside m_states m_quiet m_thrown m_tried m_best m_touching m_text m_length m_at m_verbs m_told m_commands r1 r2 r3 r4 r5 hg) (gwV lk_61063461 lk_41ee9c05 lk_1a4154e9 lk_6d91b6d2 lk_91662179) rfl hvX6_rectangle ⟨rfl, rfl⟩ ⟨Nat.le_of_ble_eq_true rfl, Nat.le_of_ble_eq_true rfl⟩ ⟨Nat.zero_le _, Nat.zero_le _⟩ rfl rfl (Nat.le_of_ble_eq_true rfl) 0 rfl vc6 rfl rfl rfl rfl (by decide) ?_
  cases hf
  exact sw_lret 28 G dX6_cellsOf_28 K
abbrev rmX6_takenBy : Room := { frames := 3, cells := 0, slots := 0, locals := 70 }
theorem hvX6_takenBy : yX6_takenBy.cls = RX6 ∧ yX6_takenBy.cls ≠ "java/lang/invoke/MethodHandle" ∧ yX6_takenBy.cls ≠ "java/lang/invoke/VarHandle" ∧ (parseMethodDescriptor yX6_takenBy.desc).map (fun d => d.parameters.length) = some 1 := by decide +kernel
set_option maxRecDepth 100000 in
set_option maxHeartbeats 4000000 in
theorem kX6_takenBy (Θ : Tht) (F : Nat) (m0 m1 m2 m3 m4 m5 m6 m7 m8 m9 : Nat) (m_now : Nat → Int64) (m_saved : Nat → Int64) (m_aside : Nat → Int64) (m_states : Int32) (m_quiet : Int32) (m_thrown : Int32) (m_tried : Nat → Int32) (m_best : Nat → Int32) (m_touching : Nat → Int32) (m_text : Nat → Int32) (m_length : Int32) (m_at : Int32) (m_verbs : Nat → Int32) (m_told : Nat → Int32) (m_commands : Int32) (a0 : Int32) (ro : Int64) (hf : fX6_takenBy F m_now a0 = some ro) : Fn Θ yX6_takenBy (Cond.code yX6_takenBy cX6_takenBy 5 (some .long) :: GW) rmX6_takenBy [.ref m0, .int a0] (wX6 Θ m0 m1 m2 m3 m4 m5 m6 m7 m8 m9 m_now m_saved m_aside m_states m_quiet m_thrown m_tried m_best m_touching m_text m_length m_at m_verbs m_told m_commands) (some (.long ro)) (wX6 Θ m0 m1 m2 m3 m4 m5 m6 m7 m8 m9 m_now m_saved m_aside m_states m_quiet m_thrown m_tried m_best m_touching m_text m_length m_at m_verbs m_told m_commands) := by
  delta fX6_takenBy at hf
  refine Fn.of (by decide +kernel) rfl (Nat.le_of_ble_eq_true rfl) (fun p e s m args below meth c A Q G K => ?_)
  show sw Θ p e rmX6_takenBy s m args below meth c A Q 5 0 0 0 [(0, .ref m0), (1, .int a0)] [] (wX6 Θ m0 m1 m2 m3 m4 m5 m6 m7 m8 m9 m_now m_saved m_aside m_states m_quiet m_thrown m_tried m_best m_touching m_text m_length m_at m_verbs m_told m_commands)
  refine sw_lconst 0 G (0 : Int64) dX6_takenBy_0 rfl ?_
  refine sw_lstore_n 1 G [(2, .long (0 : Int64)), (0, .ref m0), (1, .int a0)] dX6_takenBy_1 (by decide) rfl ?_
  refine sw_iconst 2 G (0 : Int32) dX6_takenBy_2 rfl ?_
  refine sw_istore 3 G [(4, .int (0 : Int32)), (2, .long (0 : Int64)), (0, .ref m0), (1, .int a0)] dX6_takenBy_3 (by decide) rfl ?_
  obtain ⟨v1, hl, hf⟩ := bd1_some hf
  have hx5_46 : sw Θ p e rmX6_takenBy s m args below meth c A Q 5 0 0 46 [(2, .long v1)] [] (wX6 Θ m0 m1 m2 m3 m4 m5 m6 m7 m8 m9 m_now m_saved m_aside m_states m_quiet m_thrown m_tried m_best m_touching m_text m_length m_at m_verbs m_told m_commands) := by
    refine sw_lload_n 46 G dX6_takenBy_46 0 rfl ?_
    cases hf
    exact sw_lret 47 G dX6_takenBy_47 K
  refine sw_lv [(0, .ref m0), (1, .int a0), (2, .long (0 : Int64)), (4, .int (0 : Int32))] [2, 3, 1, 0] rfl ?_
  refine lp_walk (P := fun (t : Int64 × Int32) => sw Θ p e rmX6_takenBy s m args below meth c A Q 5 0 0 5 [(0, .ref m0), (1, .int a0), (2, .long t.1), (4, .int t.2)] [] (wX6 Θ m0 m1 m2 m3 m4 m5 m6 m7 m8 m9 m_now m_saved m_aside m_states m_quiet m_thrown m_tried m_best m_touching m_text m_length m_at m_verbs m_told m_commands)) hl (fun t5 y5 hf hin5 hex5 => ?_)
  obtain ⟨v2, v3⟩ := t5
  show sw Θ p e rmX6_takenBy s m args below meth c A Q 5 0 0 5 [(0, .ref m0), (1, .int a0), (2, .long v2), (4, .int v3)] [] (wX6 Θ m0 m1 m2 m3 m4 m5 m6 m7 m8 m9 m_now m_saved m_aside m_states m_quiet m_thrown m_tried m_best m_touching m_text m_length m_at m_verbs m_told m_commands)
  have hf := uc2_some (K := _) hf
  refine sw_iload 5 G dX6_takenBy_5 3 rfl ?_
  refine sw_aload_n 7 G dX6_takenBy_7 0 rfl ?_
  refine sw_bipush 8 G (8 : Int32) dX6_takenBy_8 rfl ?_
  obtain ⟨r4, hg, hf⟩ := bd1_some hf
  refine sw_callV 10 G (wX6 Θ m0 m1 m2 m3 m4 m5 m6 m7 m8 m9 m_now m_saved m_aside m_states m_quiet m_thrown m_tried m_best m_touching m_text m_length m_at m_verbs m_told m_commands) [0, 1, 2, 3, 4, 5, 6, 7, 8, 9] [] [0, 1, 2, 3, 4, 5, 6, 7, 8, 9] 1 dX6_takenBy_10 (kX6_many Θ m0 m1 m2 m3 m4 m5 m6 m7 m8 m9 m_now m_saved m_aside m_states m_quiet m_thrown m_tried m_best m_touching m_text m_length m_at m_verbs m_told m_commands (8 : Int32) r4 hg) (gwV lk_184fe921 lk_d689724c lk_b095f72c lk_6d91b6d2 lk_d7f116ea) rfl hvX6_many ⟨rfl, rfl⟩ ⟨Nat.le_of_ble_eq_true rfl, Nat.le_of_ble_eq_true rfl⟩ ⟨Nat.zero_le _, Nat.zero_le _⟩ rfl rfl (Nat.le_of_ble_eq_true rfl) 0 rfl vc6 rfl rfl rfl rfl (by decide) ?_
  refine sw_icmp_ge 13 46 G dX6_takenBy_13 rfl hf (fun hf => ?_) (fun hf => ?_)
  · cases hf
    cases hex5 _ rfl
    exact sw_lv _ [2] rfl hx5_46
  · refine sw_lload_n 16 G dX6_takenBy_16 2 rfl ?_
    refine sw_aload_n 17 G dX6_takenBy_17 0 rfl ?_
    refine sw_iload 18 G dX6_takenBy_18 3 rfl ?_
    refine sw_iconst 20 G (0 : Int32) dX6_takenBy_20 rfl ?_
    obtain ⟨r5, hg, hf⟩ := bd1_some hf
    refine sw_callV 21 G (wX6 Θ m0 m1 m2 m3 m4 m5 m6 m7 m8 m9 m_now m_saved m_aside m_states m_quiet m_thrown m_tried m_best m_touching m_text m_length m_at m_verbs m_told m_commands) [0, 1, 2, 3, 4, 5, 6, 7, 8, 9] [] [0, 1, 2, 3, 4, 5, 6, 7, 8, 9] 2 dX6_takenBy_21 (kX6_ofOp Θ m0 m1 m2 m3 m4 m5 m6 m7 m8 m9 m_now m_saved m_aside m_states m_quiet m_thrown m_tried m_best m_touching m_text m_length m_at m_verbs m_told m_commands v3 (0 : Int32) r5 hg) (gwV lk_2264dc2b lk_fffc09d0 lk_e7d0f718 lk_6d91b6d2 lk_229db627) rfl hvX6_ofOp ⟨rfl, rfl⟩ ⟨Nat.le_of_ble_eq_true rfl, Nat.le_of_ble_eq_true rfl⟩ ⟨Nat.zero_le _, Nat.zero_le _⟩ rfl rfl (Nat.le_of_ble_eq_true rfl) 0 rfl vc6 rfl rfl rfl rfl (by decide) ?_
    refine sw_iload_n 24 G dX6_takenBy_24 1 rfl ?_
    obtain ⟨v6, hj, hf⟩ := bd1_some hf
    have hx38 : sw Θ p e rmX6_takenBy s m args below meth c A Q 5 0 0 38 [(0, .ref m0), (1, .int a0), (4, .int v3)] [.long v6, .long v2] (wX6 Θ m0 m1 m2 m3 m4 m5 m6 m7 m8 m9 m_now m_saved m_aside m_states m_quiet m_thrown m_tried m_best m_touching m_text m_length m_at m_verbs m_told m_commands) := by
      refine sw_lor 38 G dX6_takenBy_38 ?_
      refine sw_nml hf (fun v8 hf => ?_)
      refine sw_lstore_n 39 G [(2, .long v8), (0, .ref m0), (1, .int a0), (4, .int v3)] dX6_takenBy_39 (by decide) rfl ?_
      refine sw_iinc 40 G (v3 + (1 : Int32)) [(4, .int (v3 + (1 : Int32))), (2, .long v8), (0, .ref m0), (1, .int a0)] dX6_takenBy_40 3 rfl rfl (by decide) rfl ?_
      refine sw_goto 43 G 5 dX6_takenBy_43 rfl ?_
      cases hf
      have hb := hin5 _ rfl
      exact sw_lv _ [2, 3, 1, 0] (by rfl) hb
    clear hf
    have hf := hj
    clear hj
    refine sw_icmp_ne 25 37 G dX6_takenBy_25 rfl hf (fun hf => ?_) (fun hf => ?_)
    · refine sw_lconst 37 G (0 : Int64) dX6_takenBy_37 rfl ?_
      cases hf
      exact sw_lv _ [0, 1, 3] rfl hx38
    · refine sw_aload_n 28 G dX6_takenBy_28 0 rfl ?_
      refine sw_iload 29 G dX6_takenBy_29 3 rfl ?_
      obtain ⟨r7, hg, hf⟩ := bd1_some hf
      refine sw_callV 31 G (wX6 Θ m0 m1 m2 m3 m4 m5 m6 m7 m8 m9 m_now m_saved m_aside m_states m_quiet m_thrown m_tried m_best m_touching m_text m_length m_at m_verbs m_told m_commands) [0, 1, 2, 3, 4, 5, 6, 7, 8, 9] [] [0, 1, 2, 3, 4, 5, 6, 7, 8, 9] 1 dX6_takenBy_31 (kX6_cellsOf Θ F m0 m1 m2 m3 m4 m5 m6 m7 m8 m9 m_now m_saved m_aside m_states m_quiet m_thrown m_tried m_best m_touching m_text m_length m_at m_verbs m_told m_commands v3 r7 hg) (gwV lk_f806aa0d lk_0baa7f17 lk_5f4f9baa lk_6d91b6d2 lk_2857eee9) rfl hvX6_cellsOf ⟨rfl, rfl⟩ ⟨Nat.le_of_ble_eq_true rfl, Nat.le_of_ble_eq_true rfl⟩ ⟨Nat.zero_le _, Nat.zero_le _⟩ rfl rfl (Nat.le_of_ble_eq_true rfl) 0 rfl vc6 rfl rfl rfl rfl (by decide) ?_
      refine sw_goto 34 G 38 dX6_takenBy_34 rfl ?_
      cases hf
      exact sw_lv _ [0, 1, 3] rfl hx38
abbrev rmX6_loose : Room := { frames := 4, cells := 0, slots := 0, locals := 93 }
theorem hvX6_loose : yX6_loose.cls = RX6 ∧ yX6_loose.cls ≠ "java/lang/invoke/MethodHandle" ∧ yX6_loose.cls ≠ "java/lang/invoke/VarHandle" ∧ (parseMethodDescriptor yX6_loose.desc).map (fun d => d.parameters.length) = some 0 := by decide +kernel
set_option maxRecDepth 100000 in
set_option maxHeartbeats 4000000 in
theorem kX6_loose (Θ : Tht) (F : Nat) (m0 m1 m2 m3 m4 m5 m6 m7 m8 m9 : Nat) (m_now : Nat → Int64) (m_saved : Nat → Int64) (m_aside : Nat → Int64) (m_states : Int32) (m_quiet : Int32) (m_thrown : Int32) (m_tried : Nat → Int32) (m_best : Nat → Int32) (m_touching : Nat → Int32) (m_text : Nat → Int32) (m_length : Int32) (m_at : Int32) (m_verbs : Nat → Int32) (m_told : Nat → Int32) (m_commands : Int32) (ro : Int64) (hf : fX6_loose F m_now = some ro) : Fn Θ yX6_loose (Cond.code yX6_loose cX6_loose 7 (some .long) :: GW) rmX6_loose [.ref m0] (wX6 Θ m0 m1 m2 m3 m4 m5 m6 m7 m8 m9 m_now m_saved m_aside m_states m_quiet m_thrown m_tried m_best m_touching m_text m_length m_at m_verbs m_told m_commands) (some (.long ro)) (wX6 Θ m0 m1 m2 m3 m4 m5 m6 m7 m8 m9 m_now m_saved m_aside m_states m_quiet m_thrown m_tried m_best m_touching m_text m_length m_at m_verbs m_told m_commands) := by
  delta fX6_loose at hf
  refine Fn.of (by decide +kernel) rfl (Nat.le_of_ble_eq_true rfl) (fun p e s m args below meth c A Q G K => ?_)
  show sw Θ p e rmX6_loose s m args below meth c A Q 7 0 0 0 [(0, .ref m0)] [] (wX6 Θ m0 m1 m2 m3 m4 m5 m6 m7 m8 m9 m_now m_saved m_aside m_states m_quiet m_thrown m_tried m_best m_touching m_text m_length m_at m_verbs m_told m_commands)
  refine sw_aload_n 0 G dX6_loose_0 0 rfl ?_
  obtain ⟨r1, hg, hf⟩ := bd1_some hf
  refine sw_callV 1 G (wX6 Θ m0 m1 m2 m3 m4 m5 m6 m7 m8 m9 m_now m_saved m_aside m_states m_quiet m_thrown m_tried m_best m_touching m_text m_length m_at m_verbs m_told m_commands) [0, 1, 2, 3, 4, 5, 6, 7, 8, 9] [] [0, 1, 2, 3, 4, 5, 6, 7, 8, 9] 0 dX6_loose_1 (kX6_part Θ F m0 m1 m2 m3 m4 m5 m6 m7 m8 m9 m_now m_saved m_aside m_states m_quiet m_thrown m_tried m_best m_touching m_text m_length m_at m_verbs m_told m_commands r1 hg) (gwV lk_a7d29f13 lk_b5d5ac57 lk_bbe75992 lk_6d91b6d2 lk_b1193bad) rfl hvX6_part ⟨rfl, rfl⟩ ⟨Nat.le_of_ble_eq_true rfl, Nat.le_of_ble_eq_true rfl⟩ ⟨Nat.zero_le _, Nat.zero_le _⟩ rfl rfl (Nat.le_of_ble_eq_true rfl) 0 rfl vc6 rfl rfl rfl rfl (by decide) ?_
  refine sw_aload_n 4 G dX6_loose_4 0 rfl ?_
  obtain ⟨r2, hg, hf⟩ := bd1_some hf
  refine sw_callV 5 G (wX6 Θ m0 m1 m2 m3 m4 m5 m6 m7 m8 m9 m_now m_saved m_aside m_states m_quiet m_thrown m_tried m_best m_touching m_text m_length m_at m_verbs m_told m_commands) [0, 1, 2, 3, 4, 5, 6, 7, 8, 9] [] [0, 1, 2, 3, 4, 5, 6, 7, 8, 9] 0 dX6_loose_5 (kX6_links Θ F m0 m1 m2 m3 m4 m5 m6 m7 m8 m9 m_now m_saved m_aside m_states m_quiet m_thrown m_tried m_best m_touching m_text m_length m_at m_verbs m_told m_commands r2 hg) (gwV lk_d0a62bf9 lk_99890b55 lk_17a509a9 lk_6d91b6d2 lk_023738c8) rfl hvX6_links ⟨rfl, rfl⟩ ⟨Nat.le_of_ble_eq_true rfl, Nat.le_of_ble_eq_true rfl⟩ ⟨Nat.zero_le _, Nat.zero_le _⟩ rfl rfl (Nat.le_of_ble_eq_true rfl) 0 rfl vc6 rfl rfl rfl rfl (by decide) ?_
  refine sw_lor 8 G dX6_loose_8 ?_
  refine sw_aload_n 9 G dX6_loose_9 0 rfl ?_
  obtain ⟨r3, hg, hf⟩ := bd1_some hf
  refine sw_callV 10 G (wX6 Θ m0 m1 m2 m3 m4 m5 m6 m7 m8 m9 m_now m_saved m_aside m_states m_quiet m_thrown m_tried m_best m_touching m_text m_length m_at m_verbs m_told m_commands) [0, 1, 2, 3, 4, 5, 6, 7, 8, 9] [] [0, 1, 2, 3, 4, 5, 6, 7, 8, 9] 0 dX6_loose_10 (kX6_carrier Θ F m0 m1 m2 m3 m4 m5 m6 m7 m8 m9 m_now m_saved m_aside m_states m_quiet m_thrown m_tried m_best m_touching m_text m_length m_at m_verbs m_told m_commands r3 hg) (gwV lk_d2b03e46 lk_8b4faa2c lk_883df833 lk_6d91b6d2 lk_50b5fb00) rfl hvX6_carrier ⟨rfl, rfl⟩ ⟨Nat.le_of_ble_eq_true rfl, Nat.le_of_ble_eq_true rfl⟩ ⟨Nat.zero_le _, Nat.zero_le _⟩ rfl rfl (Nat.le_of_ble_eq_true rfl) 0 rfl vc6 rfl rfl rfl rfl (by decide) ?_
  refine sw_lor 13 G dX6_loose_13 ?_
  refine sw_nml hf (fun v4 hf => ?_)
  refine sw_lstore_n 14 G [(1, .long v4), (0, .ref m0)] dX6_loose_14 (by decide) rfl ?_
  refine sw_aload_n 15 G dX6_loose_15 1 rfl ?_
  obtain ⟨r5, hg, hf⟩ := bd1_some hf
  refine sw_callV 16 G (wX6 Θ m0 m1 m2 m3 m4 m5 m6 m7 m8 m9 m_now m_saved m_aside m_states m_quiet m_thrown m_tried m_best m_touching m_text m_length m_at m_verbs m_told m_commands) [0, 1, 2, 3, 4, 5, 6, 7, 8, 9] [] [0, 1, 2, 3, 4, 5, 6, 7, 8, 9] 0 dX6_loose_16 (kX6_carrier Θ F m0 m1 m2 m3 m4 m5 m6 m7 m8 m9 m_now m_saved m_aside m_states m_quiet m_thrown m_tried m_best m_touching m_text m_length m_at m_verbs m_told m_commands r5 hg) (gwV lk_d2b03e46 lk_8b4faa2c lk_883df833 lk_6d91b6d2 lk_50b5fb00) rfl hvX6_carrier ⟨rfl, rfl⟩ ⟨Nat.le_of_ble_eq_true rfl, Nat.le_of_ble_eq_true rfl⟩ ⟨Nat.zero_le _, Nat.zero_le _⟩ rfl rfl (Nat.le_of_ble_eq_true rfl) 0 rfl vc6 rfl rfl rfl rfl (by decide) ?_
  refine sw_lstore_n 19 G [(3, .long r5), (1, .long v4), (0, .ref m0)] dX6_loose_19 (by decide) rfl ?_
  refine sw_lconst 20 G (0 : Int64) dX6_loose_20 rfl ?_
  refine sw_lstore 21 G [(5, .long (0 : Int64)), (3, .long r5), (1, .long v4), (0, .ref m0)] dX6_loose_21 (by decide) rfl ?_
  obtain ⟨v6, hl, hf⟩ := bd1_some hf
  have hx23_44 : sw Θ p e rmX6_loose s m args below meth c A Q 7 0 0 44 [(0, .ref m0), (3, .long v6)] [] (wX6 Θ m0 m1 m2 m3 m4 m5 m6 m7 m8 m9 m_now m_saved m_aside m_states m_quiet m_thrown m_tried m_best m_touching m_text m_length m_at m_verbs m_told m_commands) := by
    refine sw_aload_n 44 G dX6_loose_44 0 rfl ?_
    obtain ⟨r7, hg, hf⟩ := bd1_some hf
    refine sw_callV 45 G (wX6 Θ m0 m1 m2 m3 m4 m5 m6 m7 m8 m9 m_now m_saved m_aside m_states m_quiet m_thrown m_tried m_best m_touching m_text m_length m_at m_verbs m_told m_commands) [0, 1, 2, 3, 4, 5, 6, 7, 8, 9] [] [0, 1, 2, 3, 4, 5, 6, 7, 8, 9] 0 dX6_loose_45 (kX6_part Θ F m0 m1 m2 m3 m4 m5 m6 m7 m8 m9 m_now m_saved m_aside m_states m_quiet m_thrown m_tried m_best m_touching m_text m_length m_at m_verbs m_told m_commands r7 hg) (gwV lk_a7d29f13 lk_b5d5ac57 lk_bbe75992 lk_6d91b6d2 lk_b1193bad) rfl hvX6_part ⟨rfl, rfl⟩ ⟨Nat.le_of_ble_eq_true rfl, Nat.le_of_ble_eq_true rfl⟩ ⟨Nat.zero_le _, Nat.zero_le _⟩ rfl rfl (Nat.le_of_ble_eq_true rfl) 0 rfl vc6 rfl rfl rfl rfl (by decide) ?_
    refine sw_lload_n 48 G dX6_loose_48 1 rfl ?_
    refine sw_ldc2 49 G (List.mem_cons_of_mem _ lk_e81893dd) dX6_loose_49 ?_
    refine sw_lxor 52 G dX6_loose_52 ?_
    refine sw_land 53 G dX6_loose_53 ?_
    cases hf
    exact sw_lret 54 G dX6_loose_54 K
  refine sw_lv [(0, .ref m0), (1, .long v4), (3, .long r5), (5, .long (0 : Int64))] [3, 2, 1, 0] rfl ?_
  refine lp_walk (P := fun (t : Int64 × Int64) => sw Θ p e rmX6_loose s m args below meth c A Q 7 0 0 23 [(0, .ref m0), (1, .long v4), (3, .long t.1), (5, .long t.2)] [] (wX6 Θ m0 m1 m2 m3 m4 m5 m6 m7 m8 m9 m_now m_saved m_aside m_states m_quiet m_thrown m_tried m_best m_touching m_text m_length m_at m_verbs m_told m_commands)) hl (fun t23 y23 hf hin23 hex23 => ?_)
  obtain ⟨v8, v9⟩ := t23
  show sw Θ p e rmX6_loose s m args below meth c A Q 7 0 0 23 [(0, .ref m0), (1, .long v4), (3, .long v8), (5, .long v9)] [] (wX6 Θ m0 m1 m2 m3 m4 m5 m6 m7 m8 m9 m_now m_saved m_aside m_states m_quiet m_thrown m_tried m_best m_touching m_text m_length m_at m_verbs m_told m_commands)
  have hf := uc2_some (K := _) hf
  refine sw_lload 23 G dX6_loose_23 3 rfl ?_
  refine sw_lload_n 25 G dX6_loose_25 2 rfl ?_
  refine sw_lcmp 26 G dX6_loose_26 ?_
  refine sw_if_eq 27 44 G dX6_loose_27 rfl hf (fun hf => ?_) (fun hf => ?_)
  · cases hf
    cases hex23 _ rfl
    exact sw_lv _ [0, 2] rfl hx23_44
  · refine sw_lload_n 30 G dX6_loose_30 2 rfl ?_
    refine sw_lstore 31 G [(5, .long v8), (0, .ref m0), (1, .long v4), (3, .long v8)] dX6_loose_31 (by decide) rfl ?_
    refine sw_aload_n 33 G dX6_loose_33 1 rfl ?_
    refine sw_lload_n 34 G dX6_loose_34 3 rfl ?_
    obtain ⟨r10, hg, hf⟩ := bd1_some hf
    refine sw_callV 35 G (wX6 Θ m0 m1 m2 m3 m4 m5 m6 m7 m8 m9 m_now m_saved m_aside m_states m_quiet m_thrown m_tried m_best m_touching m_text m_length m_at m_verbs m_told m_commands) [0, 1, 2, 3, 4, 5, 6, 7, 8, 9] [] [0, 1, 2, 3, 4, 5, 6, 7, 8, 9] 1 dX6_loose_35 (kX6_grown Θ F m0 m1 m2 m3 m4 m5 m6 m7 m8 m9 m_now m_saved m_aside m_states m_quiet m_thrown m_tried m_best m_touching m_text m_length m_at m_verbs m_told m_commands v8 r10 hg) (gwV lk_40d4f518 lk_9c5cd476 lk_437445e1 lk_6d91b6d2 lk_9e186105) rfl hvX6_grown ⟨rfl, rfl⟩ ⟨Nat.le_of_ble_eq_true rfl, Nat.le_of_ble_eq_true rfl⟩ ⟨Nat.zero_le _, Nat.zero_le _⟩ rfl rfl (Nat.le_of_ble_eq_true rfl) 0 rfl vc6 rfl rfl rfl rfl (by decide) ?_
    refine sw_lload_n 38 G dX6_loose_38 2 rfl ?_
    refine sw_land 39 G dX6_loose_39 ?_
    refine sw_nml hf (fun v11 hf => ?_)
    refine sw_lstore_n 40 G [(3, .long v11), (5, .long v8), (0, .ref m0), (1, .long v4)] dX6_loose_40 (by decide) rfl ?_
    refine sw_goto 41 G 23 dX6_loose_41 rfl ?_
    cases hf
    have hb := hin23 _ rfl
    exact sw_lv _ [2, 3, 0, 1] (by rfl) hb
abbrev rmX6_standing : Room := { frames := 4, cells := 0, slots := 0, locals := 94 }
theorem hvX6_standing : yX6_standing.cls = RX6 ∧ yX6_standing.cls ≠ "java/lang/invoke/MethodHandle" ∧ yX6_standing.cls ≠ "java/lang/invoke/VarHandle" ∧ (parseMethodDescriptor yX6_standing.desc).map (fun d => d.parameters.length) = some 0 := by decide +kernel
set_option maxRecDepth 100000 in
set_option maxHeartbeats 4000000 in
theorem kX6_standing (Θ : Tht) (F : Nat) (m0 m1 m2 m3 m4 m5 m6 m7 m8 m9 : Nat) (m_now : Nat → Int64) (m_saved : Nat → Int64) (m_aside : Nat → Int64) (m_states : Int32) (m_quiet : Int32) (m_thrown : Int32) (m_tried : Nat → Int32) (m_best : Nat → Int32) (m_touching : Nat → Int32) (m_text : Nat → Int32) (m_length : Int32) (m_at : Int32) (m_verbs : Nat → Int32) (m_told : Nat → Int32) (m_commands : Int32) (ro : Int64) (hf : fX6_standing F m_now = some ro) : Fn Θ yX6_standing (Cond.code yX6_standing cX6_standing 1 (some .long) :: GW) rmX6_standing [.ref m0] (wX6 Θ m0 m1 m2 m3 m4 m5 m6 m7 m8 m9 m_now m_saved m_aside m_states m_quiet m_thrown m_tried m_best m_touching m_text m_length m_at m_verbs m_told m_commands) (some (.long ro)) (wX6 Θ m0 m1 m2 m3 m4 m5 m6 m7 m8 m9 m_now m_saved m_aside m_states m_quiet m_thrown m_tried m_best m_touching m_text m_length m_at m_verbs m_told m_commands) := by
  delta fX6_standing at hf
  refine Fn.of (by decide +kernel) rfl (Nat.le_of_ble_eq_true rfl) (fun p e s m args below meth c A Q G K => ?_)
  show sw Θ p e rmX6_standing s m args below meth c A Q 1 0 0 0 [(0, .ref m0)] [] (wX6 Θ m0 m1 m2 m3 m4 m5 m6 m7 m8 m9 m_now m_saved m_aside m_states m_quiet m_thrown m_tried m_best m_touching m_text m_length m_at m_verbs m_told m_commands)
  refine sw_aload_n 0 G dX6_standing_0 0 rfl ?_
  obtain ⟨r1, hg, hf⟩ := bd1_some hf
  refine sw_callV 1 G (wX6 Θ m0 m1 m2 m3 m4 m5 m6 m7 m8 m9 m_now m_saved m_aside m_states m_quiet m_thrown m_tried m_best m_touching m_text m_length m_at m_verbs m_told m_commands) [0, 1, 2, 3, 4, 5, 6, 7, 8, 9] [] [0, 1, 2, 3, 4, 5, 6, 7, 8, 9] 0 dX6_standing_1 (kX6_all Θ F m0 m1 m2 m3 m4 m5 m6 m7 m8 m9 m_now m_saved m_aside m_states m_quiet m_thrown m_tried m_best m_touching m_text m_length m_at m_verbs m_told m_commands r1 hg) (gwV lk_8432f7ab lk_bfe085f4 lk_411ab8bc lk_6d91b6d2 lk_7c99059b) rfl hvX6_all ⟨rfl, rfl⟩ ⟨Nat.le_of_ble_eq_true rfl, Nat.le_of_ble_eq_true rfl⟩ ⟨Nat.zero_le _, Nat.zero_le _⟩ rfl rfl (Nat.le_of_ble_eq_true rfl) 0 rfl vc6 rfl rfl rfl rfl (by decide) ?_
  refine sw_aload_n 4 G dX6_standing_4 0 rfl ?_
  obtain ⟨r2, hg, hf⟩ := bd1_some hf
  refine sw_callV 5 G (wX6 Θ m0 m1 m2 m3 m4 m5 m6 m7 m8 m9 m_now m_saved m_aside m_states m_quiet m_thrown m_tried m_best m_touching m_text m_length m_at m_verbs m_told m_commands) [0, 1, 2, 3, 4, 5, 6, 7, 8, 9] [] [0, 1, 2, 3, 4, 5, 6, 7, 8, 9] 0 dX6_standing_5 (kX6_part Θ F m0 m1 m2 m3 m4 m5 m6 m7 m8 m9 m_now m_saved m_aside m_states m_quiet m_thrown m_tried m_best m_touching m_text m_length m_at m_verbs m_told m_commands r2 hg) (gwV lk_a7d29f13 lk_b5d5ac57 lk_bbe75992 lk_6d91b6d2 lk_b1193bad) rfl hvX6_part ⟨rfl, rfl⟩ ⟨Nat.le_of_ble_eq_true rfl, Nat.le_of_ble_eq_true rfl⟩ ⟨Nat.zero_le _, Nat.zero_le _⟩ rfl rfl (Nat.le_of_ble_eq_true rfl) 0 rfl vc6 rfl rfl rfl rfl (by decide) ?_
  refine sw_ldc2 8 G (List.mem_cons_of_mem _ lk_e81893dd) dX6_standing_8 ?_
  refine sw_lxor 11 G dX6_standing_11 ?_
  refine sw_land 12 G dX6_standing_12 ?_
  refine sw_aload_n 13 G dX6_standing_13 0 rfl ?_
  obtain ⟨r3, hg, hf⟩ := bd1_some hf
  refine sw_callV 14 G (wX6 Θ m0 m1 m2 m3 m4 m5 m6 m7 m8 m9 m_now m_saved m_aside m_states m_quiet m_thrown m_tried m_best m_touching m_text m_length m_at m_verbs m_told m_commands) [0, 1, 2, 3, 4, 5, 6, 7, 8, 9] [] [0, 1, 2, 3, 4, 5, 6, 7, 8, 9] 0 dX6_standing_14 (kX6_links Θ F m0 m1 m2 m3 m4 m5 m6 m7 m8 m9 m_now m_saved m_aside m_states m_quiet m_thrown m_tried m_best m_touching m_text m_length m_at m_verbs m_told m_commands r3 hg) (gwV lk_d0a62bf9 lk_99890b55 lk_17a509a9 lk_6d91b6d2 lk_023738c8) rfl hvX6_links ⟨rfl, rfl⟩ ⟨Nat.le_of_ble_eq_true rfl, Nat.le_of_ble_eq_true rfl⟩ ⟨Nat.zero_le _, Nat.zero_le _⟩ rfl rfl (Nat.le_of_ble_eq_true rfl) 0 rfl vc6 rfl rfl rfl rfl (by decide) ?_
  refine sw_ldc2 17 G (List.mem_cons_of_mem _ lk_e81893dd) dX6_standing_17 ?_
  refine sw_lxor 20 G dX6_standing_20 ?_
  refine sw_land 21 G dX6_standing_21 ?_
  refine sw_aload_n 22 G dX6_standing_22 0 rfl ?_
  obtain ⟨r4, hg, hf⟩ := bd1_some hf
  refine sw_callV 23 G (wX6 Θ m0 m1 m2 m3 m4 m5 m6 m7 m8 m9 m_now m_saved m_aside m_states m_quiet m_thrown m_tried m_best m_touching m_text m_length m_at m_verbs m_told m_commands) [0, 1, 2, 3, 4, 5, 6, 7, 8, 9] [] [0, 1, 2, 3, 4, 5, 6, 7, 8, 9] 0 dX6_standing_23 (kX6_carrier Θ F m0 m1 m2 m3 m4 m5 m6 m7 m8 m9 m_now m_saved m_aside m_states m_quiet m_thrown m_tried m_best m_touching m_text m_length m_at m_verbs m_told m_commands r4 hg) (gwV lk_d2b03e46 lk_8b4faa2c lk_883df833 lk_6d91b6d2 lk_50b5fb00) rfl hvX6_carrier ⟨rfl, rfl⟩ ⟨Nat.le_of_ble_eq_true rfl, Nat.le_of_ble_eq_true rfl⟩ ⟨Nat.zero_le _, Nat.zero_le _⟩ rfl rfl (Nat.le_of_ble_eq_true rfl) 0 rfl vc6 rfl rfl rfl rfl (by decide) ?_
  refine sw_ldc2 26 G (List.mem_cons_of_mem _ lk_e81893dd) dX6_standing_26 ?_
  refine sw_lxor 29 G dX6_standing_29 ?_
  refine sw_land 30 G dX6_standing_30 ?_
  refine sw_aload_n 31 G dX6_standing_31 0 rfl ?_
  refine sw_iconst 32 G (0 : Int32) dX6_standing_32 rfl ?_
  obtain ⟨r5, hg, hf⟩ := bd1_some hf
  refine sw_callV 33 G (wX6 Θ m0 m1 m2 m3 m4 m5 m6 m7 m8 m9 m_now m_saved m_aside m_states m_quiet m_thrown m_tried m_best m_touching m_text m_length m_at m_verbs m_told m_commands) [0, 1, 2, 3, 4, 5, 6, 7, 8, 9] [] [0, 1, 2, 3, 4, 5, 6, 7, 8, 9] 1 dX6_standing_33 (kX6_takenBy Θ F m0 m1 m2 m3 m4 m5 m6 m7 m8 m9 m_now m_saved m_aside m_states m_quiet m_thrown m_tried m_best m_touching m_text m_length m_at m_verbs m_told m_commands (0 : Int32) r5 hg) (gwV lk_339b0518 lk_bcbf67c9 lk_467d07fc lk_6d91b6d2 lk_2e4e8c9d) rfl hvX6_takenBy ⟨rfl, rfl⟩ ⟨Nat.le_of_ble_eq_true rfl, Nat.le_of_ble_eq_true rfl⟩ ⟨Nat.zero_le _, Nat.zero_le _⟩ rfl rfl (Nat.le_of_ble_eq_true rfl) 0 rfl vc6 rfl rfl rfl rfl (by decide) ?_
  refine sw_ldc2 36 G (List.mem_cons_of_mem _ lk_e81893dd) dX6_standing_36 ?_
  refine sw_lxor 39 G dX6_standing_39 ?_
  refine sw_land 40 G dX6_standing_40 ?_
  cases hf
  exact sw_lret 41 G dX6_standing_41 K
abbrev rmX6_setOf : Room := { frames := 5, cells := 0, slots := 0, locals := 119 }
theorem hvX6_setOf : yX6_setOf.cls = RX6 ∧ yX6_setOf.cls ≠ "java/lang/invoke/MethodHandle" ∧ yX6_setOf.cls ≠ "java/lang/invoke/VarHandle" ∧ (parseMethodDescriptor yX6_setOf.desc).map (fun d => d.parameters.length) = some 1 := by decide +kernel
set_option maxRecDepth 100000 in
set_option maxHeartbeats 4000000 in
theorem kX6_setOf (Θ : Tht) (F : Nat) (m0 m1 m2 m3 m4 m5 m6 m7 m8 m9 : Nat) (m_now : Nat → Int64) (m_saved : Nat → Int64) (m_aside : Nat → Int64) (m_states : Int32) (m_quiet : Int32) (m_thrown : Int32) (m_tried : Nat → Int32) (m_best : Nat → Int32) (m_touching : Nat → Int32) (m_text : Nat → Int32) (m_length : Int32) (m_at : Int32) (m_verbs : Nat → Int32) (m_told : Nat → Int32) (m_commands : Int32) (a0 : Int32) (ro : Int64) (hf : fX6_setOf F m_now a0 = some ro) : Fn Θ yX6_setOf (Cond.code yX6_setOf cX6_setOf 2 (some .long) :: GW) rmX6_setOf [.ref m0, .int a0] (wX6 Θ m0 m1 m2 m3 m4 m5 m6 m7 m8 m9 m_now m_saved m_aside m_states m_quiet m_thrown m_tried m_best m_touching m_text m_length m_at m_verbs m_told m_commands) (some (.long ro)) (wX6 Θ m0 m1 m2 m3 m4 m5 m6 m7 m8 m9 m_now m_saved m_aside m_states m_quiet m_thrown m_tried m_best m_touching m_text m_length m_at m_verbs m_told m_commands) := by
  delta fX6_setOf at hf
  refine Fn.of (by decide +kernel) rfl (Nat.le_of_ble_eq_true rfl) (fun p e s m args below meth c A Q G K => ?_)
  show sw Θ p e rmX6_setOf s m args below meth c A Q 2 0 0 0 [(0, .ref m0), (1, .int a0)] [] (wX6 Θ m0 m1 m2 m3 m4 m5 m6 m7 m8 m9 m_now m_saved m_aside m_states m_quiet m_thrown m_tried m_best m_touching m_text m_length m_at m_verbs m_told m_commands)
  refine sw_iload_n 0 G dX6_setOf_0 1 rfl ?_
  refine sw_iconst 1 G (3 : Int32) dX6_setOf_1 rfl ?_
  refine sw_icmp_ge 2 33 G dX6_setOf_2 rfl hf (fun hf => ?_) (fun hf => ?_)
  · refine sw_iload_n 33 G dX6_setOf_33 1 rfl ?_
    refine sw_iconst 34 G (3 : Int32) dX6_setOf_34 rfl ?_
    refine sw_icmp_ne 35 46 G dX6_setOf_35 rfl hf (fun hf => ?_) (fun hf => ?_)
    · refine sw_iload_n 46 G dX6_setOf_46 1 rfl ?_
      refine sw_iconst 47 G (4 : Int32) dX6_setOf_47 rfl ?_
      refine sw_icmp_ne 48 58 G dX6_setOf_48 rfl hf (fun hf => ?_) (fun hf => ?_)
      · refine sw_aload_n 58 G dX6_setOf_58 0 rfl ?_
        obtain ⟨r1, hg, hf⟩ := bd1_some hf
        refine sw_callV 59 G (wX6 Θ m0 m1 m2 m3 m4 m5 m6 m7 m8 m9 m_now m_saved m_aside m_states m_quiet m_thrown m_tried m_best m_touching m_text m_length m_at m_verbs m_told m_commands) [0, 1, 2, 3, 4, 5, 6, 7, 8, 9] [] [0, 1, 2, 3, 4, 5, 6, 7, 8, 9] 0 dX6_setOf_59 (kX6_loose Θ F m0 m1 m2 m3 m4 m5 m6 m7 m8 m9 m_now m_saved m_aside m_states m_quiet m_thrown m_tried m_best m_touching m_text m_length m_at m_verbs m_told m_commands r1 hg) (gwV lk_6fd1bda8 lk_919e35ca lk_42c604fe lk_6d91b6d2 lk_ca807adc) rfl hvX6_loose ⟨rfl, rfl⟩ ⟨Nat.le_of_ble_eq_true rfl, Nat.le_of_ble_eq_true rfl⟩ ⟨Nat.zero_le _, Nat.zero_le _⟩ rfl rfl (Nat.le_of_ble_eq_true rfl) 0 rfl vc6 rfl rfl rfl rfl (by decide) ?_
        cases hf
        exact sw_lret 62 G dX6_setOf_62 K
      · refine sw_aload_n 51 G dX6_setOf_51 0 rfl ?_
        obtain ⟨r2, hg, hf⟩ := bd1_some hf
        refine sw_callV 52 G (wX6 Θ m0 m1 m2 m3 m4 m5 m6 m7 m8 m9 m_now m_saved m_aside m_states m_quiet m_thrown m_tried m_best m_touching m_text m_length m_at m_verbs m_told m_commands) [0, 1, 2, 3, 4, 5, 6, 7, 8, 9] [] [0, 1, 2, 3, 4, 5, 6, 7, 8, 9] 0 dX6_setOf_52 (kX6_standing Θ F m0 m1 m2 m3 m4 m5 m6 m7 m8 m9 m_now m_saved m_aside m_states m_quiet m_thrown m_tried m_best m_touching m_text m_length m_at m_verbs m_told m_commands r2 hg) (gwV lk_b3d36ad8 lk_1fef445f lk_164675ff lk_6d91b6d2 lk_f7318da5) rfl hvX6_standing ⟨rfl, rfl⟩ ⟨Nat.le_of_ble_eq_true rfl, Nat.le_of_ble_eq_true rfl⟩ ⟨Nat.zero_le _, Nat.zero_le _⟩ rfl rfl (Nat.le_of_ble_eq_true rfl) 0 rfl vc6 rfl rfl rfl rfl (by decide) ?_
        refine sw_goto 55 G 62 dX6_setOf_55 rfl ?_
        cases hf
        exact sw_lret 62 G dX6_setOf_62 K
    · refine sw_aload_n 38 G dX6_setOf_38 0 rfl ?_
      refine sw_iconst 39 G (0 : Int32) dX6_setOf_39 rfl ?_
      obtain ⟨r3, hg, hf⟩ := bd1_some hf
      refine sw_callV 40 G (wX6 Θ m0 m1 m2 m3 m4 m5 m6 m7 m8 m9 m_now m_saved m_aside m_states m_quiet m_thrown m_tried m_best m_touching m_text m_length m_at m_verbs m_told m_commands) [0, 1, 2, 3, 4, 5, 6, 7, 8, 9] [] [0, 1, 2, 3, 4, 5, 6, 7, 8, 9] 1 dX6_setOf_40 (kX6_takenBy Θ F m0 m1 m2 m3 m4 m5 m6 m7 m8 m9 m_now m_saved m_aside m_states m_quiet m_thrown m_tried m_best m_touching m_text m_length m_at m_verbs m_told m_commands (0 : Int32) r3 hg) (gwV lk_339b0518 lk_bcbf67c9 lk_467d07fc lk_6d91b6d2 lk_2e4e8c9d) rfl hvX6_takenBy ⟨rfl, rfl⟩ ⟨Nat.le_of_ble_eq_true rfl, Nat.le_of_ble_eq_true rfl⟩ ⟨Nat.zero_le _, Nat.zero_le _⟩ rfl rfl (Nat.le_of_ble_eq_true rfl) 0 rfl vc6 rfl rfl rfl rfl (by decide) ?_
      refine sw_goto 43 G 62 dX6_setOf_43 rfl ?_
      cases hf
      exact sw_lret 62 G dX6_setOf_62 K
  · refine sw_iload_n 5 G dX6_setOf_5 1 rfl ?_
    refine sw_if_ne 6 16 G dX6_setOf_6 rfl hf (fun hf => ?_) (fun hf => ?_)
    · refine sw_iload_n 16 G dX6_setOf_16 1 rfl ?_
      refine sw_iconst 17 G (1 : Int32) dX6_setOf_17 rfl ?_
      refine sw_icmp_ne 18 28 G dX6_setOf_18 rfl hf (fun hf => ?_) (fun hf => ?_)
      · refine sw_aload_n 28 G dX6_setOf_28 0 rfl ?_
        obtain ⟨r4, hg, hf⟩ := bd1_some hf
        refine sw_callV 29 G (wX6 Θ m0 m1 m2 m3 m4 m5 m6 m7 m8 m9 m_now m_saved m_aside m_states m_quiet m_thrown m_tried m_best m_touching m_text m_length m_at m_verbs m_told m_commands) [0, 1, 2, 3, 4, 5, 6, 7, 8, 9] [] [0, 1, 2, 3, 4, 5, 6, 7, 8, 9] 0 dX6_setOf_29 (kX6_carrier Θ F m0 m1 m2 m3 m4 m5 m6 m7 m8 m9 m_now m_saved m_aside m_states m_quiet m_thrown m_tried m_best m_touching m_text m_length m_at m_verbs m_told m_commands r4 hg) (gwV lk_d2b03e46 lk_8b4faa2c lk_883df833 lk_6d91b6d2 lk_50b5fb00) rfl hvX6_carrier ⟨rfl, rfl⟩ ⟨Nat.le_of_ble_eq_true rfl, Nat.le_of_ble_eq_true rfl⟩ ⟨Nat.zero_le _, Nat.zero_le _⟩ rfl rfl (Nat.le_of_ble_eq_true rfl) 0 rfl vc6 rfl rfl rfl rfl (by decide) ?_
        cases hf
        exact sw_lret 32 G dX6_setOf_32 K
      · refine sw_aload_n 21 G dX6_setOf_21 0 rfl ?_
        obtain ⟨r5, hg, hf⟩ := bd1_some hf
        refine sw_callV 22 G (wX6 Θ m0 m1 m2 m3 m4 m5 m6 m7 m8 m9 m_now m_saved m_aside m_states m_quiet m_thrown m_tried m_best m_touching m_text m_length m_at m_verbs m_told m_commands) [0, 1, 2, 3, 4, 5, 6, 7, 8, 9] [] [0, 1, 2, 3, 4, 5, 6, 7, 8, 9] 0 dX6_setOf_22 (kX6_links Θ F m0 m1 m2 m3 m4 m5 m6 m7 m8 m9 m_now m_saved m_aside m_states m_quiet m_thrown m_tried m_best m_touching m_text m_length m_at m_verbs m_told m_commands r5 hg) (gwV lk_d0a62bf9 lk_99890b55 lk_17a509a9 lk_6d91b6d2 lk_023738c8) rfl hvX6_links ⟨rfl, rfl⟩ ⟨Nat.le_of_ble_eq_true rfl, Nat.le_of_ble_eq_true rfl⟩ ⟨Nat.zero_le _, Nat.zero_le _⟩ rfl rfl (Nat.le_of_ble_eq_true rfl) 0 rfl vc6 rfl rfl rfl rfl (by decide) ?_
        refine sw_goto 25 G 32 dX6_setOf_25 rfl ?_
        cases hf
        exact sw_lret 32 G dX6_setOf_32 K
    · refine sw_aload_n 9 G dX6_setOf_9 0 rfl ?_
      obtain ⟨r6, hg, hf⟩ := bd1_some hf
      refine sw_callV 10 G (wX6 Θ m0 m1 m2 m3 m4 m5 m6 m7 m8 m9 m_now m_saved m_aside m_states m_quiet m_thrown m_tried m_best m_touching m_text m_length m_at m_verbs m_told m_commands) [0, 1, 2, 3, 4, 5, 6, 7, 8, 9] [] [0, 1, 2, 3, 4, 5, 6, 7, 8, 9] 0 dX6_setOf_10 (kX6_part Θ F m0 m1 m2 m3 m4 m5 m6 m7 m8 m9 m_now m_saved m_aside m_states m_quiet m_thrown m_tried m_best m_touching m_text m_length m_at m_verbs m_told m_commands r6 hg) (gwV lk_a7d29f13 lk_b5d5ac57 lk_bbe75992 lk_6d91b6d2 lk_b1193bad) rfl hvX6_part ⟨rfl, rfl⟩ ⟨Nat.le_of_ble_eq_true rfl, Nat.le_of_ble_eq_true rfl⟩ ⟨Nat.zero_le _, Nat.zero_le _⟩ rfl rfl (Nat.le_of_ble_eq_true rfl) 0 rfl vc6 rfl rfl rfl rfl (by decide) ?_
      refine sw_goto 13 G 32 dX6_setOf_13 rfl ?_
      cases hf
      exact sw_lret 32 G dX6_setOf_32 K
abbrev rmX6_cellSet : Room := { frames := 6, cells := 0, slots := 0, locals := 140 }
theorem hvX6_cellSet : yX6_cellSet.cls = RX6 ∧ yX6_cellSet.cls ≠ "java/lang/invoke/MethodHandle" ∧ yX6_cellSet.cls ≠ "java/lang/invoke/VarHandle" ∧ (parseMethodDescriptor yX6_cellSet.desc).map (fun d => d.parameters.length) = some 1 := by decide +kernel
set_option maxRecDepth 100000 in
set_option maxHeartbeats 4000000 in
theorem kX6_cellSet (Θ : Tht) (F : Nat) (m0 m1 m2 m3 m4 m5 m6 m7 m8 m9 : Nat) (m_now : Nat → Int64) (m_saved : Nat → Int64) (m_aside : Nat → Int64) (m_states : Int32) (m_quiet : Int32) (m_thrown : Int32) (m_tried : Nat → Int32) (m_best : Nat → Int32) (m_touching : Nat → Int32) (m_text : Nat → Int32) (m_length : Int32) (m_at : Int32) (m_verbs : Nat → Int32) (m_told : Nat → Int32) (m_commands : Int32) (a0 : Int32) (ro : Int64) (o_m_thrown : Int32) (hf : fX6_cellSet F m_now a0 = some (ro, o_m_thrown)) : Fn Θ yX6_cellSet (Cond.code yX6_cellSet cX6_cellSet 2 (some .long) :: GW) rmX6_cellSet [.ref m0, .int a0] (wX6 Θ m0 m1 m2 m3 m4 m5 m6 m7 m8 m9 m_now m_saved m_aside m_states m_quiet m_thrown m_tried m_best m_touching m_text m_length m_at m_verbs m_told m_commands) (some (.long ro)) (wX6 Θ m0 m1 m2 m3 m4 m5 m6 m7 m8 m9 m_now m_saved m_aside m_states m_quiet o_m_thrown m_tried m_best m_touching m_text m_length m_at m_verbs m_told m_commands) := by
  delta fX6_cellSet at hf
  refine Fn.of (by decide +kernel) rfl (Nat.le_of_ble_eq_true rfl) (fun p e s m args below meth c A Q G K => ?_)
  show sw Θ p e rmX6_cellSet s m args below meth c A Q 2 0 0 0 [(0, .ref m0), (1, .int a0)] [] (wX6 Θ m0 m1 m2 m3 m4 m5 m6 m7 m8 m9 m_now m_saved m_aside m_states m_quiet m_thrown m_tried m_best m_touching m_text m_length m_at m_verbs m_told m_commands)
  refine sw_aload_n 0 G dX6_cellSet_0 0 rfl ?_
  refine sw_iconst 1 G (0 : Int32) dX6_cellSet_1 rfl ?_
  refine sw_put 2 G hnX6 tyX6_ok nmX6 0 5 (wX6 Θ m0 m1 m2 m3 m4 m5 m6 m7 m8 m9 m_now m_saved m_aside m_states m_quiet (0 : Int32) m_tried m_best m_touching m_text m_length m_at m_verbs m_told m_commands) dX6_cellSet_2 vc6 (by decide) (List.mem_cons_of_mem _ lk_fb3e5753) rfl rfl (Nat.le_of_ble_eq_true rfl) (tyX6_ok 5 (by decide)) rfl rfl rfl ?_
  refine sw_iload_n 5 G dX6_cellSet_5 1 rfl ?_
  refine sw_iconst 6 G (0 : Int32) dX6_cellSet_6 rfl ?_
  refine sw_iconst 7 G (5 : Int32) dX6_cellSet_7 rfl ?_
  obtain ⟨r1, hg, hf⟩ := bd1_some hf
  refine sw_callS 8 G (wX6 Θ m0 m1 m2 m3 m4 m5 m6 m7 m8 m9 m_now m_saved m_aside m_states m_quiet (0 : Int32) m_tried m_best m_touching m_text m_length m_at m_verbs m_told m_commands) [] [0, 1, 2, 3, 4, 5, 6, 7, 8, 9] [0, 1, 2, 3, 4, 5, 6, 7, 8, 9] 3 dX6_cellSet_8 (kX6_in Θ a0 (0 : Int32) (5 : Int32) r1 hg) (gwS lk_739e9842 lk_9ad51b2c lk_59eba9b0 lk_5ad5c33d) rfl hsX6_in ⟨rfl, rfl⟩ ⟨Nat.le_of_ble_eq_true rfl, Nat.le_of_ble_eq_true rfl⟩ ⟨Nat.zero_le _, Nat.zero_le _⟩ rfl rfl (Nat.le_of_ble_eq_true rfl) rfl rfl rfl (by decide) ?_
  refine sw_if_eq 11 22 G dX6_cellSet_11 rfl hf (fun hf => ?_) (fun hf => ?_)
  · refine sw_aload_n 22 G dX6_cellSet_22 0 rfl ?_
    refine sw_iconst 23 G (1 : Int32) dX6_cellSet_23 rfl ?_
    obtain ⟨r2, u3, hg, hf⟩ := bd2_some hf
    refine sw_callV 24 G (wX6 Θ m0 m1 m2 m3 m4 m5 m6 m7 m8 m9 m_now m_saved m_aside m_states m_quiet u3 m_tried m_best m_touching m_text m_length m_at m_verbs m_told m_commands) [0, 1, 2, 3, 4, 5, 6, 7, 8, 9] [] [0, 1, 2, 3, 4, 5, 6, 7, 8, 9] 1 dX6_cellSet_24 (kX6_fails Θ m0 m1 m2 m3 m4 m5 m6 m7 m8 m9 m_now m_saved m_aside m_states m_quiet (0 : Int32) m_tried m_best m_touching m_text m_length m_at m_verbs m_told m_commands (1 : Int32) r2 u3 hg) (gwV lk_c7279fda lk_b9e66eaa lk_2152c894 lk_6d91b6d2 lk_f2d2a162) rfl hvX6_fails ⟨rfl, rfl⟩ ⟨Nat.le_of_ble_eq_true rfl, Nat.le_of_ble_eq_true rfl⟩ ⟨Nat.zero_le _, Nat.zero_le _⟩ rfl rfl (Nat.le_of_ble_eq_true rfl) 0 rfl vc6 rfl rfl rfl rfl (by decide) ?_
    refine sw_i2l 27 G dX6_cellSet_27 ?_
    cases hf
    exact sw_lret 28 G dX6_cellSet_28 K
  · refine sw_aload_n 14 G dX6_cellSet_14 0 rfl ?_
    refine sw_iload_n 15 G dX6_cellSet_15 1 rfl ?_
    obtain ⟨r4, hg, hf⟩ := bd1_some hf
    refine sw_callV 16 G (wX6 Θ m0 m1 m2 m3 m4 m5 m6 m7 m8 m9 m_now m_saved m_aside m_states m_quiet (0 : Int32) m_tried m_best m_touching m_text m_length m_at m_verbs m_told m_commands) [0, 1, 2, 3, 4, 5, 6, 7, 8, 9] [] [0, 1, 2, 3, 4, 5, 6, 7, 8, 9] 1 dX6_cellSet_16 (kX6_setOf Θ F m0 m1 m2 m3 m4 m5 m6 m7 m8 m9 m_now m_saved m_aside m_states m_quiet (0 : Int32) m_tried m_best m_touching m_text m_length m_at m_verbs m_told m_commands a0 r4 hg) (gwV lk_4bbf79cb lk_95459faf lk_72e5259f lk_6d91b6d2 lk_4d467c19) rfl hvX6_setOf ⟨rfl, rfl⟩ ⟨Nat.le_of_ble_eq_true rfl, Nat.le_of_ble_eq_true rfl⟩ ⟨Nat.zero_le _, Nat.zero_le _⟩ rfl rfl (Nat.le_of_ble_eq_true rfl) 0 rfl vc6 rfl rfl rfl rfl (by decide) ?_
    refine sw_goto 19 G 28 dX6_cellSet_19 rfl ?_
    cases hf
    exact sw_lret 28 G dX6_cellSet_28 K
