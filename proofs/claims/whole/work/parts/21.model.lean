abbrev rmX6_begin : Room := { frames := 1, cells := 0, slots := 0, locals := 22 }
theorem hvX6_begin : yX6_begin.cls = RX6 ∧ yX6_begin.cls ≠ "java/lang/invoke/MethodHandle" ∧ yX6_begin.cls ≠ "java/lang/invoke/VarHandle" ∧ (parseMethodDescriptor yX6_begin.desc).map (fun d => d.parameters.length) = some 2 := by decide +kernel
set_option maxRecDepth 100000 in
set_option maxHeartbeats 4000000 in
theorem kX6_begin (Θ : Tht) (F : Nat) (m0 m1 m2 m3 m4 m5 m6 m7 m8 m9 : Nat) (m_now : Nat → Int64) (m_saved : Nat → Int64) (m_aside : Nat → Int64) (m_states : Int32) (m_quiet : Int32) (m_thrown : Int32) (m_tried : Nat → Int32) (m_best : Nat → Int32) (m_touching : Nat → Int32) (m_text : Nat → Int32) (m_length : Int32) (m_at : Int32) (m_verbs : Nat → Int32) (m_told : Nat → Int32) (m_commands : Int32) (a0 : Int32) (a1 : Int32) (ro : Int32) (o_m_now : Nat → Int64) (o_m_saved : Nat → Int64) (o_m_states : Int32) (o_m_thrown : Int32) (hf : fX6_begin F m_now m_saved m_states m_quiet a0 a1 = some (ro, o_m_now, o_m_saved, o_m_states, o_m_thrown)) : Fn Θ yX6_begin (Cond.code yX6_begin cX6_begin 5 (some .int) :: GW) rmX6_begin [.ref m0, .int a0, .int a1] (wX6 Θ m0 m1 m2 m3 m4 m5 m6 m7 m8 m9 m_now m_saved m_aside m_states m_quiet m_thrown m_tried m_best m_touching m_text m_length m_at m_verbs m_told m_commands) (some (.int ro)) (wX6 Θ m0 m1 m2 m3 m4 m5 m6 m7 m8 m9 o_m_now o_m_saved m_aside o_m_states m_quiet o_m_thrown m_tried m_best m_touching m_text m_length m_at m_verbs m_told m_commands) := by
  delta fX6_begin at hf
  refine Fn.of (by decide +kernel) rfl (Nat.le_of_ble_eq_true rfl) (fun p e s m args below meth c A Q G K => ?_)
  show sw Θ p e rmX6_begin s m args below meth c A Q 5 0 0 0 [(0, .ref m0), (1, .int a0), (2, .int a1)] [] (wX6 Θ m0 m1 m2 m3 m4 m5 m6 m7 m8 m9 m_now m_saved m_aside m_states m_quiet m_thrown m_tried m_best m_touching m_text m_length m_at m_verbs m_told m_commands)
  refine sw_aload_n 0 G dX6_begin_0 0 rfl ?_
  refine sw_iconst 1 G (0 : Int32) dX6_begin_1 rfl ?_
  refine sw_put 2 G hnX6 tyX6_ok nmX6 0 5 (wX6 Θ m0 m1 m2 m3 m4 m5 m6 m7 m8 m9 m_now m_saved m_aside m_states m_quiet (0 : Int32) m_tried m_best m_touching m_text m_length m_at m_verbs m_told m_commands) dX6_begin_2 vc6 (by decide) (List.mem_cons_of_mem _ lk_fb3e5753) rfl rfl (Nat.le_of_ble_eq_true rfl) (tyX6_ok 5 (by decide)) rfl rfl rfl ?_
  refine sw_iload_n 5 G dX6_begin_5 1 rfl ?_
  refine sw_iconst 6 G (2 : Int32) dX6_begin_6 rfl ?_
  refine sw_bipush 7 G (10 : Int32) dX6_begin_7 rfl ?_
  obtain ⟨r1, hg, hf⟩ := bd1_some hf
  refine sw_callS 9 G (wX6 Θ m0 m1 m2 m3 m4 m5 m6 m7 m8 m9 m_now m_saved m_aside m_states m_quiet (0 : Int32) m_tried m_best m_touching m_text m_length m_at m_verbs m_told m_commands) [] [0, 1, 2, 3, 4, 5, 6, 7, 8, 9] [0, 1, 2, 3, 4, 5, 6, 7, 8, 9] 3 dX6_begin_9 (kX6_in Θ a0 (2 : Int32) (10 : Int32) r1 hg) (gwS lk_739e9842 lk_9ad51b2c lk_59eba9b0 lk_5ad5c33d) rfl hsX6_in ⟨rfl, rfl⟩ ⟨Nat.le_of_ble_eq_true rfl, Nat.le_of_ble_eq_true rfl⟩ ⟨Nat.zero_le _, Nat.zero_le _⟩ rfl rfl (Nat.le_of_ble_eq_true rfl) rfl rfl rfl (by decide) ?_
  refine sw_if_eq 12 25 G dX6_begin_12 rfl hf (fun hf => ?_) (fun hf => ?_)
  · refine sw_aload_n 25 G dX6_begin_25 0 rfl ?_
    refine sw_iconst 26 G (1 : Int32) dX6_begin_26 rfl ?_
    obtain ⟨r2, u3, hg, hf⟩ := bd2_some hf
    refine sw_callV 27 G (wX6 Θ m0 m1 m2 m3 m4 m5 m6 m7 m8 m9 m_now m_saved m_aside m_states m_quiet u3 m_tried m_best m_touching m_text m_length m_at m_verbs m_told m_commands) [0, 1, 2, 3, 4, 5, 6, 7, 8, 9] [] [0, 1, 2, 3, 4, 5, 6, 7, 8, 9] 1 dX6_begin_27 (kX6_fails Θ m0 m1 m2 m3 m4 m5 m6 m7 m8 m9 m_now m_saved m_aside m_states m_quiet (0 : Int32) m_tried m_best m_touching m_text m_length m_at m_verbs m_told m_commands (1 : Int32) r2 u3 hg) (gwV lk_c7279fda lk_b9e66eaa lk_2152c894 lk_6d91b6d2 lk_f2d2a162) rfl hvX6_fails ⟨rfl, rfl⟩ ⟨Nat.le_of_ble_eq_true rfl, Nat.le_of_ble_eq_true rfl⟩ ⟨Nat.zero_le _, Nat.zero_le _⟩ rfl rfl (Nat.le_of_ble_eq_true rfl) 0 rfl vc6 rfl rfl rfl rfl (by decide) ?_
    cases hf
    exact sw_iret 30 G dX6_begin_30 K
  · refine sw_iload_n 15 G dX6_begin_15 2 rfl ?_
    refine sw_iconst 16 G (2 : Int32) dX6_begin_16 rfl ?_
    refine sw_bipush 17 G (6 : Int32) dX6_begin_17 rfl ?_
    obtain ⟨r4, hg, hf⟩ := bd1_some hf
    refine sw_callS 19 G (wX6 Θ m0 m1 m2 m3 m4 m5 m6 m7 m8 m9 m_now m_saved m_aside m_states m_quiet (0 : Int32) m_tried m_best m_touching m_text m_length m_at m_verbs m_told m_commands) [] [0, 1, 2, 3, 4, 5, 6, 7, 8, 9] [0, 1, 2, 3, 4, 5, 6, 7, 8, 9] 3 dX6_begin_19 (kX6_in Θ a1 (2 : Int32) (6 : Int32) r4 hg) (gwS lk_739e9842 lk_9ad51b2c lk_59eba9b0 lk_5ad5c33d) rfl hsX6_in ⟨rfl, rfl⟩ ⟨Nat.le_of_ble_eq_true rfl, Nat.le_of_ble_eq_true rfl⟩ ⟨Nat.zero_le _, Nat.zero_le _⟩ rfl rfl (Nat.le_of_ble_eq_true rfl) rfl rfl rfl (by decide) ?_
    refine sw_if_ne 22 31 G dX6_begin_22 rfl hf (fun hf => ?_) (fun hf => ?_)
    · refine sw_aload_n 31 G dX6_begin_31 0 rfl ?_
      obtain ⟨u5, u6, hg, hf⟩ := bd2_some hf
      refine sw_callV 32 G (wX6 Θ m0 m1 m2 m3 m4 m5 m6 m7 m8 m9 m_now u5 m_aside u6 m_quiet (0 : Int32) m_tried m_best m_touching m_text m_length m_at m_verbs m_told m_commands) [0, 1, 2, 3, 4, 5, 6, 7, 8, 9] [] [0, 1, 2, 3, 4, 5, 6, 7, 8, 9] 0 dX6_begin_32 (kX6_save Θ F m0 m1 m2 m3 m4 m5 m6 m7 m8 m9 m_now m_saved m_aside m_states m_quiet (0 : Int32) m_tried m_best m_touching m_text m_length m_at m_verbs m_told m_commands u5 u6 hg) (gwV lk_fb398b8d lk_00110175 lk_41f35dad lk_6d91b6d2 lk_436b5259) rfl hvX6_save ⟨rfl, rfl⟩ ⟨Nat.le_of_ble_eq_true rfl, Nat.le_of_ble_eq_true rfl⟩ ⟨Nat.zero_le _, Nat.zero_le _⟩ rfl rfl (Nat.le_of_ble_eq_true rfl) 0 rfl vc6 rfl rfl rfl rfl (by decide) ?_
      refine sw_aload_n 35 G dX6_begin_35 0 rfl ?_
      refine sw_bipush 36 G (8 : Int32) dX6_begin_36 rfl ?_
      obtain ⟨r7, hg, hf⟩ := bd1_some hf
      refine sw_callV 38 G (wX6 Θ m0 m1 m2 m3 m4 m5 m6 m7 m8 m9 m_now u5 m_aside u6 m_quiet (0 : Int32) m_tried m_best m_touching m_text m_length m_at m_verbs m_told m_commands) [0, 1, 2, 3, 4, 5, 6, 7, 8, 9] [] [0, 1, 2, 3, 4, 5, 6, 7, 8, 9] 1 dX6_begin_38 (kX6_many Θ m0 m1 m2 m3 m4 m5 m6 m7 m8 m9 m_now u5 m_aside u6 m_quiet (0 : Int32) m_tried m_best m_touching m_text m_length m_at m_verbs m_told m_commands (8 : Int32) r7 hg) (gwV lk_184fe921 lk_d689724c lk_b095f72c lk_6d91b6d2 lk_d7f116ea) rfl hvX6_many ⟨rfl, rfl⟩ ⟨Nat.le_of_ble_eq_true rfl, Nat.le_of_ble_eq_true rfl⟩ ⟨Nat.zero_le _, Nat.zero_le _⟩ rfl rfl (Nat.le_of_ble_eq_true rfl) 0 rfl vc6 rfl rfl rfl rfl (by decide) ?_
      refine sw_istore_n 41 G [(3, .int r7), (0, .ref m0), (1, .int a0), (2, .int a1)] dX6_begin_41 (by decide) rfl ?_
      refine sw_aload_n 42 G dX6_begin_42 1 rfl ?_
      refine sw_get 43 G hnX6 0 0 dX6_begin_43 vc6 (by decide) (List.mem_cons_of_mem _ lk_54e63fd8) rfl rfl ?_
      refine sw_iconst 46 G (0 : Int32) dX6_begin_46 rfl ?_
      refine sw_iload_n 47 G dX6_begin_47 2 rfl ?_
      refine sw_i2l 48 G dX6_begin_48 ?_
      refine sw_nml hf (fun v8 hf => ?_)
      refine sw_last 49 G 1 (wX6 Θ m0 m1 m2 m3 m4 m5 m6 m7 m8 m9 (vp_updL m_now (0 : Int32).toNatClampNeg v8) u5 m_aside u6 m_quiet (0 : Int32) m_tried m_best m_touching m_text m_length m_at m_verbs m_told m_commands) dX6_begin_49 rfl rfl hf (fun hf => ?_)
      refine sw_aload_n 50 G dX6_begin_50 1 rfl ?_
      refine sw_get 51 G hnX6 0 0 dX6_begin_51 vc6 (by decide) (List.mem_cons_of_mem _ lk_54e63fd8) rfl rfl ?_
      refine sw_iconst 54 G (1 : Int32) dX6_begin_54 rfl ?_
      refine sw_iload_n 55 G dX6_begin_55 3 rfl ?_
      refine sw_i2l 56 G dX6_begin_56 ?_
      refine sw_nml hf (fun v9 hf => ?_)
      refine sw_last 57 G 1 (wX6 Θ m0 m1 m2 m3 m4 m5 m6 m7 m8 m9 (vp_updL (vp_updL m_now (0 : Int32).toNatClampNeg v8) (1 : Int32).toNatClampNeg v9) u5 m_aside u6 m_quiet (0 : Int32) m_tried m_best m_touching m_text m_length m_at m_verbs m_told m_commands) dX6_begin_57 rfl rfl hf (fun hf => ?_)
      refine sw_bipush 58 G (8 : Int32) dX6_begin_58 rfl ?_
      refine sw_istore 60 G [(4, .int (8 : Int32)), (3, .int r7), (0, .ref m0), (1, .int a0), (2, .int a1)] dX6_begin_60 (by decide) rfl ?_
      obtain ⟨v10, hl, hf⟩ := bd1_some hf
      have hx62_83 : sw Θ p e rmX6_begin s m args below meth c A Q 5 0 0 83 [(3, .int r7)] [] (wX6 Θ m0 m1 m2 m3 m4 m5 m6 m7 m8 m9 v10 u5 m_aside u6 m_quiet (0 : Int32) m_tried m_best m_touching m_text m_length m_at m_verbs m_told m_commands) := by
        refine sw_iload_n 83 G dX6_begin_83 0 rfl ?_
        cases hf
        exact sw_iret 84 G dX6_begin_84 K
      refine sw_lv [(0, .ref m0), (3, .int r7), (4, .int (8 : Int32))] [2, 1, 0] rfl ?_
      refine lp_walk (P := fun (t : Int32 × (Nat → Int64)) => sw Θ p e rmX6_begin s m args below meth c A Q 5 0 0 62 [(0, .ref m0), (3, .int r7), (4, .int t.1)] [] (wX6 Θ m0 m1 m2 m3 m4 m5 m6 m7 m8 m9 t.2 u5 m_aside u6 m_quiet (0 : Int32) m_tried m_best m_touching m_text m_length m_at m_verbs m_told m_commands)) hl (fun t62 y62 hf hin62 hex62 => ?_)
      obtain ⟨v11, v12⟩ := t62
      show sw Θ p e rmX6_begin s m args below meth c A Q 5 0 0 62 [(0, .ref m0), (3, .int r7), (4, .int v11)] [] (wX6 Θ m0 m1 m2 m3 m4 m5 m6 m7 m8 m9 v12 u5 m_aside u6 m_quiet (0 : Int32) m_tried m_best m_touching m_text m_length m_at m_verbs m_told m_commands)
      have hf := uc2_some (K := _) hf
      refine sw_iload 62 G dX6_begin_62 2 rfl ?_
      refine sw_bipush 64 G (100 : Int32) dX6_begin_64 rfl ?_
      refine sw_icmp_ge 66 83 G dX6_begin_66 rfl hf (fun hf => ?_) (fun hf => ?_)
      · cases hf
        cases hex62 _ rfl
        exact sw_lv _ [1] rfl hx62_83
      · refine sw_aload_n 69 G dX6_begin_69 0 rfl ?_
        refine sw_get 70 G hnX6 0 0 dX6_begin_70 vc6 (by decide) (List.mem_cons_of_mem _ lk_54e63fd8) rfl rfl ?_
        refine sw_iload 73 G dX6_begin_73 2 rfl ?_
        refine sw_lconst 75 G (0 : Int64) dX6_begin_75 rfl ?_
        refine sw_last 76 G 1 (wX6 Θ m0 m1 m2 m3 m4 m5 m6 m7 m8 m9 (vp_updL v12 v11.toNatClampNeg (0 : Int64)) u5 m_aside u6 m_quiet (0 : Int32) m_tried m_best m_touching m_text m_length m_at m_verbs m_told m_commands) dX6_begin_76 rfl rfl hf (fun hf => ?_)
        refine sw_iinc 77 G (v11 + (1 : Int32)) [(4, .int (v11 + (1 : Int32))), (0, .ref m0), (3, .int r7)] dX6_begin_77 2 rfl rfl (by decide) rfl ?_
        refine sw_goto 80 G 62 dX6_begin_80 rfl ?_
        cases hf
        have hb := hin62 _ rfl
        exact sw_lv _ [1, 2, 0] (by rfl) hb
    · refine sw_aload_n 25 G dX6_begin_25 0 rfl ?_
      refine sw_iconst 26 G (1 : Int32) dX6_begin_26 rfl ?_
      obtain ⟨r13, u14, hg, hf⟩ := bd2_some hf
      refine sw_callV 27 G (wX6 Θ m0 m1 m2 m3 m4 m5 m6 m7 m8 m9 m_now m_saved m_aside m_states m_quiet u14 m_tried m_best m_touching m_text m_length m_at m_verbs m_told m_commands) [0, 1, 2, 3, 4, 5, 6, 7, 8, 9] [] [0, 1, 2, 3, 4, 5, 6, 7, 8, 9] 1 dX6_begin_27 (kX6_fails Θ m0 m1 m2 m3 m4 m5 m6 m7 m8 m9 m_now m_saved m_aside m_states m_quiet (0 : Int32) m_tried m_best m_touching m_text m_length m_at m_verbs m_told m_commands (1 : Int32) r13 u14 hg) (gwV lk_c7279fda lk_b9e66eaa lk_2152c894 lk_6d91b6d2 lk_f2d2a162) rfl hvX6_fails ⟨rfl, rfl⟩ ⟨Nat.le_of_ble_eq_true rfl, Nat.le_of_ble_eq_true rfl⟩ ⟨Nat.zero_le _, Nat.zero_le _⟩ rfl rfl (Nat.le_of_ble_eq_true rfl) 0 rfl vc6 rfl rfl rfl rfl (by decide) ?_
      cases hf
      exact sw_iret 30 G dX6_begin_30 K
abbrev rmX6_mark : Room := { frames := 2, cells := 0, slots := 0, locals := 49 }
theorem hvX6_mark : yX6_mark.cls = RX6 ∧ yX6_mark.cls ≠ "java/lang/invoke/MethodHandle" ∧ yX6_mark.cls ≠ "java/lang/invoke/VarHandle" ∧ (parseMethodDescriptor yX6_mark.desc).map (fun d => d.parameters.length) = some 5 := by decide +kernel
set_option maxRecDepth 100000 in
set_option maxHeartbeats 4000000 in
theorem kX6_mark (Θ : Tht) (F : Nat) (m0 m1 m2 m3 m4 m5 m6 m7 m8 m9 : Nat) (m_now : Nat → Int64) (m_saved : Nat → Int64) (m_aside : Nat → Int64) (m_states : Int32) (m_quiet : Int32) (m_thrown : Int32) (m_tried : Nat → Int32) (m_best : Nat → Int32) (m_touching : Nat → Int32) (m_text : Nat → Int32) (m_length : Int32) (m_at : Int32) (m_verbs : Nat → Int32) (m_told : Nat → Int32) (m_commands : Int32) (a0 : Int32) (a1 : Int32) (a2 : Int32) (a3 : Int32) (a4 : Int32) (ro : Int32) (o_m_now : Nat → Int64) (o_m_saved : Nat → Int64) (o_m_states : Int32) (o_m_thrown : Int32) (hf : fX6_mark F m_now m_saved m_states m_quiet a0 a1 a2 a3 a4 = some (ro, o_m_now, o_m_saved, o_m_states, o_m_thrown)) : Fn Θ yX6_mark (Cond.code yX6_mark cX6_mark 10 (some .int) :: GW) rmX6_mark [.ref m0, .int a0, .int a1, .int a2, .int a3, .int a4] (wX6 Θ m0 m1 m2 m3 m4 m5 m6 m7 m8 m9 m_now m_saved m_aside m_states m_quiet m_thrown m_tried m_best m_touching m_text m_length m_at m_verbs m_told m_commands) (some (.int ro)) (wX6 Θ m0 m1 m2 m3 m4 m5 m6 m7 m8 m9 o_m_now o_m_saved m_aside o_m_states m_quiet o_m_thrown m_tried m_best m_touching m_text m_length m_at m_verbs m_told m_commands) := by
  delta fX6_mark at hf
  refine Fn.of (by decide +kernel) rfl (Nat.le_of_ble_eq_true rfl) (fun p e s m args below meth c A Q G K => ?_)
  show sw Θ p e rmX6_mark s m args below meth c A Q 10 0 0 0 [(0, .ref m0), (1, .int a0), (2, .int a1), (3, .int a2), (4, .int a3), (5, .int a4)] [] (wX6 Θ m0 m1 m2 m3 m4 m5 m6 m7 m8 m9 m_now m_saved m_aside m_states m_quiet m_thrown m_tried m_best m_touching m_text m_length m_at m_verbs m_told m_commands)
  refine sw_aload_n 0 G dX6_mark_0 0 rfl ?_
  refine sw_iconst 1 G (0 : Int32) dX6_mark_1 rfl ?_
  refine sw_put 2 G hnX6 tyX6_ok nmX6 0 5 (wX6 Θ m0 m1 m2 m3 m4 m5 m6 m7 m8 m9 m_now m_saved m_aside m_states m_quiet (0 : Int32) m_tried m_best m_touching m_text m_length m_at m_verbs m_told m_commands) dX6_mark_2 vc6 (by decide) (List.mem_cons_of_mem _ lk_fb3e5753) rfl rfl (Nat.le_of_ble_eq_true rfl) (tyX6_ok 5 (by decide)) rfl rfl rfl ?_
  refine sw_aload_n 5 G dX6_mark_5 0 rfl ?_
  refine sw_iload_n 6 G dX6_mark_6 1 rfl ?_
  refine sw_iload_n 7 G dX6_mark_7 2 rfl ?_
  refine sw_iload_n 8 G dX6_mark_8 3 rfl ?_
  refine sw_iload 9 G dX6_mark_9 4 rfl ?_
  obtain ⟨r1, hg, hf⟩ := bd1_some hf
  refine sw_callV 11 G (wX6 Θ m0 m1 m2 m3 m4 m5 m6 m7 m8 m9 m_now m_saved m_aside m_states m_quiet (0 : Int32) m_tried m_best m_touching m_text m_length m_at m_verbs m_told m_commands) [0, 1, 2, 3, 4, 5, 6, 7, 8, 9] [] [0, 1, 2, 3, 4, 5, 6, 7, 8, 9] 4 dX6_mark_11 (kX6_isRectangle Θ m0 m1 m2 m3 m4 m5 m6 m7 m8 m9 m_now m_saved m_aside m_states m_quiet (0 : Int32) m_tried m_best m_touching m_text m_length m_at m_verbs m_told m_commands a0 a1 a2 a3 r1 hg) (gwV lk_50ed241c lk_6afc1899 lk_cd7c9ccc lk_6d91b6d2 lk_b6064625) rfl hvX6_isRectangle ⟨rfl, rfl⟩ ⟨Nat.le_of_ble_eq_true rfl, Nat.le_of_ble_eq_true rfl⟩ ⟨Nat.zero_le _, Nat.zero_le _⟩ rfl rfl (Nat.le_of_ble_eq_true rfl) 0 rfl vc6 rfl rfl rfl rfl (by decide) ?_
  refine sw_if_eq 14 27 G dX6_mark_14 rfl hf (fun hf => ?_) (fun hf => ?_)
  · refine sw_aload_n 27 G dX6_mark_27 0 rfl ?_
    refine sw_iconst 28 G (1 : Int32) dX6_mark_28 rfl ?_
    obtain ⟨r2, u3, hg, hf⟩ := bd2_some hf
    refine sw_callV 29 G (wX6 Θ m0 m1 m2 m3 m4 m5 m6 m7 m8 m9 m_now m_saved m_aside m_states m_quiet u3 m_tried m_best m_touching m_text m_length m_at m_verbs m_told m_commands) [0, 1, 2, 3, 4, 5, 6, 7, 8, 9] [] [0, 1, 2, 3, 4, 5, 6, 7, 8, 9] 1 dX6_mark_29 (kX6_fails Θ m0 m1 m2 m3 m4 m5 m6 m7 m8 m9 m_now m_saved m_aside m_states m_quiet (0 : Int32) m_tried m_best m_touching m_text m_length m_at m_verbs m_told m_commands (1 : Int32) r2 u3 hg) (gwV lk_c7279fda lk_b9e66eaa lk_2152c894 lk_6d91b6d2 lk_f2d2a162) rfl hvX6_fails ⟨rfl, rfl⟩ ⟨Nat.le_of_ble_eq_true rfl, Nat.le_of_ble_eq_true rfl⟩ ⟨Nat.zero_le _, Nat.zero_le _⟩ rfl rfl (Nat.le_of_ble_eq_true rfl) 0 rfl vc6 rfl rfl rfl rfl (by decide) ?_
    cases hf
    exact sw_iret 32 G dX6_mark_32 K
  · refine sw_iload 17 G dX6_mark_17 5 rfl ?_
    refine sw_iconst 19 G (0 : Int32) dX6_mark_19 rfl ?_
    refine sw_iconst 20 G (2 : Int32) dX6_mark_20 rfl ?_
    obtain ⟨r4, hg, hf⟩ := bd1_some hf
    refine sw_callS 21 G (wX6 Θ m0 m1 m2 m3 m4 m5 m6 m7 m8 m9 m_now m_saved m_aside m_states m_quiet (0 : Int32) m_tried m_best m_touching m_text m_length m_at m_verbs m_told m_commands) [] [0, 1, 2, 3, 4, 5, 6, 7, 8, 9] [0, 1, 2, 3, 4, 5, 6, 7, 8, 9] 3 dX6_mark_21 (kX6_in Θ a4 (0 : Int32) (2 : Int32) r4 hg) (gwS lk_739e9842 lk_9ad51b2c lk_59eba9b0 lk_5ad5c33d) rfl hsX6_in ⟨rfl, rfl⟩ ⟨Nat.le_of_ble_eq_true rfl, Nat.le_of_ble_eq_true rfl⟩ ⟨Nat.zero_le _, Nat.zero_le _⟩ rfl rfl (Nat.le_of_ble_eq_true rfl) rfl rfl rfl (by decide) ?_
    refine sw_if_ne 24 33 G dX6_mark_24 rfl hf (fun hf => ?_) (fun hf => ?_)
    · refine sw_aload_n 33 G dX6_mark_33 0 rfl ?_
      obtain ⟨u5, u6, hg, hf⟩ := bd2_some hf
      refine sw_callV 34 G (wX6 Θ m0 m1 m2 m3 m4 m5 m6 m7 m8 m9 m_now u5 m_aside u6 m_quiet (0 : Int32) m_tried m_best m_touching m_text m_length m_at m_verbs m_told m_commands) [0, 1, 2, 3, 4, 5, 6, 7, 8, 9] [] [0, 1, 2, 3, 4, 5, 6, 7, 8, 9] 0 dX6_mark_34 (kX6_save Θ F m0 m1 m2 m3 m4 m5 m6 m7 m8 m9 m_now m_saved m_aside m_states m_quiet (0 : Int32) m_tried m_best m_touching m_text m_length m_at m_verbs m_told m_commands u5 u6 hg) (gwV lk_fb398b8d lk_00110175 lk_41f35dad lk_6d91b6d2 lk_436b5259) rfl hvX6_save ⟨rfl, rfl⟩ ⟨Nat.le_of_ble_eq_true rfl, Nat.le_of_ble_eq_true rfl⟩ ⟨Nat.zero_le _, Nat.zero_le _⟩ rfl rfl (Nat.le_of_ble_eq_true rfl) 0 rfl vc6 rfl rfl rfl rfl (by decide) ?_
      refine sw_aload_n 37 G dX6_mark_37 0 rfl ?_
      refine sw_iload_n 38 G dX6_mark_38 1 rfl ?_
      refine sw_iload_n 39 G dX6_mark_39 2 rfl ?_
      refine sw_iload_n 40 G dX6_mark_40 3 rfl ?_
      refine sw_iload 41 G dX6_mark_41 4 rfl ?_
      obtain ⟨r7, hg, hf⟩ := bd1_some hf
      refine sw_callV 43 G (wX6 Θ m0 m1 m2 m3 m4 m5 m6 m7 m8 m9 m_now u5 m_aside u6 m_quiet (0 : Int32) m_tried m_best m_touching m_text m_length m_at m_verbs m_told m_commands) [0, 1, 2, 3, 4, 5, 6, 7, 8, 9] [] [0, 1, 2, 3, 4, 5, 6, 7, 8, 9] 4 dX6_mark_43 (kX6_rectangle Θ F m0 m1 m2 m3 m4 m5 m6 m7 m8 m9 m_now u5 m_aside u6 m_quiet (0 : Int32) m_tried m_best m_touching m_text m_length m_at m_verbs m_told m_commands a0 a1 a2 a3 r7 hg) (gwV lk_61063461 lk_41ee9c05 lk_1a4154e9 lk_6d91b6d2 lk_91662179) rfl hvX6_rectangle ⟨rfl, rfl⟩ ⟨Nat.le_of_ble_eq_true rfl, Nat.le_of_ble_eq_true rfl⟩ ⟨Nat.zero_le _, Nat.zero_le _⟩ rfl rfl (Nat.le_of_ble_eq_true rfl) 0 rfl vc6 rfl rfl rfl rfl (by decide) ?_
      refine sw_lstore 46 G [(6, .long r7), (0, .ref m0), (1, .int a0), (2, .int a1), (3, .int a2), (4, .int a3), (5, .int a4)] dX6_mark_46 (by decide) rfl ?_
      refine sw_iload 48 G dX6_mark_48 6 rfl ?_
      refine sw_iconst 50 G (1 : Int32) dX6_mark_50 rfl ?_
      obtain ⟨v8, hj, hf⟩ := bd1_some hf
      have hx103 : sw Θ p e rmX6_mark s m args below meth c A Q 10 0 0 103 [(0, .ref m0), (5, .int a4), (6, .long r7)] [.long v8] (wX6 Θ m0 m1 m2 m3 m4 m5 m6 m7 m8 m9 m_now u5 m_aside u6 m_quiet (0 : Int32) m_tried m_best m_touching m_text m_length m_at m_verbs m_told m_commands) := by
        refine sw_lstore 103 G [(8, .long v8), (0, .ref m0), (5, .int a4), (6, .long r7)] dX6_mark_103 (by decide) rfl ?_
        refine sw_aload_n 105 G dX6_mark_105 1 rfl ?_
        refine sw_get 106 G hnX6 0 0 dX6_mark_106 vc6 (by decide) (List.mem_cons_of_mem _ lk_54e63fd8) rfl rfl ?_
        refine sw_bipush 109 G (14 : Int32) dX6_mark_109 rfl ?_
        refine sw_iload 111 G dX6_mark_111 2 rfl ?_
        refine sw_iconst 113 G (1 : Int32) dX6_mark_113 rfl ?_
        obtain ⟨v9, hj, hf⟩ := bd1_some hf
        have hx144 : sw Θ p e rmX6_mark s m args below meth c A Q 10 0 0 144 [(0, .ref m0), (5, .int a4), (6, .long r7), (8, .long v8)] [.long v9, .int (14 : Int32), .ref m1] (wX6 Θ m0 m1 m2 m3 m4 m5 m6 m7 m8 m9 m_now u5 m_aside u6 m_quiet (0 : Int32) m_tried m_best m_touching m_text m_length m_at m_verbs m_told m_commands) := by
          refine sw_last 144 G 1 (wX6 Θ m0 m1 m2 m3 m4 m5 m6 m7 m8 m9 (vp_updL m_now (14 : Int32).toNatClampNeg v9) u5 m_aside u6 m_quiet (0 : Int32) m_tried m_best m_touching m_text m_length m_at m_verbs m_told m_commands) dX6_mark_144 rfl rfl hf (fun hf => ?_)
          refine sw_aload_n 145 G dX6_mark_145 0 rfl ?_
          refine sw_get 146 G hnX6 0 0 dX6_mark_146 vc6 (by decide) (List.mem_cons_of_mem _ lk_54e63fd8) rfl rfl ?_
          refine sw_bipush 149 G (15 : Int32) dX6_mark_149 rfl ?_
          refine sw_iload 151 G dX6_mark_151 1 rfl ?_
          refine sw_iconst 153 G (2 : Int32) dX6_mark_153 rfl ?_
          obtain ⟨v10, hj, hf⟩ := bd1_some hf
          have hx184 : sw Θ p e rmX6_mark s m args below meth c A Q 10 0 0 184 [(6, .long r7), (8, .long v8)] [.long v10, .int (15 : Int32), .ref m1] (wX6 Θ m0 m1 m2 m3 m4 m5 m6 m7 m8 m9 (vp_updL m_now (14 : Int32).toNatClampNeg v9) u5 m_aside u6 m_quiet (0 : Int32) m_tried m_best m_touching m_text m_length m_at m_verbs m_told m_commands) := by
            refine sw_last 184 G 1 (wX6 Θ m0 m1 m2 m3 m4 m5 m6 m7 m8 m9 (vp_updL (vp_updL m_now (14 : Int32).toNatClampNeg v9) (15 : Int32).toNatClampNeg v10) u5 m_aside u6 m_quiet (0 : Int32) m_tried m_best m_touching m_text m_length m_at m_verbs m_told m_commands) dX6_mark_184 rfl rfl hf (fun hf => ?_)
            refine sw_lload 185 G dX6_mark_185 0 rfl ?_
            refine sw_lload 187 G dX6_mark_187 1 rfl ?_
            refine sw_ldc2 189 G (List.mem_cons_of_mem _ lk_e81893dd) dX6_mark_189 ?_
            refine sw_lxor 192 G dX6_mark_192 ?_
            refine sw_land 193 G dX6_mark_193 ?_
            obtain ⟨r11, hg, hf⟩ := bd1_some hf
            refine sw_callS 194 G (wX6 Θ m0 m1 m2 m3 m4 m5 m6 m7 m8 m9 (vp_updL (vp_updL m_now (14 : Int32).toNatClampNeg v9) (15 : Int32).toNatClampNeg v10) u5 m_aside u6 m_quiet (0 : Int32) m_tried m_best m_touching m_text m_length m_at m_verbs m_told m_commands) [] [0, 1, 2, 3, 4, 5, 6, 7, 8, 9] [0, 1, 2, 3, 4, 5, 6, 7, 8, 9] 1 dX6_mark_194 (kX6_ones Θ F (r7 &&& (v8 ^^^ (-1 : Int64))) r11 hg) (gwS lk_d2b42130 lk_66add976 lk_cff7b874 lk_9c72bac3) rfl hsX6_ones ⟨rfl, rfl⟩ ⟨Nat.le_of_ble_eq_true rfl, Nat.le_of_ble_eq_true rfl⟩ ⟨Nat.zero_le _, Nat.zero_le _⟩ rfl rfl (Nat.le_of_ble_eq_true rfl) rfl rfl rfl (by decide) ?_
            cases hf
            exact sw_iret 197 G dX6_mark_197 K
          clear hf
          have hf := hj
          clear hj
          refine sw_icmp_ne 154 170 G dX6_mark_154 rfl hf (fun hf => ?_) (fun hf => ?_)
          · refine sw_aload_n 170 G dX6_mark_170 0 rfl ?_
            refine sw_get 171 G hnX6 0 0 dX6_mark_171 vc6 (by decide) (List.mem_cons_of_mem _ lk_54e63fd8) rfl rfl ?_
            refine sw_bipush 174 G (15 : Int32) dX6_mark_174 rfl ?_
            refine sw_lald 176 G 1 dX6_mark_176 rfl hf (fun hf => ?_)
            refine sw_lload 177 G dX6_mark_177 2 rfl ?_
            refine sw_ldc2 179 G (List.mem_cons_of_mem _ lk_e81893dd) dX6_mark_179 ?_
            refine sw_lxor 182 G dX6_mark_182 ?_
            refine sw_land 183 G dX6_mark_183 ?_
            cases hf
            exact sw_lv _ [2, 3] rfl hx184
          · refine sw_aload_n 157 G dX6_mark_157 0 rfl ?_
            refine sw_get 158 G hnX6 0 0 dX6_mark_158 vc6 (by decide) (List.mem_cons_of_mem _ lk_54e63fd8) rfl rfl ?_
            refine sw_bipush 161 G (15 : Int32) dX6_mark_161 rfl ?_
            refine sw_lald 163 G 1 dX6_mark_163 rfl hf (fun hf => ?_)
            refine sw_lload 164 G dX6_mark_164 2 rfl ?_
            refine sw_lor 166 G dX6_mark_166 ?_
            refine sw_goto 167 G 184 dX6_mark_167 rfl ?_
            cases hf
            exact sw_lv _ [2, 3] rfl hx184
        clear hf
        have hf := hj
        clear hj
        refine sw_icmp_ne 114 130 G dX6_mark_114 rfl hf (fun hf => ?_) (fun hf => ?_)
        · refine sw_aload_n 130 G dX6_mark_130 1 rfl ?_
          refine sw_get 131 G hnX6 0 0 dX6_mark_131 vc6 (by decide) (List.mem_cons_of_mem _ lk_54e63fd8) rfl rfl ?_
          refine sw_bipush 134 G (14 : Int32) dX6_mark_134 rfl ?_
          refine sw_lald 136 G 1 dX6_mark_136 rfl hf (fun hf => ?_)
          refine sw_lload 137 G dX6_mark_137 3 rfl ?_
          refine sw_ldc2 139 G (List.mem_cons_of_mem _ lk_e81893dd) dX6_mark_139 ?_
          refine sw_lxor 142 G dX6_mark_142 ?_
          refine sw_land 143 G dX6_mark_143 ?_
          cases hf
          exact sw_lv _ [1, 2, 3, 0] rfl hx144
        · refine sw_aload_n 117 G dX6_mark_117 1 rfl ?_
          refine sw_get 118 G hnX6 0 0 dX6_mark_118 vc6 (by decide) (List.mem_cons_of_mem _ lk_54e63fd8) rfl rfl ?_
          refine sw_bipush 121 G (14 : Int32) dX6_mark_121 rfl ?_
          refine sw_lald 123 G 1 dX6_mark_123 rfl hf (fun hf => ?_)
          refine sw_lload 124 G dX6_mark_124 3 rfl ?_
          refine sw_lor 126 G dX6_mark_126 ?_
          refine sw_goto 127 G 144 dX6_mark_127 rfl ?_
          cases hf
          exact sw_lv _ [1, 2, 3, 0] rfl hx144
      clear hf
      have hf := hj
      clear hj
      refine sw_icmp_ne 51 64 G dX6_mark_51 rfl hf (fun hf => ?_) (fun hf => ?_)
      · refine sw_iload 64 G dX6_mark_64 6 rfl ?_
        refine sw_iconst 66 G (2 : Int32) dX6_mark_66 rfl ?_
        refine sw_icmp_ne 67 80 G dX6_mark_67 rfl hf (fun hf => ?_) (fun hf => ?_)
        · refine sw_aload_n 80 G dX6_mark_80 1 rfl ?_
          refine sw_get 81 G hnX6 0 0 dX6_mark_81 vc6 (by decide) (List.mem_cons_of_mem _ lk_54e63fd8) rfl rfl ?_
          refine sw_bipush 84 G (14 : Int32) dX6_mark_84 rfl ?_
          refine sw_lald 86 G 1 dX6_mark_86 rfl hf (fun hf => ?_)
          refine sw_ldc2 87 G (List.mem_cons_of_mem _ lk_e81893dd) dX6_mark_87 ?_
          refine sw_lxor 90 G dX6_mark_90 ?_
          refine sw_aload_n 91 G dX6_mark_91 1 rfl ?_
          refine sw_get 92 G hnX6 0 0 dX6_mark_92 vc6 (by decide) (List.mem_cons_of_mem _ lk_54e63fd8) rfl rfl ?_
          refine sw_bipush 95 G (15 : Int32) dX6_mark_95 rfl ?_
          refine sw_lald 97 G 1 dX6_mark_97 rfl hf (fun hf => ?_)
          refine sw_ldc2 98 G (List.mem_cons_of_mem _ lk_e81893dd) dX6_mark_98 ?_
          refine sw_lxor 101 G dX6_mark_101 ?_
          refine sw_land 102 G dX6_mark_102 ?_
          cases hf
          exact sw_lv _ [1, 6, 0] rfl hx103
        · refine sw_aload_n 70 G dX6_mark_70 1 rfl ?_
          refine sw_get 71 G hnX6 0 0 dX6_mark_71 vc6 (by decide) (List.mem_cons_of_mem _ lk_54e63fd8) rfl rfl ?_
          refine sw_bipush 74 G (15 : Int32) dX6_mark_74 rfl ?_
          refine sw_lald 76 G 1 dX6_mark_76 rfl hf (fun hf => ?_)
          refine sw_goto 77 G 103 dX6_mark_77 rfl ?_
          cases hf
          exact sw_lv _ [1, 6, 0] rfl hx103
      · refine sw_aload_n 54 G dX6_mark_54 1 rfl ?_
        refine sw_get 55 G hnX6 0 0 dX6_mark_55 vc6 (by decide) (List.mem_cons_of_mem _ lk_54e63fd8) rfl rfl ?_
        refine sw_bipush 58 G (14 : Int32) dX6_mark_58 rfl ?_
        refine sw_lald 60 G 1 dX6_mark_60 rfl hf (fun hf => ?_)
        refine sw_goto 61 G 103 dX6_mark_61 rfl ?_
        cases hf
        exact sw_lv _ [1, 6, 0] rfl hx103
    · refine sw_aload_n 27 G dX6_mark_27 0 rfl ?_
      refine sw_iconst 28 G (1 : Int32) dX6_mark_28 rfl ?_
      obtain ⟨r12, u13, hg, hf⟩ := bd2_some hf
      refine sw_callV 29 G (wX6 Θ m0 m1 m2 m3 m4 m5 m6 m7 m8 m9 m_now m_saved m_aside m_states m_quiet u13 m_tried m_best m_touching m_text m_length m_at m_verbs m_told m_commands) [0, 1, 2, 3, 4, 5, 6, 7, 8, 9] [] [0, 1, 2, 3, 4, 5, 6, 7, 8, 9] 1 dX6_mark_29 (kX6_fails Θ m0 m1 m2 m3 m4 m5 m6 m7 m8 m9 m_now m_saved m_aside m_states m_quiet (0 : Int32) m_tried m_best m_touching m_text m_length m_at m_verbs m_told m_commands (1 : Int32) r12 u13 hg) (gwV lk_c7279fda lk_b9e66eaa lk_2152c894 lk_6d91b6d2 lk_f2d2a162) rfl hvX6_fails ⟨rfl, rfl⟩ ⟨Nat.le_of_ble_eq_true rfl, Nat.le_of_ble_eq_true rfl⟩ ⟨Nat.zero_le _, Nat.zero_le _⟩ rfl rfl (Nat.le_of_ble_eq_true rfl) 0 rfl vc6 rfl rfl rfl rfl (by decide) ?_
      cases hf
      exact sw_iret 32 G dX6_mark_32 K
abbrev rmX6_setCarrier : Room := { frames := 1, cells := 0, slots := 0, locals := 22 }
theorem hvX6_setCarrier : yX6_setCarrier.cls = RX6 ∧ yX6_setCarrier.cls ≠ "java/lang/invoke/MethodHandle" ∧ yX6_setCarrier.cls ≠ "java/lang/invoke/VarHandle" ∧ (parseMethodDescriptor yX6_setCarrier.desc).map (fun d => d.parameters.length) = some 1 := by decide +kernel
set_option maxRecDepth 100000 in
set_option maxHeartbeats 4000000 in
theorem kX6_setCarrier (Θ : Tht) (F : Nat) (m0 m1 m2 m3 m4 m5 m6 m7 m8 m9 : Nat) (m_now : Nat → Int64) (m_saved : Nat → Int64) (m_aside : Nat → Int64) (m_states : Int32) (m_quiet : Int32) (m_thrown : Int32) (m_tried : Nat → Int32) (m_best : Nat → Int32) (m_touching : Nat → Int32) (m_text : Nat → Int32) (m_length : Int32) (m_at : Int32) (m_verbs : Nat → Int32) (m_told : Nat → Int32) (m_commands : Int32) (a0 : Int32) (ro : Int32) (o_m_now : Nat → Int64) (o_m_saved : Nat → Int64) (o_m_states : Int32) (o_m_thrown : Int32) (hf : fX6_setCarrier F m_now m_saved m_states m_quiet a0 = some (ro, o_m_now, o_m_saved, o_m_states, o_m_thrown)) : Fn Θ yX6_setCarrier (Cond.code yX6_setCarrier cX6_setCarrier 3 (some .int) :: GW) rmX6_setCarrier [.ref m0, .int a0] (wX6 Θ m0 m1 m2 m3 m4 m5 m6 m7 m8 m9 m_now m_saved m_aside m_states m_quiet m_thrown m_tried m_best m_touching m_text m_length m_at m_verbs m_told m_commands) (some (.int ro)) (wX6 Θ m0 m1 m2 m3 m4 m5 m6 m7 m8 m9 o_m_now o_m_saved m_aside o_m_states m_quiet o_m_thrown m_tried m_best m_touching m_text m_length m_at m_verbs m_told m_commands) := by
  delta fX6_setCarrier at hf
  refine Fn.of (by decide +kernel) rfl (Nat.le_of_ble_eq_true rfl) (fun p e s m args below meth c A Q G K => ?_)
  show sw Θ p e rmX6_setCarrier s m args below meth c A Q 3 0 0 0 [(0, .ref m0), (1, .int a0)] [] (wX6 Θ m0 m1 m2 m3 m4 m5 m6 m7 m8 m9 m_now m_saved m_aside m_states m_quiet m_thrown m_tried m_best m_touching m_text m_length m_at m_verbs m_told m_commands)
  refine sw_aload_n 0 G dX6_setCarrier_0 0 rfl ?_
  refine sw_iconst 1 G (0 : Int32) dX6_setCarrier_1 rfl ?_
  refine sw_put 2 G hnX6 tyX6_ok nmX6 0 5 (wX6 Θ m0 m1 m2 m3 m4 m5 m6 m7 m8 m9 m_now m_saved m_aside m_states m_quiet (0 : Int32) m_tried m_best m_touching m_text m_length m_at m_verbs m_told m_commands) dX6_setCarrier_2 vc6 (by decide) (List.mem_cons_of_mem _ lk_fb3e5753) rfl rfl (Nat.le_of_ble_eq_true rfl) (tyX6_ok 5 (by decide)) rfl rfl rfl ?_
  refine sw_iload_n 5 G dX6_setCarrier_5 1 rfl ?_
  refine sw_iconst 6 G (0 : Int32) dX6_setCarrier_6 rfl ?_
  refine sw_iconst 7 G (2 : Int32) dX6_setCarrier_7 rfl ?_
  obtain ⟨r1, hg, hf⟩ := bd1_some hf
  refine sw_callS 8 G (wX6 Θ m0 m1 m2 m3 m4 m5 m6 m7 m8 m9 m_now m_saved m_aside m_states m_quiet (0 : Int32) m_tried m_best m_touching m_text m_length m_at m_verbs m_told m_commands) [] [0, 1, 2, 3, 4, 5, 6, 7, 8, 9] [0, 1, 2, 3, 4, 5, 6, 7, 8, 9] 3 dX6_setCarrier_8 (kX6_in Θ a0 (0 : Int32) (2 : Int32) r1 hg) (gwS lk_739e9842 lk_9ad51b2c lk_59eba9b0 lk_5ad5c33d) rfl hsX6_in ⟨rfl, rfl⟩ ⟨Nat.le_of_ble_eq_true rfl, Nat.le_of_ble_eq_true rfl⟩ ⟨Nat.zero_le _, Nat.zero_le _⟩ rfl rfl (Nat.le_of_ble_eq_true rfl) rfl rfl rfl (by decide) ?_
  refine sw_if_ne 11 20 G dX6_setCarrier_11 rfl hf (fun hf => ?_) (fun hf => ?_)
  · refine sw_aload_n 20 G dX6_setCarrier_20 0 rfl ?_
    obtain ⟨u2, u3, hg, hf⟩ := bd2_some hf
    refine sw_callV 21 G (wX6 Θ m0 m1 m2 m3 m4 m5 m6 m7 m8 m9 m_now u2 m_aside u3 m_quiet (0 : Int32) m_tried m_best m_touching m_text m_length m_at m_verbs m_told m_commands) [0, 1, 2, 3, 4, 5, 6, 7, 8, 9] [] [0, 1, 2, 3, 4, 5, 6, 7, 8, 9] 0 dX6_setCarrier_21 (kX6_save Θ F m0 m1 m2 m3 m4 m5 m6 m7 m8 m9 m_now m_saved m_aside m_states m_quiet (0 : Int32) m_tried m_best m_touching m_text m_length m_at m_verbs m_told m_commands u2 u3 hg) (gwV lk_fb398b8d lk_00110175 lk_41f35dad lk_6d91b6d2 lk_436b5259) rfl hvX6_save ⟨rfl, rfl⟩ ⟨Nat.le_of_ble_eq_true rfl, Nat.le_of_ble_eq_true rfl⟩ ⟨Nat.zero_le _, Nat.zero_le _⟩ rfl rfl (Nat.le_of_ble_eq_true rfl) 0 rfl vc6 rfl rfl rfl rfl (by decide) ?_
    refine sw_aload_n 24 G dX6_setCarrier_24 0 rfl ?_
    refine sw_iconst 25 G (2 : Int32) dX6_setCarrier_25 rfl ?_
    obtain ⟨r4, hg, hf⟩ := bd1_some hf
    refine sw_callV 26 G (wX6 Θ m0 m1 m2 m3 m4 m5 m6 m7 m8 m9 m_now u2 m_aside u3 m_quiet (0 : Int32) m_tried m_best m_touching m_text m_length m_at m_verbs m_told m_commands) [0, 1, 2, 3, 4, 5, 6, 7, 8, 9] [] [0, 1, 2, 3, 4, 5, 6, 7, 8, 9] 1 dX6_setCarrier_26 (kX6_many Θ m0 m1 m2 m3 m4 m5 m6 m7 m8 m9 m_now u2 m_aside u3 m_quiet (0 : Int32) m_tried m_best m_touching m_text m_length m_at m_verbs m_told m_commands (2 : Int32) r4 hg) (gwV lk_184fe921 lk_d689724c lk_b095f72c lk_6d91b6d2 lk_d7f116ea) rfl hvX6_many ⟨rfl, rfl⟩ ⟨Nat.le_of_ble_eq_true rfl, Nat.le_of_ble_eq_true rfl⟩ ⟨Nat.zero_le _, Nat.zero_le _⟩ rfl rfl (Nat.le_of_ble_eq_true rfl) 0 rfl vc6 rfl rfl rfl rfl (by decide) ?_
    refine sw_istore_n 29 G [(2, .int r4), (0, .ref m0), (1, .int a0)] dX6_setCarrier_29 (by decide) rfl ?_
    refine sw_aload_n 30 G dX6_setCarrier_30 1 rfl ?_
    refine sw_get 31 G hnX6 0 0 dX6_setCarrier_31 vc6 (by decide) (List.mem_cons_of_mem _ lk_54e63fd8) rfl rfl ?_
    refine sw_iconst 34 G (2 : Int32) dX6_setCarrier_34 rfl ?_
    refine sw_iload_n 35 G dX6_setCarrier_35 2 rfl ?_
    refine sw_i2l 36 G dX6_setCarrier_36 ?_
    refine sw_nml hf (fun v5 hf => ?_)
    refine sw_last 37 G 1 (wX6 Θ m0 m1 m2 m3 m4 m5 m6 m7 m8 m9 (vp_updL m_now (2 : Int32).toNatClampNeg v5) u2 m_aside u3 m_quiet (0 : Int32) m_tried m_best m_touching m_text m_length m_at m_verbs m_told m_commands) dX6_setCarrier_37 rfl rfl hf (fun hf => ?_)
    refine sw_iload_n 38 G dX6_setCarrier_38 0 rfl ?_
    cases hf
    exact sw_iret 39 G dX6_setCarrier_39 K
  · refine sw_aload_n 14 G dX6_setCarrier_14 0 rfl ?_
    refine sw_iconst 15 G (1 : Int32) dX6_setCarrier_15 rfl ?_
    obtain ⟨r6, u7, hg, hf⟩ := bd2_some hf
    refine sw_callV 16 G (wX6 Θ m0 m1 m2 m3 m4 m5 m6 m7 m8 m9 m_now m_saved m_aside m_states m_quiet u7 m_tried m_best m_touching m_text m_length m_at m_verbs m_told m_commands) [0, 1, 2, 3, 4, 5, 6, 7, 8, 9] [] [0, 1, 2, 3, 4, 5, 6, 7, 8, 9] 1 dX6_setCarrier_16 (kX6_fails Θ m0 m1 m2 m3 m4 m5 m6 m7 m8 m9 m_now m_saved m_aside m_states m_quiet (0 : Int32) m_tried m_best m_touching m_text m_length m_at m_verbs m_told m_commands (1 : Int32) r6 u7 hg) (gwV lk_c7279fda lk_b9e66eaa lk_2152c894 lk_6d91b6d2 lk_f2d2a162) rfl hvX6_fails ⟨rfl, rfl⟩ ⟨Nat.le_of_ble_eq_true rfl, Nat.le_of_ble_eq_true rfl⟩ ⟨Nat.zero_le _, Nat.zero_le _⟩ rfl rfl (Nat.le_of_ble_eq_true rfl) 0 rfl vc6 rfl rfl rfl rfl (by decide) ?_
    cases hf
    exact sw_iret 19 G dX6_setCarrier_19 K
abbrev rmX6_isSetting : Room := { frames := 1, cells := 0, slots := 0, locals := 22 }
theorem hsX6_isSetting : yX6_isSetting.cls ≠ "java/lang/invoke/MethodHandle" ∧ yX6_isSetting.cls ≠ "java/lang/invoke/VarHandle" ∧ (parseMethodDescriptor yX6_isSetting.desc).map (fun d => d.parameters.length) = some 2 := by decide +kernel
set_option maxRecDepth 100000 in
set_option maxHeartbeats 4000000 in
theorem kX6_isSetting (Θ : Tht) (a0 : Int32) (a1 : Int32) (ro : Int32) (hf : fX6_isSetting a0 a1 = some ro) : Fn Θ yX6_isSetting (Cond.code yX6_isSetting cX6_isSetting 2 (some .boolean) :: GW) rmX6_isSetting [.int a0, .int a1] ([]) (some (.int ro)) ([]) := by
  delta fX6_isSetting at hf
  refine Fn.of (by decide +kernel) rfl (Nat.le_of_ble_eq_true rfl) (fun p e s m args below meth c A Q G K => ?_)
  show sw Θ p e rmX6_isSetting s m args below meth c A Q 2 0 0 0 [(0, .int a0), (1, .int a1)] [] ([])
  refine sw_iload_n 0 G dX6_isSetting_0 0 rfl ?_
  refine sw_if_ne 1 13 G dX6_isSetting_1 rfl hf (fun hf => ?_) (fun hf => ?_)
  · refine sw_iload_n 13 G dX6_isSetting_13 0 rfl ?_
    refine sw_iconst 14 G (1 : Int32) dX6_isSetting_14 rfl ?_
    refine sw_iconst 15 G (4 : Int32) dX6_isSetting_15 rfl ?_
    obtain ⟨r1, hg, hf⟩ := bd1_some hf
    refine sw_callS 16 G ([]) [] [] [] 3 dX6_isSetting_16 (kX6_in Θ a0 (1 : Int32) (4 : Int32) r1 hg) (gwS lk_739e9842 lk_9ad51b2c lk_59eba9b0 lk_5ad5c33d) rfl hsX6_in ⟨rfl, rfl⟩ ⟨Nat.le_of_ble_eq_true rfl, Nat.le_of_ble_eq_true rfl⟩ ⟨Nat.zero_le _, Nat.zero_le _⟩ rfl rfl (Nat.le_of_ble_eq_true rfl) rfl rfl rfl (by decide) ?_
    refine sw_if_eq 19 55 G dX6_isSetting_19 rfl hf (fun hf => ?_) (fun hf => ?_)
    · refine sw_iconst 55 G (0 : Int32) dX6_isSetting_55 rfl ?_
      cases hf
      exact sw_zret 56 G dX6_isSetting_56 K rfl
    · refine sw_iload_n 22 G dX6_isSetting_22 1 rfl ?_
      refine sw_iconst 23 G (0 : Int32) dX6_isSetting_23 rfl ?_
      refine sw_iload_n 24 G dX6_isSetting_24 0 rfl ?_
      refine sw_iconst 25 G (1 : Int32) dX6_isSetting_25 rfl ?_
      obtain ⟨v2, hj, hf⟩ := bd1_some hf
      have hx45 : sw Θ p e rmX6_isSetting s m args below meth c A Q 2 0 0 45 [] [.int v2, .int (0 : Int32), .int a1] ([]) := by
        obtain ⟨r3, hg, hf⟩ := bd1_some hf
        refine sw_callS 45 G ([]) [] [] [] 3 dX6_isSetting_45 (kX6_in Θ a1 (0 : Int32) v2 r3 hg) (gwS lk_739e9842 lk_9ad51b2c lk_59eba9b0 lk_5ad5c33d) rfl hsX6_in ⟨rfl, rfl⟩ ⟨Nat.le_of_ble_eq_true rfl, Nat.le_of_ble_eq_true rfl⟩ ⟨Nat.zero_le _, Nat.zero_le _⟩ rfl rfl (Nat.le_of_ble_eq_true rfl) rfl rfl rfl (by decide) ?_
        refine sw_if_eq 48 55 G dX6_isSetting_48 rfl hf (fun hf => ?_) (fun hf => ?_)
        · refine sw_iconst 55 G (0 : Int32) dX6_isSetting_55 rfl ?_
          cases hf
          exact sw_zret 56 G dX6_isSetting_56 K rfl
        · refine sw_iconst 51 G (1 : Int32) dX6_isSetting_51 rfl ?_
          refine sw_goto 52 G 56 dX6_isSetting_52 rfl ?_
          cases hf
          exact sw_zret 56 G dX6_isSetting_56 K rfl
      clear hf
      have hf := hj
      clear hj
      refine sw_icmp_ne 26 33 G dX6_isSetting_26 rfl hf (fun hf => ?_) (fun hf => ?_)
      · refine sw_iload_n 33 G dX6_isSetting_33 0 rfl ?_
        refine sw_iconst 34 G (2 : Int32) dX6_isSetting_34 rfl ?_
        refine sw_icmp_ne 35 43 G dX6_isSetting_35 rfl hf (fun hf => ?_) (fun hf => ?_)
        · refine sw_bipush 43 G (50 : Int32) dX6_isSetting_43 rfl ?_
          cases hf
          exact sw_lv _ [] rfl hx45
        · refine sw_bipush 38 G (9 : Int32) dX6_isSetting_38 rfl ?_
          refine sw_goto 40 G 45 dX6_isSetting_40 rfl ?_
          cases hf
          exact sw_lv _ [] rfl hx45
      · refine sw_iconst 29 G (3 : Int32) dX6_isSetting_29 rfl ?_
        refine sw_goto 30 G 45 dX6_isSetting_30 rfl ?_
        cases hf
        exact sw_lv _ [] rfl hx45
  · refine sw_iload_n 4 G dX6_isSetting_4 1 rfl ?_
    refine sw_iconst 5 G (1 : Int32) dX6_isSetting_5 rfl ?_
    refine sw_sipush 6 G (999 : Int32) dX6_isSetting_6 rfl ?_
    obtain ⟨r4, hg, hf⟩ := bd1_some hf
    refine sw_callS 9 G ([]) [] [] [] 3 dX6_isSetting_9 (kX6_in Θ a1 (1 : Int32) (999 : Int32) r4 hg) (gwS lk_739e9842 lk_9ad51b2c lk_59eba9b0 lk_5ad5c33d) rfl hsX6_in ⟨rfl, rfl⟩ ⟨Nat.le_of_ble_eq_true rfl, Nat.le_of_ble_eq_true rfl⟩ ⟨Nat.zero_le _, Nat.zero_le _⟩ rfl rfl (Nat.le_of_ble_eq_true rfl) rfl rfl rfl (by decide) ?_
    obtain ⟨hz, hf⟩ := gb_some hf
    cases hf
    exact sw_zret 12 G dX6_isSetting_12 K hz
abbrev rmX6_set : Room := { frames := 2, cells := 0, slots := 0, locals := 43 }
theorem hvX6_set : yX6_set.cls = RX6 ∧ yX6_set.cls ≠ "java/lang/invoke/MethodHandle" ∧ yX6_set.cls ≠ "java/lang/invoke/VarHandle" ∧ (parseMethodDescriptor yX6_set.desc).map (fun d => d.parameters.length) = some 2 := by decide +kernel
set_option maxRecDepth 100000 in
set_option maxHeartbeats 4000000 in
theorem kX6_set (Θ : Tht) (F : Nat) (m0 m1 m2 m3 m4 m5 m6 m7 m8 m9 : Nat) (m_now : Nat → Int64) (m_saved : Nat → Int64) (m_aside : Nat → Int64) (m_states : Int32) (m_quiet : Int32) (m_thrown : Int32) (m_tried : Nat → Int32) (m_best : Nat → Int32) (m_touching : Nat → Int32) (m_text : Nat → Int32) (m_length : Int32) (m_at : Int32) (m_verbs : Nat → Int32) (m_told : Nat → Int32) (m_commands : Int32) (a0 : Int32) (a1 : Int32) (ro : Int32) (o_m_now : Nat → Int64) (o_m_saved : Nat → Int64) (o_m_states : Int32) (o_m_thrown : Int32) (hf : fX6_set F m_now m_saved m_states m_quiet a0 a1 = some (ro, o_m_now, o_m_saved, o_m_states, o_m_thrown)) : Fn Θ yX6_set (Cond.code yX6_set cX6_set 4 (some .int) :: GW) rmX6_set [.ref m0, .int a0, .int a1] (wX6 Θ m0 m1 m2 m3 m4 m5 m6 m7 m8 m9 m_now m_saved m_aside m_states m_quiet m_thrown m_tried m_best m_touching m_text m_length m_at m_verbs m_told m_commands) (some (.int ro)) (wX6 Θ m0 m1 m2 m3 m4 m5 m6 m7 m8 m9 o_m_now o_m_saved m_aside o_m_states m_quiet o_m_thrown m_tried m_best m_touching m_text m_length m_at m_verbs m_told m_commands) := by
  delta fX6_set at hf
  refine Fn.of (by decide +kernel) rfl (Nat.le_of_ble_eq_true rfl) (fun p e s m args below meth c A Q G K => ?_)
  show sw Θ p e rmX6_set s m args below meth c A Q 4 0 0 0 [(0, .ref m0), (1, .int a0), (2, .int a1)] [] (wX6 Θ m0 m1 m2 m3 m4 m5 m6 m7 m8 m9 m_now m_saved m_aside m_states m_quiet m_thrown m_tried m_best m_touching m_text m_length m_at m_verbs m_told m_commands)
  refine sw_aload_n 0 G dX6_set_0 0 rfl ?_
  refine sw_iconst 1 G (0 : Int32) dX6_set_1 rfl ?_
  refine sw_put 2 G hnX6 tyX6_ok nmX6 0 5 (wX6 Θ m0 m1 m2 m3 m4 m5 m6 m7 m8 m9 m_now m_saved m_aside m_states m_quiet (0 : Int32) m_tried m_best m_touching m_text m_length m_at m_verbs m_told m_commands) dX6_set_2 vc6 (by decide) (List.mem_cons_of_mem _ lk_fb3e5753) rfl rfl (Nat.le_of_ble_eq_true rfl) (tyX6_ok 5 (by decide)) rfl rfl rfl ?_
  refine sw_iload_n 5 G dX6_set_5 1 rfl ?_
  refine sw_iload_n 6 G dX6_set_6 2 rfl ?_
  obtain ⟨r1, hg, hf⟩ := bd1_some hf
  refine sw_callS 7 G (wX6 Θ m0 m1 m2 m3 m4 m5 m6 m7 m8 m9 m_now m_saved m_aside m_states m_quiet (0 : Int32) m_tried m_best m_touching m_text m_length m_at m_verbs m_told m_commands) [] [0, 1, 2, 3, 4, 5, 6, 7, 8, 9] [0, 1, 2, 3, 4, 5, 6, 7, 8, 9] 2 dX6_set_7 (kX6_isSetting Θ a0 a1 r1 hg) (gwS lk_6e4706d7 lk_5395b2e2 lk_808fa7cd lk_5d9b9e20) rfl hsX6_isSetting ⟨rfl, rfl⟩ ⟨Nat.le_of_ble_eq_true rfl, Nat.le_of_ble_eq_true rfl⟩ ⟨Nat.zero_le _, Nat.zero_le _⟩ rfl rfl (Nat.le_of_ble_eq_true rfl) rfl rfl rfl (by decide) ?_
  refine sw_if_ne 10 19 G dX6_set_10 rfl hf (fun hf => ?_) (fun hf => ?_)
  · refine sw_aload_n 19 G dX6_set_19 0 rfl ?_
    obtain ⟨u2, u3, hg, hf⟩ := bd2_some hf
    refine sw_callV 20 G (wX6 Θ m0 m1 m2 m3 m4 m5 m6 m7 m8 m9 m_now u2 m_aside u3 m_quiet (0 : Int32) m_tried m_best m_touching m_text m_length m_at m_verbs m_told m_commands) [0, 1, 2, 3, 4, 5, 6, 7, 8, 9] [] [0, 1, 2, 3, 4, 5, 6, 7, 8, 9] 0 dX6_set_20 (kX6_save Θ F m0 m1 m2 m3 m4 m5 m6 m7 m8 m9 m_now m_saved m_aside m_states m_quiet (0 : Int32) m_tried m_best m_touching m_text m_length m_at m_verbs m_told m_commands u2 u3 hg) (gwV lk_fb398b8d lk_00110175 lk_41f35dad lk_6d91b6d2 lk_436b5259) rfl hvX6_save ⟨rfl, rfl⟩ ⟨Nat.le_of_ble_eq_true rfl, Nat.le_of_ble_eq_true rfl⟩ ⟨Nat.zero_le _, Nat.zero_le _⟩ rfl rfl (Nat.le_of_ble_eq_true rfl) 0 rfl vc6 rfl rfl rfl rfl (by decide) ?_
    refine sw_aload_n 23 G dX6_set_23 0 rfl ?_
    refine sw_iload_n 24 G dX6_set_24 1 rfl ?_
    obtain ⟨r4, hg, hf⟩ := bd1_some hf
    refine sw_callV 25 G (wX6 Θ m0 m1 m2 m3 m4 m5 m6 m7 m8 m9 m_now u2 m_aside u3 m_quiet (0 : Int32) m_tried m_best m_touching m_text m_length m_at m_verbs m_told m_commands) [0, 1, 2, 3, 4, 5, 6, 7, 8, 9] [] [0, 1, 2, 3, 4, 5, 6, 7, 8, 9] 1 dX6_set_25 (kX6_setting Θ m0 m1 m2 m3 m4 m5 m6 m7 m8 m9 m_now u2 m_aside u3 m_quiet (0 : Int32) m_tried m_best m_touching m_text m_length m_at m_verbs m_told m_commands a0 r4 hg) (gwV lk_29a14a05 lk_b15aae89 lk_394237e6 lk_6d91b6d2 lk_fa884fd4) rfl hvX6_setting ⟨rfl, rfl⟩ ⟨Nat.le_of_ble_eq_true rfl, Nat.le_of_ble_eq_true rfl⟩ ⟨Nat.zero_le _, Nat.zero_le _⟩ rfl rfl (Nat.le_of_ble_eq_true rfl) 0 rfl vc6 rfl rfl rfl rfl (by decide) ?_
    refine sw_istore_n 28 G [(3, .int r4), (0, .ref m0), (1, .int a0), (2, .int a1)] dX6_set_28 (by decide) rfl ?_
    refine sw_aload_n 29 G dX6_set_29 1 rfl ?_
    refine sw_get 30 G hnX6 0 0 dX6_set_30 vc6 (by decide) (List.mem_cons_of_mem _ lk_54e63fd8) rfl rfl ?_
    refine sw_iconst 33 G (3 : Int32) dX6_set_33 rfl ?_
    refine sw_iload_n 34 G dX6_set_34 2 rfl ?_
    refine sw_iadd 35 G dX6_set_35 ?_
    refine sw_nmi hf (fun v5 hf => ?_)
    refine sw_iload_n 36 G dX6_set_36 3 rfl ?_
    refine sw_i2l 37 G dX6_set_37 ?_
    refine sw_nml hf (fun v6 hf => ?_)
    refine sw_last 38 G 1 (wX6 Θ m0 m1 m2 m3 m4 m5 m6 m7 m8 m9 (vp_updL m_now v5.toNatClampNeg v6) u2 m_aside u3 m_quiet (0 : Int32) m_tried m_best m_touching m_text m_length m_at m_verbs m_told m_commands) dX6_set_38 rfl rfl hf (fun hf => ?_)
    refine sw_iload_n 39 G dX6_set_39 0 rfl ?_
    cases hf
    exact sw_iret 40 G dX6_set_40 K
  · refine sw_aload_n 13 G dX6_set_13 0 rfl ?_
    refine sw_iconst 14 G (1 : Int32) dX6_set_14 rfl ?_
    obtain ⟨r7, u8, hg, hf⟩ := bd2_some hf
    refine sw_callV 15 G (wX6 Θ m0 m1 m2 m3 m4 m5 m6 m7 m8 m9 m_now m_saved m_aside m_states m_quiet u8 m_tried m_best m_touching m_text m_length m_at m_verbs m_told m_commands) [0, 1, 2, 3, 4, 5, 6, 7, 8, 9] [] [0, 1, 2, 3, 4, 5, 6, 7, 8, 9] 1 dX6_set_15 (kX6_fails Θ m0 m1 m2 m3 m4 m5 m6 m7 m8 m9 m_now m_saved m_aside m_states m_quiet (0 : Int32) m_tried m_best m_touching m_text m_length m_at m_verbs m_told m_commands (1 : Int32) r7 u8 hg) (gwV lk_c7279fda lk_b9e66eaa lk_2152c894 lk_6d91b6d2 lk_f2d2a162) rfl hvX6_fails ⟨rfl, rfl⟩ ⟨Nat.le_of_ble_eq_true rfl, Nat.le_of_ble_eq_true rfl⟩ ⟨Nat.zero_le _, Nat.zero_le _⟩ rfl rfl (Nat.le_of_ble_eq_true rfl) 0 rfl vc6 rfl rfl rfl rfl (by decide) ?_
    cases hf
    exact sw_iret 18 G dX6_set_18 K
abbrev rmX6_adds : Room := { frames := 2, cells := 0, slots := 0, locals := 46 }
theorem hvX6_adds : yX6_adds.cls = RX6 ∧ yX6_adds.cls ≠ "java/lang/invoke/MethodHandle" ∧ yX6_adds.cls ≠ "java/lang/invoke/VarHandle" ∧ (parseMethodDescriptor yX6_adds.desc).map (fun d => d.parameters.length) = some 5 := by decide +kernel
set_option maxRecDepth 100000 in
set_option maxHeartbeats 4000000 in
theorem kX6_adds (Θ : Tht) (F : Nat) (m0 m1 m2 m3 m4 m5 m6 m7 m8 m9 : Nat) (m_now : Nat → Int64) (m_saved : Nat → Int64) (m_aside : Nat → Int64) (m_states : Int32) (m_quiet : Int32) (m_thrown : Int32) (m_tried : Nat → Int32) (m_best : Nat → Int32) (m_touching : Nat → Int32) (m_text : Nat → Int32) (m_length : Int32) (m_at : Int32) (m_verbs : Nat → Int32) (m_told : Nat → Int32) (m_commands : Int32) (a0 : Int32) (a1 : Int32) (a2 : Int32) (a3 : Int32) (a4 : Int32) (ro : Int32) (o_m_now : Nat → Int64) (o_m_saved : Nat → Int64) (o_m_states : Int32) (o_m_thrown : Int32) (hf : fX6_adds F m_now m_saved m_states m_quiet m_thrown a0 a1 a2 a3 a4 = some (ro, o_m_now, o_m_saved, o_m_states, o_m_thrown)) : Fn Θ yX6_adds (Cond.code yX6_adds cX6_adds 7 (some .int) :: GW) rmX6_adds [.ref m0, .int a0, .int a1, .int a2, .int a3, .int a4] (wX6 Θ m0 m1 m2 m3 m4 m5 m6 m7 m8 m9 m_now m_saved m_aside m_states m_quiet m_thrown m_tried m_best m_touching m_text m_length m_at m_verbs m_told m_commands) (some (.int ro)) (wX6 Θ m0 m1 m2 m3 m4 m5 m6 m7 m8 m9 o_m_now o_m_saved m_aside o_m_states m_quiet o_m_thrown m_tried m_best m_touching m_text m_length m_at m_verbs m_told m_commands) := by
  delta fX6_adds at hf
  refine Fn.of (by decide +kernel) rfl (Nat.le_of_ble_eq_true rfl) (fun p e s m args below meth c A Q G K => ?_)
  show sw Θ p e rmX6_adds s m args below meth c A Q 7 0 0 0 [(0, .ref m0), (1, .int a0), (2, .int a1), (3, .int a2), (4, .int a3), (5, .int a4)] [] (wX6 Θ m0 m1 m2 m3 m4 m5 m6 m7 m8 m9 m_now m_saved m_aside m_states m_quiet m_thrown m_tried m_best m_touching m_text m_length m_at m_verbs m_told m_commands)
  refine sw_aload_n 0 G dX6_adds_0 0 rfl ?_
  refine sw_iload_n 1 G dX6_adds_1 2 rfl ?_
  refine sw_iload_n 2 G dX6_adds_2 3 rfl ?_
  refine sw_iload 3 G dX6_adds_3 4 rfl ?_
  refine sw_iload 5 G dX6_adds_5 5 rfl ?_
  obtain ⟨r1, hg, hf⟩ := bd1_some hf
  refine sw_callV 7 G (wX6 Θ m0 m1 m2 m3 m4 m5 m6 m7 m8 m9 m_now m_saved m_aside m_states m_quiet m_thrown m_tried m_best m_touching m_text m_length m_at m_verbs m_told m_commands) [0, 1, 2, 3, 4, 5, 6, 7, 8, 9] [] [0, 1, 2, 3, 4, 5, 6, 7, 8, 9] 4 dX6_adds_7 (kX6_isRectangle Θ m0 m1 m2 m3 m4 m5 m6 m7 m8 m9 m_now m_saved m_aside m_states m_quiet m_thrown m_tried m_best m_touching m_text m_length m_at m_verbs m_told m_commands a1 a2 a3 a4 r1 hg) (gwV lk_50ed241c lk_6afc1899 lk_cd7c9ccc lk_6d91b6d2 lk_b6064625) rfl hvX6_isRectangle ⟨rfl, rfl⟩ ⟨Nat.le_of_ble_eq_true rfl, Nat.le_of_ble_eq_true rfl⟩ ⟨Nat.zero_le _, Nat.zero_le _⟩ rfl rfl (Nat.le_of_ble_eq_true rfl) 0 rfl vc6 rfl rfl rfl rfl (by decide) ?_
  refine sw_if_ne 10 19 G dX6_adds_10 rfl hf (fun hf => ?_) (fun hf => ?_)
  · refine sw_aload_n 19 G dX6_adds_19 0 rfl ?_
    refine sw_get 20 G hnX6 0 0 dX6_adds_20 vc6 (by decide) (List.mem_cons_of_mem _ lk_54e63fd8) rfl rfl ?_
    refine sw_bipush 23 G (8 : Int32) dX6_adds_23 rfl ?_
    refine sw_lald 25 G 1 dX6_adds_25 rfl hf (fun hf => ?_)
    refine sw_ldc2 26 G (List.mem_cons_of_mem _ lk_79e965d4) dX6_adds_26 ?_
    refine sw_lcmp 29 G dX6_adds_29 ?_
    refine sw_if_ne 30 39 G dX6_adds_30 rfl hf (fun hf => ?_) (fun hf => ?_)
    · refine sw_aload_n 39 G dX6_adds_39 0 rfl ?_
      obtain ⟨u2, u3, hg, hf⟩ := bd2_some hf
      refine sw_callV 40 G (wX6 Θ m0 m1 m2 m3 m4 m5 m6 m7 m8 m9 m_now u2 m_aside u3 m_quiet m_thrown m_tried m_best m_touching m_text m_length m_at m_verbs m_told m_commands) [0, 1, 2, 3, 4, 5, 6, 7, 8, 9] [] [0, 1, 2, 3, 4, 5, 6, 7, 8, 9] 0 dX6_adds_40 (kX6_save Θ F m0 m1 m2 m3 m4 m5 m6 m7 m8 m9 m_now m_saved m_aside m_states m_quiet m_thrown m_tried m_best m_touching m_text m_length m_at m_verbs m_told m_commands u2 u3 hg) (gwV lk_fb398b8d lk_00110175 lk_41f35dad lk_6d91b6d2 lk_436b5259) rfl hvX6_save ⟨rfl, rfl⟩ ⟨Nat.le_of_ble_eq_true rfl, Nat.le_of_ble_eq_true rfl⟩ ⟨Nat.zero_le _, Nat.zero_le _⟩ rfl rfl (Nat.le_of_ble_eq_true rfl) 0 rfl vc6 rfl rfl rfl rfl (by decide) ?_
      refine sw_bipush 43 G (20 : Int32) dX6_adds_43 rfl ?_
      refine sw_bipush 45 G (6 : Int32) dX6_adds_45 rfl ?_
      refine sw_aload_n 47 G dX6_adds_47 0 rfl ?_
      refine sw_bipush 48 G (8 : Int32) dX6_adds_48 rfl ?_
      obtain ⟨r4, hg, hf⟩ := bd1_some hf
      refine sw_callV 50 G (wX6 Θ m0 m1 m2 m3 m4 m5 m6 m7 m8 m9 m_now u2 m_aside u3 m_quiet m_thrown m_tried m_best m_touching m_text m_length m_at m_verbs m_told m_commands) [0, 1, 2, 3, 4, 5, 6, 7, 8, 9] [] [0, 1, 2, 3, 4, 5, 6, 7, 8, 9] 1 dX6_adds_50 (kX6_many Θ m0 m1 m2 m3 m4 m5 m6 m7 m8 m9 m_now u2 m_aside u3 m_quiet m_thrown m_tried m_best m_touching m_text m_length m_at m_verbs m_told m_commands (8 : Int32) r4 hg) (gwV lk_184fe921 lk_d689724c lk_b095f72c lk_6d91b6d2 lk_d7f116ea) rfl hvX6_many ⟨rfl, rfl⟩ ⟨Nat.le_of_ble_eq_true rfl, Nat.le_of_ble_eq_true rfl⟩ ⟨Nat.zero_le _, Nat.zero_le _⟩ rfl rfl (Nat.le_of_ble_eq_true rfl) 0 rfl vc6 rfl rfl rfl rfl (by decide) ?_
      refine sw_imul 53 G dX6_adds_53 ?_
      refine sw_iadd 54 G dX6_adds_54 ?_
      refine sw_nmi hf (fun v5 hf => ?_)
      refine sw_istore 55 G [(6, .int v5), (0, .ref m0), (1, .int a0), (2, .int a1), (3, .int a2), (4, .int a3), (5, .int a4)] dX6_adds_55 (by decide) rfl ?_
      refine sw_aload_n 57 G dX6_adds_57 1 rfl ?_
      refine sw_get 58 G hnX6 0 0 dX6_adds_58 vc6 (by decide) (List.mem_cons_of_mem _ lk_54e63fd8) rfl rfl ?_
      refine sw_iload 61 G dX6_adds_61 0 rfl ?_
      refine sw_iconst 63 G (0 : Int32) dX6_adds_63 rfl ?_
      refine sw_iadd 64 G dX6_adds_64 ?_
      refine sw_nmi hf (fun v6 hf => ?_)
      refine sw_iload_n 65 G dX6_adds_65 2 rfl ?_
      refine sw_i2l 66 G dX6_adds_66 ?_
      refine sw_nml hf (fun v7 hf => ?_)
      refine sw_last 67 G 1 (wX6 Θ m0 m1 m2 m3 m4 m5 m6 m7 m8 m9 (vp_updL m_now v6.toNatClampNeg v7) u2 m_aside u3 m_quiet m_thrown m_tried m_best m_touching m_text m_length m_at m_verbs m_told m_commands) dX6_adds_67 rfl rfl hf (fun hf => ?_)
      refine sw_aload_n 68 G dX6_adds_68 1 rfl ?_
      refine sw_get 69 G hnX6 0 0 dX6_adds_69 vc6 (by decide) (List.mem_cons_of_mem _ lk_54e63fd8) rfl rfl ?_
      refine sw_iload 72 G dX6_adds_72 0 rfl ?_
      refine sw_iconst 74 G (1 : Int32) dX6_adds_74 rfl ?_
      refine sw_iadd 75 G dX6_adds_75 ?_
      refine sw_nmi hf (fun v8 hf => ?_)
      refine sw_iload_n 76 G dX6_adds_76 3 rfl ?_
      refine sw_i2l 77 G dX6_adds_77 ?_
      refine sw_nml hf (fun v9 hf => ?_)
      refine sw_last 78 G 1 (wX6 Θ m0 m1 m2 m3 m4 m5 m6 m7 m8 m9 (vp_updL (vp_updL m_now v6.toNatClampNeg v7) v8.toNatClampNeg v9) u2 m_aside u3 m_quiet m_thrown m_tried m_best m_touching m_text m_length m_at m_verbs m_told m_commands) dX6_adds_78 rfl rfl hf (fun hf => ?_)
      refine sw_aload_n 79 G dX6_adds_79 1 rfl ?_
      refine sw_get 80 G hnX6 0 0 dX6_adds_80 vc6 (by decide) (List.mem_cons_of_mem _ lk_54e63fd8) rfl rfl ?_
      refine sw_iload 83 G dX6_adds_83 0 rfl ?_
      refine sw_iconst 85 G (2 : Int32) dX6_adds_85 rfl ?_
      refine sw_iadd 86 G dX6_adds_86 ?_
      refine sw_nmi hf (fun v10 hf => ?_)
      refine sw_iload_n 87 G dX6_adds_87 4 rfl ?_
      refine sw_i2l 88 G dX6_adds_88 ?_
      refine sw_nml hf (fun v11 hf => ?_)
      refine sw_last 89 G 1 (wX6 Θ m0 m1 m2 m3 m4 m5 m6 m7 m8 m9 (vp_updL (vp_updL (vp_updL m_now v6.toNatClampNeg v7) v8.toNatClampNeg v9) v10.toNatClampNeg v11) u2 m_aside u3 m_quiet m_thrown m_tried m_best m_touching m_text m_length m_at m_verbs m_told m_commands) dX6_adds_89 rfl rfl hf (fun hf => ?_)
      refine sw_aload_n 90 G dX6_adds_90 1 rfl ?_
      refine sw_get 91 G hnX6 0 0 dX6_adds_91 vc6 (by decide) (List.mem_cons_of_mem _ lk_54e63fd8) rfl rfl ?_
      refine sw_iload 94 G dX6_adds_94 0 rfl ?_
      refine sw_iconst 96 G (3 : Int32) dX6_adds_96 rfl ?_
      refine sw_iadd 97 G dX6_adds_97 ?_
      refine sw_nmi hf (fun v12 hf => ?_)
      refine sw_iload 98 G dX6_adds_98 5 rfl ?_
      refine sw_i2l 100 G dX6_adds_100 ?_
      refine sw_nml hf (fun v13 hf => ?_)
      refine sw_last 101 G 1 (wX6 Θ m0 m1 m2 m3 m4 m5 m6 m7 m8 m9 (vp_updL (vp_updL (vp_updL (vp_updL m_now v6.toNatClampNeg v7) v8.toNatClampNeg v9) v10.toNatClampNeg v11) v12.toNatClampNeg v13) u2 m_aside u3 m_quiet m_thrown m_tried m_best m_touching m_text m_length m_at m_verbs m_told m_commands) dX6_adds_101 rfl rfl hf (fun hf => ?_)
      refine sw_aload_n 102 G dX6_adds_102 1 rfl ?_
      refine sw_get 103 G hnX6 0 0 dX6_adds_103 vc6 (by decide) (List.mem_cons_of_mem _ lk_54e63fd8) rfl rfl ?_
      refine sw_iload 106 G dX6_adds_106 0 rfl ?_
      refine sw_iconst 108 G (4 : Int32) dX6_adds_108 rfl ?_
      refine sw_iadd 109 G dX6_adds_109 ?_
      refine sw_nmi hf (fun v14 hf => ?_)
      refine sw_iload 110 G dX6_adds_110 6 rfl ?_
      refine sw_i2l 112 G dX6_adds_112 ?_
      refine sw_nml hf (fun v15 hf => ?_)
      refine sw_last 113 G 1 (wX6 Θ m0 m1 m2 m3 m4 m5 m6 m7 m8 m9 (vp_updL (vp_updL (vp_updL (vp_updL (vp_updL m_now v6.toNatClampNeg v7) v8.toNatClampNeg v9) v10.toNatClampNeg v11) v12.toNatClampNeg v13) v14.toNatClampNeg v15) u2 m_aside u3 m_quiet m_thrown m_tried m_best m_touching m_text m_length m_at m_verbs m_told m_commands) dX6_adds_113 rfl rfl hf (fun hf => ?_)
      refine sw_aload_n 114 G dX6_adds_114 1 rfl ?_
      refine sw_get 115 G hnX6 0 0 dX6_adds_115 vc6 (by decide) (List.mem_cons_of_mem _ lk_54e63fd8) rfl rfl ?_
      refine sw_iload 118 G dX6_adds_118 0 rfl ?_
      refine sw_iconst 120 G (5 : Int32) dX6_adds_120 rfl ?_
      refine sw_iadd 121 G dX6_adds_121 ?_
      refine sw_ldc2 122 G (List.mem_cons_of_mem _ lk_e81893dd) dX6_adds_122 ?_
      refine sw_last 125 G 1 (wX6 Θ m0 m1 m2 m3 m4 m5 m6 m7 m8 m9 (vp_updL (vp_updL (vp_updL (vp_updL (vp_updL (vp_updL m_now v6.toNatClampNeg v7) v8.toNatClampNeg v9) v10.toNatClampNeg v11) v12.toNatClampNeg v13) v14.toNatClampNeg v15) (v5 + (5 : Int32)).toNatClampNeg (-1 : Int64)) u2 m_aside u3 m_quiet m_thrown m_tried m_best m_touching m_text m_length m_at m_verbs m_told m_commands) dX6_adds_125 rfl rfl hf (fun hf => ?_)
      refine sw_aload_n 126 G dX6_adds_126 1 rfl ?_
      refine sw_get 127 G hnX6 0 0 dX6_adds_127 vc6 (by decide) (List.mem_cons_of_mem _ lk_54e63fd8) rfl rfl ?_
      refine sw_bipush 130 G (8 : Int32) dX6_adds_130 rfl ?_
      refine sw_dup2_11 132 G dX6_adds_132 rfl rfl ?_
      refine sw_lald 133 G 1 dX6_adds_133 rfl hf (fun hf => ?_)
      refine sw_lconst 134 G (1 : Int64) dX6_adds_134 rfl ?_
      refine sw_ladd 135 G dX6_adds_135 ?_
      refine sw_nml hf (fun v16 hf => ?_)
      refine sw_last 136 G 1 (wX6 Θ m0 m1 m2 m3 m4 m5 m6 m7 m8 m9 (vp_updL (vp_updL (vp_updL (vp_updL (vp_updL (vp_updL (vp_updL m_now v6.toNatClampNeg v7) v8.toNatClampNeg v9) v10.toNatClampNeg v11) v12.toNatClampNeg v13) v14.toNatClampNeg v15) (v5 + (5 : Int32)).toNatClampNeg (-1 : Int64)) (8 : Int32).toNatClampNeg v16) u2 m_aside u3 m_quiet m_thrown m_tried m_best m_touching m_text m_length m_at m_verbs m_told m_commands) dX6_adds_136 rfl rfl hf (fun hf => ?_)
      refine sw_aload_n 137 G dX6_adds_137 1 rfl ?_
      refine sw_bipush 138 G (8 : Int32) dX6_adds_138 rfl ?_
      obtain ⟨r17, hg, hf⟩ := bd1_some hf
      refine sw_callV 140 G (wX6 Θ m0 m1 m2 m3 m4 m5 m6 m7 m8 m9 (vp_updL (vp_updL (vp_updL (vp_updL (vp_updL (vp_updL (vp_updL m_now v6.toNatClampNeg v7) v8.toNatClampNeg v9) v10.toNatClampNeg v11) v12.toNatClampNeg v13) v14.toNatClampNeg v15) (v5 + (5 : Int32)).toNatClampNeg (-1 : Int64)) (8 : Int32).toNatClampNeg v16) u2 m_aside u3 m_quiet m_thrown m_tried m_best m_touching m_text m_length m_at m_verbs m_told m_commands) [0, 1, 2, 3, 4, 5, 6, 7, 8, 9] [] [0, 1, 2, 3, 4, 5, 6, 7, 8, 9] 1 dX6_adds_140 (kX6_many Θ m0 m1 m2 m3 m4 m5 m6 m7 m8 m9 (vp_updL (vp_updL (vp_updL (vp_updL (vp_updL (vp_updL (vp_updL m_now v6.toNatClampNeg v7) v8.toNatClampNeg v9) v10.toNatClampNeg v11) v12.toNatClampNeg v13) v14.toNatClampNeg v15) (v5 + (5 : Int32)).toNatClampNeg (-1 : Int64)) (8 : Int32).toNatClampNeg v16) u2 m_aside u3 m_quiet m_thrown m_tried m_best m_touching m_text m_length m_at m_verbs m_told m_commands (8 : Int32) r17 hg) (gwV lk_184fe921 lk_d689724c lk_b095f72c lk_6d91b6d2 lk_d7f116ea) rfl hvX6_many ⟨rfl, rfl⟩ ⟨Nat.le_of_ble_eq_true rfl, Nat.le_of_ble_eq_true rfl⟩ ⟨Nat.zero_le _, Nat.zero_le _⟩ rfl rfl (Nat.le_of_ble_eq_true rfl) 0 rfl vc6 rfl rfl rfl rfl (by decide) ?_
      refine sw_iconst 143 G (1 : Int32) dX6_adds_143 rfl ?_
      refine sw_isub 144 G dX6_adds_144 ?_
      cases hf
      exact sw_iret 145 G dX6_adds_145 K
    · refine sw_aload_n 33 G dX6_adds_33 0 rfl ?_
      refine sw_iconst 34 G (2 : Int32) dX6_adds_34 rfl ?_
      obtain ⟨r18, u19, hg, hf⟩ := bd2_some hf
      refine sw_callV 35 G (wX6 Θ m0 m1 m2 m3 m4 m5 m6 m7 m8 m9 m_now m_saved m_aside m_states m_quiet u19 m_tried m_best m_touching m_text m_length m_at m_verbs m_told m_commands) [0, 1, 2, 3, 4, 5, 6, 7, 8, 9] [] [0, 1, 2, 3, 4, 5, 6, 7, 8, 9] 1 dX6_adds_35 (kX6_fails Θ m0 m1 m2 m3 m4 m5 m6 m7 m8 m9 m_now m_saved m_aside m_states m_quiet m_thrown m_tried m_best m_touching m_text m_length m_at m_verbs m_told m_commands (2 : Int32) r18 u19 hg) (gwV lk_c7279fda lk_b9e66eaa lk_2152c894 lk_6d91b6d2 lk_f2d2a162) rfl hvX6_fails ⟨rfl, rfl⟩ ⟨Nat.le_of_ble_eq_true rfl, Nat.le_of_ble_eq_true rfl⟩ ⟨Nat.zero_le _, Nat.zero_le _⟩ rfl rfl (Nat.le_of_ble_eq_true rfl) 0 rfl vc6 rfl rfl rfl rfl (by decide) ?_
      cases hf
      exact sw_iret 38 G dX6_adds_38 K
  · refine sw_aload_n 13 G dX6_adds_13 0 rfl ?_
    refine sw_iconst 14 G (1 : Int32) dX6_adds_14 rfl ?_
    obtain ⟨r20, u21, hg, hf⟩ := bd2_some hf
    refine sw_callV 15 G (wX6 Θ m0 m1 m2 m3 m4 m5 m6 m7 m8 m9 m_now m_saved m_aside m_states m_quiet u21 m_tried m_best m_touching m_text m_length m_at m_verbs m_told m_commands) [0, 1, 2, 3, 4, 5, 6, 7, 8, 9] [] [0, 1, 2, 3, 4, 5, 6, 7, 8, 9] 1 dX6_adds_15 (kX6_fails Θ m0 m1 m2 m3 m4 m5 m6 m7 m8 m9 m_now m_saved m_aside m_states m_quiet m_thrown m_tried m_best m_touching m_text m_length m_at m_verbs m_told m_commands (1 : Int32) r20 u21 hg) (gwV lk_c7279fda lk_b9e66eaa lk_2152c894 lk_6d91b6d2 lk_f2d2a162) rfl hvX6_fails ⟨rfl, rfl⟩ ⟨Nat.le_of_ble_eq_true rfl, Nat.le_of_ble_eq_true rfl⟩ ⟨Nat.zero_le _, Nat.zero_le _⟩ rfl rfl (Nat.le_of_ble_eq_true rfl) 0 rfl vc6 rfl rfl rfl rfl (by decide) ?_
    cases hf
    exact sw_iret 18 G dX6_adds_18 K
abbrev rmX6_addPunch : Room := { frames := 3, cells := 0, slots := 0, locals := 72 }
theorem hvX6_addPunch : yX6_addPunch.cls = RX6 ∧ yX6_addPunch.cls ≠ "java/lang/invoke/MethodHandle" ∧ yX6_addPunch.cls ≠ "java/lang/invoke/VarHandle" ∧ (parseMethodDescriptor yX6_addPunch.desc).map (fun d => d.parameters.length) = some 4 := by decide +kernel
set_option maxRecDepth 100000 in
set_option maxHeartbeats 4000000 in
theorem kX6_addPunch (Θ : Tht) (F : Nat) (m0 m1 m2 m3 m4 m5 m6 m7 m8 m9 : Nat) (m_now : Nat → Int64) (m_saved : Nat → Int64) (m_aside : Nat → Int64) (m_states : Int32) (m_quiet : Int32) (m_thrown : Int32) (m_tried : Nat → Int32) (m_best : Nat → Int32) (m_touching : Nat → Int32) (m_text : Nat → Int32) (m_length : Int32) (m_at : Int32) (m_verbs : Nat → Int32) (m_told : Nat → Int32) (m_commands : Int32) (a0 : Int32) (a1 : Int32) (a2 : Int32) (a3 : Int32) (ro : Int32) (o_m_now : Nat → Int64) (o_m_saved : Nat → Int64) (o_m_states : Int32) (o_m_thrown : Int32) (hf : fX6_addPunch F m_now m_saved m_states m_quiet a0 a1 a2 a3 = some (ro, o_m_now, o_m_saved, o_m_states, o_m_thrown)) : Fn Θ yX6_addPunch (Cond.code yX6_addPunch cX6_addPunch 5 (some .int) :: GW) rmX6_addPunch [.ref m0, .int a0, .int a1, .int a2, .int a3] (wX6 Θ m0 m1 m2 m3 m4 m5 m6 m7 m8 m9 m_now m_saved m_aside m_states m_quiet m_thrown m_tried m_best m_touching m_text m_length m_at m_verbs m_told m_commands) (some (.int ro)) (wX6 Θ m0 m1 m2 m3 m4 m5 m6 m7 m8 m9 o_m_now o_m_saved m_aside o_m_states m_quiet o_m_thrown m_tried m_best m_touching m_text m_length m_at m_verbs m_told m_commands) := by
  delta fX6_addPunch at hf
  refine Fn.of (by decide +kernel) rfl (Nat.le_of_ble_eq_true rfl) (fun p e s m args below meth c A Q G K => ?_)
  show sw Θ p e rmX6_addPunch s m args below meth c A Q 5 0 0 0 [(0, .ref m0), (1, .int a0), (2, .int a1), (3, .int a2), (4, .int a3)] [] (wX6 Θ m0 m1 m2 m3 m4 m5 m6 m7 m8 m9 m_now m_saved m_aside m_states m_quiet m_thrown m_tried m_best m_touching m_text m_length m_at m_verbs m_told m_commands)
  refine sw_aload_n 0 G dX6_addPunch_0 0 rfl ?_
  refine sw_iconst 1 G (0 : Int32) dX6_addPunch_1 rfl ?_
  refine sw_put 2 G hnX6 tyX6_ok nmX6 0 5 (wX6 Θ m0 m1 m2 m3 m4 m5 m6 m7 m8 m9 m_now m_saved m_aside m_states m_quiet (0 : Int32) m_tried m_best m_touching m_text m_length m_at m_verbs m_told m_commands) dX6_addPunch_2 vc6 (by decide) (List.mem_cons_of_mem _ lk_fb3e5753) rfl rfl (Nat.le_of_ble_eq_true rfl) (tyX6_ok 5 (by decide)) rfl rfl rfl ?_
  refine sw_aload_n 5 G dX6_addPunch_5 0 rfl ?_
  refine sw_iconst 6 G (0 : Int32) dX6_addPunch_6 rfl ?_
  refine sw_iload_n 7 G dX6_addPunch_7 1 rfl ?_
  refine sw_iload_n 8 G dX6_addPunch_8 2 rfl ?_
  refine sw_iload_n 9 G dX6_addPunch_9 3 rfl ?_
  refine sw_iload 10 G dX6_addPunch_10 4 rfl ?_
  obtain ⟨r1, u2, u3, u4, u5, hg, hf⟩ := bd5_some hf
  refine sw_callV 12 G (wX6 Θ m0 m1 m2 m3 m4 m5 m6 m7 m8 m9 u2 u3 m_aside u4 m_quiet u5 m_tried m_best m_touching m_text m_length m_at m_verbs m_told m_commands) [0, 1, 2, 3, 4, 5, 6, 7, 8, 9] [] [0, 1, 2, 3, 4, 5, 6, 7, 8, 9] 5 dX6_addPunch_12 (kX6_adds Θ F m0 m1 m2 m3 m4 m5 m6 m7 m8 m9 m_now m_saved m_aside m_states m_quiet (0 : Int32) m_tried m_best m_touching m_text m_length m_at m_verbs m_told m_commands (0 : Int32) a0 a1 a2 a3 r1 u2 u3 u4 u5 hg) (gwV lk_21964579 lk_20045587 lk_05032e92 lk_6d91b6d2 lk_ab375171) rfl hvX6_adds ⟨rfl, rfl⟩ ⟨Nat.le_of_ble_eq_true rfl, Nat.le_of_ble_eq_true rfl⟩ ⟨Nat.zero_le _, Nat.zero_le _⟩ rfl rfl (Nat.le_of_ble_eq_true rfl) 0 rfl vc6 rfl rfl rfl rfl (by decide) ?_
  cases hf
  exact sw_iret 15 G dX6_addPunch_15 K
abbrev rmX6_addBend : Room := { frames := 3, cells := 0, slots := 0, locals := 72 }
theorem hvX6_addBend : yX6_addBend.cls = RX6 ∧ yX6_addBend.cls ≠ "java/lang/invoke/MethodHandle" ∧ yX6_addBend.cls ≠ "java/lang/invoke/VarHandle" ∧ (parseMethodDescriptor yX6_addBend.desc).map (fun d => d.parameters.length) = some 3 := by decide +kernel
set_option maxRecDepth 100000 in
set_option maxHeartbeats 4000000 in
theorem kX6_addBend (Θ : Tht) (F : Nat) (m0 m1 m2 m3 m4 m5 m6 m7 m8 m9 : Nat) (m_now : Nat → Int64) (m_saved : Nat → Int64) (m_aside : Nat → Int64) (m_states : Int32) (m_quiet : Int32) (m_thrown : Int32) (m_tried : Nat → Int32) (m_best : Nat → Int32) (m_touching : Nat → Int32) (m_text : Nat → Int32) (m_length : Int32) (m_at : Int32) (m_verbs : Nat → Int32) (m_told : Nat → Int32) (m_commands : Int32) (a0 : Int32) (a1 : Int32) (a2 : Int32) (ro : Int32) (o_m_now : Nat → Int64) (o_m_saved : Nat → Int64) (o_m_states : Int32) (o_m_thrown : Int32) (hf : fX6_addBend F m_now m_saved m_states m_quiet a0 a1 a2 = some (ro, o_m_now, o_m_saved, o_m_states, o_m_thrown)) : Fn Θ yX6_addBend (Cond.code yX6_addBend cX6_addBend 4 (some .int) :: GW) rmX6_addBend [.ref m0, .int a0, .int a1, .int a2] (wX6 Θ m0 m1 m2 m3 m4 m5 m6 m7 m8 m9 m_now m_saved m_aside m_states m_quiet m_thrown m_tried m_best m_touching m_text m_length m_at m_verbs m_told m_commands) (some (.int ro)) (wX6 Θ m0 m1 m2 m3 m4 m5 m6 m7 m8 m9 o_m_now o_m_saved m_aside o_m_states m_quiet o_m_thrown m_tried m_best m_touching m_text m_length m_at m_verbs m_told m_commands) := by
  delta fX6_addBend at hf
  refine Fn.of (by decide +kernel) rfl (Nat.le_of_ble_eq_true rfl) (fun p e s m args below meth c A Q G K => ?_)
  show sw Θ p e rmX6_addBend s m args below meth c A Q 4 0 0 0 [(0, .ref m0), (1, .int a0), (2, .int a1), (3, .int a2)] [] (wX6 Θ m0 m1 m2 m3 m4 m5 m6 m7 m8 m9 m_now m_saved m_aside m_states m_quiet m_thrown m_tried m_best m_touching m_text m_length m_at m_verbs m_told m_commands)
  refine sw_aload_n 0 G dX6_addBend_0 0 rfl ?_
  refine sw_iconst 1 G (0 : Int32) dX6_addBend_1 rfl ?_
  refine sw_put 2 G hnX6 tyX6_ok nmX6 0 5 (wX6 Θ m0 m1 m2 m3 m4 m5 m6 m7 m8 m9 m_now m_saved m_aside m_states m_quiet (0 : Int32) m_tried m_best m_touching m_text m_length m_at m_verbs m_told m_commands) dX6_addBend_2 vc6 (by decide) (List.mem_cons_of_mem _ lk_fb3e5753) rfl rfl (Nat.le_of_ble_eq_true rfl) (tyX6_ok 5 (by decide)) rfl rfl rfl ?_
  refine sw_aload_n 5 G dX6_addBend_5 0 rfl ?_
  refine sw_iconst 6 G (1 : Int32) dX6_addBend_6 rfl ?_
  refine sw_iload_n 7 G dX6_addBend_7 1 rfl ?_
  refine sw_iload_n 8 G dX6_addBend_8 2 rfl ?_
  refine sw_iload_n 9 G dX6_addBend_9 3 rfl ?_
  refine sw_iconst 10 G (1 : Int32) dX6_addBend_10 rfl ?_
  obtain ⟨r1, u2, u3, u4, u5, hg, hf⟩ := bd5_some hf
  refine sw_callV 11 G (wX6 Θ m0 m1 m2 m3 m4 m5 m6 m7 m8 m9 u2 u3 m_aside u4 m_quiet u5 m_tried m_best m_touching m_text m_length m_at m_verbs m_told m_commands) [0, 1, 2, 3, 4, 5, 6, 7, 8, 9] [] [0, 1, 2, 3, 4, 5, 6, 7, 8, 9] 5 dX6_addBend_11 (kX6_adds Θ F m0 m1 m2 m3 m4 m5 m6 m7 m8 m9 m_now m_saved m_aside m_states m_quiet (0 : Int32) m_tried m_best m_touching m_text m_length m_at m_verbs m_told m_commands (1 : Int32) a0 a1 a2 (1 : Int32) r1 u2 u3 u4 u5 hg) (gwV lk_21964579 lk_20045587 lk_05032e92 lk_6d91b6d2 lk_ab375171) rfl hvX6_adds ⟨rfl, rfl⟩ ⟨Nat.le_of_ble_eq_true rfl, Nat.le_of_ble_eq_true rfl⟩ ⟨Nat.zero_le _, Nat.zero_le _⟩ rfl rfl (Nat.le_of_ble_eq_true rfl) 0 rfl vc6 rfl rfl rfl rfl (by decide) ?_
  cases hf
  exact sw_iret 14 G dX6_addBend_14 K
abbrev rmX6_dropOperation : Room := { frames := 2, cells := 0, slots := 0, locals := 43 }
theorem hvX6_dropOperation : yX6_dropOperation.cls = RX6 ∧ yX6_dropOperation.cls ≠ "java/lang/invoke/MethodHandle" ∧ yX6_dropOperation.cls ≠ "java/lang/invoke/VarHandle" ∧ (parseMethodDescriptor yX6_dropOperation.desc).map (fun d => d.parameters.length) = some 1 := by decide +kernel
set_option maxRecDepth 100000 in
set_option maxHeartbeats 4000000 in
theorem kX6_dropOperation (Θ : Tht) (F : Nat) (m0 m1 m2 m3 m4 m5 m6 m7 m8 m9 : Nat) (m_now : Nat → Int64) (m_saved : Nat → Int64) (m_aside : Nat → Int64) (m_states : Int32) (m_quiet : Int32) (m_thrown : Int32) (m_tried : Nat → Int32) (m_best : Nat → Int32) (m_touching : Nat → Int32) (m_text : Nat → Int32) (m_length : Int32) (m_at : Int32) (m_verbs : Nat → Int32) (m_told : Nat → Int32) (m_commands : Int32) (a0 : Int32) (ro : Int32) (o_m_now : Nat → Int64) (o_m_saved : Nat → Int64) (o_m_states : Int32) (o_m_thrown : Int32) (hf : fX6_dropOperation F m_now m_saved m_states m_quiet a0 = some (ro, o_m_now, o_m_saved, o_m_states, o_m_thrown)) : Fn Θ yX6_dropOperation (Cond.code yX6_dropOperation cX6_dropOperation 7 (some .int) :: GW) rmX6_dropOperation [.ref m0, .int a0] (wX6 Θ m0 m1 m2 m3 m4 m5 m6 m7 m8 m9 m_now m_saved m_aside m_states m_quiet m_thrown m_tried m_best m_touching m_text m_length m_at m_verbs m_told m_commands) (some (.int ro)) (wX6 Θ m0 m1 m2 m3 m4 m5 m6 m7 m8 m9 o_m_now o_m_saved m_aside o_m_states m_quiet o_m_thrown m_tried m_best m_touching m_text m_length m_at m_verbs m_told m_commands) := by
  delta fX6_dropOperation at hf
  refine Fn.of (by decide +kernel) rfl (Nat.le_of_ble_eq_true rfl) (fun p e s m args below meth c A Q G K => ?_)
  show sw Θ p e rmX6_dropOperation s m args below meth c A Q 7 0 0 0 [(0, .ref m0), (1, .int a0)] [] (wX6 Θ m0 m1 m2 m3 m4 m5 m6 m7 m8 m9 m_now m_saved m_aside m_states m_quiet m_thrown m_tried m_best m_touching m_text m_length m_at m_verbs m_told m_commands)
  refine sw_aload_n 0 G dX6_dropOperation_0 0 rfl ?_
  refine sw_iconst 1 G (0 : Int32) dX6_dropOperation_1 rfl ?_
  refine sw_put 2 G hnX6 tyX6_ok nmX6 0 5 (wX6 Θ m0 m1 m2 m3 m4 m5 m6 m7 m8 m9 m_now m_saved m_aside m_states m_quiet (0 : Int32) m_tried m_best m_touching m_text m_length m_at m_verbs m_told m_commands) dX6_dropOperation_2 vc6 (by decide) (List.mem_cons_of_mem _ lk_fb3e5753) rfl rfl (Nat.le_of_ble_eq_true rfl) (tyX6_ok 5 (by decide)) rfl rfl rfl ?_
  refine sw_aload_n 5 G dX6_dropOperation_5 0 rfl ?_
  refine sw_iload_n 6 G dX6_dropOperation_6 1 rfl ?_
  obtain ⟨r1, hg, hf⟩ := bd1_some hf
  refine sw_callV 7 G (wX6 Θ m0 m1 m2 m3 m4 m5 m6 m7 m8 m9 m_now m_saved m_aside m_states m_quiet (0 : Int32) m_tried m_best m_touching m_text m_length m_at m_verbs m_told m_commands) [0, 1, 2, 3, 4, 5, 6, 7, 8, 9] [] [0, 1, 2, 3, 4, 5, 6, 7, 8, 9] 1 dX6_dropOperation_7 (kX6_isOp Θ m0 m1 m2 m3 m4 m5 m6 m7 m8 m9 m_now m_saved m_aside m_states m_quiet (0 : Int32) m_tried m_best m_touching m_text m_length m_at m_verbs m_told m_commands a0 r1 hg) (gwV lk_5d9a90b0 lk_9ff6988e lk_64f05732 lk_6d91b6d2 lk_a01bf882) rfl hvX6_isOp ⟨rfl, rfl⟩ ⟨Nat.le_of_ble_eq_true rfl, Nat.le_of_ble_eq_true rfl⟩ ⟨Nat.zero_le _, Nat.zero_le _⟩ rfl rfl (Nat.le_of_ble_eq_true rfl) 0 rfl vc6 rfl rfl rfl rfl (by decide) ?_
  refine sw_if_ne 10 19 G dX6_dropOperation_10 rfl hf (fun hf => ?_) (fun hf => ?_)
  · refine sw_aload_n 19 G dX6_dropOperation_19 0 rfl ?_
    obtain ⟨u2, u3, hg, hf⟩ := bd2_some hf
    refine sw_callV 20 G (wX6 Θ m0 m1 m2 m3 m4 m5 m6 m7 m8 m9 m_now u2 m_aside u3 m_quiet (0 : Int32) m_tried m_best m_touching m_text m_length m_at m_verbs m_told m_commands) [0, 1, 2, 3, 4, 5, 6, 7, 8, 9] [] [0, 1, 2, 3, 4, 5, 6, 7, 8, 9] 0 dX6_dropOperation_20 (kX6_save Θ F m0 m1 m2 m3 m4 m5 m6 m7 m8 m9 m_now m_saved m_aside m_states m_quiet (0 : Int32) m_tried m_best m_touching m_text m_length m_at m_verbs m_told m_commands u2 u3 hg) (gwV lk_fb398b8d lk_00110175 lk_41f35dad lk_6d91b6d2 lk_436b5259) rfl hvX6_save ⟨rfl, rfl⟩ ⟨Nat.le_of_ble_eq_true rfl, Nat.le_of_ble_eq_true rfl⟩ ⟨Nat.zero_le _, Nat.zero_le _⟩ rfl rfl (Nat.le_of_ble_eq_true rfl) 0 rfl vc6 rfl rfl rfl rfl (by decide) ?_
    refine sw_bipush 23 G (20 : Int32) dX6_dropOperation_23 rfl ?_
    refine sw_bipush 25 G (6 : Int32) dX6_dropOperation_25 rfl ?_
    refine sw_iload_n 27 G dX6_dropOperation_27 1 rfl ?_
    refine sw_imul 28 G dX6_dropOperation_28 ?_
    refine sw_iadd 29 G dX6_dropOperation_29 ?_
    refine sw_nmi hf (fun v4 hf => ?_)
    refine sw_istore_n 30 G [(2, .int v4), (0, .ref m0), (1, .int a0)] dX6_dropOperation_30 (by decide) rfl ?_
    obtain ⟨v5, hl, hf⟩ := bd1_some hf
    have hx31_58 : sw Θ p e rmX6_dropOperation s m args below meth c A Q 7 0 0 58 [(0, .ref m0), (1, .int a0)] [] (wX6 Θ m0 m1 m2 m3 m4 m5 m6 m7 m8 m9 v5 u2 m_aside u3 m_quiet (0 : Int32) m_tried m_best m_touching m_text m_length m_at m_verbs m_told m_commands) := by
      refine sw_iconst 58 G (0 : Int32) dX6_dropOperation_58 rfl ?_
      refine sw_istore_n 59 G [(2, .int (0 : Int32)), (0, .ref m0), (1, .int a0)] dX6_dropOperation_59 (by decide) rfl ?_
      obtain ⟨v6, hl, hf⟩ := bd1_some hf
      have hx60_111 : sw Θ p e rmX6_dropOperation s m args below meth c A Q 7 0 0 111 [(0, .ref m0)] [] (wX6 Θ m0 m1 m2 m3 m4 m5 m6 m7 m8 m9 v6 u2 m_aside u3 m_quiet (0 : Int32) m_tried m_best m_touching m_text m_length m_at m_verbs m_told m_commands) := by
        refine sw_aload_n 111 G dX6_dropOperation_111 0 rfl ?_
        refine sw_get 112 G hnX6 0 0 dX6_dropOperation_112 vc6 (by decide) (List.mem_cons_of_mem _ lk_54e63fd8) rfl rfl ?_
        refine sw_bipush 115 G (8 : Int32) dX6_dropOperation_115 rfl ?_
        refine sw_dup2_11 117 G dX6_dropOperation_117 rfl rfl ?_
        refine sw_lald 118 G 1 dX6_dropOperation_118 rfl hf (fun hf => ?_)
        refine sw_lconst 119 G (1 : Int64) dX6_dropOperation_119 rfl ?_
        refine sw_lsub 120 G dX6_dropOperation_120 ?_
        refine sw_nml hf (fun v7 hf => ?_)
        refine sw_last 121 G 1 (wX6 Θ m0 m1 m2 m3 m4 m5 m6 m7 m8 m9 (vp_updL v6 (8 : Int32).toNatClampNeg v7) u2 m_aside u3 m_quiet (0 : Int32) m_tried m_best m_touching m_text m_length m_at m_verbs m_told m_commands) dX6_dropOperation_121 rfl rfl hf (fun hf => ?_)
        refine sw_aload_n 122 G dX6_dropOperation_122 0 rfl ?_
        refine sw_bipush 123 G (8 : Int32) dX6_dropOperation_123 rfl ?_
        obtain ⟨r8, hg, hf⟩ := bd1_some hf
        refine sw_callV 125 G (wX6 Θ m0 m1 m2 m3 m4 m5 m6 m7 m8 m9 (vp_updL v6 (8 : Int32).toNatClampNeg v7) u2 m_aside u3 m_quiet (0 : Int32) m_tried m_best m_touching m_text m_length m_at m_verbs m_told m_commands) [0, 1, 2, 3, 4, 5, 6, 7, 8, 9] [] [0, 1, 2, 3, 4, 5, 6, 7, 8, 9] 1 dX6_dropOperation_125 (kX6_many Θ m0 m1 m2 m3 m4 m5 m6 m7 m8 m9 (vp_updL v6 (8 : Int32).toNatClampNeg v7) u2 m_aside u3 m_quiet (0 : Int32) m_tried m_best m_touching m_text m_length m_at m_verbs m_told m_commands (8 : Int32) r8 hg) (gwV lk_184fe921 lk_d689724c lk_b095f72c lk_6d91b6d2 lk_d7f116ea) rfl hvX6_many ⟨rfl, rfl⟩ ⟨Nat.le_of_ble_eq_true rfl, Nat.le_of_ble_eq_true rfl⟩ ⟨Nat.zero_le _, Nat.zero_le _⟩ rfl rfl (Nat.le_of_ble_eq_true rfl) 0 rfl vc6 rfl rfl rfl rfl (by decide) ?_
        cases hf
        exact sw_iret 128 G dX6_dropOperation_128 K
      refine sw_lv [(0, .ref m0), (1, .int a0), (2, .int (0 : Int32))] [1, 2, 0] rfl ?_
      refine lp_walk (P := fun (t : Int32 × (Nat → Int64)) => sw Θ p e rmX6_dropOperation s m args below meth c A Q 7 0 0 60 [(0, .ref m0), (1, .int a0), (2, .int t.1)] [] (wX6 Θ m0 m1 m2 m3 m4 m5 m6 m7 m8 m9 t.2 u2 m_aside u3 m_quiet (0 : Int32) m_tried m_best m_touching m_text m_length m_at m_verbs m_told m_commands)) hl (fun t60 y60 hf hin60 hex60 => ?_)
      obtain ⟨v9, v10⟩ := t60
      show sw Θ p e rmX6_dropOperation s m args below meth c A Q 7 0 0 60 [(0, .ref m0), (1, .int a0), (2, .int v9)] [] (wX6 Θ m0 m1 m2 m3 m4 m5 m6 m7 m8 m9 v10 u2 m_aside u3 m_quiet (0 : Int32) m_tried m_best m_touching m_text m_length m_at m_verbs m_told m_commands)
      have hf := uc2_some (K := _) hf
      refine sw_iload_n 60 G dX6_dropOperation_60 2 rfl ?_
      refine sw_bipush 61 G (8 : Int32) dX6_dropOperation_61 rfl ?_
      refine sw_icmp_ge 63 111 G dX6_dropOperation_63 rfl hf (fun hf => ?_) (fun hf => ?_)
      · cases hf
        cases hex60 _ rfl
        exact sw_lv _ [0] rfl hx60_111
      · refine sw_aload_n 66 G dX6_dropOperation_66 0 rfl ?_
        refine sw_iload_n 67 G dX6_dropOperation_67 2 rfl ?_
        refine sw_iconst 68 G (2 : Int32) dX6_dropOperation_68 rfl ?_
        obtain ⟨r11, hg, hf⟩ := bd1_some hf
        refine sw_callV 69 G (wX6 Θ m0 m1 m2 m3 m4 m5 m6 m7 m8 m9 v10 u2 m_aside u3 m_quiet (0 : Int32) m_tried m_best m_touching m_text m_length m_at m_verbs m_told m_commands) [0, 1, 2, 3, 4, 5, 6, 7, 8, 9] [] [0, 1, 2, 3, 4, 5, 6, 7, 8, 9] 2 dX6_dropOperation_69 (kX6_ofPitch Θ m0 m1 m2 m3 m4 m5 m6 m7 m8 m9 v10 u2 m_aside u3 m_quiet (0 : Int32) m_tried m_best m_touching m_text m_length m_at m_verbs m_told m_commands v9 (2 : Int32) r11 hg) (gwV lk_a40543c5 lk_e7c4f238 lk_d53ce5a7 lk_6d91b6d2 lk_df8fdb45) rfl hvX6_ofPitch ⟨rfl, rfl⟩ ⟨Nat.le_of_ble_eq_true rfl, Nat.le_of_ble_eq_true rfl⟩ ⟨Nat.zero_le _, Nat.zero_le _⟩ rfl rfl (Nat.le_of_ble_eq_true rfl) 0 rfl vc6 rfl rfl rfl rfl (by decide) ?_
        refine sw_lstore_n 72 G [(3, .long r11), (0, .ref m0), (1, .int a0), (2, .int v9)] dX6_dropOperation_72 (by decide) rfl ?_
        refine sw_lload_n 73 G dX6_dropOperation_73 0 rfl ?_
        refine sw_lconst 74 G (1 : Int64) dX6_dropOperation_74 rfl ?_
        refine sw_iload_n 75 G dX6_dropOperation_75 2 rfl ?_
        refine sw_lshl 76 G dX6_dropOperation_76 ?_
        refine sw_lconst 77 G (1 : Int64) dX6_dropOperation_77 rfl ?_
        refine sw_lsub 78 G dX6_dropOperation_78 ?_
        refine sw_land 79 G dX6_dropOperation_79 ?_
        refine sw_nml hf (fun v12 hf => ?_)
        refine sw_lstore 80 G [(5, .long v12), (3, .long r11), (0, .ref m0), (1, .int a0), (2, .int v9)] dX6_dropOperation_80 (by decide) rfl ?_
        refine sw_aload_n 82 G dX6_dropOperation_82 2 rfl ?_
        refine sw_get 83 G hnX6 0 0 dX6_dropOperation_83 vc6 (by decide) (List.mem_cons_of_mem _ lk_54e63fd8) rfl rfl ?_
        refine sw_bipush 86 G (60 : Int32) dX6_dropOperation_86 rfl ?_
        refine sw_iconst 88 G (5 : Int32) dX6_dropOperation_88 rfl ?_
        refine sw_iload_n 89 G dX6_dropOperation_89 4 rfl ?_
        refine sw_imul 90 G dX6_dropOperation_90 ?_
        refine sw_iadd 91 G dX6_dropOperation_91 ?_
        refine sw_iconst 92 G (2 : Int32) dX6_dropOperation_92 rfl ?_
        refine sw_iadd 93 G dX6_dropOperation_93 ?_
        refine sw_nmi hf (fun v13 hf => ?_)
        refine sw_lload 94 G dX6_dropOperation_94 0 rfl ?_
        refine sw_lload_n 96 G dX6_dropOperation_96 1 rfl ?_
        refine sw_iload_n 97 G dX6_dropOperation_97 3 rfl ?_
        refine sw_iconst 98 G (1 : Int32) dX6_dropOperation_98 rfl ?_
        refine sw_iadd 99 G dX6_dropOperation_99 ?_
        refine sw_lshr 100 G dX6_dropOperation_100 ?_
        refine sw_iload_n 101 G dX6_dropOperation_101 3 rfl ?_
        refine sw_lshl 102 G dX6_dropOperation_102 ?_
        refine sw_lor 103 G dX6_dropOperation_103 ?_
        refine sw_nml hf (fun v14 hf => ?_)
        refine sw_last 104 G 1 (wX6 Θ m0 m1 m2 m3 m4 m5 m6 m7 m8 m9 (vp_updL v10 v13.toNatClampNeg v14) u2 m_aside u3 m_quiet (0 : Int32) m_tried m_best m_touching m_text m_length m_at m_verbs m_told m_commands) dX6_dropOperation_104 rfl rfl hf (fun hf => ?_)
        refine sw_iinc 105 G (v9 + (1 : Int32)) [(2, .int (v9 + (1 : Int32))), (5, .long v12), (3, .long r11), (0, .ref m0), (1, .int a0)] dX6_dropOperation_105 4 rfl rfl (by decide) rfl ?_
        refine sw_goto 108 G 60 dX6_dropOperation_108 rfl ?_
        cases hf
        have hb := hin60 _ rfl
        exact sw_lv _ [3, 4, 0] (by rfl) hb
    refine sw_lv [(0, .ref m0), (1, .int a0), (2, .int v4)] [1, 2, 0] rfl ?_
    refine lp_walk (P := fun (t : Int32 × (Nat → Int64)) => sw Θ p e rmX6_dropOperation s m args below meth c A Q 7 0 0 31 [(0, .ref m0), (1, .int a0), (2, .int t.1)] [] (wX6 Θ m0 m1 m2 m3 m4 m5 m6 m7 m8 m9 t.2 u2 m_aside u3 m_quiet (0 : Int32) m_tried m_best m_touching m_text m_length m_at m_verbs m_told m_commands)) hl (fun t31 y31 hf hin31 hex31 => ?_)
    obtain ⟨v15, v16⟩ := t31
    show sw Θ p e rmX6_dropOperation s m args below meth c A Q 7 0 0 31 [(0, .ref m0), (1, .int a0), (2, .int v15)] [] (wX6 Θ m0 m1 m2 m3 m4 m5 m6 m7 m8 m9 v16 u2 m_aside u3 m_quiet (0 : Int32) m_tried m_best m_touching m_text m_length m_at m_verbs m_told m_commands)
    have hf := uc2_some (K := _) hf
    refine sw_iload_n 31 G dX6_dropOperation_31 2 rfl ?_
    refine sw_bipush 32 G (50 : Int32) dX6_dropOperation_32 rfl ?_
    refine sw_icmp_ge 34 58 G dX6_dropOperation_34 rfl hf (fun hf => ?_) (fun hf => ?_)
    · cases hf
      cases hex31 _ rfl
      exact sw_lv _ [0, 1] rfl hx31_58
    · refine sw_aload_n 37 G dX6_dropOperation_37 0 rfl ?_
      refine sw_get 38 G hnX6 0 0 dX6_dropOperation_38 vc6 (by decide) (List.mem_cons_of_mem _ lk_54e63fd8) rfl rfl ?_
      refine sw_iload_n 41 G dX6_dropOperation_41 2 rfl ?_
      refine sw_aload_n 42 G dX6_dropOperation_42 0 rfl ?_
      refine sw_get 43 G hnX6 0 0 dX6_dropOperation_43 vc6 (by decide) (List.mem_cons_of_mem _ lk_54e63fd8) rfl rfl ?_
      refine sw_iload_n 46 G dX6_dropOperation_46 2 rfl ?_
      refine sw_bipush 47 G (6 : Int32) dX6_dropOperation_47 rfl ?_
      refine sw_iadd 49 G dX6_dropOperation_49 ?_
      refine sw_nmi hf (fun v17 hf => ?_)
      refine sw_lald 50 G 1 dX6_dropOperation_50 rfl hf (fun hf => ?_)
      refine sw_nml hf (fun v18 hf => ?_)
      refine sw_last 51 G 1 (wX6 Θ m0 m1 m2 m3 m4 m5 m6 m7 m8 m9 (vp_updL v16 v15.toNatClampNeg v18) u2 m_aside u3 m_quiet (0 : Int32) m_tried m_best m_touching m_text m_length m_at m_verbs m_told m_commands) dX6_dropOperation_51 rfl rfl hf (fun hf => ?_)
      refine sw_iinc 52 G (v15 + (1 : Int32)) [(2, .int (v15 + (1 : Int32))), (0, .ref m0), (1, .int a0)] dX6_dropOperation_52 2 rfl rfl (by decide) rfl ?_
      refine sw_goto 55 G 31 dX6_dropOperation_55 rfl ?_
      cases hf
      have hb := hin31 _ rfl
      exact sw_lv _ [1, 2, 0] (by rfl) hb
  · refine sw_aload_n 13 G dX6_dropOperation_13 0 rfl ?_
    refine sw_iconst 14 G (1 : Int32) dX6_dropOperation_14 rfl ?_
    obtain ⟨r19, u20, hg, hf⟩ := bd2_some hf
    refine sw_callV 15 G (wX6 Θ m0 m1 m2 m3 m4 m5 m6 m7 m8 m9 m_now m_saved m_aside m_states m_quiet u20 m_tried m_best m_touching m_text m_length m_at m_verbs m_told m_commands) [0, 1, 2, 3, 4, 5, 6, 7, 8, 9] [] [0, 1, 2, 3, 4, 5, 6, 7, 8, 9] 1 dX6_dropOperation_15 (kX6_fails Θ m0 m1 m2 m3 m4 m5 m6 m7 m8 m9 m_now m_saved m_aside m_states m_quiet (0 : Int32) m_tried m_best m_touching m_text m_length m_at m_verbs m_told m_commands (1 : Int32) r19 u20 hg) (gwV lk_c7279fda lk_b9e66eaa lk_2152c894 lk_6d91b6d2 lk_f2d2a162) rfl hvX6_fails ⟨rfl, rfl⟩ ⟨Nat.le_of_ble_eq_true rfl, Nat.le_of_ble_eq_true rfl⟩ ⟨Nat.zero_le _, Nat.zero_le _⟩ rfl rfl (Nat.le_of_ble_eq_true rfl) 0 rfl vc6 rfl rfl rfl rfl (by decide) ?_
    cases hf
    exact sw_iret 18 G dX6_dropOperation_18 K
abbrev rmX6_force : Room := { frames := 1, cells := 0, slots := 0, locals := 22 }
theorem hvX6_force : yX6_force.cls = RX6 ∧ yX6_force.cls ≠ "java/lang/invoke/MethodHandle" ∧ yX6_force.cls ≠ "java/lang/invoke/VarHandle" ∧ (parseMethodDescriptor yX6_force.desc).map (fun d => d.parameters.length) = some 1 := by decide +kernel
set_option maxRecDepth 100000 in
set_option maxHeartbeats 4000000 in
theorem kX6_force (Θ : Tht) (m0 m1 m2 m3 m4 m5 m6 m7 m8 m9 : Nat) (m_now : Nat → Int64) (m_saved : Nat → Int64) (m_aside : Nat → Int64) (m_states : Int32) (m_quiet : Int32) (m_thrown : Int32) (m_tried : Nat → Int32) (m_best : Nat → Int32) (m_touching : Nat → Int32) (m_text : Nat → Int32) (m_length : Int32) (m_at : Int32) (m_verbs : Nat → Int32) (m_told : Nat → Int32) (m_commands : Int32) (a0 : Int32) (ro : Int32) (hf : fX6_force m_now a0 = some ro) : Fn Θ yX6_force (Cond.code yX6_force cX6_force 2 (some .int) :: GW) rmX6_force [.ref m0, .int a0] (wX6 Θ m0 m1 m2 m3 m4 m5 m6 m7 m8 m9 m_now m_saved m_aside m_states m_quiet m_thrown m_tried m_best m_touching m_text m_length m_at m_verbs m_told m_commands) (some (.int ro)) (wX6 Θ m0 m1 m2 m3 m4 m5 m6 m7 m8 m9 m_now m_saved m_aside m_states m_quiet m_thrown m_tried m_best m_touching m_text m_length m_at m_verbs m_told m_commands) := by
  delta fX6_force at hf
  refine Fn.of (by decide +kernel) rfl (Nat.le_of_ble_eq_true rfl) (fun p e s m args below meth c A Q G K => ?_)
  show sw Θ p e rmX6_force s m args below meth c A Q 2 0 0 0 [(0, .ref m0), (1, .int a0)] [] (wX6 Θ m0 m1 m2 m3 m4 m5 m6 m7 m8 m9 m_now m_saved m_aside m_states m_quiet m_thrown m_tried m_best m_touching m_text m_length m_at m_verbs m_told m_commands)
  refine sw_aload_n 0 G dX6_force_0 0 rfl ?_
  refine sw_iload_n 1 G dX6_force_1 1 rfl ?_
  refine sw_iconst 2 G (0 : Int32) dX6_force_2 rfl ?_
  obtain ⟨r1, hg, hf⟩ := bd1_some hf
  refine sw_callV 3 G (wX6 Θ m0 m1 m2 m3 m4 m5 m6 m7 m8 m9 m_now m_saved m_aside m_states m_quiet m_thrown m_tried m_best m_touching m_text m_length m_at m_verbs m_told m_commands) [0, 1, 2, 3, 4, 5, 6, 7, 8, 9] [] [0, 1, 2, 3, 4, 5, 6, 7, 8, 9] 2 dX6_force_3 (kX6_ofOp Θ m0 m1 m2 m3 m4 m5 m6 m7 m8 m9 m_now m_saved m_aside m_states m_quiet m_thrown m_tried m_best m_touching m_text m_length m_at m_verbs m_told m_commands a0 (0 : Int32) r1 hg) (gwV lk_2264dc2b lk_fffc09d0 lk_e7d0f718 lk_6d91b6d2 lk_229db627) rfl hvX6_ofOp ⟨rfl, rfl⟩ ⟨Nat.le_of_ble_eq_true rfl, Nat.le_of_ble_eq_true rfl⟩ ⟨Nat.zero_le _, Nat.zero_le _⟩ rfl rfl (Nat.le_of_ble_eq_true rfl) 0 rfl vc6 rfl rfl rfl rfl (by decide) ?_
  refine sw_if_ne 6 27 G dX6_force_6 rfl hf (fun hf => ?_) (fun hf => ?_)
  · refine sw_aload_n 27 G dX6_force_27 0 rfl ?_
    refine sw_iload_n 28 G dX6_force_28 1 rfl ?_
    refine sw_iconst 29 G (3 : Int32) dX6_force_29 rfl ?_
    obtain ⟨r2, hg, hf⟩ := bd1_some hf
    refine sw_callV 30 G (wX6 Θ m0 m1 m2 m3 m4 m5 m6 m7 m8 m9 m_now m_saved m_aside m_states m_quiet m_thrown m_tried m_best m_touching m_text m_length m_at m_verbs m_told m_commands) [0, 1, 2, 3, 4, 5, 6, 7, 8, 9] [] [0, 1, 2, 3, 4, 5, 6, 7, 8, 9] 2 dX6_force_30 (kX6_ofOp Θ m0 m1 m2 m3 m4 m5 m6 m7 m8 m9 m_now m_saved m_aside m_states m_quiet m_thrown m_tried m_best m_touching m_text m_length m_at m_verbs m_told m_commands a0 (3 : Int32) r2 hg) (gwV lk_2264dc2b lk_fffc09d0 lk_e7d0f718 lk_6d91b6d2 lk_229db627) rfl hvX6_ofOp ⟨rfl, rfl⟩ ⟨Nat.le_of_ble_eq_true rfl, Nat.le_of_ble_eq_true rfl⟩ ⟨Nat.zero_le _, Nat.zero_le _⟩ rfl rfl (Nat.le_of_ble_eq_true rfl) 0 rfl vc6 rfl rfl rfl rfl (by decide) ?_
    cases hf
    exact sw_iret 33 G dX6_force_33 K
  · refine sw_iconst 9 G (2 : Int32) dX6_force_9 rfl ?_
    refine sw_aload_n 10 G dX6_force_10 0 rfl ?_
    refine sw_iload_n 11 G dX6_force_11 1 rfl ?_
    refine sw_iconst 12 G (3 : Int32) dX6_force_12 rfl ?_
    obtain ⟨r3, hg, hf⟩ := bd1_some hf
    refine sw_callV 13 G (wX6 Θ m0 m1 m2 m3 m4 m5 m6 m7 m8 m9 m_now m_saved m_aside m_states m_quiet m_thrown m_tried m_best m_touching m_text m_length m_at m_verbs m_told m_commands) [0, 1, 2, 3, 4, 5, 6, 7, 8, 9] [] [0, 1, 2, 3, 4, 5, 6, 7, 8, 9] 2 dX6_force_13 (kX6_ofOp Θ m0 m1 m2 m3 m4 m5 m6 m7 m8 m9 m_now m_saved m_aside m_states m_quiet m_thrown m_tried m_best m_touching m_text m_length m_at m_verbs m_told m_commands a0 (3 : Int32) r3 hg) (gwV lk_2264dc2b lk_fffc09d0 lk_e7d0f718 lk_6d91b6d2 lk_229db627) rfl hvX6_ofOp ⟨rfl, rfl⟩ ⟨Nat.le_of_ble_eq_true rfl, Nat.le_of_ble_eq_true rfl⟩ ⟨Nat.zero_le _, Nat.zero_le _⟩ rfl rfl (Nat.le_of_ble_eq_true rfl) 0 rfl vc6 rfl rfl rfl rfl (by decide) ?_
    refine sw_aload_n 16 G dX6_force_16 0 rfl ?_
    refine sw_iload_n 17 G dX6_force_17 1 rfl ?_
    refine sw_iconst 18 G (4 : Int32) dX6_force_18 rfl ?_
    obtain ⟨r4, hg, hf⟩ := bd1_some hf
    refine sw_callV 19 G (wX6 Θ m0 m1 m2 m3 m4 m5 m6 m7 m8 m9 m_now m_saved m_aside m_states m_quiet m_thrown m_tried m_best m_touching m_text m_length m_at m_verbs m_told m_commands) [0, 1, 2, 3, 4, 5, 6, 7, 8, 9] [] [0, 1, 2, 3, 4, 5, 6, 7, 8, 9] 2 dX6_force_19 (kX6_ofOp Θ m0 m1 m2 m3 m4 m5 m6 m7 m8 m9 m_now m_saved m_aside m_states m_quiet m_thrown m_tried m_best m_touching m_text m_length m_at m_verbs m_told m_commands a0 (4 : Int32) r4 hg) (gwV lk_2264dc2b lk_fffc09d0 lk_e7d0f718 lk_6d91b6d2 lk_229db627) rfl hvX6_ofOp ⟨rfl, rfl⟩ ⟨Nat.le_of_ble_eq_true rfl, Nat.le_of_ble_eq_true rfl⟩ ⟨Nat.zero_le _, Nat.zero_le _⟩ rfl rfl (Nat.le_of_ble_eq_true rfl) 0 rfl vc6 rfl rfl rfl rfl (by decide) ?_
    refine sw_iadd 22 G dX6_force_22 ?_
    refine sw_imul 23 G dX6_force_23 ?_
    refine sw_goto 24 G 33 dX6_force_24 rfl ?_
    cases hf
    exact sw_iret 33 G dX6_force_33 K
abbrev rmX6_touches : Room := { frames := 3, cells := 0, slots := 0, locals := 70 }
theorem hvX6_touches : yX6_touches.cls = RX6 ∧ yX6_touches.cls ≠ "java/lang/invoke/MethodHandle" ∧ yX6_touches.cls ≠ "java/lang/invoke/VarHandle" ∧ (parseMethodDescriptor yX6_touches.desc).map (fun d => d.parameters.length) = some 1 := by decide +kernel
set_option maxRecDepth 100000 in
set_option maxHeartbeats 4000000 in
theorem kX6_touches (Θ : Tht) (F : Nat) (m0 m1 m2 m3 m4 m5 m6 m7 m8 m9 : Nat) (m_now : Nat → Int64) (m_saved : Nat → Int64) (m_aside : Nat → Int64) (m_states : Int32) (m_quiet : Int32) (m_thrown : Int32) (m_tried : Nat → Int32) (m_best : Nat → Int32) (m_touching : Nat → Int32) (m_text : Nat → Int32) (m_length : Int32) (m_at : Int32) (m_verbs : Nat → Int32) (m_told : Nat → Int32) (m_commands : Int32) (a0 : Int32) (ro : Int32) (hf : fX6_touches F m_now a0 = some ro) : Fn Θ yX6_touches (Cond.code yX6_touches cX6_touches 6 (some .int) :: GW) rmX6_touches [.ref m0, .int a0] (wX6 Θ m0 m1 m2 m3 m4 m5 m6 m7 m8 m9 m_now m_saved m_aside m_states m_quiet m_thrown m_tried m_best m_touching m_text m_length m_at m_verbs m_told m_commands) (some (.int ro)) (wX6 Θ m0 m1 m2 m3 m4 m5 m6 m7 m8 m9 m_now m_saved m_aside m_states m_quiet m_thrown m_tried m_best m_touching m_text m_length m_at m_verbs m_told m_commands) := by
  delta fX6_touches at hf
  refine Fn.of (by decide +kernel) rfl (Nat.le_of_ble_eq_true rfl) (fun p e s m args below meth c A Q G K => ?_)
  show sw Θ p e rmX6_touches s m args below meth c A Q 6 0 0 0 [(0, .ref m0), (1, .int a0)] [] (wX6 Θ m0 m1 m2 m3 m4 m5 m6 m7 m8 m9 m_now m_saved m_aside m_states m_quiet m_thrown m_tried m_best m_touching m_text m_length m_at m_verbs m_told m_commands)
  refine sw_aload_n 0 G dX6_touches_0 0 rfl ?_
  refine sw_aload_n 1 G dX6_touches_1 0 rfl ?_
  refine sw_iload_n 2 G dX6_touches_2 1 rfl ?_
  obtain ⟨r1, hg, hf⟩ := bd1_some hf
  refine sw_callV 3 G (wX6 Θ m0 m1 m2 m3 m4 m5 m6 m7 m8 m9 m_now m_saved m_aside m_states m_quiet m_thrown m_tried m_best m_touching m_text m_length m_at m_verbs m_told m_commands) [0, 1, 2, 3, 4, 5, 6, 7, 8, 9] [] [0, 1, 2, 3, 4, 5, 6, 7, 8, 9] 1 dX6_touches_3 (kX6_cellsOf Θ F m0 m1 m2 m3 m4 m5 m6 m7 m8 m9 m_now m_saved m_aside m_states m_quiet m_thrown m_tried m_best m_touching m_text m_length m_at m_verbs m_told m_commands a0 r1 hg) (gwV lk_f806aa0d lk_0baa7f17 lk_5f4f9baa lk_6d91b6d2 lk_2857eee9) rfl hvX6_cellsOf ⟨rfl, rfl⟩ ⟨Nat.le_of_ble_eq_true rfl, Nat.le_of_ble_eq_true rfl⟩ ⟨Nat.zero_le _, Nat.zero_le _⟩ rfl rfl (Nat.le_of_ble_eq_true rfl) 0 rfl vc6 rfl rfl rfl rfl (by decide) ?_
  obtain ⟨r2, hg, hf⟩ := bd1_some hf
  refine sw_callV 6 G (wX6 Θ m0 m1 m2 m3 m4 m5 m6 m7 m8 m9 m_now m_saved m_aside m_states m_quiet m_thrown m_tried m_best m_touching m_text m_length m_at m_verbs m_told m_commands) [0, 1, 2, 3, 4, 5, 6, 7, 8, 9] [] [0, 1, 2, 3, 4, 5, 6, 7, 8, 9] 1 dX6_touches_6 (kX6_grown Θ F m0 m1 m2 m3 m4 m5 m6 m7 m8 m9 m_now m_saved m_aside m_states m_quiet m_thrown m_tried m_best m_touching m_text m_length m_at m_verbs m_told m_commands r1 r2 hg) (gwV lk_40d4f518 lk_9c5cd476 lk_437445e1 lk_6d91b6d2 lk_9e186105) rfl hvX6_grown ⟨rfl, rfl⟩ ⟨Nat.le_of_ble_eq_true rfl, Nat.le_of_ble_eq_true rfl⟩ ⟨Nat.zero_le _, Nat.zero_le _⟩ rfl rfl (Nat.le_of_ble_eq_true rfl) 0 rfl vc6 rfl rfl rfl rfl (by decide) ?_
  refine sw_lstore_n 9 G [(2, .long r2), (0, .ref m0), (1, .int a0)] dX6_touches_9 (by decide) rfl ?_
  refine sw_iconst 10 G (0 : Int32) dX6_touches_10 rfl ?_
  refine sw_istore 11 G [(4, .int (0 : Int32)), (2, .long r2), (0, .ref m0), (1, .int a0)] dX6_touches_11 (by decide) rfl ?_
  refine sw_iconst 13 G (0 : Int32) dX6_touches_13 rfl ?_
  refine sw_istore 14 G [(5, .int (0 : Int32)), (4, .int (0 : Int32)), (2, .long r2), (0, .ref m0), (1, .int a0)] dX6_touches_14 (by decide) rfl ?_
  obtain ⟨v3, hl, hf⟩ := bd1_some hf
  have hx16_65 : sw Θ p e rmX6_touches s m args below meth c A Q 6 0 0 65 [(4, .int v3)] [] (wX6 Θ m0 m1 m2 m3 m4 m5 m6 m7 m8 m9 m_now m_saved m_aside m_states m_quiet m_thrown m_tried m_best m_touching m_text m_length m_at m_verbs m_told m_commands) := by
    refine sw_iload 65 G dX6_touches_65 0 rfl ?_
    cases hf
    exact sw_iret 67 G dX6_touches_67 K
  refine sw_lv [(0, .ref m0), (1, .int a0), (2, .long r2), (4, .int (0 : Int32)), (5, .int (0 : Int32))] [3, 4, 2, 1, 0] rfl ?_
  refine lp_walk (P := fun (t : Int32 × Int32) => sw Θ p e rmX6_touches s m args below meth c A Q 6 0 0 16 [(0, .ref m0), (1, .int a0), (2, .long r2), (4, .int t.1), (5, .int t.2)] [] (wX6 Θ m0 m1 m2 m3 m4 m5 m6 m7 m8 m9 m_now m_saved m_aside m_states m_quiet m_thrown m_tried m_best m_touching m_text m_length m_at m_verbs m_told m_commands)) hl (fun t16 y16 hf hin16 hex16 => ?_)
  obtain ⟨v4, v5⟩ := t16
  show sw Θ p e rmX6_touches s m args below meth c A Q 6 0 0 16 [(0, .ref m0), (1, .int a0), (2, .long r2), (4, .int v4), (5, .int v5)] [] (wX6 Θ m0 m1 m2 m3 m4 m5 m6 m7 m8 m9 m_now m_saved m_aside m_states m_quiet m_thrown m_tried m_best m_touching m_text m_length m_at m_verbs m_told m_commands)
  have hf := uc2_some (K := _) hf
  refine sw_iload 16 G dX6_touches_16 4 rfl ?_
  refine sw_aload_n 18 G dX6_touches_18 0 rfl ?_
  refine sw_bipush 19 G (8 : Int32) dX6_touches_19 rfl ?_
  obtain ⟨r6, hg, hf⟩ := bd1_some hf
  refine sw_callV 21 G (wX6 Θ m0 m1 m2 m3 m4 m5 m6 m7 m8 m9 m_now m_saved m_aside m_states m_quiet m_thrown m_tried m_best m_touching m_text m_length m_at m_verbs m_told m_commands) [0, 1, 2, 3, 4, 5, 6, 7, 8, 9] [] [0, 1, 2, 3, 4, 5, 6, 7, 8, 9] 1 dX6_touches_21 (kX6_many Θ m0 m1 m2 m3 m4 m5 m6 m7 m8 m9 m_now m_saved m_aside m_states m_quiet m_thrown m_tried m_best m_touching m_text m_length m_at m_verbs m_told m_commands (8 : Int32) r6 hg) (gwV lk_184fe921 lk_d689724c lk_b095f72c lk_6d91b6d2 lk_d7f116ea) rfl hvX6_many ⟨rfl, rfl⟩ ⟨Nat.le_of_ble_eq_true rfl, Nat.le_of_ble_eq_true rfl⟩ ⟨Nat.zero_le _, Nat.zero_le _⟩ rfl rfl (Nat.le_of_ble_eq_true rfl) 0 rfl vc6 rfl rfl rfl rfl (by decide) ?_
  refine sw_icmp_ge 24 65 G dX6_touches_24 rfl hf (fun hf => ?_) (fun hf => ?_)
  · cases hf
    cases hex16 _ rfl
    exact sw_lv _ [3] rfl hx16_65
  · refine sw_iload 27 G dX6_touches_27 3 rfl ?_
    refine sw_iload 29 G dX6_touches_29 4 rfl ?_
    refine sw_iload_n 31 G dX6_touches_31 1 rfl ?_
    obtain ⟨v7, hj, hf⟩ := bd1_some hf
    have hx56 : sw Θ p e rmX6_touches s m args below meth c A Q 6 0 0 56 [(0, .ref m0), (1, .int a0), (2, .long r2), (5, .int v5)] [.int v7, .int v4] (wX6 Θ m0 m1 m2 m3 m4 m5 m6 m7 m8 m9 m_now m_saved m_aside m_states m_quiet m_thrown m_tried m_best m_touching m_text m_length m_at m_verbs m_told m_commands) := by
      refine sw_ior 56 G dX6_touches_56 ?_
      refine sw_nmi hf (fun v9 hf => ?_)
      refine sw_istore 57 G [(4, .int v9), (0, .ref m0), (1, .int a0), (2, .long r2), (5, .int v5)] dX6_touches_57 (by decide) rfl ?_
      refine sw_iinc 59 G (v5 + (1 : Int32)) [(5, .int (v5 + (1 : Int32))), (4, .int v9), (0, .ref m0), (1, .int a0), (2, .long r2)] dX6_touches_59 4 rfl rfl (by decide) rfl ?_
      refine sw_goto 62 G 16 dX6_touches_62 rfl ?_
      cases hf
      have hb := hin16 _ rfl
      exact sw_lv _ [2, 3, 4, 1, 0] (by rfl) hb
    clear hf
    have hf := hj
    clear hj
    refine sw_icmp_eq 32 55 G dX6_touches_32 rfl hf (fun hf => ?_) (fun hf => ?_)
    · refine sw_iconst 55 G (0 : Int32) dX6_touches_55 rfl ?_
      cases hf
      exact sw_lv _ [0, 1, 2, 4] rfl hx56
    · refine sw_lload_n 35 G dX6_touches_35 2 rfl ?_
      refine sw_aload_n 36 G dX6_touches_36 0 rfl ?_
      refine sw_iload 37 G dX6_touches_37 4 rfl ?_
      obtain ⟨r8, hg, hf⟩ := bd1_some hf
      refine sw_callV 39 G (wX6 Θ m0 m1 m2 m3 m4 m5 m6 m7 m8 m9 m_now m_saved m_aside m_states m_quiet m_thrown m_tried m_best m_touching m_text m_length m_at m_verbs m_told m_commands) [0, 1, 2, 3, 4, 5, 6, 7, 8, 9] [] [0, 1, 2, 3, 4, 5, 6, 7, 8, 9] 1 dX6_touches_39 (kX6_cellsOf Θ F m0 m1 m2 m3 m4 m5 m6 m7 m8 m9 m_now m_saved m_aside m_states m_quiet m_thrown m_tried m_best m_touching m_text m_length m_at m_verbs m_told m_commands v5 r8 hg) (gwV lk_f806aa0d lk_0baa7f17 lk_5f4f9baa lk_6d91b6d2 lk_2857eee9) rfl hvX6_cellsOf ⟨rfl, rfl⟩ ⟨Nat.le_of_ble_eq_true rfl, Nat.le_of_ble_eq_true rfl⟩ ⟨Nat.zero_le _, Nat.zero_le _⟩ rfl rfl (Nat.le_of_ble_eq_true rfl) 0 rfl vc6 rfl rfl rfl rfl (by decide) ?_
      refine sw_land 42 G dX6_touches_42 ?_
      refine sw_lconst 43 G (0 : Int64) dX6_touches_43 rfl ?_
      refine sw_lcmp 44 G dX6_touches_44 ?_
      refine sw_if_eq 45 55 G dX6_touches_45 rfl hf (fun hf => ?_) (fun hf => ?_)
      · refine sw_iconst 55 G (0 : Int32) dX6_touches_55 rfl ?_
        cases hf
        exact sw_lv _ [0, 1, 2, 4] rfl hx56
      · refine sw_iconst 48 G (1 : Int32) dX6_touches_48 rfl ?_
        refine sw_iload 49 G dX6_touches_49 4 rfl ?_
        refine sw_ishl 51 G dX6_touches_51 ?_
        refine sw_goto 52 G 56 dX6_touches_52 rfl ?_
        cases hf
        exact sw_lv _ [0, 1, 2, 4] rfl hx56
abbrev rmX6_opsAt : Room := { frames := 1, cells := 0, slots := 0, locals := 22 }
theorem hvX6_opsAt : yX6_opsAt.cls = RX6 ∧ yX6_opsAt.cls ≠ "java/lang/invoke/MethodHandle" ∧ yX6_opsAt.cls ≠ "java/lang/invoke/VarHandle" ∧ (parseMethodDescriptor yX6_opsAt.desc).map (fun d => d.parameters.length) = some 1 := by decide +kernel
set_option maxRecDepth 100000 in
set_option maxHeartbeats 4000000 in
theorem kX6_opsAt (Θ : Tht) (F : Nat) (m0 m1 m2 m3 m4 m5 m6 m7 m8 m9 : Nat) (m_now : Nat → Int64) (m_saved : Nat → Int64) (m_aside : Nat → Int64) (m_states : Int32) (m_quiet : Int32) (m_thrown : Int32) (m_tried : Nat → Int32) (m_best : Nat → Int32) (m_touching : Nat → Int32) (m_text : Nat → Int32) (m_length : Int32) (m_at : Int32) (m_verbs : Nat → Int32) (m_told : Nat → Int32) (m_commands : Int32) (a0 : Int32) (ro : Int32) (hf : fX6_opsAt F m_now a0 = some ro) : Fn Θ yX6_opsAt (Cond.code yX6_opsAt cX6_opsAt 4 (some .int) :: GW) rmX6_opsAt [.ref m0, .int a0] (wX6 Θ m0 m1 m2 m3 m4 m5 m6 m7 m8 m9 m_now m_saved m_aside m_states m_quiet m_thrown m_tried m_best m_touching m_text m_length m_at m_verbs m_told m_commands) (some (.int ro)) (wX6 Θ m0 m1 m2 m3 m4 m5 m6 m7 m8 m9 m_now m_saved m_aside m_states m_quiet m_thrown m_tried m_best m_touching m_text m_length m_at m_verbs m_told m_commands) := by
  delta fX6_opsAt at hf
  refine Fn.of (by decide +kernel) rfl (Nat.le_of_ble_eq_true rfl) (fun p e s m args below meth c A Q G K => ?_)
  show sw Θ p e rmX6_opsAt s m args below meth c A Q 4 0 0 0 [(0, .ref m0), (1, .int a0)] [] (wX6 Θ m0 m1 m2 m3 m4 m5 m6 m7 m8 m9 m_now m_saved m_aside m_states m_quiet m_thrown m_tried m_best m_touching m_text m_length m_at m_verbs m_told m_commands)
  refine sw_iconst 0 G (0 : Int32) dX6_opsAt_0 rfl ?_
  refine sw_istore_n 1 G [(2, .int (0 : Int32)), (0, .ref m0), (1, .int a0)] dX6_opsAt_1 (by decide) rfl ?_
  refine sw_iconst 2 G (0 : Int32) dX6_opsAt_2 rfl ?_
  refine sw_istore_n 3 G [(3, .int (0 : Int32)), (2, .int (0 : Int32)), (0, .ref m0), (1, .int a0)] dX6_opsAt_3 (by decide) rfl ?_
  obtain ⟨v1, hl, hf⟩ := bd1_some hf
  have hx4_40 : sw Θ p e rmX6_opsAt s m args below meth c A Q 4 0 0 40 [(2, .int v1)] [] (wX6 Θ m0 m1 m2 m3 m4 m5 m6 m7 m8 m9 m_now m_saved m_aside m_states m_quiet m_thrown m_tried m_best m_touching m_text m_length m_at m_verbs m_told m_commands) := by
    refine sw_iload_n 40 G dX6_opsAt_40 0 rfl ?_
    cases hf
    exact sw_iret 41 G dX6_opsAt_41 K
  refine sw_lv [(0, .ref m0), (1, .int a0), (2, .int (0 : Int32)), (3, .int (0 : Int32))] [2, 3, 1, 0] rfl ?_
  refine lp_walk (P := fun (t : Int32 × Int32) => sw Θ p e rmX6_opsAt s m args below meth c A Q 4 0 0 4 [(0, .ref m0), (1, .int a0), (2, .int t.1), (3, .int t.2)] [] (wX6 Θ m0 m1 m2 m3 m4 m5 m6 m7 m8 m9 m_now m_saved m_aside m_states m_quiet m_thrown m_tried m_best m_touching m_text m_length m_at m_verbs m_told m_commands)) hl (fun t4 y4 hf hin4 hex4 => ?_)
  obtain ⟨v2, v3⟩ := t4
  show sw Θ p e rmX6_opsAt s m args below meth c A Q 4 0 0 4 [(0, .ref m0), (1, .int a0), (2, .int v2), (3, .int v3)] [] (wX6 Θ m0 m1 m2 m3 m4 m5 m6 m7 m8 m9 m_now m_saved m_aside m_states m_quiet m_thrown m_tried m_best m_touching m_text m_length m_at m_verbs m_told m_commands)
  have hf := uc2_some (K := _) hf
  refine sw_iload_n 4 G dX6_opsAt_4 3 rfl ?_
  refine sw_aload_n 5 G dX6_opsAt_5 0 rfl ?_
  refine sw_bipush 6 G (8 : Int32) dX6_opsAt_6 rfl ?_
  obtain ⟨r4, hg, hf⟩ := bd1_some hf
  refine sw_callV 8 G (wX6 Θ m0 m1 m2 m3 m4 m5 m6 m7 m8 m9 m_now m_saved m_aside m_states m_quiet m_thrown m_tried m_best m_touching m_text m_length m_at m_verbs m_told m_commands) [0, 1, 2, 3, 4, 5, 6, 7, 8, 9] [] [0, 1, 2, 3, 4, 5, 6, 7, 8, 9] 1 dX6_opsAt_8 (kX6_many Θ m0 m1 m2 m3 m4 m5 m6 m7 m8 m9 m_now m_saved m_aside m_states m_quiet m_thrown m_tried m_best m_touching m_text m_length m_at m_verbs m_told m_commands (8 : Int32) r4 hg) (gwV lk_184fe921 lk_d689724c lk_b095f72c lk_6d91b6d2 lk_d7f116ea) rfl hvX6_many ⟨rfl, rfl⟩ ⟨Nat.le_of_ble_eq_true rfl, Nat.le_of_ble_eq_true rfl⟩ ⟨Nat.zero_le _, Nat.zero_le _⟩ rfl rfl (Nat.le_of_ble_eq_true rfl) 0 rfl vc6 rfl rfl rfl rfl (by decide) ?_
  refine sw_icmp_ge 11 40 G dX6_opsAt_11 rfl hf (fun hf => ?_) (fun hf => ?_)
  · cases hf
    cases hex4 _ rfl
    exact sw_lv _ [2] rfl hx4_40
  · refine sw_iload_n 14 G dX6_opsAt_14 2 rfl ?_
    refine sw_aload_n 15 G dX6_opsAt_15 0 rfl ?_
    refine sw_iload_n 16 G dX6_opsAt_16 3 rfl ?_
    refine sw_iconst 17 G (5 : Int32) dX6_opsAt_17 rfl ?_
    obtain ⟨r5, hg, hf⟩ := bd1_some hf
    refine sw_callV 18 G (wX6 Θ m0 m1 m2 m3 m4 m5 m6 m7 m8 m9 m_now m_saved m_aside m_states m_quiet m_thrown m_tried m_best m_touching m_text m_length m_at m_verbs m_told m_commands) [0, 1, 2, 3, 4, 5, 6, 7, 8, 9] [] [0, 1, 2, 3, 4, 5, 6, 7, 8, 9] 2 dX6_opsAt_18 (kX6_ofOp Θ m0 m1 m2 m3 m4 m5 m6 m7 m8 m9 m_now m_saved m_aside m_states m_quiet m_thrown m_tried m_best m_touching m_text m_length m_at m_verbs m_told m_commands v3 (5 : Int32) r5 hg) (gwV lk_2264dc2b lk_fffc09d0 lk_e7d0f718 lk_6d91b6d2 lk_229db627) rfl hvX6_ofOp ⟨rfl, rfl⟩ ⟨Nat.le_of_ble_eq_true rfl, Nat.le_of_ble_eq_true rfl⟩ ⟨Nat.zero_le _, Nat.zero_le _⟩ rfl rfl (Nat.le_of_ble_eq_true rfl) 0 rfl vc6 rfl rfl rfl rfl (by decide) ?_
    refine sw_iload_n 21 G dX6_opsAt_21 1 rfl ?_
    obtain ⟨v6, hj, hf⟩ := bd1_some hf
    have hx32 : sw Θ p e rmX6_opsAt s m args below meth c A Q 4 0 0 32 [(0, .ref m0), (1, .int a0), (3, .int v3)] [.int v6, .int v2] (wX6 Θ m0 m1 m2 m3 m4 m5 m6 m7 m8 m9 m_now m_saved m_aside m_states m_quiet m_thrown m_tried m_best m_touching m_text m_length m_at m_verbs m_told m_commands) := by
      refine sw_ior 32 G dX6_opsAt_32 ?_
      refine sw_nmi hf (fun v7 hf => ?_)
      refine sw_istore_n 33 G [(2, .int v7), (0, .ref m0), (1, .int a0), (3, .int v3)] dX6_opsAt_33 (by decide) rfl ?_
      refine sw_iinc 34 G (v3 + (1 : Int32)) [(3, .int (v3 + (1 : Int32))), (2, .int v7), (0, .ref m0), (1, .int a0)] dX6_opsAt_34 3 rfl rfl (by decide) rfl ?_
      refine sw_goto 37 G 4 dX6_opsAt_37 rfl ?_
      cases hf
      have hb := hin4 _ rfl
      exact sw_lv _ [2, 3, 1, 0] (by rfl) hb
    clear hf
    have hf := hj
    clear hj
    refine sw_icmp_ne 22 31 G dX6_opsAt_22 rfl hf (fun hf => ?_) (fun hf => ?_)
    · refine sw_iconst 31 G (0 : Int32) dX6_opsAt_31 rfl ?_
      cases hf
      exact sw_lv _ [0, 1, 3] rfl hx32
    · refine sw_iconst 25 G (1 : Int32) dX6_opsAt_25 rfl ?_
      refine sw_iload_n 26 G dX6_opsAt_26 3 rfl ?_
      refine sw_ishl 27 G dX6_opsAt_27 ?_
      refine sw_goto 28 G 32 dX6_opsAt_28 rfl ?_
      cases hf
      exact sw_lv _ [0, 1, 3] rfl hx32
abbrev rmX6_forces : Room := { frames := 2, cells := 0, slots := 0, locals := 43 }
theorem hvX6_forces : yX6_forces.cls = RX6 ∧ yX6_forces.cls ≠ "java/lang/invoke/MethodHandle" ∧ yX6_forces.cls ≠ "java/lang/invoke/VarHandle" ∧ (parseMethodDescriptor yX6_forces.desc).map (fun d => d.parameters.length) = some 1 := by decide +kernel
set_option maxRecDepth 100000 in
set_option maxHeartbeats 4000000 in
theorem kX6_forces (Θ : Tht) (F : Nat) (m0 m1 m2 m3 m4 m5 m6 m7 m8 m9 : Nat) (m_now : Nat → Int64) (m_saved : Nat → Int64) (m_aside : Nat → Int64) (m_states : Int32) (m_quiet : Int32) (m_thrown : Int32) (m_tried : Nat → Int32) (m_best : Nat → Int32) (m_touching : Nat → Int32) (m_text : Nat → Int32) (m_length : Int32) (m_at : Int32) (m_verbs : Nat → Int32) (m_told : Nat → Int32) (m_commands : Int32) (a0 : Int32) (ro : Int32) (hf : fX6_forces F m_now a0 = some ro) : Fn Θ yX6_forces (Cond.code yX6_forces cX6_forces 4 (some .int) :: GW) rmX6_forces [.ref m0, .int a0] (wX6 Θ m0 m1 m2 m3 m4 m5 m6 m7 m8 m9 m_now m_saved m_aside m_states m_quiet m_thrown m_tried m_best m_touching m_text m_length m_at m_verbs m_told m_commands) (some (.int ro)) (wX6 Θ m0 m1 m2 m3 m4 m5 m6 m7 m8 m9 m_now m_saved m_aside m_states m_quiet m_thrown m_tried m_best m_touching m_text m_length m_at m_verbs m_told m_commands) := by
  delta fX6_forces at hf
  refine Fn.of (by decide +kernel) rfl (Nat.le_of_ble_eq_true rfl) (fun p e s m args below meth c A Q G K => ?_)
  show sw Θ p e rmX6_forces s m args below meth c A Q 4 0 0 0 [(0, .ref m0), (1, .int a0)] [] (wX6 Θ m0 m1 m2 m3 m4 m5 m6 m7 m8 m9 m_now m_saved m_aside m_states m_quiet m_thrown m_tried m_best m_touching m_text m_length m_at m_verbs m_told m_commands)
  refine sw_iconst 0 G (0 : Int32) dX6_forces_0 rfl ?_
  refine sw_istore_n 1 G [(2, .int (0 : Int32)), (0, .ref m0), (1, .int a0)] dX6_forces_1 (by decide) rfl ?_
  refine sw_iconst 2 G (0 : Int32) dX6_forces_2 rfl ?_
  refine sw_istore_n 3 G [(3, .int (0 : Int32)), (2, .int (0 : Int32)), (0, .ref m0), (1, .int a0)] dX6_forces_3 (by decide) rfl ?_
  obtain ⟨v1, hl, hf⟩ := bd1_some hf
  have hx4_41 : sw Θ p e rmX6_forces s m args below meth c A Q 4 0 0 41 [(2, .int v1)] [] (wX6 Θ m0 m1 m2 m3 m4 m5 m6 m7 m8 m9 m_now m_saved m_aside m_states m_quiet m_thrown m_tried m_best m_touching m_text m_length m_at m_verbs m_told m_commands) := by
    refine sw_iload_n 41 G dX6_forces_41 0 rfl ?_
    cases hf
    exact sw_iret 42 G dX6_forces_42 K
  refine sw_lv [(0, .ref m0), (1, .int a0), (2, .int (0 : Int32)), (3, .int (0 : Int32))] [2, 3, 1, 0] rfl ?_
  refine lp_walk (P := fun (t : Int32 × Int32) => sw Θ p e rmX6_forces s m args below meth c A Q 4 0 0 4 [(0, .ref m0), (1, .int a0), (2, .int t.1), (3, .int t.2)] [] (wX6 Θ m0 m1 m2 m3 m4 m5 m6 m7 m8 m9 m_now m_saved m_aside m_states m_quiet m_thrown m_tried m_best m_touching m_text m_length m_at m_verbs m_told m_commands)) hl (fun t4 y4 hf hin4 hex4 => ?_)
  obtain ⟨v2, v3⟩ := t4
  show sw Θ p e rmX6_forces s m args below meth c A Q 4 0 0 4 [(0, .ref m0), (1, .int a0), (2, .int v2), (3, .int v3)] [] (wX6 Θ m0 m1 m2 m3 m4 m5 m6 m7 m8 m9 m_now m_saved m_aside m_states m_quiet m_thrown m_tried m_best m_touching m_text m_length m_at m_verbs m_told m_commands)
  have hf := uc2_some (K := _) hf
  refine sw_iload_n 4 G dX6_forces_4 3 rfl ?_
  refine sw_aload_n 5 G dX6_forces_5 0 rfl ?_
  refine sw_bipush 6 G (8 : Int32) dX6_forces_6 rfl ?_
  obtain ⟨r4, hg, hf⟩ := bd1_some hf
  refine sw_callV 8 G (wX6 Θ m0 m1 m2 m3 m4 m5 m6 m7 m8 m9 m_now m_saved m_aside m_states m_quiet m_thrown m_tried m_best m_touching m_text m_length m_at m_verbs m_told m_commands) [0, 1, 2, 3, 4, 5, 6, 7, 8, 9] [] [0, 1, 2, 3, 4, 5, 6, 7, 8, 9] 1 dX6_forces_8 (kX6_many Θ m0 m1 m2 m3 m4 m5 m6 m7 m8 m9 m_now m_saved m_aside m_states m_quiet m_thrown m_tried m_best m_touching m_text m_length m_at m_verbs m_told m_commands (8 : Int32) r4 hg) (gwV lk_184fe921 lk_d689724c lk_b095f72c lk_6d91b6d2 lk_d7f116ea) rfl hvX6_many ⟨rfl, rfl⟩ ⟨Nat.le_of_ble_eq_true rfl, Nat.le_of_ble_eq_true rfl⟩ ⟨Nat.zero_le _, Nat.zero_le _⟩ rfl rfl (Nat.le_of_ble_eq_true rfl) 0 rfl vc6 rfl rfl rfl rfl (by decide) ?_
  refine sw_icmp_ge 11 41 G dX6_forces_11 rfl hf (fun hf => ?_) (fun hf => ?_)
  · cases hf
    cases hex4 _ rfl
    exact sw_lv _ [2] rfl hx4_41
  · refine sw_iload_n 14 G dX6_forces_14 2 rfl ?_
    refine sw_iload_n 15 G dX6_forces_15 1 rfl ?_
    refine sw_iload_n 16 G dX6_forces_16 3 rfl ?_
    refine sw_ishr 17 G dX6_forces_17 ?_
    refine sw_iconst 18 G (1 : Int32) dX6_forces_18 rfl ?_
    refine sw_iand 19 G dX6_forces_19 ?_
    refine sw_iconst 20 G (1 : Int32) dX6_forces_20 rfl ?_
    obtain ⟨v5, hj, hf⟩ := bd1_some hf
    have hx33 : sw Θ p e rmX6_forces s m args below meth c A Q 4 0 0 33 [(0, .ref m0), (1, .int a0), (3, .int v3)] [.int v5, .int v2] (wX6 Θ m0 m1 m2 m3 m4 m5 m6 m7 m8 m9 m_now m_saved m_aside m_states m_quiet m_thrown m_tried m_best m_touching m_text m_length m_at m_verbs m_told m_commands) := by
      refine sw_iadd 33 G dX6_forces_33 ?_
      refine sw_nmi hf (fun v7 hf => ?_)
      refine sw_istore_n 34 G [(2, .int v7), (0, .ref m0), (1, .int a0), (3, .int v3)] dX6_forces_34 (by decide) rfl ?_
      refine sw_iinc 35 G (v3 + (1 : Int32)) [(3, .int (v3 + (1 : Int32))), (2, .int v7), (0, .ref m0), (1, .int a0)] dX6_forces_35 3 rfl rfl (by decide) rfl ?_
      refine sw_goto 38 G 4 dX6_forces_38 rfl ?_
      cases hf
      have hb := hin4 _ rfl
      exact sw_lv _ [2, 3, 1, 0] (by rfl) hb
    clear hf
    have hf := hj
    clear hj
    refine sw_icmp_ne 21 32 G dX6_forces_21 rfl hf (fun hf => ?_) (fun hf => ?_)
    · refine sw_iconst 32 G (0 : Int32) dX6_forces_32 rfl ?_
      cases hf
      exact sw_lv _ [0, 1, 3] rfl hx33
    · refine sw_aload_n 24 G dX6_forces_24 0 rfl ?_
      refine sw_iload_n 25 G dX6_forces_25 3 rfl ?_
      obtain ⟨r6, hg, hf⟩ := bd1_some hf
      refine sw_callV 26 G (wX6 Θ m0 m1 m2 m3 m4 m5 m6 m7 m8 m9 m_now m_saved m_aside m_states m_quiet m_thrown m_tried m_best m_touching m_text m_length m_at m_verbs m_told m_commands) [0, 1, 2, 3, 4, 5, 6, 7, 8, 9] [] [0, 1, 2, 3, 4, 5, 6, 7, 8, 9] 1 dX6_forces_26 (kX6_force Θ m0 m1 m2 m3 m4 m5 m6 m7 m8 m9 m_now m_saved m_aside m_states m_quiet m_thrown m_tried m_best m_touching m_text m_length m_at m_verbs m_told m_commands v3 r6 hg) (gwV lk_0bff907f lk_9062df22 lk_a894a032 lk_6d91b6d2 lk_21572795) rfl hvX6_force ⟨rfl, rfl⟩ ⟨Nat.le_of_ble_eq_true rfl, Nat.le_of_ble_eq_true rfl⟩ ⟨Nat.zero_le _, Nat.zero_le _⟩ rfl rfl (Nat.le_of_ble_eq_true rfl) 0 rfl vc6 rfl rfl rfl rfl (by decide) ?_
      refine sw_goto 29 G 33 dX6_forces_29 rfl ?_
      cases hf
      exact sw_lv _ [0, 1, 3] rfl hx33
abbrev rmX6_stations : Room := { frames := 1, cells := 0, slots := 0, locals := 22 }
theorem hvX6_stations : yX6_stations.cls = RX6 ∧ yX6_stations.cls ≠ "java/lang/invoke/MethodHandle" ∧ yX6_stations.cls ≠ "java/lang/invoke/VarHandle" ∧ (parseMethodDescriptor yX6_stations.desc).map (fun d => d.parameters.length) = some 0 := by decide +kernel
set_option maxRecDepth 100000 in
set_option maxHeartbeats 4000000 in
theorem kX6_stations (Θ : Tht) (F : Nat) (m0 m1 m2 m3 m4 m5 m6 m7 m8 m9 : Nat) (m_now : Nat → Int64) (m_saved : Nat → Int64) (m_aside : Nat → Int64) (m_states : Int32) (m_quiet : Int32) (m_thrown : Int32) (m_tried : Nat → Int32) (m_best : Nat → Int32) (m_touching : Nat → Int32) (m_text : Nat → Int32) (m_length : Int32) (m_at : Int32) (m_verbs : Nat → Int32) (m_told : Nat → Int32) (m_commands : Int32) (ro : Int32) (hf : fX6_stations F m_now = some ro) : Fn Θ yX6_stations (Cond.code yX6_stations cX6_stations 3 (some .int) :: GW) rmX6_stations [.ref m0] (wX6 Θ m0 m1 m2 m3 m4 m5 m6 m7 m8 m9 m_now m_saved m_aside m_states m_quiet m_thrown m_tried m_best m_touching m_text m_length m_at m_verbs m_told m_commands) (some (.int ro)) (wX6 Θ m0 m1 m2 m3 m4 m5 m6 m7 m8 m9 m_now m_saved m_aside m_states m_quiet m_thrown m_tried m_best m_touching m_text m_length m_at m_verbs m_told m_commands) := by
  delta fX6_stations at hf
  refine Fn.of (by decide +kernel) rfl (Nat.le_of_ble_eq_true rfl) (fun p e s m args below meth c A Q G K => ?_)
  show sw Θ p e rmX6_stations s m args below meth c A Q 3 0 0 0 [(0, .ref m0)] [] (wX6 Θ m0 m1 m2 m3 m4 m5 m6 m7 m8 m9 m_now m_saved m_aside m_states m_quiet m_thrown m_tried m_best m_touching m_text m_length m_at m_verbs m_told m_commands)
  refine sw_iconst 0 G (-1 : Int32) dX6_stations_0 rfl ?_
  refine sw_istore_n 1 G [(1, .int (-1 : Int32)), (0, .ref m0)] dX6_stations_1 (by decide) rfl ?_
  refine sw_iconst 2 G (0 : Int32) dX6_stations_2 rfl ?_
  refine sw_istore_n 3 G [(2, .int (0 : Int32)), (1, .int (-1 : Int32)), (0, .ref m0)] dX6_stations_3 (by decide) rfl ?_
  obtain ⟨v1, hl, hf⟩ := bd1_some hf
  have hx4_41 : sw Θ p e rmX6_stations s m args below meth c A Q 3 0 0 41 [(1, .int v1)] [] (wX6 Θ m0 m1 m2 m3 m4 m5 m6 m7 m8 m9 m_now m_saved m_aside m_states m_quiet m_thrown m_tried m_best m_touching m_text m_length m_at m_verbs m_told m_commands) := by
    refine sw_iload_n 41 G dX6_stations_41 0 rfl ?_
    refine sw_iconst 42 G (1 : Int32) dX6_stations_42 rfl ?_
    refine sw_iadd 43 G dX6_stations_43 ?_
    cases hf
    exact sw_iret 44 G dX6_stations_44 K
  refine sw_lv [(0, .ref m0), (1, .int (-1 : Int32)), (2, .int (0 : Int32))] [2, 1, 0] rfl ?_
  refine lp_walk (P := fun (t : Int32 × Int32) => sw Θ p e rmX6_stations s m args below meth c A Q 3 0 0 4 [(0, .ref m0), (1, .int t.1), (2, .int t.2)] [] (wX6 Θ m0 m1 m2 m3 m4 m5 m6 m7 m8 m9 m_now m_saved m_aside m_states m_quiet m_thrown m_tried m_best m_touching m_text m_length m_at m_verbs m_told m_commands)) hl (fun t4 y4 hf hin4 hex4 => ?_)
  obtain ⟨v2, v3⟩ := t4
  show sw Θ p e rmX6_stations s m args below meth c A Q 3 0 0 4 [(0, .ref m0), (1, .int v2), (2, .int v3)] [] (wX6 Θ m0 m1 m2 m3 m4 m5 m6 m7 m8 m9 m_now m_saved m_aside m_states m_quiet m_thrown m_tried m_best m_touching m_text m_length m_at m_verbs m_told m_commands)
  have hf := uc2_some (K := _) hf
  refine sw_iload_n 4 G dX6_stations_4 2 rfl ?_
  refine sw_aload_n 5 G dX6_stations_5 0 rfl ?_
  refine sw_bipush 6 G (8 : Int32) dX6_stations_6 rfl ?_
  obtain ⟨r4, hg, hf⟩ := bd1_some hf
  refine sw_callV 8 G (wX6 Θ m0 m1 m2 m3 m4 m5 m6 m7 m8 m9 m_now m_saved m_aside m_states m_quiet m_thrown m_tried m_best m_touching m_text m_length m_at m_verbs m_told m_commands) [0, 1, 2, 3, 4, 5, 6, 7, 8, 9] [] [0, 1, 2, 3, 4, 5, 6, 7, 8, 9] 1 dX6_stations_8 (kX6_many Θ m0 m1 m2 m3 m4 m5 m6 m7 m8 m9 m_now m_saved m_aside m_states m_quiet m_thrown m_tried m_best m_touching m_text m_length m_at m_verbs m_told m_commands (8 : Int32) r4 hg) (gwV lk_184fe921 lk_d689724c lk_b095f72c lk_6d91b6d2 lk_d7f116ea) rfl hvX6_many ⟨rfl, rfl⟩ ⟨Nat.le_of_ble_eq_true rfl, Nat.le_of_ble_eq_true rfl⟩ ⟨Nat.zero_le _, Nat.zero_le _⟩ rfl rfl (Nat.le_of_ble_eq_true rfl) 0 rfl vc6 rfl rfl rfl rfl (by decide) ?_
  refine sw_icmp_ge 11 41 G dX6_stations_11 rfl hf (fun hf => ?_) (fun hf => ?_)
  · cases hf
    cases hex4 _ rfl
    exact sw_lv _ [1] rfl hx4_41
  · refine sw_aload_n 14 G dX6_stations_14 0 rfl ?_
    refine sw_iload_n 15 G dX6_stations_15 2 rfl ?_
    refine sw_iconst 16 G (5 : Int32) dX6_stations_16 rfl ?_
    obtain ⟨r5, hg, hf⟩ := bd1_some hf
    refine sw_callV 17 G (wX6 Θ m0 m1 m2 m3 m4 m5 m6 m7 m8 m9 m_now m_saved m_aside m_states m_quiet m_thrown m_tried m_best m_touching m_text m_length m_at m_verbs m_told m_commands) [0, 1, 2, 3, 4, 5, 6, 7, 8, 9] [] [0, 1, 2, 3, 4, 5, 6, 7, 8, 9] 2 dX6_stations_17 (kX6_ofOp Θ m0 m1 m2 m3 m4 m5 m6 m7 m8 m9 m_now m_saved m_aside m_states m_quiet m_thrown m_tried m_best m_touching m_text m_length m_at m_verbs m_told m_commands v3 (5 : Int32) r5 hg) (gwV lk_2264dc2b lk_fffc09d0 lk_e7d0f718 lk_6d91b6d2 lk_229db627) rfl hvX6_ofOp ⟨rfl, rfl⟩ ⟨Nat.le_of_ble_eq_true rfl, Nat.le_of_ble_eq_true rfl⟩ ⟨Nat.zero_le _, Nat.zero_le _⟩ rfl rfl (Nat.le_of_ble_eq_true rfl) 0 rfl vc6 rfl rfl rfl rfl (by decide) ?_
    refine sw_iload_n 20 G dX6_stations_20 1 rfl ?_
    obtain ⟨v6, hj, hf⟩ := bd1_some hf
    have hx34 : sw Θ p e rmX6_stations s m args below meth c A Q 3 0 0 34 [(0, .ref m0), (2, .int v3)] [.int v6] (wX6 Θ m0 m1 m2 m3 m4 m5 m6 m7 m8 m9 m_now m_saved m_aside m_states m_quiet m_thrown m_tried m_best m_touching m_text m_length m_at m_verbs m_told m_commands) := by
      refine sw_istore_n 34 G [(1, .int v6), (0, .ref m0), (2, .int v3)] dX6_stations_34 (by decide) rfl ?_
      refine sw_iinc 35 G (v3 + (1 : Int32)) [(2, .int (v3 + (1 : Int32))), (1, .int v6), (0, .ref m0)] dX6_stations_35 2 rfl rfl (by decide) rfl ?_
      refine sw_goto 38 G 4 dX6_stations_38 rfl ?_
      cases hf
      have hb := hin4 _ rfl
      exact sw_lv _ [2, 1, 0] (by rfl) hb
    clear hf
    have hf := hj
    clear hj
    refine sw_icmp_le 21 33 G dX6_stations_21 rfl hf (fun hf => ?_) (fun hf => ?_)
    · refine sw_iload_n 33 G dX6_stations_33 1 rfl ?_
      cases hf
      exact sw_lv _ [0, 2] rfl hx34
    · refine sw_aload_n 24 G dX6_stations_24 0 rfl ?_
      refine sw_iload_n 25 G dX6_stations_25 2 rfl ?_
      refine sw_iconst 26 G (5 : Int32) dX6_stations_26 rfl ?_
      obtain ⟨r7, hg, hf⟩ := bd1_some hf
      refine sw_callV 27 G (wX6 Θ m0 m1 m2 m3 m4 m5 m6 m7 m8 m9 m_now m_saved m_aside m_states m_quiet m_thrown m_tried m_best m_touching m_text m_length m_at m_verbs m_told m_commands) [0, 1, 2, 3, 4, 5, 6, 7, 8, 9] [] [0, 1, 2, 3, 4, 5, 6, 7, 8, 9] 2 dX6_stations_27 (kX6_ofOp Θ m0 m1 m2 m3 m4 m5 m6 m7 m8 m9 m_now m_saved m_aside m_states m_quiet m_thrown m_tried m_best m_touching m_text m_length m_at m_verbs m_told m_commands v3 (5 : Int32) r7 hg) (gwV lk_2264dc2b lk_fffc09d0 lk_e7d0f718 lk_6d91b6d2 lk_229db627) rfl hvX6_ofOp ⟨rfl, rfl⟩ ⟨Nat.le_of_ble_eq_true rfl, Nat.le_of_ble_eq_true rfl⟩ ⟨Nat.zero_le _, Nat.zero_le _⟩ rfl rfl (Nat.le_of_ble_eq_true rfl) 0 rfl vc6 rfl rfl rfl rfl (by decide) ?_
      refine sw_goto 30 G 34 dX6_stations_30 rfl ?_
      cases hf
      exact sw_lv _ [0, 2] rfl hx34
abbrev rmX6_isEarly : Room := { frames := 1, cells := 0, slots := 0, locals := 22 }
theorem hvX6_isEarly : yX6_isEarly.cls = RX6 ∧ yX6_isEarly.cls ≠ "java/lang/invoke/MethodHandle" ∧ yX6_isEarly.cls ≠ "java/lang/invoke/VarHandle" ∧ (parseMethodDescriptor yX6_isEarly.desc).map (fun d => d.parameters.length) = some 4 := by decide +kernel
set_option maxRecDepth 100000 in
set_option maxHeartbeats 4000000 in
theorem kX6_isEarly (Θ : Tht) (m0 m1 m2 m3 m4 m5 m6 m7 m8 m9 : Nat) (m_now : Nat → Int64) (m_saved : Nat → Int64) (m_aside : Nat → Int64) (m_states : Int32) (m_quiet : Int32) (m_thrown : Int32) (m_tried : Nat → Int32) (m_best : Nat → Int32) (m_touching : Nat → Int32) (m_text : Nat → Int32) (m_length : Int32) (m_at : Int32) (m_verbs : Nat → Int32) (m_told : Nat → Int32) (m_commands : Int32) (a0 : Int32) (a1 : Int32) (a2 : Int32) (a3 : Int32) (ro : Int32) (hf : fX6_isEarly m_now a0 a1 a2 a3 = some ro) : Fn Θ yX6_isEarly (Cond.code yX6_isEarly cX6_isEarly 6 (some .boolean) :: GW) rmX6_isEarly [.ref m0, .int a0, .int a1, .int a2, .int a3] (wX6 Θ m0 m1 m2 m3 m4 m5 m6 m7 m8 m9 m_now m_saved m_aside m_states m_quiet m_thrown m_tried m_best m_touching m_text m_length m_at m_verbs m_told m_commands) (some (.int ro)) (wX6 Θ m0 m1 m2 m3 m4 m5 m6 m7 m8 m9 m_now m_saved m_aside m_states m_quiet m_thrown m_tried m_best m_touching m_text m_length m_at m_verbs m_told m_commands) := by
  delta fX6_isEarly at hf
  refine Fn.of (by decide +kernel) rfl (Nat.le_of_ble_eq_true rfl) (fun p e s m args below meth c A Q G K => ?_)
  show sw Θ p e rmX6_isEarly s m args below meth c A Q 6 0 0 0 [(0, .ref m0), (1, .int a0), (2, .int a1), (3, .int a2), (4, .int a3)] [] (wX6 Θ m0 m1 m2 m3 m4 m5 m6 m7 m8 m9 m_now m_saved m_aside m_states m_quiet m_thrown m_tried m_best m_touching m_text m_length m_at m_verbs m_told m_commands)
  refine sw_aload_n 0 G dX6_isEarly_0 0 rfl ?_
  refine sw_iload_n 1 G dX6_isEarly_1 1 rfl ?_
  refine sw_iconst 2 G (0 : Int32) dX6_isEarly_2 rfl ?_
  obtain ⟨r1, hg, hf⟩ := bd1_some hf
  refine sw_callV 3 G (wX6 Θ m0 m1 m2 m3 m4 m5 m6 m7 m8 m9 m_now m_saved m_aside m_states m_quiet m_thrown m_tried m_best m_touching m_text m_length m_at m_verbs m_told m_commands) [0, 1, 2, 3, 4, 5, 6, 7, 8, 9] [] [0, 1, 2, 3, 4, 5, 6, 7, 8, 9] 2 dX6_isEarly_3 (kX6_ofOp Θ m0 m1 m2 m3 m4 m5 m6 m7 m8 m9 m_now m_saved m_aside m_states m_quiet m_thrown m_tried m_best m_touching m_text m_length m_at m_verbs m_told m_commands a0 (0 : Int32) r1 hg) (gwV lk_2264dc2b lk_fffc09d0 lk_e7d0f718 lk_6d91b6d2 lk_229db627) rfl hvX6_ofOp ⟨rfl, rfl⟩ ⟨Nat.le_of_ble_eq_true rfl, Nat.le_of_ble_eq_true rfl⟩ ⟨Nat.zero_le _, Nat.zero_le _⟩ rfl rfl (Nat.le_of_ble_eq_true rfl) 0 rfl vc6 rfl rfl rfl rfl (by decide) ?_
  refine sw_aload_n 6 G dX6_isEarly_6 0 rfl ?_
  refine sw_iload_n 7 G dX6_isEarly_7 3 rfl ?_
  refine sw_iconst 8 G (0 : Int32) dX6_isEarly_8 rfl ?_
  obtain ⟨r2, hg, hf⟩ := bd1_some hf
  refine sw_callV 9 G (wX6 Θ m0 m1 m2 m3 m4 m5 m6 m7 m8 m9 m_now m_saved m_aside m_states m_quiet m_thrown m_tried m_best m_touching m_text m_length m_at m_verbs m_told m_commands) [0, 1, 2, 3, 4, 5, 6, 7, 8, 9] [] [0, 1, 2, 3, 4, 5, 6, 7, 8, 9] 2 dX6_isEarly_9 (kX6_ofOp Θ m0 m1 m2 m3 m4 m5 m6 m7 m8 m9 m_now m_saved m_aside m_states m_quiet m_thrown m_tried m_best m_touching m_text m_length m_at m_verbs m_told m_commands a2 (0 : Int32) r2 hg) (gwV lk_2264dc2b lk_fffc09d0 lk_e7d0f718 lk_6d91b6d2 lk_229db627) rfl hvX6_ofOp ⟨rfl, rfl⟩ ⟨Nat.le_of_ble_eq_true rfl, Nat.le_of_ble_eq_true rfl⟩ ⟨Nat.zero_le _, Nat.zero_le _⟩ rfl rfl (Nat.le_of_ble_eq_true rfl) 0 rfl vc6 rfl rfl rfl rfl (by decide) ?_
  refine sw_icmp_ne 12 17 G dX6_isEarly_12 rfl hf (fun hf => ?_) (fun hf => ?_)
  · refine sw_aload_n 17 G dX6_isEarly_17 0 rfl ?_
    refine sw_iload_n 18 G dX6_isEarly_18 1 rfl ?_
    refine sw_iconst 19 G (0 : Int32) dX6_isEarly_19 rfl ?_
    obtain ⟨r3, hg, hf⟩ := bd1_some hf
    refine sw_callV 20 G (wX6 Θ m0 m1 m2 m3 m4 m5 m6 m7 m8 m9 m_now m_saved m_aside m_states m_quiet m_thrown m_tried m_best m_touching m_text m_length m_at m_verbs m_told m_commands) [0, 1, 2, 3, 4, 5, 6, 7, 8, 9] [] [0, 1, 2, 3, 4, 5, 6, 7, 8, 9] 2 dX6_isEarly_20 (kX6_ofOp Θ m0 m1 m2 m3 m4 m5 m6 m7 m8 m9 m_now m_saved m_aside m_states m_quiet m_thrown m_tried m_best m_touching m_text m_length m_at m_verbs m_told m_commands a0 (0 : Int32) r3 hg) (gwV lk_2264dc2b lk_fffc09d0 lk_e7d0f718 lk_6d91b6d2 lk_229db627) rfl hvX6_ofOp ⟨rfl, rfl⟩ ⟨Nat.le_of_ble_eq_true rfl, Nat.le_of_ble_eq_true rfl⟩ ⟨Nat.zero_le _, Nat.zero_le _⟩ rfl rfl (Nat.le_of_ble_eq_true rfl) 0 rfl vc6 rfl rfl rfl rfl (by decide) ?_
    refine sw_iconst 23 G (1 : Int32) dX6_isEarly_23 rfl ?_
    obtain ⟨v4, hj, hf⟩ := bd1_some hf
    have hx38 : sw Θ p e rmX6_isEarly s m args below meth c A Q 6 0 0 38 [(0, .ref m0)] [.int v4] (wX6 Θ m0 m1 m2 m3 m4 m5 m6 m7 m8 m9 m_now m_saved m_aside m_states m_quiet m_thrown m_tried m_best m_touching m_text m_length m_at m_verbs m_told m_commands) := by
      refine sw_istore 38 G [(5, .int v4), (0, .ref m0)] dX6_isEarly_38 (by decide) rfl ?_
      refine sw_iload 40 G dX6_isEarly_40 0 rfl ?_
      refine sw_iconst 42 G (1 : Int32) dX6_isEarly_42 rfl ?_
      refine sw_aload_n 43 G dX6_isEarly_43 1 rfl ?_
      refine sw_iconst 44 G (1 : Int32) dX6_isEarly_44 rfl ?_
      obtain ⟨r5, hg, hf⟩ := bd1_some hf
      refine sw_callV 45 G (wX6 Θ m0 m1 m2 m3 m4 m5 m6 m7 m8 m9 m_now m_saved m_aside m_states m_quiet m_thrown m_tried m_best m_touching m_text m_length m_at m_verbs m_told m_commands) [0, 1, 2, 3, 4, 5, 6, 7, 8, 9] [] [0, 1, 2, 3, 4, 5, 6, 7, 8, 9] 1 dX6_isEarly_45 (kX6_setting Θ m0 m1 m2 m3 m4 m5 m6 m7 m8 m9 m_now m_saved m_aside m_states m_quiet m_thrown m_tried m_best m_touching m_text m_length m_at m_verbs m_told m_commands (1 : Int32) r5 hg) (gwV lk_29a14a05 lk_b15aae89 lk_394237e6 lk_6d91b6d2 lk_fa884fd4) rfl hvX6_setting ⟨rfl, rfl⟩ ⟨Nat.le_of_ble_eq_true rfl, Nat.le_of_ble_eq_true rfl⟩ ⟨Nat.zero_le _, Nat.zero_le _⟩ rfl rfl (Nat.le_of_ble_eq_true rfl) 0 rfl vc6 rfl rfl rfl rfl (by decide) ?_
      refine sw_iadd 48 G dX6_isEarly_48 ?_
      refine sw_icmp_ge 49 56 G dX6_isEarly_49 rfl hf (fun hf => ?_) (fun hf => ?_)
      · refine sw_iconst 56 G (0 : Int32) dX6_isEarly_56 rfl ?_
        cases hf
        exact sw_zret 57 G dX6_isEarly_57 K rfl
      · refine sw_iconst 52 G (1 : Int32) dX6_isEarly_52 rfl ?_
        refine sw_goto 53 G 57 dX6_isEarly_53 rfl ?_
        cases hf
        exact sw_zret 57 G dX6_isEarly_57 K rfl
    clear hf
    have hf := hj
    clear hj
    refine sw_icmp_ne 24 34 G dX6_isEarly_24 rfl hf (fun hf => ?_) (fun hf => ?_)
    · refine sw_iload 34 G dX6_isEarly_34 4 rfl ?_
      refine sw_iload_n 36 G dX6_isEarly_36 2 rfl ?_
      refine sw_isub 37 G dX6_isEarly_37 ?_
      cases hf
      exact sw_lv _ [0] rfl hx38
    · refine sw_iload_n 27 G dX6_isEarly_27 2 rfl ?_
      refine sw_iload 28 G dX6_isEarly_28 4 rfl ?_
      refine sw_isub 30 G dX6_isEarly_30 ?_
      refine sw_goto 31 G 38 dX6_isEarly_31 rfl ?_
      cases hf
      exact sw_lv _ [0] rfl hx38
  · refine sw_iconst 15 G (0 : Int32) dX6_isEarly_15 rfl ?_
    cases hf
    exact sw_zret 16 G dX6_isEarly_16 K rfl
