abbrev rmX6_faultOfPlan : Room := { frames := 4, cells := 0, slots := 0, locals := 95 }
theorem hvX6_faultOfPlan : yX6_faultOfPlan.cls = RX6 ∧ yX6_faultOfPlan.cls ≠ "java/lang/invoke/MethodHandle" ∧ yX6_faultOfPlan.cls ≠ "java/lang/invoke/VarHandle" ∧ (parseMethodDescriptor yX6_faultOfPlan.desc).map (fun d => d.parameters.length) = some 0 := by decide +kernel
set_option maxRecDepth 100000 in
set_option maxHeartbeats 4000000 in
theorem kX6_faultOfPlan (Θ : Tht) (F : Nat) (m0 m1 m2 m3 m4 m5 m6 m7 m8 m9 : Nat) (m_now : Nat → Int64) (m_saved : Nat → Int64) (m_aside : Nat → Int64) (m_states : Int32) (m_quiet : Int32) (m_thrown : Int32) (m_tried : Nat → Int32) (m_best : Nat → Int32) (m_touching : Nat → Int32) (m_text : Nat → Int32) (m_length : Int32) (m_at : Int32) (m_verbs : Nat → Int32) (m_told : Nat → Int32) (m_commands : Int32) (ro : Int32) (hf : fX6_faultOfPlan F m_now = some ro) : Fn Θ yX6_faultOfPlan (Cond.code yX6_faultOfPlan cX6_faultOfPlan 10 (some .int) :: GW) rmX6_faultOfPlan [.ref m0] (wX6 Θ m0 m1 m2 m3 m4 m5 m6 m7 m8 m9 m_now m_saved m_aside m_states m_quiet m_thrown m_tried m_best m_touching m_text m_length m_at m_verbs m_told m_commands) (some (.int ro)) (wX6 Θ m0 m1 m2 m3 m4 m5 m6 m7 m8 m9 m_now m_saved m_aside m_states m_quiet m_thrown m_tried m_best m_touching m_text m_length m_at m_verbs m_told m_commands) := by
  delta fX6_faultOfPlan at hf
  refine Fn.of (by decide +kernel) rfl (Nat.le_of_ble_eq_true rfl) (fun p e s m args below meth c A Q G K => ?_)
  show sw Θ p e rmX6_faultOfPlan s m args below meth c A Q 10 0 0 0 [(0, .ref m0)] [] (wX6 Θ m0 m1 m2 m3 m4 m5 m6 m7 m8 m9 m_now m_saved m_aside m_states m_quiet m_thrown m_tried m_best m_touching m_text m_length m_at m_verbs m_told m_commands)
  refine sw_iconst 0 G (0 : Int32) dX6_faultOfPlan_0 rfl ?_
  refine sw_istore_n 1 G [(1, .int (0 : Int32)), (0, .ref m0)] dX6_faultOfPlan_1 (by decide) rfl ?_
  refine sw_iconst 2 G (0 : Int32) dX6_faultOfPlan_2 rfl ?_
  refine sw_istore_n 3 G [(2, .int (0 : Int32)), (1, .int (0 : Int32)), (0, .ref m0)] dX6_faultOfPlan_3 (by decide) rfl ?_
  refine sw_iconst 4 G (0 : Int32) dX6_faultOfPlan_4 rfl ?_
  refine sw_istore_n 5 G [(3, .int (0 : Int32)), (2, .int (0 : Int32)), (1, .int (0 : Int32)), (0, .ref m0)] dX6_faultOfPlan_5 (by decide) rfl ?_
  refine sw_iconst 6 G (0 : Int32) dX6_faultOfPlan_6 rfl ?_
  refine sw_istore 7 G [(4, .int (0 : Int32)), (3, .int (0 : Int32)), (2, .int (0 : Int32)), (1, .int (0 : Int32)), (0, .ref m0)] dX6_faultOfPlan_7 (by decide) rfl ?_
  refine sw_iconst 9 G (0 : Int32) dX6_faultOfPlan_9 rfl ?_
  refine sw_istore 10 G [(5, .int (0 : Int32)), (4, .int (0 : Int32)), (3, .int (0 : Int32)), (2, .int (0 : Int32)), (1, .int (0 : Int32)), (0, .ref m0)] dX6_faultOfPlan_10 (by decide) rfl ?_
  obtain ⟨v1, v2, v3, v4, hl, hf⟩ := bd4_some hf
  have hx12_198 : sw Θ p e rmX6_faultOfPlan s m args below meth c A Q 10 0 0 198 [(1, .int v1), (2, .int v2), (3, .int v3), (4, .int v4)] [] (wX6 Θ m0 m1 m2 m3 m4 m5 m6 m7 m8 m9 m_now m_saved m_aside m_states m_quiet m_thrown m_tried m_best m_touching m_text m_length m_at m_verbs m_told m_commands) := by
    refine sw_iload_n 198 G dX6_faultOfPlan_198 0 rfl ?_
    refine sw_if_eq 199 206 G dX6_faultOfPlan_199 rfl hf (fun hf => ?_) (fun hf => ?_)
    · refine sw_iload_n 206 G dX6_faultOfPlan_206 1 rfl ?_
      refine sw_if_eq 207 214 G dX6_faultOfPlan_207 rfl hf (fun hf => ?_) (fun hf => ?_)
      · refine sw_iload_n 214 G dX6_faultOfPlan_214 2 rfl ?_
        refine sw_if_eq 215 222 G dX6_faultOfPlan_215 rfl hf (fun hf => ?_) (fun hf => ?_)
        · refine sw_iload 222 G dX6_faultOfPlan_222 3 rfl ?_
          refine sw_if_eq 224 231 G dX6_faultOfPlan_224 rfl hf (fun hf => ?_) (fun hf => ?_)
          · refine sw_iconst 231 G (0 : Int32) dX6_faultOfPlan_231 rfl ?_
            cases hf
            exact sw_iret 232 G dX6_faultOfPlan_232 K
          · refine sw_iconst 227 G (4 : Int32) dX6_faultOfPlan_227 rfl ?_
            refine sw_goto 228 G 232 dX6_faultOfPlan_228 rfl ?_
            cases hf
            exact sw_iret 232 G dX6_faultOfPlan_232 K
        · refine sw_iconst 218 G (3 : Int32) dX6_faultOfPlan_218 rfl ?_
          refine sw_goto 219 G 232 dX6_faultOfPlan_219 rfl ?_
          cases hf
          exact sw_iret 232 G dX6_faultOfPlan_232 K
      · refine sw_iconst 210 G (2 : Int32) dX6_faultOfPlan_210 rfl ?_
        refine sw_goto 211 G 232 dX6_faultOfPlan_211 rfl ?_
        cases hf
        exact sw_iret 232 G dX6_faultOfPlan_232 K
    · refine sw_iconst 202 G (1 : Int32) dX6_faultOfPlan_202 rfl ?_
      refine sw_goto 203 G 232 dX6_faultOfPlan_203 rfl ?_
      cases hf
      exact sw_iret 232 G dX6_faultOfPlan_232 K
  refine sw_lv [(0, .ref m0), (1, .int (0 : Int32)), (2, .int (0 : Int32)), (3, .int (0 : Int32)), (4, .int (0 : Int32)), (5, .int (0 : Int32))] [5, 4, 3, 2, 1, 0] rfl ?_
  refine lp_walk (P := fun (t : Int32 × Int32 × Int32 × Int32 × Int32) => sw Θ p e rmX6_faultOfPlan s m args below meth c A Q 10 0 0 12 [(0, .ref m0), (1, .int t.1), (2, .int t.2.1), (3, .int t.2.2.1), (4, .int t.2.2.2.1), (5, .int t.2.2.2.2)] [] (wX6 Θ m0 m1 m2 m3 m4 m5 m6 m7 m8 m9 m_now m_saved m_aside m_states m_quiet m_thrown m_tried m_best m_touching m_text m_length m_at m_verbs m_told m_commands)) hl (fun t12 y12 hf hin12 hex12 => ?_)
  obtain ⟨v5, v6, v7, v8, v9⟩ := t12
  show sw Θ p e rmX6_faultOfPlan s m args below meth c A Q 10 0 0 12 [(0, .ref m0), (1, .int v5), (2, .int v6), (3, .int v7), (4, .int v8), (5, .int v9)] [] (wX6 Θ m0 m1 m2 m3 m4 m5 m6 m7 m8 m9 m_now m_saved m_aside m_states m_quiet m_thrown m_tried m_best m_touching m_text m_length m_at m_verbs m_told m_commands)
  have hf := uc5_some (K := _) hf
  refine sw_iload 12 G dX6_faultOfPlan_12 5 rfl ?_
  refine sw_aload_n 14 G dX6_faultOfPlan_14 0 rfl ?_
  refine sw_bipush 15 G (8 : Int32) dX6_faultOfPlan_15 rfl ?_
  obtain ⟨r10, hg, hf⟩ := bd1_some hf
  refine sw_callV 17 G (wX6 Θ m0 m1 m2 m3 m4 m5 m6 m7 m8 m9 m_now m_saved m_aside m_states m_quiet m_thrown m_tried m_best m_touching m_text m_length m_at m_verbs m_told m_commands) [0, 1, 2, 3, 4, 5, 6, 7, 8, 9] [] [0, 1, 2, 3, 4, 5, 6, 7, 8, 9] 1 dX6_faultOfPlan_17 (kX6_many Θ m0 m1 m2 m3 m4 m5 m6 m7 m8 m9 m_now m_saved m_aside m_states m_quiet m_thrown m_tried m_best m_touching m_text m_length m_at m_verbs m_told m_commands (8 : Int32) r10 hg) (gwV lk_184fe921 lk_d689724c lk_b095f72c lk_6d91b6d2 lk_d7f116ea) rfl hvX6_many ⟨rfl, rfl⟩ ⟨Nat.le_of_ble_eq_true rfl, Nat.le_of_ble_eq_true rfl⟩ ⟨Nat.zero_le _, Nat.zero_le _⟩ rfl rfl (Nat.le_of_ble_eq_true rfl) 0 rfl vc6 rfl rfl rfl rfl (by decide) ?_
  refine sw_icmp_ge 20 198 G dX6_faultOfPlan_20 rfl hf (fun hf => ?_) (fun hf => ?_)
  · cases hf
    cases hex12 _ rfl
    exact sw_lv _ [1, 2, 3, 4] rfl hx12_198
  · refine sw_aload_n 23 G dX6_faultOfPlan_23 0 rfl ?_
    refine sw_iload 24 G dX6_faultOfPlan_24 5 rfl ?_
    refine sw_iconst 26 G (5 : Int32) dX6_faultOfPlan_26 rfl ?_
    obtain ⟨r11, hg, hf⟩ := bd1_some hf
    refine sw_callV 27 G (wX6 Θ m0 m1 m2 m3 m4 m5 m6 m7 m8 m9 m_now m_saved m_aside m_states m_quiet m_thrown m_tried m_best m_touching m_text m_length m_at m_verbs m_told m_commands) [0, 1, 2, 3, 4, 5, 6, 7, 8, 9] [] [0, 1, 2, 3, 4, 5, 6, 7, 8, 9] 2 dX6_faultOfPlan_27 (kX6_ofOp Θ m0 m1 m2 m3 m4 m5 m6 m7 m8 m9 m_now m_saved m_aside m_states m_quiet m_thrown m_tried m_best m_touching m_text m_length m_at m_verbs m_told m_commands v9 (5 : Int32) r11 hg) (gwV lk_2264dc2b lk_fffc09d0 lk_e7d0f718 lk_6d91b6d2 lk_229db627) rfl hvX6_ofOp ⟨rfl, rfl⟩ ⟨Nat.le_of_ble_eq_true rfl, Nat.le_of_ble_eq_true rfl⟩ ⟨Nat.zero_le _, Nat.zero_le _⟩ rfl rfl (Nat.le_of_ble_eq_true rfl) 0 rfl vc6 rfl rfl rfl rfl (by decide) ?_
    refine sw_istore 30 G [(6, .int r11), (0, .ref m0), (1, .int v5), (2, .int v6), (3, .int v7), (4, .int v8), (5, .int v9)] dX6_faultOfPlan_30 (by decide) rfl ?_
    refine sw_aload_n 32 G dX6_faultOfPlan_32 1 rfl ?_
    refine sw_iload 33 G dX6_faultOfPlan_33 6 rfl ?_
    obtain ⟨r12, hg, hf⟩ := bd1_some hf
    refine sw_callV 35 G (wX6 Θ m0 m1 m2 m3 m4 m5 m6 m7 m8 m9 m_now m_saved m_aside m_states m_quiet m_thrown m_tried m_best m_touching m_text m_length m_at m_verbs m_told m_commands) [0, 1, 2, 3, 4, 5, 6, 7, 8, 9] [] [0, 1, 2, 3, 4, 5, 6, 7, 8, 9] 1 dX6_faultOfPlan_35 (kX6_touches Θ F m0 m1 m2 m3 m4 m5 m6 m7 m8 m9 m_now m_saved m_aside m_states m_quiet m_thrown m_tried m_best m_touching m_text m_length m_at m_verbs m_told m_commands v9 r12 hg) (gwV lk_b04fa29e lk_3e6a8042 lk_1bb8e9b3 lk_6d91b6d2 lk_10255ca4) rfl hvX6_touches ⟨rfl, rfl⟩ ⟨Nat.le_of_ble_eq_true rfl, Nat.le_of_ble_eq_true rfl⟩ ⟨Nat.zero_le _, Nat.zero_le _⟩ rfl rfl (Nat.le_of_ble_eq_true rfl) 0 rfl vc6 rfl rfl rfl rfl (by decide) ?_
    refine sw_istore 38 G [(7, .int r12), (6, .int r11), (0, .ref m0), (1, .int v5), (2, .int v6), (3, .int v7), (4, .int v8), (5, .int v9)] dX6_faultOfPlan_38 (by decide) rfl ?_
    refine sw_iload_n 40 G dX6_faultOfPlan_40 3 rfl ?_
    obtain ⟨v13, hj, hf⟩ := bd1_some hf
    have hx55 : sw Θ p e rmX6_faultOfPlan s m args below meth c A Q 10 0 0 55 [(0, .ref m0), (2, .int v6), (3, .int v7), (4, .int v8), (5, .int v9), (6, .int r11), (7, .int r12)] [.int v13] (wX6 Θ m0 m1 m2 m3 m4 m5 m6 m7 m8 m9 m_now m_saved m_aside m_states m_quiet m_thrown m_tried m_best m_touching m_text m_length m_at m_verbs m_told m_commands) := by
      refine sw_istore_n 55 G [(1, .int v13), (0, .ref m0), (2, .int v6), (3, .int v7), (4, .int v8), (5, .int v9), (6, .int r11), (7, .int r12)] dX6_faultOfPlan_55 (by decide) rfl ?_
      refine sw_iload_n 56 G dX6_faultOfPlan_56 2 rfl ?_
      obtain ⟨v14, hj, hf⟩ := bd1_some hf
      have hx89 : sw Θ p e rmX6_faultOfPlan s m args below meth c A Q 10 0 0 89 [(0, .ref m0), (1, .int v13), (3, .int v7), (4, .int v8), (5, .int v9), (6, .int r11), (7, .int r12)] [.int v14] (wX6 Θ m0 m1 m2 m3 m4 m5 m6 m7 m8 m9 m_now m_saved m_aside m_states m_quiet m_thrown m_tried m_best m_touching m_text m_length m_at m_verbs m_told m_commands) := by
        refine sw_istore_n 89 G [(2, .int v14), (0, .ref m0), (1, .int v13), (3, .int v7), (4, .int v8), (5, .int v9), (6, .int r11), (7, .int r12)] dX6_faultOfPlan_89 (by decide) rfl ?_
        refine sw_iconst 90 G (0 : Int32) dX6_faultOfPlan_90 rfl ?_
        refine sw_istore 91 G [(8, .int (0 : Int32)), (2, .int v14), (0, .ref m0), (1, .int v13), (3, .int v7), (4, .int v8), (5, .int v9), (6, .int r11), (7, .int r12)] dX6_faultOfPlan_91 (by decide) rfl ?_
        obtain ⟨v18, v19, hl, hf⟩ := bd2_some hf
        have hx93_192 : sw Θ p e rmX6_faultOfPlan s m args below meth c A Q 10 0 0 192 [(0, .ref m0), (1, .int v13), (2, .int v14), (3, .int v18), (4, .int v19), (5, .int v9)] [] (wX6 Θ m0 m1 m2 m3 m4 m5 m6 m7 m8 m9 m_now m_saved m_aside m_states m_quiet m_thrown m_tried m_best m_touching m_text m_length m_at m_verbs m_told m_commands) := by
          refine sw_iinc 192 G (v9 + (1 : Int32)) [(5, .int (v9 + (1 : Int32))), (0, .ref m0), (1, .int v13), (2, .int v14), (3, .int v18), (4, .int v19)] dX6_faultOfPlan_192 5 rfl rfl (by decide) rfl ?_
          refine sw_goto 195 G 12 dX6_faultOfPlan_195 rfl ?_
          cases hf
          have hb := hin12 _ rfl
          exact sw_lv _ [1, 2, 3, 4, 5, 0] (by rfl) hb
        refine sw_lv [(0, .ref m0), (1, .int v13), (2, .int v14), (3, .int v7), (4, .int v8), (5, .int v9), (6, .int r11), (7, .int r12), (8, .int (0 : Int32))] [2, 3, 1, 4, 5, 6, 7, 8, 0] rfl ?_
        refine lp_walk (P := fun (t : Int32 × Int32 × Int32) => sw Θ p e rmX6_faultOfPlan s m args below meth c A Q 10 0 0 93 [(0, .ref m0), (1, .int v13), (2, .int v14), (3, .int t.1), (4, .int t.2.1), (5, .int v9), (6, .int r11), (7, .int r12), (8, .int t.2.2)] [] (wX6 Θ m0 m1 m2 m3 m4 m5 m6 m7 m8 m9 m_now m_saved m_aside m_states m_quiet m_thrown m_tried m_best m_touching m_text m_length m_at m_verbs m_told m_commands)) hl (fun t93 y93 hf hin93 hex93 => ?_)
        obtain ⟨v20, v21, v22⟩ := t93
        show sw Θ p e rmX6_faultOfPlan s m args below meth c A Q 10 0 0 93 [(0, .ref m0), (1, .int v13), (2, .int v14), (3, .int v20), (4, .int v21), (5, .int v9), (6, .int r11), (7, .int r12), (8, .int v22)] [] (wX6 Θ m0 m1 m2 m3 m4 m5 m6 m7 m8 m9 m_now m_saved m_aside m_states m_quiet m_thrown m_tried m_best m_touching m_text m_length m_at m_verbs m_told m_commands)
        have hf := uc3_some (K := _) hf
        refine sw_iload 93 G dX6_faultOfPlan_93 8 rfl ?_
        refine sw_aload_n 95 G dX6_faultOfPlan_95 0 rfl ?_
        refine sw_bipush 96 G (8 : Int32) dX6_faultOfPlan_96 rfl ?_
        obtain ⟨r23, hg, hf⟩ := bd1_some hf
        refine sw_callV 98 G (wX6 Θ m0 m1 m2 m3 m4 m5 m6 m7 m8 m9 m_now m_saved m_aside m_states m_quiet m_thrown m_tried m_best m_touching m_text m_length m_at m_verbs m_told m_commands) [0, 1, 2, 3, 4, 5, 6, 7, 8, 9] [] [0, 1, 2, 3, 4, 5, 6, 7, 8, 9] 1 dX6_faultOfPlan_98 (kX6_many Θ m0 m1 m2 m3 m4 m5 m6 m7 m8 m9 m_now m_saved m_aside m_states m_quiet m_thrown m_tried m_best m_touching m_text m_length m_at m_verbs m_told m_commands (8 : Int32) r23 hg) (gwV lk_184fe921 lk_d689724c lk_b095f72c lk_6d91b6d2 lk_d7f116ea) rfl hvX6_many ⟨rfl, rfl⟩ ⟨Nat.le_of_ble_eq_true rfl, Nat.le_of_ble_eq_true rfl⟩ ⟨Nat.zero_le _, Nat.zero_le _⟩ rfl rfl (Nat.le_of_ble_eq_true rfl) 0 rfl vc6 rfl rfl rfl rfl (by decide) ?_
        refine sw_icmp_ge 101 192 G dX6_faultOfPlan_101 rfl hf (fun hf => ?_) (fun hf => ?_)
        · cases hf
          cases hex93 _ rfl
          exact sw_lv _ [0, 1, 2, 3, 4, 5] rfl hx93_192
        · refine sw_iload 104 G dX6_faultOfPlan_104 7 rfl ?_
          refine sw_iload 106 G dX6_faultOfPlan_106 8 rfl ?_
          refine sw_ishr 108 G dX6_faultOfPlan_108 ?_
          refine sw_iconst 109 G (1 : Int32) dX6_faultOfPlan_109 rfl ?_
          refine sw_iand 110 G dX6_faultOfPlan_110 ?_
          refine sw_iconst 111 G (1 : Int32) dX6_faultOfPlan_111 rfl ?_
          obtain ⟨v24, hj, hf⟩ := bd1_some hf
          have hx120 : sw Θ p e rmX6_faultOfPlan s m args below meth c A Q 10 0 0 120 [(0, .ref m0), (1, .int v13), (2, .int v14), (3, .int v20), (4, .int v21), (5, .int v9), (6, .int r11), (7, .int r12), (8, .int v22)] [.int v24] (wX6 Θ m0 m1 m2 m3 m4 m5 m6 m7 m8 m9 m_now m_saved m_aside m_states m_quiet m_thrown m_tried m_best m_touching m_text m_length m_at m_verbs m_told m_commands) := by
            refine sw_istore 120 G [(9, .int v24), (0, .ref m0), (1, .int v13), (2, .int v14), (3, .int v20), (4, .int v21), (5, .int v9), (6, .int r11), (7, .int r12), (8, .int v22)] dX6_faultOfPlan_120 (by decide) rfl ?_
            refine sw_iload_n 122 G dX6_faultOfPlan_122 4 rfl ?_
            obtain ⟨v25, hj, hf⟩ := bd1_some hf
            have hx148 : sw Θ p e rmX6_faultOfPlan s m args below meth c A Q 10 0 0 148 [(0, .ref m0), (1, .int v13), (2, .int v14), (4, .int v21), (5, .int v9), (6, .int r11), (7, .int r12), (8, .int v22), (9, .int v24)] [.int v25] (wX6 Θ m0 m1 m2 m3 m4 m5 m6 m7 m8 m9 m_now m_saved m_aside m_states m_quiet m_thrown m_tried m_best m_touching m_text m_length m_at m_verbs m_told m_commands) := by
              refine sw_istore_n 148 G [(3, .int v25), (0, .ref m0), (1, .int v13), (2, .int v14), (4, .int v21), (5, .int v9), (6, .int r11), (7, .int r12), (8, .int v22), (9, .int v24)] dX6_faultOfPlan_148 (by decide) rfl ?_
              refine sw_iload 149 G dX6_faultOfPlan_149 4 rfl ?_
              obtain ⟨v27, hj, hf⟩ := bd1_some hf
              have hx184 : sw Θ p e rmX6_faultOfPlan s m args below meth c A Q 10 0 0 184 [(0, .ref m0), (1, .int v13), (2, .int v14), (3, .int v25), (5, .int v9), (6, .int r11), (7, .int r12), (8, .int v22)] [.int v27] (wX6 Θ m0 m1 m2 m3 m4 m5 m6 m7 m8 m9 m_now m_saved m_aside m_states m_quiet m_thrown m_tried m_best m_touching m_text m_length m_at m_verbs m_told m_commands) := by
                refine sw_istore 184 G [(4, .int v27), (0, .ref m0), (1, .int v13), (2, .int v14), (3, .int v25), (5, .int v9), (6, .int r11), (7, .int r12), (8, .int v22)] dX6_faultOfPlan_184 (by decide) rfl ?_
                refine sw_iinc 186 G (v22 + (1 : Int32)) [(8, .int (v22 + (1 : Int32))), (4, .int v27), (0, .ref m0), (1, .int v13), (2, .int v14), (3, .int v25), (5, .int v9), (6, .int r11), (7, .int r12)] dX6_faultOfPlan_186 8 rfl rfl (by decide) rfl ?_
                refine sw_goto 189 G 93 dX6_faultOfPlan_189 rfl ?_
                cases hf
                have hb := hin93 _ rfl
                exact sw_lv _ [2, 3, 4, 5, 1, 6, 7, 8, 0] (by rfl) hb
              clear hf
              have hf := hj
              clear hj
              refine sw_if_ne 151 179 G dX6_faultOfPlan_151 rfl hf (fun hf => ?_) (fun hf => ?_)
              · refine sw_iconst 179 G (1 : Int32) dX6_faultOfPlan_179 rfl ?_
                refine sw_goto 180 G 184 dX6_faultOfPlan_180 rfl ?_
                cases hf
                exact sw_lv _ [1, 2, 3, 0, 5, 6, 7, 8] rfl hx184
              · refine sw_iload 154 G dX6_faultOfPlan_154 9 rfl ?_
                refine sw_if_eq 156 183 G dX6_faultOfPlan_156 rfl hf (fun hf => ?_) (fun hf => ?_)
                · refine sw_iconst 183 G (0 : Int32) dX6_faultOfPlan_183 rfl ?_
                  cases hf
                  exact sw_lv _ [1, 2, 3, 0, 5, 6, 7, 8] rfl hx184
                · refine sw_aload_n 159 G dX6_faultOfPlan_159 1 rfl ?_
                  refine sw_iload 160 G dX6_faultOfPlan_160 5 rfl ?_
                  refine sw_iload 162 G dX6_faultOfPlan_162 6 rfl ?_
                  refine sw_iload 164 G dX6_faultOfPlan_164 8 rfl ?_
                  refine sw_aload_n 166 G dX6_faultOfPlan_166 1 rfl ?_
                  refine sw_iload 167 G dX6_faultOfPlan_167 8 rfl ?_
                  refine sw_iconst 169 G (5 : Int32) dX6_faultOfPlan_169 rfl ?_
                  obtain ⟨r28, hg, hf⟩ := bd1_some hf
                  refine sw_callV 170 G (wX6 Θ m0 m1 m2 m3 m4 m5 m6 m7 m8 m9 m_now m_saved m_aside m_states m_quiet m_thrown m_tried m_best m_touching m_text m_length m_at m_verbs m_told m_commands) [0, 1, 2, 3, 4, 5, 6, 7, 8, 9] [] [0, 1, 2, 3, 4, 5, 6, 7, 8, 9] 2 dX6_faultOfPlan_170 (kX6_ofOp Θ m0 m1 m2 m3 m4 m5 m6 m7 m8 m9 m_now m_saved m_aside m_states m_quiet m_thrown m_tried m_best m_touching m_text m_length m_at m_verbs m_told m_commands v22 (5 : Int32) r28 hg) (gwV lk_2264dc2b lk_fffc09d0 lk_e7d0f718 lk_6d91b6d2 lk_229db627) rfl hvX6_ofOp ⟨rfl, rfl⟩ ⟨Nat.le_of_ble_eq_true rfl, Nat.le_of_ble_eq_true rfl⟩ ⟨Nat.zero_le _, Nat.zero_le _⟩ rfl rfl (Nat.le_of_ble_eq_true rfl) 0 rfl vc6 rfl rfl rfl rfl (by decide) ?_
                  obtain ⟨r29, hg, hf⟩ := bd1_some hf
                  refine sw_callV 173 G (wX6 Θ m0 m1 m2 m3 m4 m5 m6 m7 m8 m9 m_now m_saved m_aside m_states m_quiet m_thrown m_tried m_best m_touching m_text m_length m_at m_verbs m_told m_commands) [0, 1, 2, 3, 4, 5, 6, 7, 8, 9] [] [0, 1, 2, 3, 4, 5, 6, 7, 8, 9] 4 dX6_faultOfPlan_173 (kX6_isEarly Θ m0 m1 m2 m3 m4 m5 m6 m7 m8 m9 m_now m_saved m_aside m_states m_quiet m_thrown m_tried m_best m_touching m_text m_length m_at m_verbs m_told m_commands v9 r11 v22 r28 r29 hg) (gwV lk_1aa47af4 lk_81aa3e6e lk_8d3ca8ec lk_6d91b6d2 lk_279335c1) rfl hvX6_isEarly ⟨rfl, rfl⟩ ⟨Nat.le_of_ble_eq_true rfl, Nat.le_of_ble_eq_true rfl⟩ ⟨Nat.zero_le _, Nat.zero_le _⟩ rfl rfl (Nat.le_of_ble_eq_true rfl) 0 rfl vc6 rfl rfl rfl rfl (by decide) ?_
                  refine sw_if_eq 176 183 G dX6_faultOfPlan_176 rfl hf (fun hf => ?_) (fun hf => ?_)
                  · refine sw_iconst 183 G (0 : Int32) dX6_faultOfPlan_183 rfl ?_
                    cases hf
                    exact sw_lv _ [1, 2, 3, 0, 5, 6, 7, 8] rfl hx184
                  · refine sw_iconst 179 G (1 : Int32) dX6_faultOfPlan_179 rfl ?_
                    refine sw_goto 180 G 184 dX6_faultOfPlan_180 rfl ?_
                    cases hf
                    exact sw_lv _ [1, 2, 3, 0, 5, 6, 7, 8] rfl hx184
            clear hf
            have hf := hj
            clear hj
            refine sw_if_ne 123 143 G dX6_faultOfPlan_123 rfl hf (fun hf => ?_) (fun hf => ?_)
            · refine sw_iconst 143 G (1 : Int32) dX6_faultOfPlan_143 rfl ?_
              refine sw_goto 144 G 148 dX6_faultOfPlan_144 rfl ?_
              cases hf
              exact sw_lv _ [1, 2, 3, 5, 6, 7, 8, 9, 0] rfl hx148
            · refine sw_iload 126 G dX6_faultOfPlan_126 0 rfl ?_
              refine sw_if_eq 128 147 G dX6_faultOfPlan_128 rfl hf (fun hf => ?_) (fun hf => ?_)
              · refine sw_iconst 147 G (0 : Int32) dX6_faultOfPlan_147 rfl ?_
                cases hf
                exact sw_lv _ [1, 2, 3, 5, 6, 7, 8, 9, 0] rfl hx148
              · refine sw_aload_n 131 G dX6_faultOfPlan_131 1 rfl ?_
                refine sw_iload 132 G dX6_faultOfPlan_132 9 rfl ?_
                refine sw_iconst 134 G (5 : Int32) dX6_faultOfPlan_134 rfl ?_
                obtain ⟨r26, hg, hf⟩ := bd1_some hf
                refine sw_callV 135 G (wX6 Θ m0 m1 m2 m3 m4 m5 m6 m7 m8 m9 m_now m_saved m_aside m_states m_quiet m_thrown m_tried m_best m_touching m_text m_length m_at m_verbs m_told m_commands) [0, 1, 2, 3, 4, 5, 6, 7, 8, 9] [] [0, 1, 2, 3, 4, 5, 6, 7, 8, 9] 2 dX6_faultOfPlan_135 (kX6_ofOp Θ m0 m1 m2 m3 m4 m5 m6 m7 m8 m9 m_now m_saved m_aside m_states m_quiet m_thrown m_tried m_best m_touching m_text m_length m_at m_verbs m_told m_commands v22 (5 : Int32) r26 hg) (gwV lk_2264dc2b lk_fffc09d0 lk_e7d0f718 lk_6d91b6d2 lk_229db627) rfl hvX6_ofOp ⟨rfl, rfl⟩ ⟨Nat.le_of_ble_eq_true rfl, Nat.le_of_ble_eq_true rfl⟩ ⟨Nat.zero_le _, Nat.zero_le _⟩ rfl rfl (Nat.le_of_ble_eq_true rfl) 0 rfl vc6 rfl rfl rfl rfl (by decide) ?_
                refine sw_iload 138 G dX6_faultOfPlan_138 7 rfl ?_
                refine sw_icmp_ne 140 147 G dX6_faultOfPlan_140 rfl hf (fun hf => ?_) (fun hf => ?_)
                · refine sw_iconst 147 G (0 : Int32) dX6_faultOfPlan_147 rfl ?_
                  cases hf
                  exact sw_lv _ [1, 2, 3, 5, 6, 7, 8, 9, 0] rfl hx148
                · refine sw_iconst 143 G (1 : Int32) dX6_faultOfPlan_143 rfl ?_
                  refine sw_goto 144 G 148 dX6_faultOfPlan_144 rfl ?_
                  cases hf
                  exact sw_lv _ [1, 2, 3, 5, 6, 7, 8, 9, 0] rfl hx148
          clear hf
          have hf := hj
          clear hj
          refine sw_icmp_ne 112 119 G dX6_faultOfPlan_112 rfl hf (fun hf => ?_) (fun hf => ?_)
          · refine sw_iconst 119 G (0 : Int32) dX6_faultOfPlan_119 rfl ?_
            cases hf
            exact sw_lv _ [0, 1, 2, 3, 4, 5, 6, 7, 8] rfl hx120
          · refine sw_iconst 115 G (1 : Int32) dX6_faultOfPlan_115 rfl ?_
            refine sw_goto 116 G 120 dX6_faultOfPlan_116 rfl ?_
            cases hf
            exact sw_lv _ [0, 1, 2, 3, 4, 5, 6, 7, 8] rfl hx120
      clear hf
      have hf := hj
      clear hj
      refine sw_if_ne 57 84 G dX6_faultOfPlan_57 rfl hf (fun hf => ?_) (fun hf => ?_)
      · refine sw_iconst 84 G (1 : Int32) dX6_faultOfPlan_84 rfl ?_
        refine sw_goto 85 G 89 dX6_faultOfPlan_85 rfl ?_
        cases hf
        exact sw_lv _ [1, 0, 3, 4, 5, 6, 7] rfl hx89
      · refine sw_iload 60 G dX6_faultOfPlan_60 6 rfl ?_
        refine sw_iconst 62 G (-1 : Int32) dX6_faultOfPlan_62 rfl ?_
        refine sw_icmp_eq 63 88 G dX6_faultOfPlan_63 rfl hf (fun hf => ?_) (fun hf => ?_)
        · refine sw_iconst 88 G (0 : Int32) dX6_faultOfPlan_88 rfl ?_
          cases hf
          exact sw_lv _ [1, 0, 3, 4, 5, 6, 7] rfl hx89
        · refine sw_aload_n 66 G dX6_faultOfPlan_66 1 rfl ?_
          refine sw_aload_n 67 G dX6_faultOfPlan_67 1 rfl ?_
          refine sw_iload 68 G dX6_faultOfPlan_68 6 rfl ?_
          obtain ⟨r15, hg, hf⟩ := bd1_some hf
          refine sw_callV 70 G (wX6 Θ m0 m1 m2 m3 m4 m5 m6 m7 m8 m9 m_now m_saved m_aside m_states m_quiet m_thrown m_tried m_best m_touching m_text m_length m_at m_verbs m_told m_commands) [0, 1, 2, 3, 4, 5, 6, 7, 8, 9] [] [0, 1, 2, 3, 4, 5, 6, 7, 8, 9] 1 dX6_faultOfPlan_70 (kX6_opsAt Θ F m0 m1 m2 m3 m4 m5 m6 m7 m8 m9 m_now m_saved m_aside m_states m_quiet m_thrown m_tried m_best m_touching m_text m_length m_at m_verbs m_told m_commands r11 r15 hg) (gwV lk_578fec13 lk_7382132d lk_1149b8cf lk_6d91b6d2 lk_0856693d) rfl hvX6_opsAt ⟨rfl, rfl⟩ ⟨Nat.le_of_ble_eq_true rfl, Nat.le_of_ble_eq_true rfl⟩ ⟨Nat.zero_le _, Nat.zero_le _⟩ rfl rfl (Nat.le_of_ble_eq_true rfl) 0 rfl vc6 rfl rfl rfl rfl (by decide) ?_
          obtain ⟨r16, hg, hf⟩ := bd1_some hf
          refine sw_callV 73 G (wX6 Θ m0 m1 m2 m3 m4 m5 m6 m7 m8 m9 m_now m_saved m_aside m_states m_quiet m_thrown m_tried m_best m_touching m_text m_length m_at m_verbs m_told m_commands) [0, 1, 2, 3, 4, 5, 6, 7, 8, 9] [] [0, 1, 2, 3, 4, 5, 6, 7, 8, 9] 1 dX6_faultOfPlan_73 (kX6_forces Θ F m0 m1 m2 m3 m4 m5 m6 m7 m8 m9 m_now m_saved m_aside m_states m_quiet m_thrown m_tried m_best m_touching m_text m_length m_at m_verbs m_told m_commands r15 r16 hg) (gwV lk_bd078eb3 lk_a90b1bc1 lk_e6335d5f lk_6d91b6d2 lk_f01f51d3) rfl hvX6_forces ⟨rfl, rfl⟩ ⟨Nat.le_of_ble_eq_true rfl, Nat.le_of_ble_eq_true rfl⟩ ⟨Nat.zero_le _, Nat.zero_le _⟩ rfl rfl (Nat.le_of_ble_eq_true rfl) 0 rfl vc6 rfl rfl rfl rfl (by decide) ?_
          refine sw_aload_n 76 G dX6_faultOfPlan_76 1 rfl ?_
          refine sw_iconst 77 G (0 : Int32) dX6_faultOfPlan_77 rfl ?_
          obtain ⟨r17, hg, hf⟩ := bd1_some hf
          refine sw_callV 78 G (wX6 Θ m0 m1 m2 m3 m4 m5 m6 m7 m8 m9 m_now m_saved m_aside m_states m_quiet m_thrown m_tried m_best m_touching m_text m_length m_at m_verbs m_told m_commands) [0, 1, 2, 3, 4, 5, 6, 7, 8, 9] [] [0, 1, 2, 3, 4, 5, 6, 7, 8, 9] 1 dX6_faultOfPlan_78 (kX6_setting Θ m0 m1 m2 m3 m4 m5 m6 m7 m8 m9 m_now m_saved m_aside m_states m_quiet m_thrown m_tried m_best m_touching m_text m_length m_at m_verbs m_told m_commands (0 : Int32) r17 hg) (gwV lk_29a14a05 lk_b15aae89 lk_394237e6 lk_6d91b6d2 lk_fa884fd4) rfl hvX6_setting ⟨rfl, rfl⟩ ⟨Nat.le_of_ble_eq_true rfl, Nat.le_of_ble_eq_true rfl⟩ ⟨Nat.zero_le _, Nat.zero_le _⟩ rfl rfl (Nat.le_of_ble_eq_true rfl) 0 rfl vc6 rfl rfl rfl rfl (by decide) ?_
          refine sw_icmp_le 81 88 G dX6_faultOfPlan_81 rfl hf (fun hf => ?_) (fun hf => ?_)
          · refine sw_iconst 88 G (0 : Int32) dX6_faultOfPlan_88 rfl ?_
            cases hf
            exact sw_lv _ [1, 0, 3, 4, 5, 6, 7] rfl hx89
          · refine sw_iconst 84 G (1 : Int32) dX6_faultOfPlan_84 rfl ?_
            refine sw_goto 85 G 89 dX6_faultOfPlan_85 rfl ?_
            cases hf
            exact sw_lv _ [1, 0, 3, 4, 5, 6, 7] rfl hx89
    clear hf
    have hf := hj
    clear hj
    refine sw_if_ne 41 50 G dX6_faultOfPlan_41 rfl hf (fun hf => ?_) (fun hf => ?_)
    · refine sw_iconst 50 G (1 : Int32) dX6_faultOfPlan_50 rfl ?_
      refine sw_goto 51 G 55 dX6_faultOfPlan_51 rfl ?_
      cases hf
      exact sw_lv _ [2, 4, 5, 6, 7, 1, 0] rfl hx55
    · refine sw_iload 44 G dX6_faultOfPlan_44 1 rfl ?_
      refine sw_iconst 46 G (-1 : Int32) dX6_faultOfPlan_46 rfl ?_
      refine sw_icmp_ne 47 54 G dX6_faultOfPlan_47 rfl hf (fun hf => ?_) (fun hf => ?_)
      · refine sw_iconst 54 G (0 : Int32) dX6_faultOfPlan_54 rfl ?_
        cases hf
        exact sw_lv _ [2, 4, 5, 6, 7, 1, 0] rfl hx55
      · refine sw_iconst 50 G (1 : Int32) dX6_faultOfPlan_50 rfl ?_
        refine sw_goto 51 G 55 dX6_faultOfPlan_51 rfl ?_
        cases hf
        exact sw_lv _ [2, 4, 5, 6, 7, 1, 0] rfl hx55
abbrev rmX6_may : Room := { frames := 2, cells := 0, slots := 0, locals := 47 }
theorem hvX6_may : yX6_may.cls = RX6 ∧ yX6_may.cls ≠ "java/lang/invoke/MethodHandle" ∧ yX6_may.cls ≠ "java/lang/invoke/VarHandle" ∧ (parseMethodDescriptor yX6_may.desc).map (fun d => d.parameters.length) = some 2 := by decide +kernel
set_option maxRecDepth 100000 in
set_option maxHeartbeats 4000000 in
theorem kX6_may (Θ : Tht) (F : Nat) (m0 m1 m2 m3 m4 m5 m6 m7 m8 m9 : Nat) (m_now : Nat → Int64) (m_saved : Nat → Int64) (m_aside : Nat → Int64) (m_states : Int32) (m_quiet : Int32) (m_thrown : Int32) (m_tried : Nat → Int32) (m_best : Nat → Int32) (m_touching : Nat → Int32) (m_text : Nat → Int32) (m_length : Int32) (m_at : Int32) (m_verbs : Nat → Int32) (m_told : Nat → Int32) (m_commands : Int32) (a0 : Int32) (a1 : Int32) (ro : Int32) (hf : fX6_may F m_now m_tried m_touching a0 a1 = some ro) : Fn Θ yX6_may (Cond.code yX6_may cX6_may 7 (some .boolean) :: GW) rmX6_may [.ref m0, .int a0, .int a1] (wX6 Θ m0 m1 m2 m3 m4 m5 m6 m7 m8 m9 m_now m_saved m_aside m_states m_quiet m_thrown m_tried m_best m_touching m_text m_length m_at m_verbs m_told m_commands) (some (.int ro)) (wX6 Θ m0 m1 m2 m3 m4 m5 m6 m7 m8 m9 m_now m_saved m_aside m_states m_quiet m_thrown m_tried m_best m_touching m_text m_length m_at m_verbs m_told m_commands) := by
  delta fX6_may at hf
  refine Fn.of (by decide +kernel) rfl (Nat.le_of_ble_eq_true rfl) (fun p e s m args below meth c A Q G K => ?_)
  show sw Θ p e rmX6_may s m args below meth c A Q 7 0 0 0 [(0, .ref m0), (1, .int a0), (2, .int a1)] [] (wX6 Θ m0 m1 m2 m3 m4 m5 m6 m7 m8 m9 m_now m_saved m_aside m_states m_quiet m_thrown m_tried m_best m_touching m_text m_length m_at m_verbs m_told m_commands)
  refine sw_aload_n 0 G dX6_may_0 0 rfl ?_
  refine sw_iload_n 1 G dX6_may_1 1 rfl ?_
  obtain ⟨r1, hg, hf⟩ := bd1_some hf
  refine sw_callV 2 G (wX6 Θ m0 m1 m2 m3 m4 m5 m6 m7 m8 m9 m_now m_saved m_aside m_states m_quiet m_thrown m_tried m_best m_touching m_text m_length m_at m_verbs m_told m_commands) [0, 1, 2, 3, 4, 5, 6, 7, 8, 9] [] [0, 1, 2, 3, 4, 5, 6, 7, 8, 9] 1 dX6_may_2 (kX6_force Θ m0 m1 m2 m3 m4 m5 m6 m7 m8 m9 m_now m_saved m_aside m_states m_quiet m_thrown m_tried m_best m_touching m_text m_length m_at m_verbs m_told m_commands a0 r1 hg) (gwV lk_0bff907f lk_9062df22 lk_a894a032 lk_6d91b6d2 lk_21572795) rfl hvX6_force ⟨rfl, rfl⟩ ⟨Nat.le_of_ble_eq_true rfl, Nat.le_of_ble_eq_true rfl⟩ ⟨Nat.zero_le _, Nat.zero_le _⟩ rfl rfl (Nat.le_of_ble_eq_true rfl) 0 rfl vc6 rfl rfl rfl rfl (by decide) ?_
  refine sw_istore_n 5 G [(3, .int r1), (0, .ref m0), (1, .int a0), (2, .int a1)] dX6_may_5 (by decide) rfl ?_
  refine sw_iconst 6 G (1 : Int32) dX6_may_6 rfl ?_
  refine sw_istore 7 G [(4, .int (1 : Int32)), (3, .int r1), (0, .ref m0), (1, .int a0), (2, .int a1)] dX6_may_7 (by decide) rfl ?_
  refine sw_iconst 9 G (0 : Int32) dX6_may_9 rfl ?_
  refine sw_istore 10 G [(5, .int (0 : Int32)), (4, .int (1 : Int32)), (3, .int r1), (0, .ref m0), (1, .int a0), (2, .int a1)] dX6_may_10 (by decide) rfl ?_
  obtain ⟨v2, v3, hl, hf⟩ := bd2_some hf
  have hx12_131 : sw Θ p e rmX6_may s m args below meth c A Q 7 0 0 131 [(2, .int a1), (3, .int v2), (4, .int v3)] [] (wX6 Θ m0 m1 m2 m3 m4 m5 m6 m7 m8 m9 m_now m_saved m_aside m_states m_quiet m_thrown m_tried m_best m_touching m_text m_length m_at m_verbs m_told m_commands) := by
    refine sw_iload 131 G dX6_may_131 2 rfl ?_
    refine sw_if_eq 133 145 G dX6_may_133 rfl hf (fun hf => ?_) (fun hf => ?_)
    · refine sw_iconst 145 G (0 : Int32) dX6_may_145 rfl ?_
      cases hf
      exact sw_zret 146 G dX6_may_146 K rfl
    · refine sw_iload_n 136 G dX6_may_136 1 rfl ?_
      refine sw_iload_n 137 G dX6_may_137 0 rfl ?_
      refine sw_icmp_gt 138 145 G dX6_may_138 rfl hf (fun hf => ?_) (fun hf => ?_)
      · refine sw_iconst 145 G (0 : Int32) dX6_may_145 rfl ?_
        cases hf
        exact sw_zret 146 G dX6_may_146 K rfl
      · refine sw_iconst 141 G (1 : Int32) dX6_may_141 rfl ?_
        refine sw_goto 142 G 146 dX6_may_142 rfl ?_
        cases hf
        exact sw_zret 146 G dX6_may_146 K rfl
  refine sw_lv [(0, .ref m0), (1, .int a0), (2, .int a1), (3, .int r1), (4, .int (1 : Int32)), (5, .int (0 : Int32))] [3, 4, 5, 2, 1, 0] rfl ?_
  refine lp_walk (P := fun (t : Int32 × Int32 × Int32) => sw Θ p e rmX6_may s m args below meth c A Q 7 0 0 12 [(0, .ref m0), (1, .int a0), (2, .int a1), (3, .int t.1), (4, .int t.2.1), (5, .int t.2.2)] [] (wX6 Θ m0 m1 m2 m3 m4 m5 m6 m7 m8 m9 m_now m_saved m_aside m_states m_quiet m_thrown m_tried m_best m_touching m_text m_length m_at m_verbs m_told m_commands)) hl (fun t12 y12 hf hin12 hex12 => ?_)
  obtain ⟨v4, v5, v6⟩ := t12
  show sw Θ p e rmX6_may s m args below meth c A Q 7 0 0 12 [(0, .ref m0), (1, .int a0), (2, .int a1), (3, .int v4), (4, .int v5), (5, .int v6)] [] (wX6 Θ m0 m1 m2 m3 m4 m5 m6 m7 m8 m9 m_now m_saved m_aside m_states m_quiet m_thrown m_tried m_best m_touching m_text m_length m_at m_verbs m_told m_commands)
  have hf := uc3_some (K := _) hf
  refine sw_iload 12 G dX6_may_12 5 rfl ?_
  refine sw_iload_n 14 G dX6_may_14 1 rfl ?_
  refine sw_icmp_ge 15 131 G dX6_may_15 rfl hf (fun hf => ?_) (fun hf => ?_)
  · cases hf
    cases hex12 _ rfl
    exact sw_lv _ [2, 3, 4] rfl hx12_131
  · refine sw_aload_n 18 G dX6_may_18 0 rfl ?_
    refine sw_get 19 G hnX6 0 8 dX6_may_19 vc6 (by decide) (List.mem_cons_of_mem _ lk_4c9d84e1) rfl rfl ?_
    refine sw_iload_n 22 G dX6_may_22 1 rfl ?_
    refine sw_iald 23 G 6 dX6_may_23 rfl hf (fun hf => ?_)
    refine sw_iload 24 G dX6_may_24 5 rfl ?_
    refine sw_ishr 26 G dX6_may_26 ?_
    refine sw_iconst 27 G (1 : Int32) dX6_may_27 rfl ?_
    refine sw_iand 28 G dX6_may_28 ?_
    refine sw_iconst 29 G (1 : Int32) dX6_may_29 rfl ?_
    obtain ⟨v7, hj, hf⟩ := bd1_some hf
    have hx38 : sw Θ p e rmX6_may s m args below meth c A Q 7 0 0 38 [(0, .ref m0), (1, .int a0), (2, .int a1), (3, .int v4), (4, .int v5), (5, .int v6)] [.int v7] (wX6 Θ m0 m1 m2 m3 m4 m5 m6 m7 m8 m9 m_now m_saved m_aside m_states m_quiet m_thrown m_tried m_best m_touching m_text m_length m_at m_verbs m_told m_commands) := by
      refine sw_istore 38 G [(6, .int v7), (0, .ref m0), (1, .int a0), (2, .int a1), (3, .int v4), (4, .int v5), (5, .int v6)] dX6_may_38 (by decide) rfl ?_
      refine sw_iload_n 40 G dX6_may_40 4 rfl ?_
      refine sw_aload_n 41 G dX6_may_41 1 rfl ?_
      refine sw_get 42 G hnX6 0 6 dX6_may_42 vc6 (by decide) (List.mem_cons_of_mem _ lk_9c981de8) rfl rfl ?_
      refine sw_iload 45 G dX6_may_45 6 rfl ?_
      refine sw_iald 47 G 4 dX6_may_47 rfl hf (fun hf => ?_)
      refine sw_aload_n 48 G dX6_may_48 1 rfl ?_
      refine sw_get 49 G hnX6 0 6 dX6_may_49 vc6 (by decide) (List.mem_cons_of_mem _ lk_9c981de8) rfl rfl ?_
      refine sw_iload_n 52 G dX6_may_52 2 rfl ?_
      refine sw_iald 53 G 4 dX6_may_53 rfl hf (fun hf => ?_)
      obtain ⟨v8, hj, hf⟩ := bd1_some hf
      have hx67 : sw Θ p e rmX6_may s m args below meth c A Q 7 0 0 67 [(0, .ref m0), (1, .int a0), (2, .int a1), (4, .int v5), (5, .int v6), (6, .int v7)] [.int v8, .int v4] (wX6 Θ m0 m1 m2 m3 m4 m5 m6 m7 m8 m9 m_now m_saved m_aside m_states m_quiet m_thrown m_tried m_best m_touching m_text m_length m_at m_verbs m_told m_commands) := by
        refine sw_iadd 67 G dX6_may_67 ?_
        refine sw_nmi hf (fun v10 hf => ?_)
        refine sw_istore_n 68 G [(3, .int v10), (0, .ref m0), (1, .int a0), (2, .int a1), (4, .int v5), (5, .int v6), (6, .int v7)] dX6_may_68 (by decide) rfl ?_
        refine sw_iload 69 G dX6_may_69 4 rfl ?_
        obtain ⟨v11, hj, hf⟩ := bd1_some hf
        have hx123 : sw Θ p e rmX6_may s m args below meth c A Q 7 0 0 123 [(0, .ref m0), (1, .int a0), (2, .int a1), (3, .int v10), (5, .int v6)] [.int v11] (wX6 Θ m0 m1 m2 m3 m4 m5 m6 m7 m8 m9 m_now m_saved m_aside m_states m_quiet m_thrown m_tried m_best m_touching m_text m_length m_at m_verbs m_told m_commands) := by
          refine sw_istore 123 G [(4, .int v11), (0, .ref m0), (1, .int a0), (2, .int a1), (3, .int v10), (5, .int v6)] dX6_may_123 (by decide) rfl ?_
          refine sw_iinc 125 G (v6 + (1 : Int32)) [(5, .int (v6 + (1 : Int32))), (4, .int v11), (0, .ref m0), (1, .int a0), (2, .int a1), (3, .int v10)] dX6_may_125 5 rfl rfl (by decide) rfl ?_
          refine sw_goto 128 G 12 dX6_may_128 rfl ?_
          cases hf
          have hb := hin12 _ rfl
          exact sw_lv _ [2, 3, 4, 5, 1, 0] (by rfl) hb
        clear hf
        have hf := hj
        clear hj
        refine sw_if_eq 71 122 G dX6_may_71 rfl hf (fun hf => ?_) (fun hf => ?_)
        · refine sw_iconst 122 G (0 : Int32) dX6_may_122 rfl ?_
          cases hf
          exact sw_lv _ [1, 2, 3, 0, 5] rfl hx123
        · refine sw_iload 74 G dX6_may_74 6 rfl ?_
          refine sw_if_eq 76 118 G dX6_may_76 rfl hf (fun hf => ?_) (fun hf => ?_)
          · refine sw_iconst 118 G (1 : Int32) dX6_may_118 rfl ?_
            refine sw_goto 119 G 123 dX6_may_119 rfl ?_
            cases hf
            exact sw_lv _ [1, 2, 3, 0, 5] rfl hx123
          · refine sw_aload_n 79 G dX6_may_79 1 rfl ?_
            refine sw_get 80 G hnX6 0 6 dX6_may_80 vc6 (by decide) (List.mem_cons_of_mem _ lk_9c981de8) rfl rfl ?_
            refine sw_iload 83 G dX6_may_83 5 rfl ?_
            refine sw_iald 85 G 4 dX6_may_85 rfl hf (fun hf => ?_)
            refine sw_aload_n 86 G dX6_may_86 1 rfl ?_
            refine sw_get 87 G hnX6 0 6 dX6_may_87 vc6 (by decide) (List.mem_cons_of_mem _ lk_9c981de8) rfl rfl ?_
            refine sw_iload_n 90 G dX6_may_90 2 rfl ?_
            refine sw_iald 91 G 4 dX6_may_91 rfl hf (fun hf => ?_)
            refine sw_icmp_eq 92 122 G dX6_may_92 rfl hf (fun hf => ?_) (fun hf => ?_)
            · refine sw_iconst 122 G (0 : Int32) dX6_may_122 rfl ?_
              cases hf
              exact sw_lv _ [1, 2, 3, 0, 5] rfl hx123
            · refine sw_aload_n 95 G dX6_may_95 1 rfl ?_
              refine sw_iload 96 G dX6_may_96 5 rfl ?_
              refine sw_aload_n 98 G dX6_may_98 1 rfl ?_
              refine sw_get 99 G hnX6 0 6 dX6_may_99 vc6 (by decide) (List.mem_cons_of_mem _ lk_9c981de8) rfl rfl ?_
              refine sw_iload 102 G dX6_may_102 5 rfl ?_
              refine sw_iald 104 G 4 dX6_may_104 rfl hf (fun hf => ?_)
              refine sw_iload_n 105 G dX6_may_105 2 rfl ?_
              refine sw_aload_n 106 G dX6_may_106 1 rfl ?_
              refine sw_get 107 G hnX6 0 6 dX6_may_107 vc6 (by decide) (List.mem_cons_of_mem _ lk_9c981de8) rfl rfl ?_
              refine sw_iload_n 110 G dX6_may_110 2 rfl ?_
              refine sw_iald 111 G 4 dX6_may_111 rfl hf (fun hf => ?_)
              obtain ⟨r12, hg, hf⟩ := bd1_some hf
              refine sw_callV 112 G (wX6 Θ m0 m1 m2 m3 m4 m5 m6 m7 m8 m9 m_now m_saved m_aside m_states m_quiet m_thrown m_tried m_best m_touching m_text m_length m_at m_verbs m_told m_commands) [0, 1, 2, 3, 4, 5, 6, 7, 8, 9] [] [0, 1, 2, 3, 4, 5, 6, 7, 8, 9] 4 dX6_may_112 (kX6_isEarly Θ m0 m1 m2 m3 m4 m5 m6 m7 m8 m9 m_now m_saved m_aside m_states m_quiet m_thrown m_tried m_best m_touching m_text m_length m_at m_verbs m_told m_commands v6 (m_tried v6.toNatClampNeg) a0 (m_tried a0.toNatClampNeg) r12 hg) (gwV lk_1aa47af4 lk_81aa3e6e lk_8d3ca8ec lk_6d91b6d2 lk_279335c1) rfl hvX6_isEarly ⟨rfl, rfl⟩ ⟨Nat.le_of_ble_eq_true rfl, Nat.le_of_ble_eq_true rfl⟩ ⟨Nat.zero_le _, Nat.zero_le _⟩ rfl rfl (Nat.le_of_ble_eq_true rfl) 0 rfl vc6 rfl rfl rfl rfl (by decide) ?_
              refine sw_if_ne 115 122 G dX6_may_115 rfl hf (fun hf => ?_) (fun hf => ?_)
              · refine sw_iconst 122 G (0 : Int32) dX6_may_122 rfl ?_
                cases hf
                exact sw_lv _ [1, 2, 3, 0, 5] rfl hx123
              · refine sw_iconst 118 G (1 : Int32) dX6_may_118 rfl ?_
                refine sw_goto 119 G 123 dX6_may_119 rfl ?_
                cases hf
                exact sw_lv _ [1, 2, 3, 0, 5] rfl hx123
      clear hf
      have hf := hj
      clear hj
      refine sw_icmp_ne 54 66 G dX6_may_54 rfl hf (fun hf => ?_) (fun hf => ?_)
      · refine sw_iconst 66 G (0 : Int32) dX6_may_66 rfl ?_
        cases hf
        exact sw_lv _ [1, 2, 3, 5, 6, 0] rfl hx67
      · refine sw_aload_n 57 G dX6_may_57 1 rfl ?_
        refine sw_iload 58 G dX6_may_58 6 rfl ?_
        obtain ⟨r9, hg, hf⟩ := bd1_some hf
        refine sw_callV 60 G (wX6 Θ m0 m1 m2 m3 m4 m5 m6 m7 m8 m9 m_now m_saved m_aside m_states m_quiet m_thrown m_tried m_best m_touching m_text m_length m_at m_verbs m_told m_commands) [0, 1, 2, 3, 4, 5, 6, 7, 8, 9] [] [0, 1, 2, 3, 4, 5, 6, 7, 8, 9] 1 dX6_may_60 (kX6_force Θ m0 m1 m2 m3 m4 m5 m6 m7 m8 m9 m_now m_saved m_aside m_states m_quiet m_thrown m_tried m_best m_touching m_text m_length m_at m_verbs m_told m_commands v6 r9 hg) (gwV lk_0bff907f lk_9062df22 lk_a894a032 lk_6d91b6d2 lk_21572795) rfl hvX6_force ⟨rfl, rfl⟩ ⟨Nat.le_of_ble_eq_true rfl, Nat.le_of_ble_eq_true rfl⟩ ⟨Nat.zero_le _, Nat.zero_le _⟩ rfl rfl (Nat.le_of_ble_eq_true rfl) 0 rfl vc6 rfl rfl rfl rfl (by decide) ?_
        refine sw_goto 63 G 67 dX6_may_63 rfl ?_
        cases hf
        exact sw_lv _ [1, 2, 3, 5, 6, 0] rfl hx67
    clear hf
    have hf := hj
    clear hj
    refine sw_icmp_ne 30 37 G dX6_may_30 rfl hf (fun hf => ?_) (fun hf => ?_)
    · refine sw_iconst 37 G (0 : Int32) dX6_may_37 rfl ?_
      cases hf
      exact sw_lv _ [0, 1, 2, 3, 4, 5] rfl hx38
    · refine sw_iconst 33 G (1 : Int32) dX6_may_33 rfl ?_
      refine sw_goto 34 G 38 dX6_may_34 rfl ?_
      cases hf
      exact sw_lv _ [0, 1, 2, 3, 4, 5] rfl hx38
abbrev rmX6_seeks : Room := { frames := 3, cells := 0, slots := 0, locals := 73 }
theorem hvX6_seeks : yX6_seeks.cls = RX6 ∧ yX6_seeks.cls ≠ "java/lang/invoke/MethodHandle" ∧ yX6_seeks.cls ≠ "java/lang/invoke/VarHandle" ∧ (parseMethodDescriptor yX6_seeks.desc).map (fun d => d.parameters.length) = some 2 := by decide +kernel
set_option maxRecDepth 100000 in
set_option maxHeartbeats 4000000 in
theorem kX6_seeks (Θ : Tht) (F : Nat) (m0 m1 m2 m3 m4 m5 m6 m7 m8 m9 : Nat) (m_now : Nat → Int64) (m_saved : Nat → Int64) (m_aside : Nat → Int64) (m_states : Int32) (m_quiet : Int32) (m_thrown : Int32) (m_tried : Nat → Int32) (m_best : Nat → Int32) (m_touching : Nat → Int32) (m_text : Nat → Int32) (m_length : Int32) (m_at : Int32) (m_verbs : Nat → Int32) (m_told : Nat → Int32) (m_commands : Int32) (a0 : Int32) (a1 : Int32) (ro : Int32) (o_m_tried : Nat → Int32) (o_m_best : Nat → Int32) (hf : fX6_seeks F m_now m_tried m_best m_touching a0 a1 = some (ro, o_m_tried, o_m_best)) : Fn Θ yX6_seeks (Cond.code yX6_seeks cX6_seeks 6 (some .boolean) :: GW) rmX6_seeks [.ref m0, .int a0, .int a1] (wX6 Θ m0 m1 m2 m3 m4 m5 m6 m7 m8 m9 m_now m_saved m_aside m_states m_quiet m_thrown m_tried m_best m_touching m_text m_length m_at m_verbs m_told m_commands) (some (.int ro)) (wX6 Θ m0 m1 m2 m3 m4 m5 m6 m7 m8 m9 m_now m_saved m_aside m_states m_quiet m_thrown o_m_tried o_m_best m_touching m_text m_length m_at m_verbs m_told m_commands) := by
  delta fX6_seeks at hf
  refine Fn.of (by decide +kernel) rfl (Nat.le_of_ble_eq_true rfl) (fun p e s m args below meth c A Q G K => ?_)
  show sw Θ p e rmX6_seeks s m args below meth c A Q 6 0 0 0 [(0, .ref m0), (1, .int a0), (2, .int a1)] [] (wX6 Θ m0 m1 m2 m3 m4 m5 m6 m7 m8 m9 m_now m_saved m_aside m_states m_quiet m_thrown m_tried m_best m_touching m_text m_length m_at m_verbs m_told m_commands)
  refine sw_aload_n 0 G dX6_seeks_0 0 rfl ?_
  refine sw_bipush 1 G (8 : Int32) dX6_seeks_1 rfl ?_
  obtain ⟨r1, hg, hf⟩ := bd1_some hf
  refine sw_callV 3 G (wX6 Θ m0 m1 m2 m3 m4 m5 m6 m7 m8 m9 m_now m_saved m_aside m_states m_quiet m_thrown m_tried m_best m_touching m_text m_length m_at m_verbs m_told m_commands) [0, 1, 2, 3, 4, 5, 6, 7, 8, 9] [] [0, 1, 2, 3, 4, 5, 6, 7, 8, 9] 1 dX6_seeks_3 (kX6_many Θ m0 m1 m2 m3 m4 m5 m6 m7 m8 m9 m_now m_saved m_aside m_states m_quiet m_thrown m_tried m_best m_touching m_text m_length m_at m_verbs m_told m_commands (8 : Int32) r1 hg) (gwV lk_184fe921 lk_d689724c lk_b095f72c lk_6d91b6d2 lk_d7f116ea) rfl hvX6_many ⟨rfl, rfl⟩ ⟨Nat.le_of_ble_eq_true rfl, Nat.le_of_ble_eq_true rfl⟩ ⟨Nat.zero_le _, Nat.zero_le _⟩ rfl rfl (Nat.le_of_ble_eq_true rfl) 0 rfl vc6 rfl rfl rfl rfl (by decide) ?_
  refine sw_istore_n 6 G [(3, .int r1), (0, .ref m0), (1, .int a0), (2, .int a1)] dX6_seeks_6 (by decide) rfl ?_
  refine sw_iconst 7 G (0 : Int32) dX6_seeks_7 rfl ?_
  refine sw_istore 8 G [(4, .int (0 : Int32)), (3, .int r1), (0, .ref m0), (1, .int a0), (2, .int a1)] dX6_seeks_8 (by decide) rfl ?_
  refine sw_aload_n 10 G dX6_seeks_10 2 rfl ?_
  refine sw_get 11 G hnX6 0 6 dX6_seeks_11 vc6 (by decide) (List.mem_cons_of_mem _ lk_9c981de8) rfl rfl ?_
  refine sw_iconst 14 G (0 : Int32) dX6_seeks_14 rfl ?_
  refine sw_iconst 15 G (-1 : Int32) dX6_seeks_15 rfl ?_
  refine sw_iast 16 G 4 (wX6 Θ m0 m1 m2 m3 m4 m5 m6 m7 m8 m9 m_now m_saved m_aside m_states m_quiet m_thrown (upd m_tried (0 : Int32).toNatClampNeg (-1 : Int32)) m_best m_touching m_text m_length m_at m_verbs m_told m_commands) dX6_seeks_16 rfl rfl hf (fun hf => ?_)
  obtain ⟨v2, v3, hl, hf⟩ := bd2_some hf
  have hx17_86 : sw Θ p e rmX6_seeks s m args below meth c A Q 6 0 0 86 [(0, .ref m0), (3, .int r1), (4, .int v2)] [] (wX6 Θ m0 m1 m2 m3 m4 m5 m6 m7 m8 m9 m_now m_saved m_aside m_states m_quiet m_thrown v3 m_best m_touching m_text m_length m_at m_verbs m_told m_commands) := by
    refine sw_iconst 86 G (0 : Int32) dX6_seeks_86 rfl ?_
    refine sw_istore 87 G [(5, .int (0 : Int32)), (0, .ref m0), (3, .int r1), (4, .int v2)] dX6_seeks_87 (by decide) rfl ?_
    obtain ⟨v4, hl, hf⟩ := bd1_some hf
    have hx89_115 : sw Θ p e rmX6_seeks s m args below meth c A Q 6 0 0 115 [(3, .int r1), (4, .int v2)] [] (wX6 Θ m0 m1 m2 m3 m4 m5 m6 m7 m8 m9 m_now m_saved m_aside m_states m_quiet m_thrown v3 v4 m_touching m_text m_length m_at m_verbs m_told m_commands) := by
      refine sw_iload 115 G dX6_seeks_115 1 rfl ?_
      refine sw_iload_n 117 G dX6_seeks_117 0 rfl ?_
      refine sw_icmp_ne 118 125 G dX6_seeks_118 rfl hf (fun hf => ?_) (fun hf => ?_)
      · refine sw_iconst 125 G (0 : Int32) dX6_seeks_125 rfl ?_
        cases hf
        exact sw_zret 126 G dX6_seeks_126 K rfl
      · refine sw_iconst 121 G (1 : Int32) dX6_seeks_121 rfl ?_
        refine sw_goto 122 G 126 dX6_seeks_122 rfl ?_
        cases hf
        exact sw_zret 126 G dX6_seeks_126 K rfl
    refine sw_lv [(0, .ref m0), (3, .int r1), (4, .int v2), (5, .int (0 : Int32))] [1, 2, 3, 0] rfl ?_
    refine lp_walk (P := fun (t : Int32 × (Nat → Int32)) => sw Θ p e rmX6_seeks s m args below meth c A Q 6 0 0 89 [(0, .ref m0), (3, .int r1), (4, .int v2), (5, .int t.1)] [] (wX6 Θ m0 m1 m2 m3 m4 m5 m6 m7 m8 m9 m_now m_saved m_aside m_states m_quiet m_thrown v3 t.2 m_touching m_text m_length m_at m_verbs m_told m_commands)) hl (fun t89 y89 hf hin89 hex89 => ?_)
    obtain ⟨v5, v6⟩ := t89
    show sw Θ p e rmX6_seeks s m args below meth c A Q 6 0 0 89 [(0, .ref m0), (3, .int r1), (4, .int v2), (5, .int v5)] [] (wX6 Θ m0 m1 m2 m3 m4 m5 m6 m7 m8 m9 m_now m_saved m_aside m_states m_quiet m_thrown v3 v6 m_touching m_text m_length m_at m_verbs m_told m_commands)
    have hf := uc2_some (K := _) hf
    refine sw_iload 89 G dX6_seeks_89 3 rfl ?_
    refine sw_iload_n 91 G dX6_seeks_91 1 rfl ?_
    refine sw_icmp_ge 92 115 G dX6_seeks_92 rfl hf (fun hf => ?_) (fun hf => ?_)
    · cases hf
      cases hex89 _ rfl
      exact sw_lv _ [1, 2] rfl hx89_115
    · refine sw_aload_n 95 G dX6_seeks_95 0 rfl ?_
      refine sw_get 96 G hnX6 0 7 dX6_seeks_96 vc6 (by decide) (List.mem_cons_of_mem _ lk_49b9a7b5) rfl rfl ?_
      refine sw_iload 99 G dX6_seeks_99 3 rfl ?_
      refine sw_aload_n 101 G dX6_seeks_101 0 rfl ?_
      refine sw_get 102 G hnX6 0 6 dX6_seeks_102 vc6 (by decide) (List.mem_cons_of_mem _ lk_9c981de8) rfl rfl ?_
      refine sw_iload 105 G dX6_seeks_105 3 rfl ?_
      refine sw_iald 107 G 4 dX6_seeks_107 rfl hf (fun hf => ?_)
      refine sw_nmi hf (fun v7 hf => ?_)
      refine sw_iast 108 G 5 (wX6 Θ m0 m1 m2 m3 m4 m5 m6 m7 m8 m9 m_now m_saved m_aside m_states m_quiet m_thrown v3 (upd v6 v5.toNatClampNeg v7) m_touching m_text m_length m_at m_verbs m_told m_commands) dX6_seeks_108 rfl rfl hf (fun hf => ?_)
      refine sw_iinc 109 G (v5 + (1 : Int32)) [(5, .int (v5 + (1 : Int32))), (0, .ref m0), (3, .int r1), (4, .int v2)] dX6_seeks_109 3 rfl rfl (by decide) rfl ?_
      refine sw_goto 112 G 89 dX6_seeks_112 rfl ?_
      cases hf
      have hb := hin89 _ rfl
      exact sw_lv _ [1, 2, 3, 0] (by rfl) hb
  refine sw_lv [(0, .ref m0), (1, .int a0), (2, .int a1), (3, .int r1), (4, .int (0 : Int32))] [2, 3, 4, 1, 0] rfl ?_
  refine lp_walk (P := fun (t : Int32 × (Nat → Int32)) => sw Θ p e rmX6_seeks s m args below meth c A Q 6 0 0 17 [(0, .ref m0), (1, .int a0), (2, .int a1), (3, .int r1), (4, .int t.1)] [] (wX6 Θ m0 m1 m2 m3 m4 m5 m6 m7 m8 m9 m_now m_saved m_aside m_states m_quiet m_thrown t.2 m_best m_touching m_text m_length m_at m_verbs m_told m_commands)) hl (fun t17 y17 hf hin17 hex17 => ?_)
  obtain ⟨v8, v9⟩ := t17
  show sw Θ p e rmX6_seeks s m args below meth c A Q 6 0 0 17 [(0, .ref m0), (1, .int a0), (2, .int a1), (3, .int r1), (4, .int v8)] [] (wX6 Θ m0 m1 m2 m3 m4 m5 m6 m7 m8 m9 m_now m_saved m_aside m_states m_quiet m_thrown v9 m_best m_touching m_text m_length m_at m_verbs m_told m_commands)
  have hf := uc2_some (K := _) hf
  refine sw_iload 17 G dX6_seeks_17 4 rfl ?_
  refine sw_if_lt 19 86 G dX6_seeks_19 rfl hf (fun hf => ?_) (fun hf => ?_)
  · cases hf
    cases hex17 _ rfl
    exact sw_lv _ [0, 3, 4] rfl hx17_86
  · refine sw_iload 22 G dX6_seeks_22 4 rfl ?_
    refine sw_iload_n 24 G dX6_seeks_24 3 rfl ?_
    refine sw_icmp_ge 25 86 G dX6_seeks_25 rfl hf (fun hf => ?_) (fun hf => ?_)
    · cases hf
      cases hex17 _ rfl
      exact sw_lv _ [0, 3, 4] rfl hx17_86
    · refine sw_aload_n 28 G dX6_seeks_28 0 rfl ?_
      refine sw_get 29 G hnX6 0 6 dX6_seeks_29 vc6 (by decide) (List.mem_cons_of_mem _ lk_9c981de8) rfl rfl ?_
      refine sw_iload 32 G dX6_seeks_32 4 rfl ?_
      refine sw_dup2_11 34 G dX6_seeks_34 rfl rfl ?_
      refine sw_iald 35 G 4 dX6_seeks_35 rfl hf (fun hf => ?_)
      refine sw_iconst 36 G (1 : Int32) dX6_seeks_36 rfl ?_
      refine sw_iadd 37 G dX6_seeks_37 ?_
      refine sw_nmi hf (fun v10 hf => ?_)
      refine sw_iast 38 G 4 (wX6 Θ m0 m1 m2 m3 m4 m5 m6 m7 m8 m9 m_now m_saved m_aside m_states m_quiet m_thrown (upd v9 v8.toNatClampNeg v10) m_best m_touching m_text m_length m_at m_verbs m_told m_commands) dX6_seeks_38 rfl rfl hf (fun hf => ?_)
      refine sw_aload_n 39 G dX6_seeks_39 0 rfl ?_
      refine sw_get 40 G hnX6 0 6 dX6_seeks_40 vc6 (by decide) (List.mem_cons_of_mem _ lk_9c981de8) rfl rfl ?_
      refine sw_iload 43 G dX6_seeks_43 4 rfl ?_
      refine sw_iald 45 G 4 dX6_seeks_45 rfl hf (fun hf => ?_)
      refine sw_iload_n 46 G dX6_seeks_46 1 rfl ?_
      refine sw_icmp_lt 47 56 G dX6_seeks_47 rfl hf (fun hf => ?_) (fun hf => ?_)
      · refine sw_aload_n 56 G dX6_seeks_56 0 rfl ?_
        refine sw_iload 57 G dX6_seeks_57 4 rfl ?_
        refine sw_iload_n 59 G dX6_seeks_59 2 rfl ?_
        obtain ⟨r11, hg, hf⟩ := bd1_some hf
        refine sw_callV 60 G (wX6 Θ m0 m1 m2 m3 m4 m5 m6 m7 m8 m9 m_now m_saved m_aside m_states m_quiet m_thrown (upd v9 v8.toNatClampNeg v10) m_best m_touching m_text m_length m_at m_verbs m_told m_commands) [0, 1, 2, 3, 4, 5, 6, 7, 8, 9] [] [0, 1, 2, 3, 4, 5, 6, 7, 8, 9] 2 dX6_seeks_60 (kX6_may Θ F m0 m1 m2 m3 m4 m5 m6 m7 m8 m9 m_now m_saved m_aside m_states m_quiet m_thrown (upd v9 v8.toNatClampNeg v10) m_best m_touching m_text m_length m_at m_verbs m_told m_commands v8 a1 r11 hg) (gwV lk_800e9162 lk_c5c72e91 lk_5b6d70dc lk_6d91b6d2 lk_54e9111a) rfl hvX6_may ⟨rfl, rfl⟩ ⟨Nat.le_of_ble_eq_true rfl, Nat.le_of_ble_eq_true rfl⟩ ⟨Nat.zero_le _, Nat.zero_le _⟩ rfl rfl (Nat.le_of_ble_eq_true rfl) 0 rfl vc6 rfl rfl rfl rfl (by decide) ?_
        refine sw_if_eq 63 17 G dX6_seeks_63 rfl hf (fun hf => ?_) (fun hf => ?_)
        · cases hf
          have hb := hin17 _ rfl
          exact sw_lv _ [0, 1, 2, 3, 4] (by rfl) hb
        · refine sw_iinc 66 G (v8 + (1 : Int32)) [(4, .int (v8 + (1 : Int32))), (0, .ref m0), (1, .int a0), (2, .int a1), (3, .int r1)] dX6_seeks_66 4 rfl rfl (by decide) rfl ?_
          refine sw_iload 69 G dX6_seeks_69 0 rfl ?_
          refine sw_iload_n 71 G dX6_seeks_71 4 rfl ?_
          refine sw_icmp_ge 72 17 G dX6_seeks_72 rfl hf (fun hf => ?_) (fun hf => ?_)
          · cases hf
            have hb := hin17 _ rfl
            exact sw_lv _ [1, 2, 3, 4, 0] (by rfl) hb
          · refine sw_aload_n 75 G dX6_seeks_75 1 rfl ?_
            refine sw_get 76 G hnX6 0 6 dX6_seeks_76 vc6 (by decide) (List.mem_cons_of_mem _ lk_9c981de8) rfl rfl ?_
            refine sw_iload 79 G dX6_seeks_79 0 rfl ?_
            refine sw_iconst 81 G (-1 : Int32) dX6_seeks_81 rfl ?_
            refine sw_iast 82 G 4 (wX6 Θ m0 m1 m2 m3 m4 m5 m6 m7 m8 m9 m_now m_saved m_aside m_states m_quiet m_thrown (upd (upd v9 v8.toNatClampNeg v10) (v8 + (1 : Int32)).toNatClampNeg (-1 : Int32)) m_best m_touching m_text m_length m_at m_verbs m_told m_commands) dX6_seeks_82 rfl rfl hf (fun hf => ?_)
            refine sw_goto 83 G 17 dX6_seeks_83 rfl ?_
            cases hf
            have hb := hin17 _ rfl
            exact sw_lv _ [1, 2, 3, 4, 0] (by rfl) hb
      · refine sw_iinc 50 G (v8 + (-1 : Int32)) [(4, .int (v8 + (-1 : Int32))), (0, .ref m0), (1, .int a0), (2, .int a1), (3, .int r1)] dX6_seeks_50 4 rfl rfl (by decide) rfl ?_
        refine sw_goto 53 G 17 dX6_seeks_53 rfl ?_
        cases hf
        have hb := hin17 _ rfl
        exact sw_lv _ [1, 2, 3, 4, 0] (by rfl) hb
abbrev rmX6_plans : Room := { frames := 4, cells := 0, slots := 0, locals := 98 }
theorem hvX6_plans : yX6_plans.cls = RX6 ∧ yX6_plans.cls ≠ "java/lang/invoke/MethodHandle" ∧ yX6_plans.cls ≠ "java/lang/invoke/VarHandle" ∧ (parseMethodDescriptor yX6_plans.desc).map (fun d => d.parameters.length) = some 1 := by decide +kernel
set_option maxRecDepth 100000 in
set_option maxHeartbeats 4000000 in
theorem kX6_plans (Θ : Tht) (F : Nat) (m0 m1 m2 m3 m4 m5 m6 m7 m8 m9 : Nat) (m_now : Nat → Int64) (m_saved : Nat → Int64) (m_aside : Nat → Int64) (m_states : Int32) (m_quiet : Int32) (m_thrown : Int32) (m_tried : Nat → Int32) (m_best : Nat → Int32) (m_touching : Nat → Int32) (m_text : Nat → Int32) (m_length : Int32) (m_at : Int32) (m_verbs : Nat → Int32) (m_told : Nat → Int32) (m_commands : Int32) (a0 : Int32) (ro : Int32) (o_m_tried : Nat → Int32) (o_m_best : Nat → Int32) (o_m_touching : Nat → Int32) (hf : fX6_plans F m_now m_tried m_best m_touching a0 = some (ro, o_m_tried, o_m_best, o_m_touching)) : Fn Θ yX6_plans (Cond.code yX6_plans cX6_plans 3 (some .int) :: GW) rmX6_plans [.ref m0, .int a0] (wX6 Θ m0 m1 m2 m3 m4 m5 m6 m7 m8 m9 m_now m_saved m_aside m_states m_quiet m_thrown m_tried m_best m_touching m_text m_length m_at m_verbs m_told m_commands) (some (.int ro)) (wX6 Θ m0 m1 m2 m3 m4 m5 m6 m7 m8 m9 m_now m_saved m_aside m_states m_quiet m_thrown o_m_tried o_m_best o_m_touching m_text m_length m_at m_verbs m_told m_commands) := by
  delta fX6_plans at hf
  refine Fn.of (by decide +kernel) rfl (Nat.le_of_ble_eq_true rfl) (fun p e s m args below meth c A Q G K => ?_)
  show sw Θ p e rmX6_plans s m args below meth c A Q 3 0 0 0 [(0, .ref m0), (1, .int a0)] [] (wX6 Θ m0 m1 m2 m3 m4 m5 m6 m7 m8 m9 m_now m_saved m_aside m_states m_quiet m_thrown m_tried m_best m_touching m_text m_length m_at m_verbs m_told m_commands)
  refine sw_iconst 0 G (0 : Int32) dX6_plans_0 rfl ?_
  refine sw_istore_n 1 G [(2, .int (0 : Int32)), (0, .ref m0), (1, .int a0)] dX6_plans_1 (by decide) rfl ?_
  obtain ⟨v1, hl, hf⟩ := bd1_some hf
  have hx2_29 : sw Θ p e rmX6_plans s m args below meth c A Q 3 0 0 29 [(0, .ref m0), (1, .int a0)] [] (wX6 Θ m0 m1 m2 m3 m4 m5 m6 m7 m8 m9 m_now m_saved m_aside m_states m_quiet m_thrown m_tried m_best v1 m_text m_length m_at m_verbs m_told m_commands) := by
    refine sw_iconst 29 G (0 : Int32) dX6_plans_29 rfl ?_
    refine sw_istore_n 30 G [(2, .int (0 : Int32)), (0, .ref m0), (1, .int a0)] dX6_plans_30 (by decide) rfl ?_
    obtain ⟨w31, hl, hf0, hf1⟩ := bdS2_some hf
    have hx31_46 : ∀ (v2 : Int32) (v3 : Nat → Int32) (v4 : Nat → Int32), w31 = .inl (v2, v3, v4) → sw Θ p e rmX6_plans s m args below meth c A Q 3 0 0 46 [(2, .int v2)] [] (wX6 Θ m0 m1 m2 m3 m4 m5 m6 m7 m8 m9 m_now m_saved m_aside m_states m_quiet m_thrown v3 v4 v1 m_text m_length m_at m_verbs m_told m_commands) := by
      intro v2 v3 v4 hw
      have hf := uc3_some (hf0 _ hw)
      refine sw_iload_n 46 G dX6_plans_46 0 rfl ?_
      cases hf
      exact sw_iret 47 G dX6_plans_47 K
    have hx31_54 : ∀ (v5 : Nat → Int32) (v6 : Nat → Int32), w31 = .inr ((v5, v6)) → sw Θ p e rmX6_plans s m args below meth c A Q 3 0 0 54 [] [] (wX6 Θ m0 m1 m2 m3 m4 m5 m6 m7 m8 m9 m_now m_saved m_aside m_states m_quiet m_thrown v5 v6 v1 m_text m_length m_at m_verbs m_told m_commands) := by
      intro v5 v6 hw
      have hf := uc2_some (hf1 _ hw)
      refine sw_iconst 54 G (-1 : Int32) dX6_plans_54 rfl ?_
      cases hf
      exact sw_iret 55 G dX6_plans_55 K
    refine sw_lv [(0, .ref m0), (1, .int a0), (2, .int (0 : Int32))] [1, 2, 0] rfl ?_
    refine lp_walk (P := fun (t : Int32 × (Nat → Int32) × (Nat → Int32)) => sw Θ p e rmX6_plans s m args below meth c A Q 3 0 0 31 [(0, .ref m0), (1, .int a0), (2, .int t.1)] [] (wX6 Θ m0 m1 m2 m3 m4 m5 m6 m7 m8 m9 m_now m_saved m_aside m_states m_quiet m_thrown t.2.1 t.2.2 v1 m_text m_length m_at m_verbs m_told m_commands)) hl (fun t31 y31 hf hin31 hex31 => ?_)
    obtain ⟨v7, v8, v9⟩ := t31
    show sw Θ p e rmX6_plans s m args below meth c A Q 3 0 0 31 [(0, .ref m0), (1, .int a0), (2, .int v7)] [] (wX6 Θ m0 m1 m2 m3 m4 m5 m6 m7 m8 m9 m_now m_saved m_aside m_states m_quiet m_thrown v8 v9 v1 m_text m_length m_at m_verbs m_told m_commands)
    have hf := uc3_some (K := _) hf
    refine sw_iload_n 31 G dX6_plans_31 2 rfl ?_
    refine sw_bipush 32 G (8 : Int32) dX6_plans_32 rfl ?_
    refine sw_icmp_gt 34 54 G dX6_plans_34 rfl hf (fun hf => ?_) (fun hf => ?_)
    · cases hf
      exact sw_lv _ [] rfl (hx31_54 _ _ (hex31 _ rfl).symm)
    · refine sw_aload_n 37 G dX6_plans_37 0 rfl ?_
      refine sw_iload_n 38 G dX6_plans_38 2 rfl ?_
      refine sw_iload_n 39 G dX6_plans_39 1 rfl ?_
      obtain ⟨r10, u11, u12, hg, hf⟩ := bd3_some hf
      refine sw_callV 40 G (wX6 Θ m0 m1 m2 m3 m4 m5 m6 m7 m8 m9 m_now m_saved m_aside m_states m_quiet m_thrown u11 u12 v1 m_text m_length m_at m_verbs m_told m_commands) [0, 1, 2, 3, 4, 5, 6, 7, 8, 9] [] [0, 1, 2, 3, 4, 5, 6, 7, 8, 9] 2 dX6_plans_40 (kX6_seeks Θ F m0 m1 m2 m3 m4 m5 m6 m7 m8 m9 m_now m_saved m_aside m_states m_quiet m_thrown v8 v9 v1 m_text m_length m_at m_verbs m_told m_commands v7 a0 r10 u11 u12 hg) (gwV lk_d4eb644e lk_5efa1ba0 lk_3ca0ad40 lk_6d91b6d2 lk_f209bbcd) rfl hvX6_seeks ⟨rfl, rfl⟩ ⟨Nat.le_of_ble_eq_true rfl, Nat.le_of_ble_eq_true rfl⟩ ⟨Nat.zero_le _, Nat.zero_le _⟩ rfl rfl (Nat.le_of_ble_eq_true rfl) 0 rfl vc6 rfl rfl rfl rfl (by decide) ?_
      refine sw_if_eq 43 48 G dX6_plans_43 rfl hf (fun hf => ?_) (fun hf => ?_)
      · refine sw_iinc 48 G (v7 + (1 : Int32)) [(2, .int (v7 + (1 : Int32))), (0, .ref m0), (1, .int a0)] dX6_plans_48 2 rfl rfl (by decide) rfl ?_
        refine sw_goto 51 G 31 dX6_plans_51 rfl ?_
        cases hf
        have hb := hin31 _ rfl
        exact sw_lv _ [1, 2, 0] (by rfl) hb
      · cases hf
        exact sw_lv _ [2] rfl (hx31_46 _ _ _ (hex31 _ rfl).symm)
  refine sw_lv [(0, .ref m0), (1, .int a0), (2, .int (0 : Int32))] [1, 2, 0] rfl ?_
  refine lp_walk (P := fun (t : Int32 × (Nat → Int32)) => sw Θ p e rmX6_plans s m args below meth c A Q 3 0 0 2 [(0, .ref m0), (1, .int a0), (2, .int t.1)] [] (wX6 Θ m0 m1 m2 m3 m4 m5 m6 m7 m8 m9 m_now m_saved m_aside m_states m_quiet m_thrown m_tried m_best t.2 m_text m_length m_at m_verbs m_told m_commands)) hl (fun t2 y2 hf hin2 hex2 => ?_)
  obtain ⟨v13, v14⟩ := t2
  show sw Θ p e rmX6_plans s m args below meth c A Q 3 0 0 2 [(0, .ref m0), (1, .int a0), (2, .int v13)] [] (wX6 Θ m0 m1 m2 m3 m4 m5 m6 m7 m8 m9 m_now m_saved m_aside m_states m_quiet m_thrown m_tried m_best v14 m_text m_length m_at m_verbs m_told m_commands)
  have hf := uc2_some (K := _) hf
  refine sw_iload_n 2 G dX6_plans_2 2 rfl ?_
  refine sw_aload_n 3 G dX6_plans_3 0 rfl ?_
  refine sw_bipush 4 G (8 : Int32) dX6_plans_4 rfl ?_
  obtain ⟨r15, hg, hf⟩ := bd1_some hf
  refine sw_callV 6 G (wX6 Θ m0 m1 m2 m3 m4 m5 m6 m7 m8 m9 m_now m_saved m_aside m_states m_quiet m_thrown m_tried m_best v14 m_text m_length m_at m_verbs m_told m_commands) [0, 1, 2, 3, 4, 5, 6, 7, 8, 9] [] [0, 1, 2, 3, 4, 5, 6, 7, 8, 9] 1 dX6_plans_6 (kX6_many Θ m0 m1 m2 m3 m4 m5 m6 m7 m8 m9 m_now m_saved m_aside m_states m_quiet m_thrown m_tried m_best v14 m_text m_length m_at m_verbs m_told m_commands (8 : Int32) r15 hg) (gwV lk_184fe921 lk_d689724c lk_b095f72c lk_6d91b6d2 lk_d7f116ea) rfl hvX6_many ⟨rfl, rfl⟩ ⟨Nat.le_of_ble_eq_true rfl, Nat.le_of_ble_eq_true rfl⟩ ⟨Nat.zero_le _, Nat.zero_le _⟩ rfl rfl (Nat.le_of_ble_eq_true rfl) 0 rfl vc6 rfl rfl rfl rfl (by decide) ?_
  refine sw_icmp_ge 9 29 G dX6_plans_9 rfl hf (fun hf => ?_) (fun hf => ?_)
  · cases hf
    cases hex2 _ rfl
    exact sw_lv _ [0, 1] rfl hx2_29
  · refine sw_aload_n 12 G dX6_plans_12 0 rfl ?_
    refine sw_get 13 G hnX6 0 8 dX6_plans_13 vc6 (by decide) (List.mem_cons_of_mem _ lk_4c9d84e1) rfl rfl ?_
    refine sw_iload_n 16 G dX6_plans_16 2 rfl ?_
    refine sw_aload_n 17 G dX6_plans_17 0 rfl ?_
    refine sw_iload_n 18 G dX6_plans_18 2 rfl ?_
    obtain ⟨r16, hg, hf⟩ := bd1_some hf
    refine sw_callV 19 G (wX6 Θ m0 m1 m2 m3 m4 m5 m6 m7 m8 m9 m_now m_saved m_aside m_states m_quiet m_thrown m_tried m_best v14 m_text m_length m_at m_verbs m_told m_commands) [0, 1, 2, 3, 4, 5, 6, 7, 8, 9] [] [0, 1, 2, 3, 4, 5, 6, 7, 8, 9] 1 dX6_plans_19 (kX6_touches Θ F m0 m1 m2 m3 m4 m5 m6 m7 m8 m9 m_now m_saved m_aside m_states m_quiet m_thrown m_tried m_best v14 m_text m_length m_at m_verbs m_told m_commands v13 r16 hg) (gwV lk_b04fa29e lk_3e6a8042 lk_1bb8e9b3 lk_6d91b6d2 lk_10255ca4) rfl hvX6_touches ⟨rfl, rfl⟩ ⟨Nat.le_of_ble_eq_true rfl, Nat.le_of_ble_eq_true rfl⟩ ⟨Nat.zero_le _, Nat.zero_le _⟩ rfl rfl (Nat.le_of_ble_eq_true rfl) 0 rfl vc6 rfl rfl rfl rfl (by decide) ?_
    refine sw_iast 22 G 6 (wX6 Θ m0 m1 m2 m3 m4 m5 m6 m7 m8 m9 m_now m_saved m_aside m_states m_quiet m_thrown m_tried m_best (upd v14 v13.toNatClampNeg r16) m_text m_length m_at m_verbs m_told m_commands) dX6_plans_22 rfl rfl hf (fun hf => ?_)
    refine sw_iinc 23 G (v13 + (1 : Int32)) [(2, .int (v13 + (1 : Int32))), (0, .ref m0), (1, .int a0)] dX6_plans_23 2 rfl rfl (by decide) rfl ?_
    refine sw_goto 26 G 2 dX6_plans_26 rfl ?_
    cases hf
    have hb := hin2 _ rfl
    exact sw_lv _ [1, 2, 0] (by rfl) hb
abbrev rmX6_setStation : Room := { frames := 2, cells := 0, slots := 0, locals := 43 }
theorem hvX6_setStation : yX6_setStation.cls = RX6 ∧ yX6_setStation.cls ≠ "java/lang/invoke/MethodHandle" ∧ yX6_setStation.cls ≠ "java/lang/invoke/VarHandle" ∧ (parseMethodDescriptor yX6_setStation.desc).map (fun d => d.parameters.length) = some 2 := by decide +kernel
set_option maxRecDepth 100000 in
set_option maxHeartbeats 4000000 in
theorem kX6_setStation (Θ : Tht) (F : Nat) (m0 m1 m2 m3 m4 m5 m6 m7 m8 m9 : Nat) (m_now : Nat → Int64) (m_saved : Nat → Int64) (m_aside : Nat → Int64) (m_states : Int32) (m_quiet : Int32) (m_thrown : Int32) (m_tried : Nat → Int32) (m_best : Nat → Int32) (m_touching : Nat → Int32) (m_text : Nat → Int32) (m_length : Int32) (m_at : Int32) (m_verbs : Nat → Int32) (m_told : Nat → Int32) (m_commands : Int32) (a0 : Int32) (a1 : Int32) (ro : Int32) (o_m_now : Nat → Int64) (o_m_saved : Nat → Int64) (o_m_states : Int32) (o_m_thrown : Int32) (hf : fX6_setStation F m_now m_saved m_states m_quiet a0 a1 = some (ro, o_m_now, o_m_saved, o_m_states, o_m_thrown)) : Fn Θ yX6_setStation (Cond.code yX6_setStation cX6_setStation 4 (some .int) :: GW) rmX6_setStation [.ref m0, .int a0, .int a1] (wX6 Θ m0 m1 m2 m3 m4 m5 m6 m7 m8 m9 m_now m_saved m_aside m_states m_quiet m_thrown m_tried m_best m_touching m_text m_length m_at m_verbs m_told m_commands) (some (.int ro)) (wX6 Θ m0 m1 m2 m3 m4 m5 m6 m7 m8 m9 o_m_now o_m_saved m_aside o_m_states m_quiet o_m_thrown m_tried m_best m_touching m_text m_length m_at m_verbs m_told m_commands) := by
  delta fX6_setStation at hf
  refine Fn.of (by decide +kernel) rfl (Nat.le_of_ble_eq_true rfl) (fun p e s m args below meth c A Q G K => ?_)
  show sw Θ p e rmX6_setStation s m args below meth c A Q 4 0 0 0 [(0, .ref m0), (1, .int a0), (2, .int a1)] [] (wX6 Θ m0 m1 m2 m3 m4 m5 m6 m7 m8 m9 m_now m_saved m_aside m_states m_quiet m_thrown m_tried m_best m_touching m_text m_length m_at m_verbs m_told m_commands)
  refine sw_aload_n 0 G dX6_setStation_0 0 rfl ?_
  refine sw_iconst 1 G (0 : Int32) dX6_setStation_1 rfl ?_
  refine sw_put 2 G hnX6 tyX6_ok nmX6 0 5 (wX6 Θ m0 m1 m2 m3 m4 m5 m6 m7 m8 m9 m_now m_saved m_aside m_states m_quiet (0 : Int32) m_tried m_best m_touching m_text m_length m_at m_verbs m_told m_commands) dX6_setStation_2 vc6 (by decide) (List.mem_cons_of_mem _ lk_fb3e5753) rfl rfl (Nat.le_of_ble_eq_true rfl) (tyX6_ok 5 (by decide)) rfl rfl rfl ?_
  refine sw_aload_n 5 G dX6_setStation_5 0 rfl ?_
  refine sw_iload_n 6 G dX6_setStation_6 1 rfl ?_
  obtain ⟨r1, hg, hf⟩ := bd1_some hf
  refine sw_callV 7 G (wX6 Θ m0 m1 m2 m3 m4 m5 m6 m7 m8 m9 m_now m_saved m_aside m_states m_quiet (0 : Int32) m_tried m_best m_touching m_text m_length m_at m_verbs m_told m_commands) [0, 1, 2, 3, 4, 5, 6, 7, 8, 9] [] [0, 1, 2, 3, 4, 5, 6, 7, 8, 9] 1 dX6_setStation_7 (kX6_isOp Θ m0 m1 m2 m3 m4 m5 m6 m7 m8 m9 m_now m_saved m_aside m_states m_quiet (0 : Int32) m_tried m_best m_touching m_text m_length m_at m_verbs m_told m_commands a0 r1 hg) (gwV lk_5d9a90b0 lk_9ff6988e lk_64f05732 lk_6d91b6d2 lk_a01bf882) rfl hvX6_isOp ⟨rfl, rfl⟩ ⟨Nat.le_of_ble_eq_true rfl, Nat.le_of_ble_eq_true rfl⟩ ⟨Nat.zero_le _, Nat.zero_le _⟩ rfl rfl (Nat.le_of_ble_eq_true rfl) 0 rfl vc6 rfl rfl rfl rfl (by decide) ?_
  refine sw_if_ne 10 19 G dX6_setStation_10 rfl hf (fun hf => ?_) (fun hf => ?_)
  · refine sw_iload_n 19 G dX6_setStation_19 2 rfl ?_
    refine sw_iconst 20 G (-1 : Int32) dX6_setStation_20 rfl ?_
    refine sw_bipush 21 G (7 : Int32) dX6_setStation_21 rfl ?_
    obtain ⟨r2, hg, hf⟩ := bd1_some hf
    refine sw_callS 23 G (wX6 Θ m0 m1 m2 m3 m4 m5 m6 m7 m8 m9 m_now m_saved m_aside m_states m_quiet (0 : Int32) m_tried m_best m_touching m_text m_length m_at m_verbs m_told m_commands) [] [0, 1, 2, 3, 4, 5, 6, 7, 8, 9] [0, 1, 2, 3, 4, 5, 6, 7, 8, 9] 3 dX6_setStation_23 (kX6_in Θ a1 (-1 : Int32) (7 : Int32) r2 hg) (gwS lk_739e9842 lk_9ad51b2c lk_59eba9b0 lk_5ad5c33d) rfl hsX6_in ⟨rfl, rfl⟩ ⟨Nat.le_of_ble_eq_true rfl, Nat.le_of_ble_eq_true rfl⟩ ⟨Nat.zero_le _, Nat.zero_le _⟩ rfl rfl (Nat.le_of_ble_eq_true rfl) rfl rfl rfl (by decide) ?_
    refine sw_if_ne 26 35 G dX6_setStation_26 rfl hf (fun hf => ?_) (fun hf => ?_)
    · refine sw_aload_n 35 G dX6_setStation_35 0 rfl ?_
      obtain ⟨u3, u4, hg, hf⟩ := bd2_some hf
      refine sw_callV 36 G (wX6 Θ m0 m1 m2 m3 m4 m5 m6 m7 m8 m9 m_now u3 m_aside u4 m_quiet (0 : Int32) m_tried m_best m_touching m_text m_length m_at m_verbs m_told m_commands) [0, 1, 2, 3, 4, 5, 6, 7, 8, 9] [] [0, 1, 2, 3, 4, 5, 6, 7, 8, 9] 0 dX6_setStation_36 (kX6_save Θ F m0 m1 m2 m3 m4 m5 m6 m7 m8 m9 m_now m_saved m_aside m_states m_quiet (0 : Int32) m_tried m_best m_touching m_text m_length m_at m_verbs m_told m_commands u3 u4 hg) (gwV lk_fb398b8d lk_00110175 lk_41f35dad lk_6d91b6d2 lk_436b5259) rfl hvX6_save ⟨rfl, rfl⟩ ⟨Nat.le_of_ble_eq_true rfl, Nat.le_of_ble_eq_true rfl⟩ ⟨Nat.zero_le _, Nat.zero_le _⟩ rfl rfl (Nat.le_of_ble_eq_true rfl) 0 rfl vc6 rfl rfl rfl rfl (by decide) ?_
      refine sw_aload_n 39 G dX6_setStation_39 0 rfl ?_
      refine sw_iload_n 40 G dX6_setStation_40 1 rfl ?_
      refine sw_iconst 41 G (5 : Int32) dX6_setStation_41 rfl ?_
      obtain ⟨r5, hg, hf⟩ := bd1_some hf
      refine sw_callV 42 G (wX6 Θ m0 m1 m2 m3 m4 m5 m6 m7 m8 m9 m_now u3 m_aside u4 m_quiet (0 : Int32) m_tried m_best m_touching m_text m_length m_at m_verbs m_told m_commands) [0, 1, 2, 3, 4, 5, 6, 7, 8, 9] [] [0, 1, 2, 3, 4, 5, 6, 7, 8, 9] 2 dX6_setStation_42 (kX6_ofOp Θ m0 m1 m2 m3 m4 m5 m6 m7 m8 m9 m_now u3 m_aside u4 m_quiet (0 : Int32) m_tried m_best m_touching m_text m_length m_at m_verbs m_told m_commands a0 (5 : Int32) r5 hg) (gwV lk_2264dc2b lk_fffc09d0 lk_e7d0f718 lk_6d91b6d2 lk_229db627) rfl hvX6_ofOp ⟨rfl, rfl⟩ ⟨Nat.le_of_ble_eq_true rfl, Nat.le_of_ble_eq_true rfl⟩ ⟨Nat.zero_le _, Nat.zero_le _⟩ rfl rfl (Nat.le_of_ble_eq_true rfl) 0 rfl vc6 rfl rfl rfl rfl (by decide) ?_
      refine sw_istore_n 45 G [(3, .int r5), (0, .ref m0), (1, .int a0), (2, .int a1)] dX6_setStation_45 (by decide) rfl ?_
      refine sw_aload_n 46 G dX6_setStation_46 1 rfl ?_
      refine sw_get 47 G hnX6 0 0 dX6_setStation_47 vc6 (by decide) (List.mem_cons_of_mem _ lk_54e63fd8) rfl rfl ?_
      refine sw_bipush 50 G (20 : Int32) dX6_setStation_50 rfl ?_
      refine sw_bipush 52 G (6 : Int32) dX6_setStation_52 rfl ?_
      refine sw_iload_n 54 G dX6_setStation_54 2 rfl ?_
      refine sw_imul 55 G dX6_setStation_55 ?_
      refine sw_iadd 56 G dX6_setStation_56 ?_
      refine sw_iconst 57 G (5 : Int32) dX6_setStation_57 rfl ?_
      refine sw_iadd 58 G dX6_setStation_58 ?_
      refine sw_nmi hf (fun v6 hf => ?_)
      refine sw_iload_n 59 G dX6_setStation_59 3 rfl ?_
      refine sw_i2l 60 G dX6_setStation_60 ?_
      refine sw_nml hf (fun v7 hf => ?_)
      refine sw_last 61 G 1 (wX6 Θ m0 m1 m2 m3 m4 m5 m6 m7 m8 m9 (vp_updL m_now v6.toNatClampNeg v7) u3 m_aside u4 m_quiet (0 : Int32) m_tried m_best m_touching m_text m_length m_at m_verbs m_told m_commands) dX6_setStation_61 rfl rfl hf (fun hf => ?_)
      refine sw_iload_n 62 G dX6_setStation_62 0 rfl ?_
      cases hf
      exact sw_iret 63 G dX6_setStation_63 K
    · refine sw_aload_n 29 G dX6_setStation_29 0 rfl ?_
      refine sw_iconst 30 G (2 : Int32) dX6_setStation_30 rfl ?_
      obtain ⟨r8, u9, hg, hf⟩ := bd2_some hf
      refine sw_callV 31 G (wX6 Θ m0 m1 m2 m3 m4 m5 m6 m7 m8 m9 m_now m_saved m_aside m_states m_quiet u9 m_tried m_best m_touching m_text m_length m_at m_verbs m_told m_commands) [0, 1, 2, 3, 4, 5, 6, 7, 8, 9] [] [0, 1, 2, 3, 4, 5, 6, 7, 8, 9] 1 dX6_setStation_31 (kX6_fails Θ m0 m1 m2 m3 m4 m5 m6 m7 m8 m9 m_now m_saved m_aside m_states m_quiet (0 : Int32) m_tried m_best m_touching m_text m_length m_at m_verbs m_told m_commands (2 : Int32) r8 u9 hg) (gwV lk_c7279fda lk_b9e66eaa lk_2152c894 lk_6d91b6d2 lk_f2d2a162) rfl hvX6_fails ⟨rfl, rfl⟩ ⟨Nat.le_of_ble_eq_true rfl, Nat.le_of_ble_eq_true rfl⟩ ⟨Nat.zero_le _, Nat.zero_le _⟩ rfl rfl (Nat.le_of_ble_eq_true rfl) 0 rfl vc6 rfl rfl rfl rfl (by decide) ?_
      cases hf
      exact sw_iret 34 G dX6_setStation_34 K
  · refine sw_aload_n 13 G dX6_setStation_13 0 rfl ?_
    refine sw_iconst 14 G (1 : Int32) dX6_setStation_14 rfl ?_
    obtain ⟨r10, u11, hg, hf⟩ := bd2_some hf
    refine sw_callV 15 G (wX6 Θ m0 m1 m2 m3 m4 m5 m6 m7 m8 m9 m_now m_saved m_aside m_states m_quiet u11 m_tried m_best m_touching m_text m_length m_at m_verbs m_told m_commands) [0, 1, 2, 3, 4, 5, 6, 7, 8, 9] [] [0, 1, 2, 3, 4, 5, 6, 7, 8, 9] 1 dX6_setStation_15 (kX6_fails Θ m0 m1 m2 m3 m4 m5 m6 m7 m8 m9 m_now m_saved m_aside m_states m_quiet (0 : Int32) m_tried m_best m_touching m_text m_length m_at m_verbs m_told m_commands (1 : Int32) r10 u11 hg) (gwV lk_c7279fda lk_b9e66eaa lk_2152c894 lk_6d91b6d2 lk_f2d2a162) rfl hvX6_fails ⟨rfl, rfl⟩ ⟨Nat.le_of_ble_eq_true rfl, Nat.le_of_ble_eq_true rfl⟩ ⟨Nat.zero_le _, Nat.zero_le _⟩ rfl rfl (Nat.le_of_ble_eq_true rfl) 0 rfl vc6 rfl rfl rfl rfl (by decide) ?_
    cases hf
    exact sw_iret 18 G dX6_setStation_18 K
abbrev rmX6_usePlan : Room := { frames := 5, cells := 0, slots := 0, locals := 120 }
theorem hvX6_usePlan : yX6_usePlan.cls = RX6 ∧ yX6_usePlan.cls ≠ "java/lang/invoke/MethodHandle" ∧ yX6_usePlan.cls ≠ "java/lang/invoke/VarHandle" ∧ (parseMethodDescriptor yX6_usePlan.desc).map (fun d => d.parameters.length) = some 0 := by decide +kernel
set_option maxRecDepth 100000 in
set_option maxHeartbeats 4000000 in
theorem kX6_usePlan (Θ : Tht) (F : Nat) (m0 m1 m2 m3 m4 m5 m6 m7 m8 m9 : Nat) (m_now : Nat → Int64) (m_saved : Nat → Int64) (m_aside : Nat → Int64) (m_states : Int32) (m_quiet : Int32) (m_thrown : Int32) (m_tried : Nat → Int32) (m_best : Nat → Int32) (m_touching : Nat → Int32) (m_text : Nat → Int32) (m_length : Int32) (m_at : Int32) (m_verbs : Nat → Int32) (m_told : Nat → Int32) (m_commands : Int32) (ro : Int32) (o_m_now : Nat → Int64) (o_m_saved : Nat → Int64) (o_m_states : Int32) (o_m_thrown : Int32) (o_m_tried : Nat → Int32) (o_m_best : Nat → Int32) (o_m_touching : Nat → Int32) (hf : fX6_usePlan F m_now m_saved m_states m_quiet m_tried m_best m_touching = some (ro, o_m_now, o_m_saved, o_m_states, o_m_thrown, o_m_tried, o_m_best, o_m_touching)) : Fn Θ yX6_usePlan (Cond.code yX6_usePlan cX6_usePlan 3 (some .int) :: GW) rmX6_usePlan [.ref m0] (wX6 Θ m0 m1 m2 m3 m4 m5 m6 m7 m8 m9 m_now m_saved m_aside m_states m_quiet m_thrown m_tried m_best m_touching m_text m_length m_at m_verbs m_told m_commands) (some (.int ro)) (wX6 Θ m0 m1 m2 m3 m4 m5 m6 m7 m8 m9 o_m_now o_m_saved m_aside o_m_states m_quiet o_m_thrown o_m_tried o_m_best o_m_touching m_text m_length m_at m_verbs m_told m_commands) := by
  delta fX6_usePlan at hf
  refine Fn.of (by decide +kernel) rfl (Nat.le_of_ble_eq_true rfl) (fun p e s m args below meth c A Q G K => ?_)
  show sw Θ p e rmX6_usePlan s m args below meth c A Q 3 0 0 0 [(0, .ref m0)] [] (wX6 Θ m0 m1 m2 m3 m4 m5 m6 m7 m8 m9 m_now m_saved m_aside m_states m_quiet m_thrown m_tried m_best m_touching m_text m_length m_at m_verbs m_told m_commands)
  refine sw_aload_n 0 G dX6_usePlan_0 0 rfl ?_
  refine sw_iconst 1 G (0 : Int32) dX6_usePlan_1 rfl ?_
  refine sw_put 2 G hnX6 tyX6_ok nmX6 0 5 (wX6 Θ m0 m1 m2 m3 m4 m5 m6 m7 m8 m9 m_now m_saved m_aside m_states m_quiet (0 : Int32) m_tried m_best m_touching m_text m_length m_at m_verbs m_told m_commands) dX6_usePlan_2 vc6 (by decide) (List.mem_cons_of_mem _ lk_fb3e5753) rfl rfl (Nat.le_of_ble_eq_true rfl) (tyX6_ok 5 (by decide)) rfl rfl rfl ?_
  refine sw_aload_n 5 G dX6_usePlan_5 0 rfl ?_
  refine sw_aload_n 6 G dX6_usePlan_6 0 rfl ?_
  refine sw_iconst 7 G (0 : Int32) dX6_usePlan_7 rfl ?_
  obtain ⟨r1, hg, hf⟩ := bd1_some hf
  refine sw_callV 8 G (wX6 Θ m0 m1 m2 m3 m4 m5 m6 m7 m8 m9 m_now m_saved m_aside m_states m_quiet (0 : Int32) m_tried m_best m_touching m_text m_length m_at m_verbs m_told m_commands) [0, 1, 2, 3, 4, 5, 6, 7, 8, 9] [] [0, 1, 2, 3, 4, 5, 6, 7, 8, 9] 1 dX6_usePlan_8 (kX6_setting Θ m0 m1 m2 m3 m4 m5 m6 m7 m8 m9 m_now m_saved m_aside m_states m_quiet (0 : Int32) m_tried m_best m_touching m_text m_length m_at m_verbs m_told m_commands (0 : Int32) r1 hg) (gwV lk_29a14a05 lk_b15aae89 lk_394237e6 lk_6d91b6d2 lk_fa884fd4) rfl hvX6_setting ⟨rfl, rfl⟩ ⟨Nat.le_of_ble_eq_true rfl, Nat.le_of_ble_eq_true rfl⟩ ⟨Nat.zero_le _, Nat.zero_le _⟩ rfl rfl (Nat.le_of_ble_eq_true rfl) 0 rfl vc6 rfl rfl rfl rfl (by decide) ?_
  obtain ⟨r2, u3, u4, u5, hg, hf⟩ := bd4_some hf
  refine sw_callV 11 G (wX6 Θ m0 m1 m2 m3 m4 m5 m6 m7 m8 m9 m_now m_saved m_aside m_states m_quiet (0 : Int32) u3 u4 u5 m_text m_length m_at m_verbs m_told m_commands) [0, 1, 2, 3, 4, 5, 6, 7, 8, 9] [] [0, 1, 2, 3, 4, 5, 6, 7, 8, 9] 1 dX6_usePlan_11 (kX6_plans Θ F m0 m1 m2 m3 m4 m5 m6 m7 m8 m9 m_now m_saved m_aside m_states m_quiet (0 : Int32) m_tried m_best m_touching m_text m_length m_at m_verbs m_told m_commands r1 r2 u3 u4 u5 hg) (gwV lk_c9873cba lk_e03af637 lk_57a6b268 lk_6d91b6d2 lk_7bd304a6) rfl hvX6_plans ⟨rfl, rfl⟩ ⟨Nat.le_of_ble_eq_true rfl, Nat.le_of_ble_eq_true rfl⟩ ⟨Nat.zero_le _, Nat.zero_le _⟩ rfl rfl (Nat.le_of_ble_eq_true rfl) 0 rfl vc6 rfl rfl rfl rfl (by decide) ?_
  refine sw_istore_n 14 G [(1, .int r2), (0, .ref m0)] dX6_usePlan_14 (by decide) rfl ?_
  refine sw_iload_n 15 G dX6_usePlan_15 0 rfl ?_
  refine sw_iconst 16 G (-1 : Int32) dX6_usePlan_16 rfl ?_
  refine sw_icmp_ne 17 26 G dX6_usePlan_17 rfl hf (fun hf => ?_) (fun hf => ?_)
  · refine sw_aload_n 26 G dX6_usePlan_26 1 rfl ?_
    obtain ⟨u6, u7, hg, hf⟩ := bd2_some hf
    refine sw_callV 27 G (wX6 Θ m0 m1 m2 m3 m4 m5 m6 m7 m8 m9 m_now u6 m_aside u7 m_quiet (0 : Int32) u3 u4 u5 m_text m_length m_at m_verbs m_told m_commands) [0, 1, 2, 3, 4, 5, 6, 7, 8, 9] [] [0, 1, 2, 3, 4, 5, 6, 7, 8, 9] 0 dX6_usePlan_27 (kX6_save Θ F m0 m1 m2 m3 m4 m5 m6 m7 m8 m9 m_now m_saved m_aside m_states m_quiet (0 : Int32) u3 u4 u5 m_text m_length m_at m_verbs m_told m_commands u6 u7 hg) (gwV lk_fb398b8d lk_00110175 lk_41f35dad lk_6d91b6d2 lk_436b5259) rfl hvX6_save ⟨rfl, rfl⟩ ⟨Nat.le_of_ble_eq_true rfl, Nat.le_of_ble_eq_true rfl⟩ ⟨Nat.zero_le _, Nat.zero_le _⟩ rfl rfl (Nat.le_of_ble_eq_true rfl) 0 rfl vc6 rfl rfl rfl rfl (by decide) ?_
    refine sw_iconst 30 G (0 : Int32) dX6_usePlan_30 rfl ?_
    refine sw_istore_n 31 G [(2, .int (0 : Int32)), (1, .int r2), (0, .ref m0)] dX6_usePlan_31 (by decide) rfl ?_
    obtain ⟨v8, hl, hf⟩ := bd1_some hf
    have hx32_69 : sw Θ p e rmX6_usePlan s m args below meth c A Q 3 0 0 69 [(1, .int r2)] [] (wX6 Θ m0 m1 m2 m3 m4 m5 m6 m7 m8 m9 v8 u6 m_aside u7 m_quiet (0 : Int32) u3 u4 u5 m_text m_length m_at m_verbs m_told m_commands) := by
      refine sw_iload_n 69 G dX6_usePlan_69 0 rfl ?_
      cases hf
      exact sw_iret 70 G dX6_usePlan_70 K
    refine sw_lv [(0, .ref m0), (1, .int r2), (2, .int (0 : Int32))] [2, 1, 0] rfl ?_
    refine lp_walk (P := fun (t : Int32 × (Nat → Int64)) => sw Θ p e rmX6_usePlan s m args below meth c A Q 3 0 0 32 [(0, .ref m0), (1, .int r2), (2, .int t.1)] [] (wX6 Θ m0 m1 m2 m3 m4 m5 m6 m7 m8 m9 t.2 u6 m_aside u7 m_quiet (0 : Int32) u3 u4 u5 m_text m_length m_at m_verbs m_told m_commands)) hl (fun t32 y32 hf hin32 hex32 => ?_)
    obtain ⟨v9, v10⟩ := t32
    show sw Θ p e rmX6_usePlan s m args below meth c A Q 3 0 0 32 [(0, .ref m0), (1, .int r2), (2, .int v9)] [] (wX6 Θ m0 m1 m2 m3 m4 m5 m6 m7 m8 m9 v10 u6 m_aside u7 m_quiet (0 : Int32) u3 u4 u5 m_text m_length m_at m_verbs m_told m_commands)
    have hf := uc2_some (K := _) hf
    refine sw_iload_n 32 G dX6_usePlan_32 2 rfl ?_
    refine sw_aload_n 33 G dX6_usePlan_33 0 rfl ?_
    refine sw_bipush 34 G (8 : Int32) dX6_usePlan_34 rfl ?_
    obtain ⟨r11, hg, hf⟩ := bd1_some hf
    refine sw_callV 36 G (wX6 Θ m0 m1 m2 m3 m4 m5 m6 m7 m8 m9 v10 u6 m_aside u7 m_quiet (0 : Int32) u3 u4 u5 m_text m_length m_at m_verbs m_told m_commands) [0, 1, 2, 3, 4, 5, 6, 7, 8, 9] [] [0, 1, 2, 3, 4, 5, 6, 7, 8, 9] 1 dX6_usePlan_36 (kX6_many Θ m0 m1 m2 m3 m4 m5 m6 m7 m8 m9 v10 u6 m_aside u7 m_quiet (0 : Int32) u3 u4 u5 m_text m_length m_at m_verbs m_told m_commands (8 : Int32) r11 hg) (gwV lk_184fe921 lk_d689724c lk_b095f72c lk_6d91b6d2 lk_d7f116ea) rfl hvX6_many ⟨rfl, rfl⟩ ⟨Nat.le_of_ble_eq_true rfl, Nat.le_of_ble_eq_true rfl⟩ ⟨Nat.zero_le _, Nat.zero_le _⟩ rfl rfl (Nat.le_of_ble_eq_true rfl) 0 rfl vc6 rfl rfl rfl rfl (by decide) ?_
    refine sw_icmp_ge 39 69 G dX6_usePlan_39 rfl hf (fun hf => ?_) (fun hf => ?_)
    · cases hf
      cases hex32 _ rfl
      exact sw_lv _ [1] rfl hx32_69
    · refine sw_aload_n 42 G dX6_usePlan_42 0 rfl ?_
      refine sw_get 43 G hnX6 0 0 dX6_usePlan_43 vc6 (by decide) (List.mem_cons_of_mem _ lk_54e63fd8) rfl rfl ?_
      refine sw_bipush 46 G (20 : Int32) dX6_usePlan_46 rfl ?_
      refine sw_bipush 48 G (6 : Int32) dX6_usePlan_48 rfl ?_
      refine sw_iload_n 50 G dX6_usePlan_50 2 rfl ?_
      refine sw_imul 51 G dX6_usePlan_51 ?_
      refine sw_iadd 52 G dX6_usePlan_52 ?_
      refine sw_iconst 53 G (5 : Int32) dX6_usePlan_53 rfl ?_
      refine sw_iadd 54 G dX6_usePlan_54 ?_
      refine sw_nmi hf (fun v12 hf => ?_)
      refine sw_aload_n 55 G dX6_usePlan_55 0 rfl ?_
      refine sw_get 56 G hnX6 0 7 dX6_usePlan_56 vc6 (by decide) (List.mem_cons_of_mem _ lk_49b9a7b5) rfl rfl ?_
      refine sw_iload_n 59 G dX6_usePlan_59 2 rfl ?_
      refine sw_iald 60 G 5 dX6_usePlan_60 rfl hf (fun hf => ?_)
      refine sw_i2l 61 G dX6_usePlan_61 ?_
      refine sw_nml hf (fun v13 hf => ?_)
      refine sw_last 62 G 1 (wX6 Θ m0 m1 m2 m3 m4 m5 m6 m7 m8 m9 (vp_updL v10 v12.toNatClampNeg v13) u6 m_aside u7 m_quiet (0 : Int32) u3 u4 u5 m_text m_length m_at m_verbs m_told m_commands) dX6_usePlan_62 rfl rfl hf (fun hf => ?_)
      refine sw_iinc 63 G (v9 + (1 : Int32)) [(2, .int (v9 + (1 : Int32))), (0, .ref m0), (1, .int r2)] dX6_usePlan_63 2 rfl rfl (by decide) rfl ?_
      refine sw_goto 66 G 32 dX6_usePlan_66 rfl ?_
      cases hf
      have hb := hin32 _ rfl
      exact sw_lv _ [1, 2, 0] (by rfl) hb
  · refine sw_aload_n 20 G dX6_usePlan_20 1 rfl ?_
    refine sw_iconst 21 G (1 : Int32) dX6_usePlan_21 rfl ?_
    obtain ⟨r14, u15, hg, hf⟩ := bd2_some hf
    refine sw_callV 22 G (wX6 Θ m0 m1 m2 m3 m4 m5 m6 m7 m8 m9 m_now m_saved m_aside m_states m_quiet u15 u3 u4 u5 m_text m_length m_at m_verbs m_told m_commands) [0, 1, 2, 3, 4, 5, 6, 7, 8, 9] [] [0, 1, 2, 3, 4, 5, 6, 7, 8, 9] 1 dX6_usePlan_22 (kX6_fails Θ m0 m1 m2 m3 m4 m5 m6 m7 m8 m9 m_now m_saved m_aside m_states m_quiet (0 : Int32) u3 u4 u5 m_text m_length m_at m_verbs m_told m_commands (1 : Int32) r14 u15 hg) (gwV lk_c7279fda lk_b9e66eaa lk_2152c894 lk_6d91b6d2 lk_f2d2a162) rfl hvX6_fails ⟨rfl, rfl⟩ ⟨Nat.le_of_ble_eq_true rfl, Nat.le_of_ble_eq_true rfl⟩ ⟨Nat.zero_le _, Nat.zero_le _⟩ rfl rfl (Nat.le_of_ble_eq_true rfl) 0 rfl vc6 rfl rfl rfl rfl (by decide) ?_
    cases hf
    exact sw_iret 25 G dX6_usePlan_25 K
abbrev rmX6_setPilot : Room := { frames := 1, cells := 0, slots := 0, locals := 23 }
theorem hvX6_setPilot : yX6_setPilot.cls = RX6 ∧ yX6_setPilot.cls ≠ "java/lang/invoke/MethodHandle" ∧ yX6_setPilot.cls ≠ "java/lang/invoke/VarHandle" ∧ (parseMethodDescriptor yX6_setPilot.desc).map (fun d => d.parameters.length) = some 2 := by decide +kernel
set_option maxRecDepth 100000 in
set_option maxHeartbeats 4000000 in
theorem kX6_setPilot (Θ : Tht) (F : Nat) (m0 m1 m2 m3 m4 m5 m6 m7 m8 m9 : Nat) (m_now : Nat → Int64) (m_saved : Nat → Int64) (m_aside : Nat → Int64) (m_states : Int32) (m_quiet : Int32) (m_thrown : Int32) (m_tried : Nat → Int32) (m_best : Nat → Int32) (m_touching : Nat → Int32) (m_text : Nat → Int32) (m_length : Int32) (m_at : Int32) (m_verbs : Nat → Int32) (m_told : Nat → Int32) (m_commands : Int32) (a0 : Int32) (a1 : Int32) (ro : Int32) (o_m_now : Nat → Int64) (o_m_saved : Nat → Int64) (o_m_states : Int32) (o_m_thrown : Int32) (hf : fX6_setPilot F m_now m_saved m_states m_quiet a0 a1 = some (ro, o_m_now, o_m_saved, o_m_states, o_m_thrown)) : Fn Θ yX6_setPilot (Cond.code yX6_setPilot cX6_setPilot 3 (some .int) :: GW) rmX6_setPilot [.ref m0, .int a0, .int a1] (wX6 Θ m0 m1 m2 m3 m4 m5 m6 m7 m8 m9 m_now m_saved m_aside m_states m_quiet m_thrown m_tried m_best m_touching m_text m_length m_at m_verbs m_told m_commands) (some (.int ro)) (wX6 Θ m0 m1 m2 m3 m4 m5 m6 m7 m8 m9 o_m_now o_m_saved m_aside o_m_states m_quiet o_m_thrown m_tried m_best m_touching m_text m_length m_at m_verbs m_told m_commands) := by
  delta fX6_setPilot at hf
  refine Fn.of (by decide +kernel) rfl (Nat.le_of_ble_eq_true rfl) (fun p e s m args below meth c A Q G K => ?_)
  show sw Θ p e rmX6_setPilot s m args below meth c A Q 3 0 0 0 [(0, .ref m0), (1, .int a0), (2, .int a1)] [] (wX6 Θ m0 m1 m2 m3 m4 m5 m6 m7 m8 m9 m_now m_saved m_aside m_states m_quiet m_thrown m_tried m_best m_touching m_text m_length m_at m_verbs m_told m_commands)
  refine sw_aload_n 0 G dX6_setPilot_0 0 rfl ?_
  refine sw_iconst 1 G (0 : Int32) dX6_setPilot_1 rfl ?_
  refine sw_put 2 G hnX6 tyX6_ok nmX6 0 5 (wX6 Θ m0 m1 m2 m3 m4 m5 m6 m7 m8 m9 m_now m_saved m_aside m_states m_quiet (0 : Int32) m_tried m_best m_touching m_text m_length m_at m_verbs m_told m_commands) dX6_setPilot_2 vc6 (by decide) (List.mem_cons_of_mem _ lk_fb3e5753) rfl rfl (Nat.le_of_ble_eq_true rfl) (tyX6_ok 5 (by decide)) rfl rfl rfl ?_
  refine sw_iload_n 5 G dX6_setPilot_5 1 rfl ?_
  refine sw_iconst 6 G (0 : Int32) dX6_setPilot_6 rfl ?_
  refine sw_bipush 7 G (7 : Int32) dX6_setPilot_7 rfl ?_
  obtain ⟨r1, hg, hf⟩ := bd1_some hf
  refine sw_callS 9 G (wX6 Θ m0 m1 m2 m3 m4 m5 m6 m7 m8 m9 m_now m_saved m_aside m_states m_quiet (0 : Int32) m_tried m_best m_touching m_text m_length m_at m_verbs m_told m_commands) [] [0, 1, 2, 3, 4, 5, 6, 7, 8, 9] [0, 1, 2, 3, 4, 5, 6, 7, 8, 9] 3 dX6_setPilot_9 (kX6_in Θ a0 (0 : Int32) (7 : Int32) r1 hg) (gwS lk_739e9842 lk_9ad51b2c lk_59eba9b0 lk_5ad5c33d) rfl hsX6_in ⟨rfl, rfl⟩ ⟨Nat.le_of_ble_eq_true rfl, Nat.le_of_ble_eq_true rfl⟩ ⟨Nat.zero_le _, Nat.zero_le _⟩ rfl rfl (Nat.le_of_ble_eq_true rfl) rfl rfl rfl (by decide) ?_
  refine sw_if_ne 12 21 G dX6_setPilot_12 rfl hf (fun hf => ?_) (fun hf => ?_)
  · refine sw_aload_n 21 G dX6_setPilot_21 0 rfl ?_
    obtain ⟨u2, u3, hg, hf⟩ := bd2_some hf
    refine sw_callV 22 G (wX6 Θ m0 m1 m2 m3 m4 m5 m6 m7 m8 m9 m_now u2 m_aside u3 m_quiet (0 : Int32) m_tried m_best m_touching m_text m_length m_at m_verbs m_told m_commands) [0, 1, 2, 3, 4, 5, 6, 7, 8, 9] [] [0, 1, 2, 3, 4, 5, 6, 7, 8, 9] 0 dX6_setPilot_22 (kX6_save Θ F m0 m1 m2 m3 m4 m5 m6 m7 m8 m9 m_now m_saved m_aside m_states m_quiet (0 : Int32) m_tried m_best m_touching m_text m_length m_at m_verbs m_told m_commands u2 u3 hg) (gwV lk_fb398b8d lk_00110175 lk_41f35dad lk_6d91b6d2 lk_436b5259) rfl hvX6_save ⟨rfl, rfl⟩ ⟨Nat.le_of_ble_eq_true rfl, Nat.le_of_ble_eq_true rfl⟩ ⟨Nat.zero_le _, Nat.zero_le _⟩ rfl rfl (Nat.le_of_ble_eq_true rfl) 0 rfl vc6 rfl rfl rfl rfl (by decide) ?_
    refine sw_aload_n 25 G dX6_setPilot_25 0 rfl ?_
    refine sw_get 26 G hnX6 0 0 dX6_setPilot_26 vc6 (by decide) (List.mem_cons_of_mem _ lk_54e63fd8) rfl rfl ?_
    refine sw_bipush 29 G (13 : Int32) dX6_setPilot_29 rfl ?_
    refine sw_iload_n 31 G dX6_setPilot_31 2 rfl ?_
    obtain ⟨v4, hj, hf⟩ := bd1_some hf
    have hx64 : sw Θ p e rmX6_setPilot s m args below meth c A Q 3 0 0 64 [(0, .ref m0)] [.long v4, .int (13 : Int32), .ref m1] (wX6 Θ m0 m1 m2 m3 m4 m5 m6 m7 m8 m9 m_now u2 m_aside u3 m_quiet (0 : Int32) m_tried m_best m_touching m_text m_length m_at m_verbs m_told m_commands) := by
      refine sw_last 64 G 1 (wX6 Θ m0 m1 m2 m3 m4 m5 m6 m7 m8 m9 (vp_updL m_now (13 : Int32).toNatClampNeg v4) u2 m_aside u3 m_quiet (0 : Int32) m_tried m_best m_touching m_text m_length m_at m_verbs m_told m_commands) dX6_setPilot_64 rfl rfl hf (fun hf => ?_)
      refine sw_aload_n 65 G dX6_setPilot_65 0 rfl ?_
      refine sw_get 66 G hnX6 0 0 dX6_setPilot_66 vc6 (by decide) (List.mem_cons_of_mem _ lk_54e63fd8) rfl rfl ?_
      refine sw_bipush 69 G (13 : Int32) dX6_setPilot_69 rfl ?_
      refine sw_lald 71 G 1 dX6_setPilot_71 rfl hf (fun hf => ?_)
      obtain ⟨r5, hg, hf⟩ := bd1_some hf
      refine sw_callS 72 G (wX6 Θ m0 m1 m2 m3 m4 m5 m6 m7 m8 m9 (vp_updL m_now (13 : Int32).toNatClampNeg v4) u2 m_aside u3 m_quiet (0 : Int32) m_tried m_best m_touching m_text m_length m_at m_verbs m_told m_commands) [] [0, 1, 2, 3, 4, 5, 6, 7, 8, 9] [0, 1, 2, 3, 4, 5, 6, 7, 8, 9] 1 dX6_setPilot_72 (kX6_ones Θ F ((vp_updL m_now (13 : Int32).toNatClampNeg v4) (13 : Int32).toNatClampNeg) r5 hg) (gwS lk_d2b42130 lk_66add976 lk_cff7b874 lk_9c72bac3) rfl hsX6_ones ⟨rfl, rfl⟩ ⟨Nat.le_of_ble_eq_true rfl, Nat.le_of_ble_eq_true rfl⟩ ⟨Nat.zero_le _, Nat.zero_le _⟩ rfl rfl (Nat.le_of_ble_eq_true rfl) rfl rfl rfl (by decide) ?_
      cases hf
      exact sw_iret 75 G dX6_setPilot_75 K
    clear hf
    have hf := hj
    clear hj
    refine sw_if_eq 32 49 G dX6_setPilot_32 rfl hf (fun hf => ?_) (fun hf => ?_)
    · refine sw_aload_n 49 G dX6_setPilot_49 0 rfl ?_
      refine sw_get 50 G hnX6 0 0 dX6_setPilot_50 vc6 (by decide) (List.mem_cons_of_mem _ lk_54e63fd8) rfl rfl ?_
      refine sw_bipush 53 G (13 : Int32) dX6_setPilot_53 rfl ?_
      refine sw_lald 55 G 1 dX6_setPilot_55 rfl hf (fun hf => ?_)
      refine sw_lconst 56 G (1 : Int64) dX6_setPilot_56 rfl ?_
      refine sw_iload_n 57 G dX6_setPilot_57 1 rfl ?_
      refine sw_lshl 58 G dX6_setPilot_58 ?_
      refine sw_ldc2 59 G (List.mem_cons_of_mem _ lk_e81893dd) dX6_setPilot_59 ?_
      refine sw_lxor 62 G dX6_setPilot_62 ?_
      refine sw_land 63 G dX6_setPilot_63 ?_
      cases hf
      exact sw_lv _ [0] rfl hx64
    · refine sw_aload_n 35 G dX6_setPilot_35 0 rfl ?_
      refine sw_get 36 G hnX6 0 0 dX6_setPilot_36 vc6 (by decide) (List.mem_cons_of_mem _ lk_54e63fd8) rfl rfl ?_
      refine sw_bipush 39 G (13 : Int32) dX6_setPilot_39 rfl ?_
      refine sw_lald 41 G 1 dX6_setPilot_41 rfl hf (fun hf => ?_)
      refine sw_lconst 42 G (1 : Int64) dX6_setPilot_42 rfl ?_
      refine sw_iload_n 43 G dX6_setPilot_43 1 rfl ?_
      refine sw_lshl 44 G dX6_setPilot_44 ?_
      refine sw_lor 45 G dX6_setPilot_45 ?_
      refine sw_goto 46 G 64 dX6_setPilot_46 rfl ?_
      cases hf
      exact sw_lv _ [0] rfl hx64
  · refine sw_aload_n 15 G dX6_setPilot_15 0 rfl ?_
    refine sw_iconst 16 G (1 : Int32) dX6_setPilot_16 rfl ?_
    obtain ⟨r6, u7, hg, hf⟩ := bd2_some hf
    refine sw_callV 17 G (wX6 Θ m0 m1 m2 m3 m4 m5 m6 m7 m8 m9 m_now m_saved m_aside m_states m_quiet u7 m_tried m_best m_touching m_text m_length m_at m_verbs m_told m_commands) [0, 1, 2, 3, 4, 5, 6, 7, 8, 9] [] [0, 1, 2, 3, 4, 5, 6, 7, 8, 9] 1 dX6_setPilot_17 (kX6_fails Θ m0 m1 m2 m3 m4 m5 m6 m7 m8 m9 m_now m_saved m_aside m_states m_quiet (0 : Int32) m_tried m_best m_touching m_text m_length m_at m_verbs m_told m_commands (1 : Int32) r6 u7 hg) (gwV lk_c7279fda lk_b9e66eaa lk_2152c894 lk_6d91b6d2 lk_f2d2a162) rfl hvX6_fails ⟨rfl, rfl⟩ ⟨Nat.le_of_ble_eq_true rfl, Nat.le_of_ble_eq_true rfl⟩ ⟨Nat.zero_le _, Nat.zero_le _⟩ rfl rfl (Nat.le_of_ble_eq_true rfl) 0 rfl vc6 rfl rfl rfl rfl (by decide) ?_
    cases hf
    exact sw_iret 20 G dX6_setPilot_20 K
abbrev rmX6_pitches : Room := { frames := 1, cells := 0, slots := 0, locals := 22 }
theorem hvX6_pitches : yX6_pitches.cls = RX6 ∧ yX6_pitches.cls ≠ "java/lang/invoke/MethodHandle" ∧ yX6_pitches.cls ≠ "java/lang/invoke/VarHandle" ∧ (parseMethodDescriptor yX6_pitches.desc).map (fun d => d.parameters.length) = some 0 := by decide +kernel
set_option maxRecDepth 100000 in
set_option maxHeartbeats 4000000 in
theorem kX6_pitches (Θ : Tht) (F : Nat) (m0 m1 m2 m3 m4 m5 m6 m7 m8 m9 : Nat) (m_now : Nat → Int64) (m_saved : Nat → Int64) (m_aside : Nat → Int64) (m_states : Int32) (m_quiet : Int32) (m_thrown : Int32) (m_tried : Nat → Int32) (m_best : Nat → Int32) (m_touching : Nat → Int32) (m_text : Nat → Int32) (m_length : Int32) (m_at : Int32) (m_verbs : Nat → Int32) (m_told : Nat → Int32) (m_commands : Int32) (ro : Int32) (hf : fX6_pitches F m_now = some ro) : Fn Θ yX6_pitches (Cond.code yX6_pitches cX6_pitches 3 (some .int) :: GW) rmX6_pitches [.ref m0] (wX6 Θ m0 m1 m2 m3 m4 m5 m6 m7 m8 m9 m_now m_saved m_aside m_states m_quiet m_thrown m_tried m_best m_touching m_text m_length m_at m_verbs m_told m_commands) (some (.int ro)) (wX6 Θ m0 m1 m2 m3 m4 m5 m6 m7 m8 m9 m_now m_saved m_aside m_states m_quiet m_thrown m_tried m_best m_touching m_text m_length m_at m_verbs m_told m_commands) := by
  delta fX6_pitches at hf
  refine Fn.of (by decide +kernel) rfl (Nat.le_of_ble_eq_true rfl) (fun p e s m args below meth c A Q G K => ?_)
  show sw Θ p e rmX6_pitches s m args below meth c A Q 3 0 0 0 [(0, .ref m0)] [] (wX6 Θ m0 m1 m2 m3 m4 m5 m6 m7 m8 m9 m_now m_saved m_aside m_states m_quiet m_thrown m_tried m_best m_touching m_text m_length m_at m_verbs m_told m_commands)
  refine sw_iconst 0 G (0 : Int32) dX6_pitches_0 rfl ?_
  refine sw_istore_n 1 G [(1, .int (0 : Int32)), (0, .ref m0)] dX6_pitches_1 (by decide) rfl ?_
  refine sw_iconst 2 G (0 : Int32) dX6_pitches_2 rfl ?_
  refine sw_istore_n 3 G [(2, .int (0 : Int32)), (1, .int (0 : Int32)), (0, .ref m0)] dX6_pitches_3 (by decide) rfl ?_
  obtain ⟨v1, hl, hf⟩ := bd1_some hf
  have hx4_26 : sw Θ p e rmX6_pitches s m args below meth c A Q 3 0 0 26 [(1, .int v1)] [] (wX6 Θ m0 m1 m2 m3 m4 m5 m6 m7 m8 m9 m_now m_saved m_aside m_states m_quiet m_thrown m_tried m_best m_touching m_text m_length m_at m_verbs m_told m_commands) := by
    refine sw_iload_n 26 G dX6_pitches_26 0 rfl ?_
    cases hf
    exact sw_iret 27 G dX6_pitches_27 K
  refine sw_lv [(0, .ref m0), (1, .int (0 : Int32)), (2, .int (0 : Int32))] [2, 1, 0] rfl ?_
  refine lp_walk (P := fun (t : Int32 × Int32) => sw Θ p e rmX6_pitches s m args below meth c A Q 3 0 0 4 [(0, .ref m0), (1, .int t.1), (2, .int t.2)] [] (wX6 Θ m0 m1 m2 m3 m4 m5 m6 m7 m8 m9 m_now m_saved m_aside m_states m_quiet m_thrown m_tried m_best m_touching m_text m_length m_at m_verbs m_told m_commands)) hl (fun t4 y4 hf hin4 hex4 => ?_)
  obtain ⟨v2, v3⟩ := t4
  show sw Θ p e rmX6_pitches s m args below meth c A Q 3 0 0 4 [(0, .ref m0), (1, .int v2), (2, .int v3)] [] (wX6 Θ m0 m1 m2 m3 m4 m5 m6 m7 m8 m9 m_now m_saved m_aside m_states m_quiet m_thrown m_tried m_best m_touching m_text m_length m_at m_verbs m_told m_commands)
  have hf := uc2_some (K := _) hf
  refine sw_iload_n 4 G dX6_pitches_4 2 rfl ?_
  refine sw_bipush 5 G (8 : Int32) dX6_pitches_5 rfl ?_
  refine sw_icmp_ge 7 26 G dX6_pitches_7 rfl hf (fun hf => ?_) (fun hf => ?_)
  · cases hf
    cases hex4 _ rfl
    exact sw_lv _ [1] rfl hx4_26
  · refine sw_iload_n 10 G dX6_pitches_10 1 rfl ?_
    refine sw_aload_n 11 G dX6_pitches_11 0 rfl ?_
    refine sw_iload_n 12 G dX6_pitches_12 2 rfl ?_
    refine sw_iconst 13 G (0 : Int32) dX6_pitches_13 rfl ?_
    obtain ⟨r4, hg, hf⟩ := bd1_some hf
    refine sw_callV 14 G (wX6 Θ m0 m1 m2 m3 m4 m5 m6 m7 m8 m9 m_now m_saved m_aside m_states m_quiet m_thrown m_tried m_best m_touching m_text m_length m_at m_verbs m_told m_commands) [0, 1, 2, 3, 4, 5, 6, 7, 8, 9] [] [0, 1, 2, 3, 4, 5, 6, 7, 8, 9] 2 dX6_pitches_14 (kX6_ofPitch Θ m0 m1 m2 m3 m4 m5 m6 m7 m8 m9 m_now m_saved m_aside m_states m_quiet m_thrown m_tried m_best m_touching m_text m_length m_at m_verbs m_told m_commands v3 (0 : Int32) r4 hg) (gwV lk_a40543c5 lk_e7c4f238 lk_d53ce5a7 lk_6d91b6d2 lk_df8fdb45) rfl hvX6_ofPitch ⟨rfl, rfl⟩ ⟨Nat.le_of_ble_eq_true rfl, Nat.le_of_ble_eq_true rfl⟩ ⟨Nat.zero_le _, Nat.zero_le _⟩ rfl rfl (Nat.le_of_ble_eq_true rfl) 0 rfl vc6 rfl rfl rfl rfl (by decide) ?_
    refine sw_l2i 17 G dX6_pitches_17 ?_
    refine sw_iadd 18 G dX6_pitches_18 ?_
    refine sw_nmi hf (fun v5 hf => ?_)
    refine sw_istore_n 19 G [(1, .int v5), (0, .ref m0), (2, .int v3)] dX6_pitches_19 (by decide) rfl ?_
    refine sw_iinc 20 G (v3 + (1 : Int32)) [(2, .int (v3 + (1 : Int32))), (1, .int v5), (0, .ref m0)] dX6_pitches_20 2 rfl rfl (by decide) rfl ?_
    refine sw_goto 23 G 4 dX6_pitches_23 rfl ?_
    cases hf
    have hb := hin4 _ rfl
    exact sw_lv _ [2, 1, 0] (by rfl) hb
abbrev rmX6_isGood : Room := { frames := 4, cells := 0, slots := 0, locals := 93 }
theorem hvX6_isGood : yX6_isGood.cls = RX6 ∧ yX6_isGood.cls ≠ "java/lang/invoke/MethodHandle" ∧ yX6_isGood.cls ≠ "java/lang/invoke/VarHandle" ∧ (parseMethodDescriptor yX6_isGood.desc).map (fun d => d.parameters.length) = some 1 := by decide +kernel
set_option maxRecDepth 100000 in
set_option maxHeartbeats 4000000 in
theorem kX6_isGood (Θ : Tht) (F : Nat) (m0 m1 m2 m3 m4 m5 m6 m7 m8 m9 : Nat) (m_now : Nat → Int64) (m_saved : Nat → Int64) (m_aside : Nat → Int64) (m_states : Int32) (m_quiet : Int32) (m_thrown : Int32) (m_tried : Nat → Int32) (m_best : Nat → Int32) (m_touching : Nat → Int32) (m_text : Nat → Int32) (m_length : Int32) (m_at : Int32) (m_verbs : Nat → Int32) (m_told : Nat → Int32) (m_commands : Int32) (a0 : Int32) (ro : Int32) (hf : fX6_isGood F m_now a0 = some ro) : Fn Θ yX6_isGood (Cond.code yX6_isGood cX6_isGood 8 (some .boolean) :: GW) rmX6_isGood [.ref m0, .int a0] (wX6 Θ m0 m1 m2 m3 m4 m5 m6 m7 m8 m9 m_now m_saved m_aside m_states m_quiet m_thrown m_tried m_best m_touching m_text m_length m_at m_verbs m_told m_commands) (some (.int ro)) (wX6 Θ m0 m1 m2 m3 m4 m5 m6 m7 m8 m9 m_now m_saved m_aside m_states m_quiet m_thrown m_tried m_best m_touching m_text m_length m_at m_verbs m_told m_commands) := by
  delta fX6_isGood at hf
  refine Fn.of (by decide +kernel) rfl (Nat.le_of_ble_eq_true rfl) (fun p e s m args below meth c A Q G K => ?_)
  show sw Θ p e rmX6_isGood s m args below meth c A Q 8 0 0 0 [(0, .ref m0), (1, .int a0)] [] (wX6 Θ m0 m1 m2 m3 m4 m5 m6 m7 m8 m9 m_now m_saved m_aside m_states m_quiet m_thrown m_tried m_best m_touching m_text m_length m_at m_verbs m_told m_commands)
  refine sw_aload_n 0 G dX6_isGood_0 0 rfl ?_
  obtain ⟨r1, hg, hf⟩ := bd1_some hf
  refine sw_callV 1 G (wX6 Θ m0 m1 m2 m3 m4 m5 m6 m7 m8 m9 m_now m_saved m_aside m_states m_quiet m_thrown m_tried m_best m_touching m_text m_length m_at m_verbs m_told m_commands) [0, 1, 2, 3, 4, 5, 6, 7, 8, 9] [] [0, 1, 2, 3, 4, 5, 6, 7, 8, 9] 0 dX6_isGood_1 (kX6_part Θ F m0 m1 m2 m3 m4 m5 m6 m7 m8 m9 m_now m_saved m_aside m_states m_quiet m_thrown m_tried m_best m_touching m_text m_length m_at m_verbs m_told m_commands r1 hg) (gwV lk_a7d29f13 lk_b5d5ac57 lk_bbe75992 lk_6d91b6d2 lk_b1193bad) rfl hvX6_part ⟨rfl, rfl⟩ ⟨Nat.le_of_ble_eq_true rfl, Nat.le_of_ble_eq_true rfl⟩ ⟨Nat.zero_le _, Nat.zero_le _⟩ rfl rfl (Nat.le_of_ble_eq_true rfl) 0 rfl vc6 rfl rfl rfl rfl (by decide) ?_
  refine sw_lstore_n 4 G [(2, .long r1), (0, .ref m0), (1, .int a0)] dX6_isGood_4 (by decide) rfl ?_
  refine sw_aload_n 5 G dX6_isGood_5 1 rfl ?_
  obtain ⟨r2, hg, hf⟩ := bd1_some hf
  refine sw_callV 6 G (wX6 Θ m0 m1 m2 m3 m4 m5 m6 m7 m8 m9 m_now m_saved m_aside m_states m_quiet m_thrown m_tried m_best m_touching m_text m_length m_at m_verbs m_told m_commands) [0, 1, 2, 3, 4, 5, 6, 7, 8, 9] [] [0, 1, 2, 3, 4, 5, 6, 7, 8, 9] 0 dX6_isGood_6 (kX6_all Θ F m0 m1 m2 m3 m4 m5 m6 m7 m8 m9 m_now m_saved m_aside m_states m_quiet m_thrown m_tried m_best m_touching m_text m_length m_at m_verbs m_told m_commands r2 hg) (gwV lk_8432f7ab lk_bfe085f4 lk_411ab8bc lk_6d91b6d2 lk_7c99059b) rfl hvX6_all ⟨rfl, rfl⟩ ⟨Nat.le_of_ble_eq_true rfl, Nat.le_of_ble_eq_true rfl⟩ ⟨Nat.zero_le _, Nat.zero_le _⟩ rfl rfl (Nat.le_of_ble_eq_true rfl) 0 rfl vc6 rfl rfl rfl rfl (by decide) ?_
  refine sw_lload_n 9 G dX6_isGood_9 0 rfl ?_
  refine sw_ldc2 10 G (List.mem_cons_of_mem _ lk_e81893dd) dX6_isGood_10 ?_
  refine sw_lxor 13 G dX6_isGood_13 ?_
  refine sw_land 14 G dX6_isGood_14 ?_
  refine sw_aload_n 15 G dX6_isGood_15 1 rfl ?_
  obtain ⟨r3, hg, hf⟩ := bd1_some hf
  refine sw_callV 16 G (wX6 Θ m0 m1 m2 m3 m4 m5 m6 m7 m8 m9 m_now m_saved m_aside m_states m_quiet m_thrown m_tried m_best m_touching m_text m_length m_at m_verbs m_told m_commands) [0, 1, 2, 3, 4, 5, 6, 7, 8, 9] [] [0, 1, 2, 3, 4, 5, 6, 7, 8, 9] 0 dX6_isGood_16 (kX6_links Θ F m0 m1 m2 m3 m4 m5 m6 m7 m8 m9 m_now m_saved m_aside m_states m_quiet m_thrown m_tried m_best m_touching m_text m_length m_at m_verbs m_told m_commands r3 hg) (gwV lk_d0a62bf9 lk_99890b55 lk_17a509a9 lk_6d91b6d2 lk_023738c8) rfl hvX6_links ⟨rfl, rfl⟩ ⟨Nat.le_of_ble_eq_true rfl, Nat.le_of_ble_eq_true rfl⟩ ⟨Nat.zero_le _, Nat.zero_le _⟩ rfl rfl (Nat.le_of_ble_eq_true rfl) 0 rfl vc6 rfl rfl rfl rfl (by decide) ?_
  refine sw_ldc2 19 G (List.mem_cons_of_mem _ lk_e81893dd) dX6_isGood_19 ?_
  refine sw_lxor 22 G dX6_isGood_22 ?_
  refine sw_land 23 G dX6_isGood_23 ?_
  refine sw_aload_n 24 G dX6_isGood_24 1 rfl ?_
  obtain ⟨r4, hg, hf⟩ := bd1_some hf
  refine sw_callV 25 G (wX6 Θ m0 m1 m2 m3 m4 m5 m6 m7 m8 m9 m_now m_saved m_aside m_states m_quiet m_thrown m_tried m_best m_touching m_text m_length m_at m_verbs m_told m_commands) [0, 1, 2, 3, 4, 5, 6, 7, 8, 9] [] [0, 1, 2, 3, 4, 5, 6, 7, 8, 9] 0 dX6_isGood_25 (kX6_carrier Θ F m0 m1 m2 m3 m4 m5 m6 m7 m8 m9 m_now m_saved m_aside m_states m_quiet m_thrown m_tried m_best m_touching m_text m_length m_at m_verbs m_told m_commands r4 hg) (gwV lk_d2b03e46 lk_8b4faa2c lk_883df833 lk_6d91b6d2 lk_50b5fb00) rfl hvX6_carrier ⟨rfl, rfl⟩ ⟨Nat.le_of_ble_eq_true rfl, Nat.le_of_ble_eq_true rfl⟩ ⟨Nat.zero_le _, Nat.zero_le _⟩ rfl rfl (Nat.le_of_ble_eq_true rfl) 0 rfl vc6 rfl rfl rfl rfl (by decide) ?_
  refine sw_ldc2 28 G (List.mem_cons_of_mem _ lk_e81893dd) dX6_isGood_28 ?_
  refine sw_lxor 31 G dX6_isGood_31 ?_
  refine sw_land 32 G dX6_isGood_32 ?_
  refine sw_nml hf (fun v5 hf => ?_)
  refine sw_lstore 33 G [(4, .long v5), (2, .long r1), (0, .ref m0), (1, .int a0)] dX6_isGood_33 (by decide) rfl ?_
  refine sw_iconst 35 G (0 : Int32) dX6_isGood_35 rfl ?_
  refine sw_istore 36 G [(6, .int (0 : Int32)), (4, .long v5), (2, .long r1), (0, .ref m0), (1, .int a0)] dX6_isGood_36 (by decide) rfl ?_
  refine sw_iconst 38 G (0 : Int32) dX6_isGood_38 rfl ?_
  refine sw_istore 39 G [(7, .int (0 : Int32)), (6, .int (0 : Int32)), (4, .long v5), (2, .long r1), (0, .ref m0), (1, .int a0)] dX6_isGood_39 (by decide) rfl ?_
  obtain ⟨v6, hl, hf⟩ := bd1_some hf
  have hx41_82 : sw Θ p e rmX6_isGood s m args below meth c A Q 8 0 0 82 [(0, .ref m0), (1, .int a0), (2, .long r1), (4, .long v5), (6, .int v6)] [] (wX6 Θ m0 m1 m2 m3 m4 m5 m6 m7 m8 m9 m_now m_saved m_aside m_states m_quiet m_thrown m_tried m_best m_touching m_text m_length m_at m_verbs m_told m_commands) := by
    refine sw_lload_n 82 G dX6_isGood_82 2 rfl ?_
    refine sw_aload_n 83 G dX6_isGood_83 0 rfl ?_
    refine sw_get 84 G hnX6 0 0 dX6_isGood_84 vc6 (by decide) (List.mem_cons_of_mem _ lk_54e63fd8) rfl rfl ?_
    refine sw_iload_n 87 G dX6_isGood_87 1 rfl ?_
    refine sw_iconst 88 G (1 : Int32) dX6_isGood_88 rfl ?_
    refine sw_iadd 89 G dX6_isGood_89 ?_
    refine sw_nmi hf (fun v7 hf => ?_)
    refine sw_lald 90 G 1 dX6_isGood_90 rfl hf (fun hf => ?_)
    refine sw_ldc2 91 G (List.mem_cons_of_mem _ lk_e81893dd) dX6_isGood_91 ?_
    refine sw_lxor 94 G dX6_isGood_94 ?_
    refine sw_land 95 G dX6_isGood_95 ?_
    refine sw_lconst 96 G (0 : Int64) dX6_isGood_96 rfl ?_
    refine sw_lcmp 97 G dX6_isGood_97 ?_
    obtain ⟨v8, hj, hf⟩ := bd1_some hf
    have hx122 : sw Θ p e rmX6_isGood s m args below meth c A Q 8 0 0 122 [(0, .ref m0), (1, .int a0), (6, .int v6)] [.int v8] (wX6 Θ m0 m1 m2 m3 m4 m5 m6 m7 m8 m9 m_now m_saved m_aside m_states m_quiet m_thrown m_tried m_best m_touching m_text m_length m_at m_verbs m_told m_commands) := by
      refine sw_istore 122 G [(7, .int v8), (0, .ref m0), (1, .int a0), (6, .int v6)] dX6_isGood_122 (by decide) rfl ?_
      refine sw_aload_n 124 G dX6_isGood_124 1 rfl ?_
      refine sw_get 125 G hnX6 0 0 dX6_isGood_125 vc6 (by decide) (List.mem_cons_of_mem _ lk_54e63fd8) rfl rfl ?_
      refine sw_iload_n 128 G dX6_isGood_128 2 rfl ?_
      refine sw_iconst 129 G (4 : Int32) dX6_isGood_129 rfl ?_
      refine sw_iadd 130 G dX6_isGood_130 ?_
      refine sw_nmi hf (fun v10 hf => ?_)
      refine sw_lald 131 G 1 dX6_isGood_131 rfl hf (fun hf => ?_)
      refine sw_lconst 132 G (0 : Int64) dX6_isGood_132 rfl ?_
      refine sw_lcmp 133 G dX6_isGood_133 ?_
      refine sw_if_ne 134 167 G dX6_isGood_134 rfl hf (fun hf => ?_) (fun hf => ?_)
      · refine sw_iconst 167 G (0 : Int32) dX6_isGood_167 rfl ?_
        cases hf
        exact sw_zret 168 G dX6_isGood_168 K rfl
      · refine sw_iload 137 G dX6_isGood_137 0 rfl ?_
        refine sw_if_eq 139 167 G dX6_isGood_139 rfl hf (fun hf => ?_) (fun hf => ?_)
        · refine sw_iconst 167 G (0 : Int32) dX6_isGood_167 rfl ?_
          cases hf
          exact sw_zret 168 G dX6_isGood_168 K rfl
        · refine sw_iload 142 G dX6_isGood_142 3 rfl ?_
          refine sw_i2l 144 G dX6_isGood_144 ?_
          refine sw_aload_n 145 G dX6_isGood_145 1 rfl ?_
          refine sw_get 146 G hnX6 0 0 dX6_isGood_146 vc6 (by decide) (List.mem_cons_of_mem _ lk_54e63fd8) rfl rfl ?_
          refine sw_iload_n 149 G dX6_isGood_149 2 rfl ?_
          refine sw_iconst 150 G (2 : Int32) dX6_isGood_150 rfl ?_
          refine sw_iadd 151 G dX6_isGood_151 ?_
          refine sw_nmi hf (fun v11 hf => ?_)
          refine sw_lald 152 G 1 dX6_isGood_152 rfl hf (fun hf => ?_)
          refine sw_ldc2 153 G (List.mem_cons_of_mem _ lk_e81893dd) dX6_isGood_153 ?_
          refine sw_lxor 156 G dX6_isGood_156 ?_
          refine sw_land 157 G dX6_isGood_157 ?_
          refine sw_lconst 158 G (0 : Int64) dX6_isGood_158 rfl ?_
          refine sw_lcmp 159 G dX6_isGood_159 ?_
          refine sw_if_ne 160 167 G dX6_isGood_160 rfl hf (fun hf => ?_) (fun hf => ?_)
          · refine sw_iconst 167 G (0 : Int32) dX6_isGood_167 rfl ?_
            cases hf
            exact sw_zret 168 G dX6_isGood_168 K rfl
          · refine sw_iconst 163 G (1 : Int32) dX6_isGood_163 rfl ?_
            refine sw_goto 164 G 168 dX6_isGood_164 rfl ?_
            cases hf
            exact sw_zret 168 G dX6_isGood_168 K rfl
    clear hf
    have hf := hj
    clear hj
    refine sw_if_ne 98 121 G dX6_isGood_98 rfl hf (fun hf => ?_) (fun hf => ?_)
    · refine sw_iconst 121 G (0 : Int32) dX6_isGood_121 rfl ?_
      cases hf
      exact sw_lv _ [0, 1, 4] rfl hx122
    · refine sw_lload 101 G dX6_isGood_101 3 rfl ?_
      refine sw_aload_n 103 G dX6_isGood_103 0 rfl ?_
      refine sw_get 104 G hnX6 0 0 dX6_isGood_104 vc6 (by decide) (List.mem_cons_of_mem _ lk_54e63fd8) rfl rfl ?_
      refine sw_iload_n 107 G dX6_isGood_107 1 rfl ?_
      refine sw_iconst 108 G (1 : Int32) dX6_isGood_108 rfl ?_
      refine sw_iadd 109 G dX6_isGood_109 ?_
      refine sw_nmi hf (fun v9 hf => ?_)
      refine sw_lald 110 G 1 dX6_isGood_110 rfl hf (fun hf => ?_)
      refine sw_land 111 G dX6_isGood_111 ?_
      refine sw_lconst 112 G (0 : Int64) dX6_isGood_112 rfl ?_
      refine sw_lcmp 113 G dX6_isGood_113 ?_
      refine sw_if_ne 114 121 G dX6_isGood_114 rfl hf (fun hf => ?_) (fun hf => ?_)
      · refine sw_iconst 121 G (0 : Int32) dX6_isGood_121 rfl ?_
        cases hf
        exact sw_lv _ [0, 1, 4] rfl hx122
      · refine sw_iconst 117 G (1 : Int32) dX6_isGood_117 rfl ?_
        refine sw_goto 118 G 122 dX6_isGood_118 rfl ?_
        cases hf
        exact sw_lv _ [0, 1, 4] rfl hx122
  refine sw_lv [(0, .ref m0), (1, .int a0), (2, .long r1), (4, .long v5), (6, .int (0 : Int32)), (7, .int (0 : Int32))] [4, 5, 3, 2, 1, 0] rfl ?_
  refine lp_walk (P := fun (t : Int32 × Int32) => sw Θ p e rmX6_isGood s m args below meth c A Q 8 0 0 41 [(0, .ref m0), (1, .int a0), (2, .long r1), (4, .long v5), (6, .int t.1), (7, .int t.2)] [] (wX6 Θ m0 m1 m2 m3 m4 m5 m6 m7 m8 m9 m_now m_saved m_aside m_states m_quiet m_thrown m_tried m_best m_touching m_text m_length m_at m_verbs m_told m_commands)) hl (fun t41 y41 hf hin41 hex41 => ?_)
  obtain ⟨v12, v13⟩ := t41
  show sw Θ p e rmX6_isGood s m args below meth c A Q 8 0 0 41 [(0, .ref m0), (1, .int a0), (2, .long r1), (4, .long v5), (6, .int v12), (7, .int v13)] [] (wX6 Θ m0 m1 m2 m3 m4 m5 m6 m7 m8 m9 m_now m_saved m_aside m_states m_quiet m_thrown m_tried m_best m_touching m_text m_length m_at m_verbs m_told m_commands)
  have hf := uc2_some (K := _) hf
  refine sw_iload 41 G dX6_isGood_41 5 rfl ?_
  refine sw_aload_n 43 G dX6_isGood_43 0 rfl ?_
  refine sw_bipush 44 G (8 : Int32) dX6_isGood_44 rfl ?_
  obtain ⟨r14, hg, hf⟩ := bd1_some hf
  refine sw_callV 46 G (wX6 Θ m0 m1 m2 m3 m4 m5 m6 m7 m8 m9 m_now m_saved m_aside m_states m_quiet m_thrown m_tried m_best m_touching m_text m_length m_at m_verbs m_told m_commands) [0, 1, 2, 3, 4, 5, 6, 7, 8, 9] [] [0, 1, 2, 3, 4, 5, 6, 7, 8, 9] 1 dX6_isGood_46 (kX6_many Θ m0 m1 m2 m3 m4 m5 m6 m7 m8 m9 m_now m_saved m_aside m_states m_quiet m_thrown m_tried m_best m_touching m_text m_length m_at m_verbs m_told m_commands (8 : Int32) r14 hg) (gwV lk_184fe921 lk_d689724c lk_b095f72c lk_6d91b6d2 lk_d7f116ea) rfl hvX6_many ⟨rfl, rfl⟩ ⟨Nat.le_of_ble_eq_true rfl, Nat.le_of_ble_eq_true rfl⟩ ⟨Nat.zero_le _, Nat.zero_le _⟩ rfl rfl (Nat.le_of_ble_eq_true rfl) 0 rfl vc6 rfl rfl rfl rfl (by decide) ?_
  refine sw_icmp_ge 49 82 G dX6_isGood_49 rfl hf (fun hf => ?_) (fun hf => ?_)
  · cases hf
    cases hex41 _ rfl
    exact sw_lv _ [0, 1, 2, 3, 4] rfl hx41_82
  · refine sw_iload 52 G dX6_isGood_52 4 rfl ?_
    refine sw_aload_n 54 G dX6_isGood_54 0 rfl ?_
    refine sw_iload 55 G dX6_isGood_55 5 rfl ?_
    refine sw_iconst 57 G (0 : Int32) dX6_isGood_57 rfl ?_
    obtain ⟨r15, hg, hf⟩ := bd1_some hf
    refine sw_callV 58 G (wX6 Θ m0 m1 m2 m3 m4 m5 m6 m7 m8 m9 m_now m_saved m_aside m_states m_quiet m_thrown m_tried m_best m_touching m_text m_length m_at m_verbs m_told m_commands) [0, 1, 2, 3, 4, 5, 6, 7, 8, 9] [] [0, 1, 2, 3, 4, 5, 6, 7, 8, 9] 2 dX6_isGood_58 (kX6_ofOp Θ m0 m1 m2 m3 m4 m5 m6 m7 m8 m9 m_now m_saved m_aside m_states m_quiet m_thrown m_tried m_best m_touching m_text m_length m_at m_verbs m_told m_commands v13 (0 : Int32) r15 hg) (gwV lk_2264dc2b lk_fffc09d0 lk_e7d0f718 lk_6d91b6d2 lk_229db627) rfl hvX6_ofOp ⟨rfl, rfl⟩ ⟨Nat.le_of_ble_eq_true rfl, Nat.le_of_ble_eq_true rfl⟩ ⟨Nat.zero_le _, Nat.zero_le _⟩ rfl rfl (Nat.le_of_ble_eq_true rfl) 0 rfl vc6 rfl rfl rfl rfl (by decide) ?_
    refine sw_iconst 61 G (1 : Int32) dX6_isGood_61 rfl ?_
    obtain ⟨v16, hj, hf⟩ := bd1_some hf
    have hx73 : sw Θ p e rmX6_isGood s m args below meth c A Q 8 0 0 73 [(0, .ref m0), (1, .int a0), (2, .long r1), (4, .long v5), (7, .int v13)] [.int v16, .int v12] (wX6 Θ m0 m1 m2 m3 m4 m5 m6 m7 m8 m9 m_now m_saved m_aside m_states m_quiet m_thrown m_tried m_best m_touching m_text m_length m_at m_verbs m_told m_commands) := by
      refine sw_ior 73 G dX6_isGood_73 ?_
      refine sw_nmi hf (fun v17 hf => ?_)
      refine sw_istore 74 G [(6, .int v17), (0, .ref m0), (1, .int a0), (2, .long r1), (4, .long v5), (7, .int v13)] dX6_isGood_74 (by decide) rfl ?_
      refine sw_iinc 76 G (v13 + (1 : Int32)) [(7, .int (v13 + (1 : Int32))), (6, .int v17), (0, .ref m0), (1, .int a0), (2, .long r1), (4, .long v5)] dX6_isGood_76 5 rfl rfl (by decide) rfl ?_
      refine sw_goto 79 G 41 dX6_isGood_79 rfl ?_
      cases hf
      have hb := hin41 _ rfl
      exact sw_lv _ [2, 3, 4, 5, 1, 0] (by rfl) hb
    clear hf
    have hf := hj
    clear hj
    refine sw_icmp_ne 62 72 G dX6_isGood_62 rfl hf (fun hf => ?_) (fun hf => ?_)
    · refine sw_iconst 72 G (0 : Int32) dX6_isGood_72 rfl ?_
      cases hf
      exact sw_lv _ [0, 1, 2, 3, 5] rfl hx73
    · refine sw_iconst 65 G (1 : Int32) dX6_isGood_65 rfl ?_
      refine sw_iload 66 G dX6_isGood_66 5 rfl ?_
      refine sw_ishl 68 G dX6_isGood_68 ?_
      refine sw_goto 69 G 73 dX6_isGood_69 rfl ?_
      cases hf
      exact sw_lv _ [0, 1, 2, 3, 5] rfl hx73
abbrev rmX6_empties : Room := { frames := 0, cells := 0, slots := 0, locals := 0 }
theorem hvX6_empties : yX6_empties.cls = RX6 ∧ yX6_empties.cls ≠ "java/lang/invoke/MethodHandle" ∧ yX6_empties.cls ≠ "java/lang/invoke/VarHandle" ∧ (parseMethodDescriptor yX6_empties.desc).map (fun d => d.parameters.length) = some 1 := by decide +kernel
set_option maxRecDepth 100000 in
set_option maxHeartbeats 4000000 in
theorem kX6_empties (Θ : Tht) (F : Nat) (m0 m1 m2 m3 m4 m5 m6 m7 m8 m9 : Nat) (m_now : Nat → Int64) (m_saved : Nat → Int64) (m_aside : Nat → Int64) (m_states : Int32) (m_quiet : Int32) (m_thrown : Int32) (m_tried : Nat → Int32) (m_best : Nat → Int32) (m_touching : Nat → Int32) (m_text : Nat → Int32) (m_length : Int32) (m_at : Int32) (m_verbs : Nat → Int32) (m_told : Nat → Int32) (m_commands : Int32) (a0 : Int32) (o_m_now : Nat → Int64) (hf : fX6_empties F m_now a0 = some o_m_now) : Fn Θ yX6_empties (Cond.code yX6_empties cX6_empties 3 none :: GW) rmX6_empties [.ref m0, .int a0] (wX6 Θ m0 m1 m2 m3 m4 m5 m6 m7 m8 m9 m_now m_saved m_aside m_states m_quiet m_thrown m_tried m_best m_touching m_text m_length m_at m_verbs m_told m_commands) none (wX6 Θ m0 m1 m2 m3 m4 m5 m6 m7 m8 m9 o_m_now m_saved m_aside m_states m_quiet m_thrown m_tried m_best m_touching m_text m_length m_at m_verbs m_told m_commands) := by
  delta fX6_empties at hf
  refine Fn.of (by decide +kernel) rfl (Nat.le_of_ble_eq_true rfl) (fun p e s m args below meth c A Q G K => ?_)
  show sw Θ p e rmX6_empties s m args below meth c A Q 3 0 0 0 [(0, .ref m0), (1, .int a0)] [] (wX6 Θ m0 m1 m2 m3 m4 m5 m6 m7 m8 m9 m_now m_saved m_aside m_states m_quiet m_thrown m_tried m_best m_touching m_text m_length m_at m_verbs m_told m_commands)
  refine sw_iconst 0 G (0 : Int32) dX6_empties_0 rfl ?_
  refine sw_istore_n 1 G [(2, .int (0 : Int32)), (0, .ref m0), (1, .int a0)] dX6_empties_1 (by decide) rfl ?_
  obtain ⟨v1, hl, hf⟩ := bd1_some hf
  have hx2_22 : sw Θ p e rmX6_empties s m args below meth c A Q 3 0 0 22 [] [] (wX6 Θ m0 m1 m2 m3 m4 m5 m6 m7 m8 m9 v1 m_saved m_aside m_states m_quiet m_thrown m_tried m_best m_touching m_text m_length m_at m_verbs m_told m_commands) := by
    cases hf
    exact sw_vret 22 G dX6_empties_22 K
  refine sw_lv [(0, .ref m0), (1, .int a0), (2, .int (0 : Int32))] [1, 2, 0] rfl ?_
  refine lp_walk (P := fun (t : Int32 × (Nat → Int64)) => sw Θ p e rmX6_empties s m args below meth c A Q 3 0 0 2 [(0, .ref m0), (1, .int a0), (2, .int t.1)] [] (wX6 Θ m0 m1 m2 m3 m4 m5 m6 m7 m8 m9 t.2 m_saved m_aside m_states m_quiet m_thrown m_tried m_best m_touching m_text m_length m_at m_verbs m_told m_commands)) hl (fun t2 y2 hf hin2 hex2 => ?_)
  obtain ⟨v2, v3⟩ := t2
  show sw Θ p e rmX6_empties s m args below meth c A Q 3 0 0 2 [(0, .ref m0), (1, .int a0), (2, .int v2)] [] (wX6 Θ m0 m1 m2 m3 m4 m5 m6 m7 m8 m9 v3 m_saved m_aside m_states m_quiet m_thrown m_tried m_best m_touching m_text m_length m_at m_verbs m_told m_commands)
  have hf := uc2_some (K := _) hf
  refine sw_iload_n 2 G dX6_empties_2 2 rfl ?_
  refine sw_iconst 3 G (5 : Int32) dX6_empties_3 rfl ?_
  refine sw_icmp_ge 4 22 G dX6_empties_4 rfl hf (fun hf => ?_) (fun hf => ?_)
  · cases hf
    cases hex2 _ rfl
    exact sw_lv _ [] rfl hx2_22
  · refine sw_aload_n 7 G dX6_empties_7 0 rfl ?_
    refine sw_get 8 G hnX6 0 0 dX6_empties_8 vc6 (by decide) (List.mem_cons_of_mem _ lk_54e63fd8) rfl rfl ?_
    refine sw_iload_n 11 G dX6_empties_11 1 rfl ?_
    refine sw_iload_n 12 G dX6_empties_12 2 rfl ?_
    refine sw_iadd 13 G dX6_empties_13 ?_
    refine sw_lconst 14 G (0 : Int64) dX6_empties_14 rfl ?_
    refine sw_last 15 G 1 (wX6 Θ m0 m1 m2 m3 m4 m5 m6 m7 m8 m9 (vp_updL v3 (a0 + v2).toNatClampNeg (0 : Int64)) m_saved m_aside m_states m_quiet m_thrown m_tried m_best m_touching m_text m_length m_at m_verbs m_told m_commands) dX6_empties_15 rfl rfl hf (fun hf => ?_)
    refine sw_iinc 16 G (v2 + (1 : Int32)) [(2, .int (v2 + (1 : Int32))), (0, .ref m0), (1, .int a0)] dX6_empties_16 2 rfl rfl (by decide) rfl ?_
    refine sw_goto 19 G 2 dX6_empties_19 rfl ?_
    cases hf
    have hb := hin2 _ rfl
    exact sw_lv _ [1, 2, 0] (by rfl) hb
abbrev rmX6_leaves : Room := { frames := 5, cells := 0, slots := 0, locals := 120 }
theorem hvX6_leaves : yX6_leaves.cls = RX6 ∧ yX6_leaves.cls ≠ "java/lang/invoke/MethodHandle" ∧ yX6_leaves.cls ≠ "java/lang/invoke/VarHandle" ∧ (parseMethodDescriptor yX6_leaves.desc).map (fun d => d.parameters.length) = some 1 := by decide +kernel
set_option maxRecDepth 100000 in
set_option maxHeartbeats 4000000 in
theorem kX6_leaves (Θ : Tht) (F : Nat) (m0 m1 m2 m3 m4 m5 m6 m7 m8 m9 : Nat) (m_now : Nat → Int64) (m_saved : Nat → Int64) (m_aside : Nat → Int64) (m_states : Int32) (m_quiet : Int32) (m_thrown : Int32) (m_tried : Nat → Int32) (m_best : Nat → Int32) (m_touching : Nat → Int32) (m_text : Nat → Int32) (m_length : Int32) (m_at : Int32) (m_verbs : Nat → Int32) (m_told : Nat → Int32) (m_commands : Int32) (a0 : Int32) (ro : Int32) (o_m_now : Nat → Int64) (hf : fX6_leaves F m_now a0 = some (ro, o_m_now)) : Fn Θ yX6_leaves (Cond.code yX6_leaves cX6_leaves 3 (some .boolean) :: GW) rmX6_leaves [.ref m0, .int a0] (wX6 Θ m0 m1 m2 m3 m4 m5 m6 m7 m8 m9 m_now m_saved m_aside m_states m_quiet m_thrown m_tried m_best m_touching m_text m_length m_at m_verbs m_told m_commands) (some (.int ro)) (wX6 Θ m0 m1 m2 m3 m4 m5 m6 m7 m8 m9 o_m_now m_saved m_aside m_states m_quiet m_thrown m_tried m_best m_touching m_text m_length m_at m_verbs m_told m_commands) := by
  delta fX6_leaves at hf
  refine Fn.of (by decide +kernel) rfl (Nat.le_of_ble_eq_true rfl) (fun p e s m args below meth c A Q G K => ?_)
  show sw Θ p e rmX6_leaves s m args below meth c A Q 3 0 0 0 [(0, .ref m0), (1, .int a0)] [] (wX6 Θ m0 m1 m2 m3 m4 m5 m6 m7 m8 m9 m_now m_saved m_aside m_states m_quiet m_thrown m_tried m_best m_touching m_text m_length m_at m_verbs m_told m_commands)
  refine sw_aload_n 0 G dX6_leaves_0 0 rfl ?_
  refine sw_iload_n 1 G dX6_leaves_1 1 rfl ?_
  obtain ⟨r1, hg, hf⟩ := bd1_some hf
  refine sw_callV 2 G (wX6 Θ m0 m1 m2 m3 m4 m5 m6 m7 m8 m9 m_now m_saved m_aside m_states m_quiet m_thrown m_tried m_best m_touching m_text m_length m_at m_verbs m_told m_commands) [0, 1, 2, 3, 4, 5, 6, 7, 8, 9] [] [0, 1, 2, 3, 4, 5, 6, 7, 8, 9] 1 dX6_leaves_2 (kX6_isGood Θ F m0 m1 m2 m3 m4 m5 m6 m7 m8 m9 m_now m_saved m_aside m_states m_quiet m_thrown m_tried m_best m_touching m_text m_length m_at m_verbs m_told m_commands a0 r1 hg) (gwV lk_37429b06 lk_8c1181ab lk_f4390e32 lk_6d91b6d2 lk_cfd61423) rfl hvX6_isGood ⟨rfl, rfl⟩ ⟨Nat.le_of_ble_eq_true rfl, Nat.le_of_ble_eq_true rfl⟩ ⟨Nat.zero_le _, Nat.zero_le _⟩ rfl rfl (Nat.le_of_ble_eq_true rfl) 0 rfl vc6 rfl rfl rfl rfl (by decide) ?_
  refine sw_istore_n 5 G [(2, .int r1), (0, .ref m0), (1, .int a0)] dX6_leaves_5 (by decide) rfl ?_
  refine sw_aload_n 6 G dX6_leaves_6 1 rfl ?_
  refine sw_get 7 G hnX6 0 0 dX6_leaves_7 vc6 (by decide) (List.mem_cons_of_mem _ lk_54e63fd8) rfl rfl ?_
  refine sw_iload_n 10 G dX6_leaves_10 0 rfl ?_
  obtain ⟨v2, hj, hf⟩ := bd1_some hf
  have hx21 : sw Θ p e rmX6_leaves s m args below meth c A Q 3 0 0 21 [(0, .ref m0), (1, .int a0), (2, .int r1)] [.int v2, .ref m1] (wX6 Θ m0 m1 m2 m3 m4 m5 m6 m7 m8 m9 m_now m_saved m_aside m_states m_quiet m_thrown m_tried m_best m_touching m_text m_length m_at m_verbs m_told m_commands) := by
    refine sw_dup2_11 21 G dX6_leaves_21 rfl rfl ?_
    refine sw_lald 22 G 1 dX6_leaves_22 rfl hf (fun hf => ?_)
    refine sw_lconst 23 G (1 : Int64) dX6_leaves_23 rfl ?_
    refine sw_ladd 24 G dX6_leaves_24 ?_
    refine sw_nml hf (fun v3 hf => ?_)
    refine sw_last 25 G 1 (wX6 Θ m0 m1 m2 m3 m4 m5 m6 m7 m8 m9 (vp_updL m_now v2.toNatClampNeg v3) m_saved m_aside m_states m_quiet m_thrown m_tried m_best m_touching m_text m_length m_at m_verbs m_told m_commands) dX6_leaves_25 rfl rfl hf (fun hf => ?_)
    refine sw_aload_n 26 G dX6_leaves_26 0 rfl ?_
    refine sw_iload_n 27 G dX6_leaves_27 1 rfl ?_
    obtain ⟨u4, hg, hf⟩ := bd1_some hf
    refine sw_callV 28 G (wX6 Θ m0 m1 m2 m3 m4 m5 m6 m7 m8 m9 u4 m_saved m_aside m_states m_quiet m_thrown m_tried m_best m_touching m_text m_length m_at m_verbs m_told m_commands) [0, 1, 2, 3, 4, 5, 6, 7, 8, 9] [] [0, 1, 2, 3, 4, 5, 6, 7, 8, 9] 1 dX6_leaves_28 (kX6_empties Θ F m0 m1 m2 m3 m4 m5 m6 m7 m8 m9 (vp_updL m_now v2.toNatClampNeg v3) m_saved m_aside m_states m_quiet m_thrown m_tried m_best m_touching m_text m_length m_at m_verbs m_told m_commands a0 u4 hg) (gwV lk_0d3e3ea3 lk_026ae7eb lk_eca8abcc lk_6d91b6d2 lk_2dc7865b) rfl hvX6_empties ⟨rfl, rfl⟩ ⟨Nat.le_of_ble_eq_true rfl, Nat.le_of_ble_eq_true rfl⟩ ⟨Nat.zero_le _, Nat.zero_le _⟩ rfl rfl (Nat.le_of_ble_eq_true rfl) 0 rfl vc6 rfl rfl rfl rfl (by decide) ?_
    refine sw_iload_n 31 G dX6_leaves_31 2 rfl ?_
    obtain ⟨hz, hf⟩ := gb_some hf
    cases hf
    exact sw_zret 32 G dX6_leaves_32 K hz
  clear hf
  have hf := hj
  clear hj
  refine sw_if_eq 11 19 G dX6_leaves_11 rfl hf (fun hf => ?_) (fun hf => ?_)
  · refine sw_bipush 19 G (11 : Int32) dX6_leaves_19 rfl ?_
    cases hf
    exact sw_lv _ [1, 2, 0] rfl hx21
  · refine sw_bipush 14 G (10 : Int32) dX6_leaves_14 rfl ?_
    refine sw_goto 16 G 21 dX6_leaves_16 rfl ?_
    cases hf
    exact sw_lv _ [1, 2, 0] rfl hx21
